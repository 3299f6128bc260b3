theorem dX0_init_0 : decode cX0_init 0 = .ok (.aload_n 0, 1) := by decide +kernel
theorem dX0_init_1 : decode cX0_init 1 = .ok (.invokespecial 3, 3) := by decide +kernel
theorem dX0_init_4 : decode cX0_init 4 = .ok (.aload_n 0, 1) := by decide +kernel
theorem dX0_init_5 : decode cX0_init 5 = .ok (.sipush 6561, 3) := by decide +kernel
theorem dX0_init_8 : decode cX0_init 8 = .ok (.newarray .long, 2) := by decide +kernel
theorem dX0_init_10 : decode cX0_init 10 = .ok (.putfield 11, 3) := by decide +kernel
theorem dX0_init_13 : decode cX0_init 13 = .ok (.aload_n 0, 1) := by decide +kernel
theorem dX0_init_14 : decode cX0_init 14 = .ok (.sipush 6561, 3) := by decide +kernel
theorem dX0_init_17 : decode cX0_init 17 = .ok (.newarray .long, 2) := by decide +kernel
theorem dX0_init_19 : decode cX0_init 19 = .ok (.putfield 15, 3) := by decide +kernel
theorem dX0_init_22 : decode cX0_init 22 = .ok (.aload_n 0, 1) := by decide +kernel
theorem dX0_init_23 : decode cX0_init 23 = .ok (.ldc 18, 2) := by decide +kernel
theorem dX0_init_25 : decode cX0_init 25 = .ok (.newarray .int, 2) := by decide +kernel
theorem dX0_init_27 : decode cX0_init 27 = .ok (.putfield 19, 3) := by decide +kernel
theorem dX0_init_30 : decode cX0_init 30 = .ok (.aload_n 0, 1) := by decide +kernel
theorem dX0_init_31 : decode cX0_init 31 = .ok (.bipush 24, 2) := by decide +kernel
theorem dX0_init_33 : decode cX0_init 33 = .ok (.newarray .int, 2) := by decide +kernel
theorem dX0_init_35 : decode cX0_init 35 = .ok (.putfield 23, 3) := by decide +kernel
theorem dX0_init_38 : decode cX0_init 38 = .ok (.aload_n 0, 1) := by decide +kernel
theorem dX0_init_39 : decode cX0_init 39 = .ok (.iconst (-1), 1) := by decide +kernel
theorem dX0_init_40 : decode cX0_init 40 = .ok (.putfield 26, 3) := by decide +kernel
theorem dX0_init_43 : decode cX0_init 43 = .ok (.return_, 1) := by decide +kernel
theorem dX0_howMany_0 : decode cX0_howMany 0 = .ok (.aload_n 0, 1) := by decide +kernel
theorem dX0_howMany_1 : decode cX0_howMany 1 = .ok (.aload_n 1, 1) := by decide +kernel
theorem dX0_howMany_2 : decode cX0_howMany 2 = .ok (.invokevirtual 30, 3) := by decide +kernel
theorem dX0_howMany_5 : decode cX0_howMany 5 = .ok (.aload_n 0, 1) := by decide +kernel
theorem dX0_howMany_6 : decode cX0_howMany 6 = .ok (.getfield 11, 3) := by decide +kernel
theorem dX0_howMany_9 : decode cX0_howMany 9 = .ok (.lconst 0, 1) := by decide +kernel
theorem dX0_howMany_10 : decode cX0_howMany 10 = .ok (.invokestatic 34, 3) := by decide +kernel
theorem dX0_howMany_13 : decode cX0_howMany 13 = .ok (.aload_n 0, 1) := by decide +kernel
theorem dX0_howMany_14 : decode cX0_howMany 14 = .ok (.aload_n 1, 1) := by decide +kernel
theorem dX0_howMany_15 : decode cX0_howMany 15 = .ok (.iconst 0, 1) := by decide +kernel
theorem dX0_howMany_16 : decode cX0_howMany 16 = .ok (.invokevirtual 40, 3) := by decide +kernel
theorem dX0_howMany_19 : decode cX0_howMany 19 = .ok (.aload_n 1, 1) := by decide +kernel
theorem dX0_howMany_20 : decode cX0_howMany 20 = .ok (.iconst 0, 1) := by decide +kernel
theorem dX0_howMany_21 : decode cX0_howMany 21 = .ok (.invokevirtual 46, 3) := by decide +kernel
theorem dX0_howMany_24 : decode cX0_howMany 24 = .ok (.invokevirtual 49, 3) := by decide +kernel
theorem dX0_howMany_27 : decode cX0_howMany 27 = .ok (.istore_n 2, 1) := by decide +kernel
theorem dX0_howMany_28 : decode cX0_howMany 28 = .ok (.iload_n 2, 1) := by decide +kernel
theorem dX0_howMany_29 : decode cX0_howMany 29 = .ok (.ifCond .ge 5, 3) := by decide +kernel
theorem dX0_howMany_32 : decode cX0_howMany 32 = .ok (.lconst 0, 1) := by decide +kernel
theorem dX0_howMany_33 : decode cX0_howMany 33 = .ok (.lreturn, 1) := by decide +kernel
theorem dX0_howMany_34 : decode cX0_howMany 34 = .ok (.aload_n 0, 1) := by decide +kernel
theorem dX0_howMany_35 : decode cX0_howMany 35 = .ok (.getfield 11, 3) := by decide +kernel
theorem dX0_howMany_38 : decode cX0_howMany 38 = .ok (.iload_n 2, 1) := by decide +kernel
theorem dX0_howMany_39 : decode cX0_howMany 39 = .ok (.lconst 1, 1) := by decide +kernel
theorem dX0_howMany_40 : decode cX0_howMany 40 = .ok (.lastore, 1) := by decide +kernel
theorem dX0_howMany_41 : decode cX0_howMany 41 = .ok (.iconst 0, 1) := by decide +kernel
theorem dX0_howMany_42 : decode cX0_howMany 42 = .ok (.istore_n 3, 1) := by decide +kernel
theorem dX0_howMany_43 : decode cX0_howMany 43 = .ok (.iload_n 3, 1) := by decide +kernel
theorem dX0_howMany_44 : decode cX0_howMany 44 = .ok (.aload_n 1, 1) := by decide +kernel
theorem dX0_howMany_45 : decode cX0_howMany 45 = .ok (.getfield 53, 3) := by decide +kernel
theorem dX0_howMany_48 : decode cX0_howMany 48 = .ok (.if_icmp .ge 35, 3) := by decide +kernel
theorem dX0_howMany_51 : decode cX0_howMany 51 = .ok (.aload_n 0, 1) := by decide +kernel
theorem dX0_howMany_52 : decode cX0_howMany 52 = .ok (.aload_n 1, 1) := by decide +kernel
theorem dX0_howMany_53 : decode cX0_howMany 53 = .ok (.iload_n 3, 1) := by decide +kernel
theorem dX0_howMany_54 : decode cX0_howMany 54 = .ok (.invokevirtual 56, 3) := by decide +kernel
theorem dX0_howMany_57 : decode cX0_howMany 57 = .ok (.aload_n 0, 1) := by decide +kernel
theorem dX0_howMany_58 : decode cX0_howMany 58 = .ok (.invokevirtual 60, 3) := by decide +kernel
theorem dX0_howMany_61 : decode cX0_howMany 61 = .ok (.aload_n 0, 1) := by decide +kernel
theorem dX0_howMany_62 : decode cX0_howMany 62 = .ok (.getfield 15, 3) := by decide +kernel
theorem dX0_howMany_65 : decode cX0_howMany 65 = .ok (.iconst 0, 1) := by decide +kernel
theorem dX0_howMany_66 : decode cX0_howMany 66 = .ok (.aload_n 0, 1) := by decide +kernel
theorem dX0_howMany_67 : decode cX0_howMany 67 = .ok (.getfield 11, 3) := by decide +kernel
theorem dX0_howMany_70 : decode cX0_howMany 70 = .ok (.iconst 0, 1) := by decide +kernel
theorem dX0_howMany_71 : decode cX0_howMany 71 = .ok (.sipush 6561, 3) := by decide +kernel
theorem dX0_howMany_74 : decode cX0_howMany 74 = .ok (.invokestatic 63, 3) := by decide +kernel
theorem dX0_howMany_77 : decode cX0_howMany 77 = .ok (.iinc 3 1, 3) := by decide +kernel
theorem dX0_howMany_80 : decode cX0_howMany 80 = .ok (.goto (-37), 3) := by decide +kernel
theorem dX0_howMany_83 : decode cX0_howMany 83 = .ok (.aload_n 0, 1) := by decide +kernel
theorem dX0_howMany_84 : decode cX0_howMany 84 = .ok (.getfield 11, 3) := by decide +kernel
theorem dX0_howMany_87 : decode cX0_howMany 87 = .ok (.iload_n 2, 1) := by decide +kernel
theorem dX0_howMany_88 : decode cX0_howMany 88 = .ok (.laload, 1) := by decide +kernel
theorem dX0_howMany_89 : decode cX0_howMany 89 = .ok (.lreturn, 1) := by decide +kernel
theorem dX0_findLeast_0 : decode cX0_findLeast 0 = .ok (.aload_n 0, 1) := by decide +kernel
theorem dX0_findLeast_1 : decode cX0_findLeast 1 = .ok (.getfield 26, 3) := by decide +kernel
theorem dX0_findLeast_4 : decode cX0_findLeast 4 = .ok (.aload_n 1, 1) := by decide +kernel
theorem dX0_findLeast_5 : decode cX0_findLeast 5 = .ok (.getfield 69, 3) := by decide +kernel
theorem dX0_findLeast_8 : decode cX0_findLeast 8 = .ok (.if_icmp .ne 4, 3) := by decide +kernel
theorem dX0_findLeast_11 : decode cX0_findLeast 11 = .ok (.return_, 1) := by decide +kernel
theorem dX0_findLeast_12 : decode cX0_findLeast 12 = .ok (.aload_n 0, 1) := by decide +kernel
theorem dX0_findLeast_13 : decode cX0_findLeast 13 = .ok (.aload_n 1, 1) := by decide +kernel
theorem dX0_findLeast_14 : decode cX0_findLeast 14 = .ok (.getfield 69, 3) := by decide +kernel
theorem dX0_findLeast_17 : decode cX0_findLeast 17 = .ok (.putfield 26, 3) := by decide +kernel
theorem dX0_findLeast_20 : decode cX0_findLeast 20 = .ok (.aload_n 1, 1) := by decide +kernel
theorem dX0_findLeast_21 : decode cX0_findLeast 21 = .ok (.getfield 74, 3) := by decide +kernel
theorem dX0_findLeast_24 : decode cX0_findLeast 24 = .ok (.astore_n 2, 1) := by decide +kernel
theorem dX0_findLeast_25 : decode cX0_findLeast 25 = .ok (.aload_n 0, 1) := by decide +kernel
theorem dX0_findLeast_26 : decode cX0_findLeast 26 = .ok (.aload_n 2, 1) := by decide +kernel
theorem dX0_findLeast_27 : decode cX0_findLeast 27 = .ok (.invokevirtual 30, 3) := by decide +kernel
theorem dX0_findLeast_30 : decode cX0_findLeast 30 = .ok (.aload_n 0, 1) := by decide +kernel
theorem dX0_findLeast_31 : decode cX0_findLeast 31 = .ok (.getfield 23, 3) := by decide +kernel
theorem dX0_findLeast_34 : decode cX0_findLeast 34 = .ok (.iconst 0, 1) := by decide +kernel
theorem dX0_findLeast_35 : decode cX0_findLeast 35 = .ok (.invokestatic 78, 3) := by decide +kernel
theorem dX0_findLeast_38 : decode cX0_findLeast 38 = .ok (.aload_n 0, 1) := by decide +kernel
theorem dX0_findLeast_39 : decode cX0_findLeast 39 = .ok (.ldc 81, 2) := by decide +kernel
theorem dX0_findLeast_41 : decode cX0_findLeast 41 = .ok (.putfield 82, 3) := by decide +kernel
theorem dX0_findLeast_44 : decode cX0_findLeast 44 = .ok (.aload_n 0, 1) := by decide +kernel
theorem dX0_findLeast_45 : decode cX0_findLeast 45 = .ok (.iconst 0, 1) := by decide +kernel
theorem dX0_findLeast_46 : decode cX0_findLeast 46 = .ok (.putfield 85, 3) := by decide +kernel
theorem dX0_findLeast_49 : decode cX0_findLeast 49 = .ok (.aload_n 0, 1) := by decide +kernel
theorem dX0_findLeast_50 : decode cX0_findLeast 50 = .ok (.aload_n 2, 1) := by decide +kernel
theorem dX0_findLeast_51 : decode cX0_findLeast 51 = .ok (.invokevirtual 88, 3) := by decide +kernel
theorem dX0_findLeast_54 : decode cX0_findLeast 54 = .ok (.aload_n 2, 1) := by decide +kernel
theorem dX0_findLeast_55 : decode cX0_findLeast 55 = .ok (.getfield 53, 3) := by decide +kernel
theorem dX0_findLeast_58 : decode cX0_findLeast 58 = .ok (.iconst 1, 1) := by decide +kernel
theorem dX0_findLeast_59 : decode cX0_findLeast 59 = .ok (.isub, 1) := by decide +kernel
theorem dX0_findLeast_60 : decode cX0_findLeast 60 = .ok (.istore_n 3, 1) := by decide +kernel
theorem dX0_findLeast_61 : decode cX0_findLeast 61 = .ok (.iload_n 3, 1) := by decide +kernel
theorem dX0_findLeast_62 : decode cX0_findLeast 62 = .ok (.ifCond .lt 26, 3) := by decide +kernel
theorem dX0_findLeast_65 : decode cX0_findLeast 65 = .ok (.aload_n 0, 1) := by decide +kernel
theorem dX0_findLeast_66 : decode cX0_findLeast 66 = .ok (.aload_n 2, 1) := by decide +kernel
theorem dX0_findLeast_67 : decode cX0_findLeast 67 = .ok (.iload_n 3, 1) := by decide +kernel
theorem dX0_findLeast_68 : decode cX0_findLeast 68 = .ok (.invokevirtual 56, 3) := by decide +kernel
theorem dX0_findLeast_71 : decode cX0_findLeast 71 = .ok (.aload_n 0, 1) := by decide +kernel
theorem dX0_findLeast_72 : decode cX0_findLeast 72 = .ok (.aload_n 2, 1) := by decide +kernel
theorem dX0_findLeast_73 : decode cX0_findLeast 73 = .ok (.iload_n 3, 1) := by decide +kernel
theorem dX0_findLeast_74 : decode cX0_findLeast 74 = .ok (.invokevirtual 91, 3) := by decide +kernel
theorem dX0_findLeast_77 : decode cX0_findLeast 77 = .ok (.aload_n 0, 1) := by decide +kernel
theorem dX0_findLeast_78 : decode cX0_findLeast 78 = .ok (.iload_n 3, 1) := by decide +kernel
theorem dX0_findLeast_79 : decode cX0_findLeast 79 = .ok (.invokevirtual 94, 3) := by decide +kernel
theorem dX0_findLeast_82 : decode cX0_findLeast 82 = .ok (.iinc 3 (-1), 3) := by decide +kernel
theorem dX0_findLeast_85 : decode cX0_findLeast 85 = .ok (.goto (-24), 3) := by decide +kernel
theorem dX0_findLeast_88 : decode cX0_findLeast 88 = .ok (.aload_n 0, 1) := by decide +kernel
theorem dX0_findLeast_89 : decode cX0_findLeast 89 = .ok (.aload_n 2, 1) := by decide +kernel
theorem dX0_findLeast_90 : decode cX0_findLeast 90 = .ok (.invokevirtual 98, 3) := by decide +kernel
theorem dX0_findLeast_93 : decode cX0_findLeast 93 = .ok (.return_, 1) := by decide +kernel
theorem dX0_takenOf_0 : decode cX0_takenOf 0 = .ok (.iload_n 1, 1) := by decide +kernel
theorem dX0_takenOf_1 : decode cX0_takenOf 1 = .ok (.ifCond .lt 21, 3) := by decide +kernel
theorem dX0_takenOf_4 : decode cX0_takenOf 4 = .ok (.iload_n 1, 1) := by decide +kernel
theorem dX0_takenOf_5 : decode cX0_takenOf 5 = .ok (.aload_n 0, 1) := by decide +kernel
theorem dX0_takenOf_6 : decode cX0_takenOf 6 = .ok (.getfield 23, 3) := by decide +kernel
theorem dX0_takenOf_9 : decode cX0_takenOf 9 = .ok (.arraylength, 1) := by decide +kernel
theorem dX0_takenOf_10 : decode cX0_takenOf 10 = .ok (.if_icmp .ge 12, 3) := by decide +kernel
theorem dX0_takenOf_13 : decode cX0_takenOf 13 = .ok (.aload_n 0, 1) := by decide +kernel
theorem dX0_takenOf_14 : decode cX0_takenOf 14 = .ok (.getfield 23, 3) := by decide +kernel
theorem dX0_takenOf_17 : decode cX0_takenOf 17 = .ok (.iload_n 1, 1) := by decide +kernel
theorem dX0_takenOf_18 : decode cX0_takenOf 18 = .ok (.iaload, 1) := by decide +kernel
theorem dX0_takenOf_19 : decode cX0_takenOf 19 = .ok (.goto 4, 3) := by decide +kernel
theorem dX0_takenOf_22 : decode cX0_takenOf 22 = .ok (.iconst 0, 1) := by decide +kernel
theorem dX0_takenOf_23 : decode cX0_takenOf 23 = .ok (.ireturn, 1) := by decide +kernel
theorem dX0_takeSide_0 : decode cX0_takeSide 0 = .ok (.aload_n 0, 1) := by decide +kernel
theorem dX0_takeSide_1 : decode cX0_takeSide 1 = .ok (.aload_n 1, 1) := by decide +kernel
theorem dX0_takeSide_2 : decode cX0_takeSide 2 = .ok (.iload_n 2, 1) := by decide +kernel
theorem dX0_takeSide_3 : decode cX0_takeSide 3 = .ok (.invokevirtual 101, 3) := by decide +kernel
theorem dX0_takeSide_6 : decode cX0_takeSide 6 = .ok (.putfield 104, 3) := by decide +kernel
theorem dX0_takeSide_9 : decode cX0_takeSide 9 = .ok (.aload_n 0, 1) := by decide +kernel
theorem dX0_takeSide_10 : decode cX0_takeSide 10 = .ok (.aload_n 0, 1) := by decide +kernel
theorem dX0_takeSide_11 : decode cX0_takeSide 11 = .ok (.getfield 104, 3) := by decide +kernel
theorem dX0_takeSide_14 : decode cX0_takeSide 14 = .ok (.ifCond .ne 7, 3) := by decide +kernel
theorem dX0_takeSide_17 : decode cX0_takeSide 17 = .ok (.iconst 0, 1) := by decide +kernel
theorem dX0_takeSide_18 : decode cX0_takeSide 18 = .ok (.goto 13, 3) := by decide +kernel
theorem dX0_takeSide_21 : decode cX0_takeSide 21 = .ok (.aload_n 1, 1) := by decide +kernel
theorem dX0_takeSide_22 : decode cX0_takeSide 22 = .ok (.iload_n 2, 1) := by decide +kernel
theorem dX0_takeSide_23 : decode cX0_takeSide 23 = .ok (.invokevirtual 107, 3) := by decide +kernel
theorem dX0_takeSide_26 : decode cX0_takeSide 26 = .ok (.aload_n 0, 1) := by decide +kernel
theorem dX0_takeSide_27 : decode cX0_takeSide 27 = .ok (.getfield 104, 3) := by decide +kernel
theorem dX0_takeSide_30 : decode cX0_takeSide 30 = .ok (.idiv, 1) := by decide +kernel
theorem dX0_takeSide_31 : decode cX0_takeSide 31 = .ok (.putfield 110, 3) := by decide +kernel
theorem dX0_takeSide_34 : decode cX0_takeSide 34 = .ok (.aload_n 0, 1) := by decide +kernel
theorem dX0_takeSide_35 : decode cX0_takeSide 35 = .ok (.aload_n 0, 1) := by decide +kernel
theorem dX0_takeSide_36 : decode cX0_takeSide 36 = .ok (.getfield 104, 3) := by decide +kernel
theorem dX0_takeSide_39 : decode cX0_takeSide 39 = .ok (.ifCond .ne 7, 3) := by decide +kernel
theorem dX0_takeSide_42 : decode cX0_takeSide 42 = .ok (.iconst 0, 1) := by decide +kernel
theorem dX0_takeSide_43 : decode cX0_takeSide 43 = .ok (.goto 13, 3) := by decide +kernel
theorem dX0_takeSide_46 : decode cX0_takeSide 46 = .ok (.aload_n 1, 1) := by decide +kernel
theorem dX0_takeSide_47 : decode cX0_takeSide 47 = .ok (.iload_n 2, 1) := by decide +kernel
theorem dX0_takeSide_48 : decode cX0_takeSide 48 = .ok (.invokevirtual 113, 3) := by decide +kernel
theorem dX0_takeSide_51 : decode cX0_takeSide 51 = .ok (.aload_n 0, 1) := by decide +kernel
theorem dX0_takeSide_52 : decode cX0_takeSide 52 = .ok (.getfield 104, 3) := by decide +kernel
theorem dX0_takeSide_55 : decode cX0_takeSide 55 = .ok (.idiv, 1) := by decide +kernel
theorem dX0_takeSide_56 : decode cX0_takeSide 56 = .ok (.putfield 116, 3) := by decide +kernel
theorem dX0_takeSide_59 : decode cX0_takeSide 59 = .ok (.return_, 1) := by decide +kernel
theorem dX0_frame_0 : decode cX0_frame 0 = .ok (.aload_n 0, 1) := by decide +kernel
theorem dX0_frame_1 : decode cX0_frame 1 = .ok (.aload_n 1, 1) := by decide +kernel
theorem dX0_frame_2 : decode cX0_frame 2 = .ok (.invokevirtual 119, 3) := by decide +kernel
theorem dX0_frame_5 : decode cX0_frame 5 = .ok (.putfield 123, 3) := by decide +kernel
theorem dX0_frame_8 : decode cX0_frame 8 = .ok (.aload_n 0, 1) := by decide +kernel
theorem dX0_frame_9 : decode cX0_frame 9 = .ok (.aload_n 1, 1) := by decide +kernel
theorem dX0_frame_10 : decode cX0_frame 10 = .ok (.invokevirtual 126, 3) := by decide +kernel
theorem dX0_frame_13 : decode cX0_frame 13 = .ok (.putfield 129, 3) := by decide +kernel
theorem dX0_frame_16 : decode cX0_frame 16 = .ok (.aload_n 0, 1) := by decide +kernel
theorem dX0_frame_17 : decode cX0_frame 17 = .ok (.aload_n 1, 1) := by decide +kernel
theorem dX0_frame_18 : decode cX0_frame 18 = .ok (.invokevirtual 131, 3) := by decide +kernel
theorem dX0_frame_21 : decode cX0_frame 21 = .ok (.aload_n 0, 1) := by decide +kernel
theorem dX0_frame_22 : decode cX0_frame 22 = .ok (.getfield 123, 3) := by decide +kernel
theorem dX0_frame_25 : decode cX0_frame 25 = .ok (.isub, 1) := by decide +kernel
theorem dX0_frame_26 : decode cX0_frame 26 = .ok (.iconst 1, 1) := by decide +kernel
theorem dX0_frame_27 : decode cX0_frame 27 = .ok (.iadd, 1) := by decide +kernel
theorem dX0_frame_28 : decode cX0_frame 28 = .ok (.putfield 134, 3) := by decide +kernel
theorem dX0_frame_31 : decode cX0_frame 31 = .ok (.aload_n 0, 1) := by decide +kernel
theorem dX0_frame_32 : decode cX0_frame 32 = .ok (.aload_n 1, 1) := by decide +kernel
theorem dX0_frame_33 : decode cX0_frame 33 = .ok (.invokevirtual 137, 3) := by decide +kernel
theorem dX0_frame_36 : decode cX0_frame 36 = .ok (.aload_n 0, 1) := by decide +kernel
theorem dX0_frame_37 : decode cX0_frame 37 = .ok (.getfield 129, 3) := by decide +kernel
theorem dX0_frame_40 : decode cX0_frame 40 = .ok (.isub, 1) := by decide +kernel
theorem dX0_frame_41 : decode cX0_frame 41 = .ok (.iconst 1, 1) := by decide +kernel
theorem dX0_frame_42 : decode cX0_frame 42 = .ok (.iadd, 1) := by decide +kernel
theorem dX0_frame_43 : decode cX0_frame 43 = .ok (.putfield 140, 3) := by decide +kernel
theorem dX0_frame_46 : decode cX0_frame 46 = .ok (.return_, 1) := by decide +kernel
theorem dX0_cell_0 : decode cX0_cell 0 = .ok (.iload_n 1, 1) := by decide +kernel
theorem dX0_cell_1 : decode cX0_cell 1 = .ok (.aload_n 0, 1) := by decide +kernel
theorem dX0_cell_2 : decode cX0_cell 2 = .ok (.getfield 123, 3) := by decide +kernel
theorem dX0_cell_5 : decode cX0_cell 5 = .ok (.isub, 1) := by decide +kernel
theorem dX0_cell_6 : decode cX0_cell 6 = .ok (.istore_n 3, 1) := by decide +kernel
theorem dX0_cell_7 : decode cX0_cell 7 = .ok (.iload_n 2, 1) := by decide +kernel
theorem dX0_cell_8 : decode cX0_cell 8 = .ok (.aload_n 0, 1) := by decide +kernel
theorem dX0_cell_9 : decode cX0_cell 9 = .ok (.getfield 129, 3) := by decide +kernel
theorem dX0_cell_12 : decode cX0_cell 12 = .ok (.isub, 1) := by decide +kernel
theorem dX0_cell_13 : decode cX0_cell 13 = .ok (.istore 4, 2) := by decide +kernel
theorem dX0_cell_15 : decode cX0_cell 15 = .ok (.iload_n 3, 1) := by decide +kernel
theorem dX0_cell_16 : decode cX0_cell 16 = .ok (.ifCond .lt 25, 3) := by decide +kernel
theorem dX0_cell_19 : decode cX0_cell 19 = .ok (.iload_n 3, 1) := by decide +kernel
theorem dX0_cell_20 : decode cX0_cell 20 = .ok (.aload_n 0, 1) := by decide +kernel
theorem dX0_cell_21 : decode cX0_cell 21 = .ok (.getfield 134, 3) := by decide +kernel
theorem dX0_cell_24 : decode cX0_cell 24 = .ok (.if_icmp .ge 17, 3) := by decide +kernel
theorem dX0_cell_27 : decode cX0_cell 27 = .ok (.iload 4, 2) := by decide +kernel
theorem dX0_cell_29 : decode cX0_cell 29 = .ok (.ifCond .lt 12, 3) := by decide +kernel
theorem dX0_cell_32 : decode cX0_cell 32 = .ok (.iload 4, 2) := by decide +kernel
theorem dX0_cell_34 : decode cX0_cell 34 = .ok (.aload_n 0, 1) := by decide +kernel
theorem dX0_cell_35 : decode cX0_cell 35 = .ok (.getfield 140, 3) := by decide +kernel
theorem dX0_cell_38 : decode cX0_cell 38 = .ok (.if_icmp .lt 5, 3) := by decide +kernel
theorem dX0_cell_41 : decode cX0_cell 41 = .ok (.iconst (-1), 1) := by decide +kernel
theorem dX0_cell_42 : decode cX0_cell 42 = .ok (.ireturn, 1) := by decide +kernel
theorem dX0_cell_43 : decode cX0_cell 43 = .ok (.iload_n 3, 1) := by decide +kernel
theorem dX0_cell_44 : decode cX0_cell 44 = .ok (.aload_n 0, 1) := by decide +kernel
theorem dX0_cell_45 : decode cX0_cell 45 = .ok (.getfield 140, 3) := by decide +kernel
theorem dX0_cell_48 : decode cX0_cell 48 = .ok (.imul, 1) := by decide +kernel
theorem dX0_cell_49 : decode cX0_cell 49 = .ok (.iload 4, 2) := by decide +kernel
theorem dX0_cell_51 : decode cX0_cell 51 = .ok (.iadd, 1) := by decide +kernel
theorem dX0_cell_52 : decode cX0_cell 52 = .ok (.istore 5, 2) := by decide +kernel
theorem dX0_cell_54 : decode cX0_cell 54 = .ok (.iload 5, 2) := by decide +kernel
theorem dX0_cell_56 : decode cX0_cell 56 = .ok (.sipush 6561, 3) := by decide +kernel
theorem dX0_cell_59 : decode cX0_cell 59 = .ok (.if_icmp .ge 8, 3) := by decide +kernel
theorem dX0_cell_62 : decode cX0_cell 62 = .ok (.iload 5, 2) := by decide +kernel
theorem dX0_cell_64 : decode cX0_cell 64 = .ok (.goto 4, 3) := by decide +kernel
theorem dX0_cell_67 : decode cX0_cell 67 = .ok (.iconst (-1), 1) := by decide +kernel
theorem dX0_cell_68 : decode cX0_cell 68 = .ok (.ireturn, 1) := by decide +kernel
theorem dX0_waysTo_0 : decode cX0_waysTo 0 = .ok (.aload_n 0, 1) := by decide +kernel
theorem dX0_waysTo_1 : decode cX0_waysTo 1 = .ok (.iload_n 2, 1) := by decide +kernel
theorem dX0_waysTo_2 : decode cX0_waysTo 2 = .ok (.iload_n 3, 1) := by decide +kernel
theorem dX0_waysTo_3 : decode cX0_waysTo 3 = .ok (.invokevirtual 49, 3) := by decide +kernel
theorem dX0_waysTo_6 : decode cX0_waysTo 6 = .ok (.istore 4, 2) := by decide +kernel
theorem dX0_waysTo_8 : decode cX0_waysTo 8 = .ok (.iload 4, 2) := by decide +kernel
theorem dX0_waysTo_10 : decode cX0_waysTo 10 = .ok (.ifCond .lt 17, 3) := by decide +kernel
theorem dX0_waysTo_13 : decode cX0_waysTo 13 = .ok (.iload 4, 2) := by decide +kernel
theorem dX0_waysTo_15 : decode cX0_waysTo 15 = .ok (.aload_n 1, 1) := by decide +kernel
theorem dX0_waysTo_16 : decode cX0_waysTo 16 = .ok (.arraylength, 1) := by decide +kernel
theorem dX0_waysTo_17 : decode cX0_waysTo 17 = .ok (.if_icmp .ge 10, 3) := by decide +kernel
theorem dX0_waysTo_20 : decode cX0_waysTo 20 = .ok (.aload_n 1, 1) := by decide +kernel
theorem dX0_waysTo_21 : decode cX0_waysTo 21 = .ok (.iload 4, 2) := by decide +kernel
theorem dX0_waysTo_23 : decode cX0_waysTo 23 = .ok (.laload, 1) := by decide +kernel
theorem dX0_waysTo_24 : decode cX0_waysTo 24 = .ok (.goto 4, 3) := by decide +kernel
theorem dX0_waysTo_27 : decode cX0_waysTo 27 = .ok (.lconst 0, 1) := by decide +kernel
theorem dX0_waysTo_28 : decode cX0_waysTo 28 = .ok (.lreturn, 1) := by decide +kernel
theorem dX0_spread_0 : decode cX0_spread 0 = .ok (.aload_n 0, 1) := by decide +kernel
theorem dX0_spread_1 : decode cX0_spread 1 = .ok (.getfield 110, 3) := by decide +kernel
theorem dX0_spread_4 : decode cX0_spread 4 = .ok (.ifCond .gt 17, 3) := by decide +kernel
theorem dX0_spread_7 : decode cX0_spread 7 = .ok (.aload_n 0, 1) := by decide +kernel
theorem dX0_spread_8 : decode cX0_spread 8 = .ok (.getfield 110, 3) := by decide +kernel
theorem dX0_spread_11 : decode cX0_spread 11 = .ok (.ifCond .ne 14, 3) := by decide +kernel
theorem dX0_spread_14 : decode cX0_spread 14 = .ok (.aload_n 0, 1) := by decide +kernel
theorem dX0_spread_15 : decode cX0_spread 15 = .ok (.getfield 116, 3) := by decide +kernel
theorem dX0_spread_18 : decode cX0_spread 18 = .ok (.ifCond .le 7, 3) := by decide +kernel
theorem dX0_spread_21 : decode cX0_spread 21 = .ok (.iconst 1, 1) := by decide +kernel
theorem dX0_spread_22 : decode cX0_spread 22 = .ok (.goto 4, 3) := by decide +kernel
theorem dX0_spread_25 : decode cX0_spread 25 = .ok (.iconst 0, 1) := by decide +kernel
theorem dX0_spread_26 : decode cX0_spread 26 = .ok (.istore_n 1, 1) := by decide +kernel
theorem dX0_spread_27 : decode cX0_spread 27 = .ok (.iconst 0, 1) := by decide +kernel
theorem dX0_spread_28 : decode cX0_spread 28 = .ok (.istore_n 2, 1) := by decide +kernel
theorem dX0_spread_29 : decode cX0_spread 29 = .ok (.iload_n 2, 1) := by decide +kernel
theorem dX0_spread_30 : decode cX0_spread 30 = .ok (.aload_n 0, 1) := by decide +kernel
theorem dX0_spread_31 : decode cX0_spread 31 = .ok (.getfield 134, 3) := by decide +kernel
theorem dX0_spread_34 : decode cX0_spread 34 = .ok (.if_icmp .ge 160, 3) := by decide +kernel
theorem dX0_spread_37 : decode cX0_spread 37 = .ok (.aload_n 0, 1) := by decide +kernel
theorem dX0_spread_38 : decode cX0_spread 38 = .ok (.getfield 123, 3) := by decide +kernel
theorem dX0_spread_41 : decode cX0_spread 41 = .ok (.iload_n 1, 1) := by decide +kernel
theorem dX0_spread_42 : decode cX0_spread 42 = .ok (.ifCond .eq 7, 3) := by decide +kernel
theorem dX0_spread_45 : decode cX0_spread 45 = .ok (.iload_n 2, 1) := by decide +kernel
theorem dX0_spread_46 : decode cX0_spread 46 = .ok (.goto 11, 3) := by decide +kernel
theorem dX0_spread_49 : decode cX0_spread 49 = .ok (.aload_n 0, 1) := by decide +kernel
theorem dX0_spread_50 : decode cX0_spread 50 = .ok (.getfield 134, 3) := by decide +kernel
theorem dX0_spread_53 : decode cX0_spread 53 = .ok (.iconst 1, 1) := by decide +kernel
theorem dX0_spread_54 : decode cX0_spread 54 = .ok (.isub, 1) := by decide +kernel
theorem dX0_spread_55 : decode cX0_spread 55 = .ok (.iload_n 2, 1) := by decide +kernel
theorem dX0_spread_56 : decode cX0_spread 56 = .ok (.isub, 1) := by decide +kernel
theorem dX0_spread_57 : decode cX0_spread 57 = .ok (.iadd, 1) := by decide +kernel
theorem dX0_spread_58 : decode cX0_spread 58 = .ok (.istore_n 3, 1) := by decide +kernel
theorem dX0_spread_59 : decode cX0_spread 59 = .ok (.iconst 0, 1) := by decide +kernel
theorem dX0_spread_60 : decode cX0_spread 60 = .ok (.istore 4, 2) := by decide +kernel
theorem dX0_spread_62 : decode cX0_spread 62 = .ok (.iload 4, 2) := by decide +kernel
theorem dX0_spread_64 : decode cX0_spread 64 = .ok (.aload_n 0, 1) := by decide +kernel
theorem dX0_spread_65 : decode cX0_spread 65 = .ok (.getfield 140, 3) := by decide +kernel
theorem dX0_spread_68 : decode cX0_spread 68 = .ok (.if_icmp .ge 120, 3) := by decide +kernel
theorem dX0_spread_71 : decode cX0_spread 71 = .ok (.aload_n 0, 1) := by decide +kernel
theorem dX0_spread_72 : decode cX0_spread 72 = .ok (.getfield 129, 3) := by decide +kernel
theorem dX0_spread_75 : decode cX0_spread 75 = .ok (.iload_n 1, 1) := by decide +kernel
theorem dX0_spread_76 : decode cX0_spread 76 = .ok (.ifCond .eq 8, 3) := by decide +kernel
theorem dX0_spread_79 : decode cX0_spread 79 = .ok (.iload 4, 2) := by decide +kernel
theorem dX0_spread_81 : decode cX0_spread 81 = .ok (.goto 12, 3) := by decide +kernel
theorem dX0_spread_84 : decode cX0_spread 84 = .ok (.aload_n 0, 1) := by decide +kernel
theorem dX0_spread_85 : decode cX0_spread 85 = .ok (.getfield 140, 3) := by decide +kernel
theorem dX0_spread_88 : decode cX0_spread 88 = .ok (.iconst 1, 1) := by decide +kernel
theorem dX0_spread_89 : decode cX0_spread 89 = .ok (.isub, 1) := by decide +kernel
theorem dX0_spread_90 : decode cX0_spread 90 = .ok (.iload 4, 2) := by decide +kernel
theorem dX0_spread_92 : decode cX0_spread 92 = .ok (.isub, 1) := by decide +kernel
theorem dX0_spread_93 : decode cX0_spread 93 = .ok (.iadd, 1) := by decide +kernel
theorem dX0_spread_94 : decode cX0_spread 94 = .ok (.istore 5, 2) := by decide +kernel
theorem dX0_spread_96 : decode cX0_spread 96 = .ok (.aload_n 0, 1) := by decide +kernel
theorem dX0_spread_97 : decode cX0_spread 97 = .ok (.iload_n 3, 1) := by decide +kernel
theorem dX0_spread_98 : decode cX0_spread 98 = .ok (.iload 5, 2) := by decide +kernel
theorem dX0_spread_100 : decode cX0_spread 100 = .ok (.invokevirtual 49, 3) := by decide +kernel
theorem dX0_spread_103 : decode cX0_spread 103 = .ok (.istore 6, 2) := by decide +kernel
theorem dX0_spread_105 : decode cX0_spread 105 = .ok (.iload 6, 2) := by decide +kernel
theorem dX0_spread_107 : decode cX0_spread 107 = .ok (.ifCond .lt 75, 3) := by decide +kernel
theorem dX0_spread_110 : decode cX0_spread 110 = .ok (.aload_n 0, 1) := by decide +kernel
theorem dX0_spread_111 : decode cX0_spread 111 = .ok (.getfield 15, 3) := by decide +kernel
theorem dX0_spread_114 : decode cX0_spread 114 = .ok (.iload 6, 2) := by decide +kernel
theorem dX0_spread_116 : decode cX0_spread 116 = .ok (.aload_n 0, 1) := by decide +kernel
theorem dX0_spread_117 : decode cX0_spread 117 = .ok (.getfield 11, 3) := by decide +kernel
theorem dX0_spread_120 : decode cX0_spread 120 = .ok (.iload 6, 2) := by decide +kernel
theorem dX0_spread_122 : decode cX0_spread 122 = .ok (.laload, 1) := by decide +kernel
theorem dX0_spread_123 : decode cX0_spread 123 = .ok (.aload_n 0, 1) := by decide +kernel
theorem dX0_spread_124 : decode cX0_spread 124 = .ok (.aload_n 0, 1) := by decide +kernel
theorem dX0_spread_125 : decode cX0_spread 125 = .ok (.getfield 15, 3) := by decide +kernel
theorem dX0_spread_128 : decode cX0_spread 128 = .ok (.iload_n 3, 1) := by decide +kernel
theorem dX0_spread_129 : decode cX0_spread 129 = .ok (.aload_n 0, 1) := by decide +kernel
theorem dX0_spread_130 : decode cX0_spread 130 = .ok (.getfield 110, 3) := by decide +kernel
theorem dX0_spread_133 : decode cX0_spread 133 = .ok (.isub, 1) := by decide +kernel
theorem dX0_spread_134 : decode cX0_spread 134 = .ok (.iload 5, 2) := by decide +kernel
theorem dX0_spread_136 : decode cX0_spread 136 = .ok (.aload_n 0, 1) := by decide +kernel
theorem dX0_spread_137 : decode cX0_spread 137 = .ok (.getfield 116, 3) := by decide +kernel
theorem dX0_spread_140 : decode cX0_spread 140 = .ok (.isub, 1) := by decide +kernel
theorem dX0_spread_141 : decode cX0_spread 141 = .ok (.invokevirtual 143, 3) := by decide +kernel
theorem dX0_spread_144 : decode cX0_spread 144 = .ok (.ladd, 1) := by decide +kernel
theorem dX0_spread_145 : decode cX0_spread 145 = .ok (.aload_n 0, 1) := by decide +kernel
theorem dX0_spread_146 : decode cX0_spread 146 = .ok (.aload_n 0, 1) := by decide +kernel
theorem dX0_spread_147 : decode cX0_spread 147 = .ok (.getfield 11, 3) := by decide +kernel
theorem dX0_spread_150 : decode cX0_spread 150 = .ok (.iload_n 3, 1) := by decide +kernel
theorem dX0_spread_151 : decode cX0_spread 151 = .ok (.aload_n 0, 1) := by decide +kernel
theorem dX0_spread_152 : decode cX0_spread 152 = .ok (.getfield 104, 3) := by decide +kernel
theorem dX0_spread_155 : decode cX0_spread 155 = .ok (.iconst 1, 1) := by decide +kernel
theorem dX0_spread_156 : decode cX0_spread 156 = .ok (.iadd, 1) := by decide +kernel
theorem dX0_spread_157 : decode cX0_spread 157 = .ok (.aload_n 0, 1) := by decide +kernel
theorem dX0_spread_158 : decode cX0_spread 158 = .ok (.getfield 110, 3) := by decide +kernel
theorem dX0_spread_161 : decode cX0_spread 161 = .ok (.imul, 1) := by decide +kernel
theorem dX0_spread_162 : decode cX0_spread 162 = .ok (.isub, 1) := by decide +kernel
theorem dX0_spread_163 : decode cX0_spread 163 = .ok (.iload 5, 2) := by decide +kernel
theorem dX0_spread_165 : decode cX0_spread 165 = .ok (.aload_n 0, 1) := by decide +kernel
theorem dX0_spread_166 : decode cX0_spread 166 = .ok (.getfield 104, 3) := by decide +kernel
theorem dX0_spread_169 : decode cX0_spread 169 = .ok (.iconst 1, 1) := by decide +kernel
theorem dX0_spread_170 : decode cX0_spread 170 = .ok (.iadd, 1) := by decide +kernel
theorem dX0_spread_171 : decode cX0_spread 171 = .ok (.aload_n 0, 1) := by decide +kernel
theorem dX0_spread_172 : decode cX0_spread 172 = .ok (.getfield 116, 3) := by decide +kernel
theorem dX0_spread_175 : decode cX0_spread 175 = .ok (.imul, 1) := by decide +kernel
theorem dX0_spread_176 : decode cX0_spread 176 = .ok (.isub, 1) := by decide +kernel
theorem dX0_spread_177 : decode cX0_spread 177 = .ok (.invokevirtual 143, 3) := by decide +kernel
theorem dX0_spread_180 : decode cX0_spread 180 = .ok (.lsub, 1) := by decide +kernel
theorem dX0_spread_181 : decode cX0_spread 181 = .ok (.lastore, 1) := by decide +kernel
theorem dX0_spread_182 : decode cX0_spread 182 = .ok (.iinc 4 1, 3) := by decide +kernel
theorem dX0_spread_185 : decode cX0_spread 185 = .ok (.goto (-123), 3) := by decide +kernel
theorem dX0_spread_188 : decode cX0_spread 188 = .ok (.iinc 2 1, 3) := by decide +kernel
theorem dX0_spread_191 : decode cX0_spread 191 = .ok (.goto (-162), 3) := by decide +kernel
theorem dX0_spread_194 : decode cX0_spread 194 = .ok (.return_, 1) := by decide +kernel
theorem dX0_fewestFrom_0 : decode cX0_fewestFrom 0 = .ok (.aload_n 0, 1) := by decide +kernel
theorem dX0_fewestFrom_1 : decode cX0_fewestFrom 1 = .ok (.iload_n 1, 1) := by decide +kernel
theorem dX0_fewestFrom_2 : decode cX0_fewestFrom 2 = .ok (.aload_n 0, 1) := by decide +kernel
theorem dX0_fewestFrom_3 : decode cX0_fewestFrom 3 = .ok (.iload_n 2, 1) := by decide +kernel
theorem dX0_fewestFrom_4 : decode cX0_fewestFrom 4 = .ok (.iload_n 3, 1) := by decide +kernel
theorem dX0_fewestFrom_5 : decode cX0_fewestFrom 5 = .ok (.invokevirtual 49, 3) := by decide +kernel
theorem dX0_fewestFrom_8 : decode cX0_fewestFrom 8 = .ok (.invokevirtual 147, 3) := by decide +kernel
theorem dX0_fewestFrom_11 : decode cX0_fewestFrom 11 = .ok (.ireturn, 1) := by decide +kernel
theorem dX0_fewestAt_0 : decode cX0_fewestAt 0 = .ok (.iload_n 2, 1) := by decide +kernel
theorem dX0_fewestAt_1 : decode cX0_fewestAt 1 = .ok (.ifCond .lt 20, 3) := by decide +kernel
theorem dX0_fewestAt_4 : decode cX0_fewestAt 4 = .ok (.iload_n 2, 1) := by decide +kernel
theorem dX0_fewestAt_5 : decode cX0_fewestAt 5 = .ok (.sipush 6561, 3) := by decide +kernel
theorem dX0_fewestAt_8 : decode cX0_fewestAt 8 = .ok (.if_icmp .ge 13, 3) := by decide +kernel
theorem dX0_fewestAt_11 : decode cX0_fewestAt 11 = .ok (.iload_n 1, 1) := by decide +kernel
theorem dX0_fewestAt_12 : decode cX0_fewestAt 12 = .ok (.ifCond .lt 9, 3) := by decide +kernel
theorem dX0_fewestAt_15 : decode cX0_fewestAt 15 = .ok (.iload_n 1, 1) := by decide +kernel
theorem dX0_fewestAt_16 : decode cX0_fewestAt 16 = .ok (.bipush 24, 2) := by decide +kernel
theorem dX0_fewestAt_18 : decode cX0_fewestAt 18 = .ok (.if_icmp .le 8, 3) := by decide +kernel
theorem dX0_fewestAt_21 : decode cX0_fewestAt 21 = .ok (.ldc 81, 2) := by decide +kernel
theorem dX0_fewestAt_23 : decode cX0_fewestAt 23 = .ok (.goto 15, 3) := by decide +kernel
theorem dX0_fewestAt_26 : decode cX0_fewestAt 26 = .ok (.aload_n 0, 1) := by decide +kernel
theorem dX0_fewestAt_27 : decode cX0_fewestAt 27 = .ok (.getfield 19, 3) := by decide +kernel
theorem dX0_fewestAt_30 : decode cX0_fewestAt 30 = .ok (.iload_n 1, 1) := by decide +kernel
theorem dX0_fewestAt_31 : decode cX0_fewestAt 31 = .ok (.sipush 6561, 3) := by decide +kernel
theorem dX0_fewestAt_34 : decode cX0_fewestAt 34 = .ok (.imul, 1) := by decide +kernel
theorem dX0_fewestAt_35 : decode cX0_fewestAt 35 = .ok (.iload_n 2, 1) := by decide +kernel
theorem dX0_fewestAt_36 : decode cX0_fewestAt 36 = .ok (.iadd, 1) := by decide +kernel
theorem dX0_fewestAt_37 : decode cX0_fewestAt 37 = .ok (.iaload, 1) := by decide +kernel
theorem dX0_fewestAt_38 : decode cX0_fewestAt 38 = .ok (.ireturn, 1) := by decide +kernel
theorem dX0_setFewest_0 : decode cX0_setFewest 0 = .ok (.aload_n 0, 1) := by decide +kernel
theorem dX0_setFewest_1 : decode cX0_setFewest 1 = .ok (.iload_n 2, 1) := by decide +kernel
theorem dX0_setFewest_2 : decode cX0_setFewest 2 = .ok (.iload_n 3, 1) := by decide +kernel
theorem dX0_setFewest_3 : decode cX0_setFewest 3 = .ok (.invokevirtual 49, 3) := by decide +kernel
theorem dX0_setFewest_6 : decode cX0_setFewest 6 = .ok (.istore 5, 2) := by decide +kernel
theorem dX0_setFewest_8 : decode cX0_setFewest 8 = .ok (.iload 5, 2) := by decide +kernel
theorem dX0_setFewest_10 : decode cX0_setFewest 10 = .ok (.ifCond .lt 28, 3) := by decide +kernel
theorem dX0_setFewest_13 : decode cX0_setFewest 13 = .ok (.iload_n 1, 1) := by decide +kernel
theorem dX0_setFewest_14 : decode cX0_setFewest 14 = .ok (.ifCond .lt 24, 3) := by decide +kernel
theorem dX0_setFewest_17 : decode cX0_setFewest 17 = .ok (.iload_n 1, 1) := by decide +kernel
theorem dX0_setFewest_18 : decode cX0_setFewest 18 = .ok (.bipush 24, 2) := by decide +kernel
theorem dX0_setFewest_20 : decode cX0_setFewest 20 = .ok (.if_icmp .gt 18, 3) := by decide +kernel
theorem dX0_setFewest_23 : decode cX0_setFewest 23 = .ok (.aload_n 0, 1) := by decide +kernel
theorem dX0_setFewest_24 : decode cX0_setFewest 24 = .ok (.getfield 19, 3) := by decide +kernel
theorem dX0_setFewest_27 : decode cX0_setFewest 27 = .ok (.iload_n 1, 1) := by decide +kernel
theorem dX0_setFewest_28 : decode cX0_setFewest 28 = .ok (.sipush 6561, 3) := by decide +kernel
theorem dX0_setFewest_31 : decode cX0_setFewest 31 = .ok (.imul, 1) := by decide +kernel
theorem dX0_setFewest_32 : decode cX0_setFewest 32 = .ok (.iload 5, 2) := by decide +kernel
theorem dX0_setFewest_34 : decode cX0_setFewest 34 = .ok (.iadd, 1) := by decide +kernel
theorem dX0_setFewest_35 : decode cX0_setFewest 35 = .ok (.iload 4, 2) := by decide +kernel
theorem dX0_setFewest_37 : decode cX0_setFewest 37 = .ok (.iastore, 1) := by decide +kernel
theorem dX0_setFewest_38 : decode cX0_setFewest 38 = .ok (.return_, 1) := by decide +kernel
theorem dX0_lastRow_0 : decode cX0_lastRow 0 = .ok (.aload_n 0, 1) := by decide +kernel
theorem dX0_lastRow_1 : decode cX0_lastRow 1 = .ok (.getfield 123, 3) := by decide +kernel
theorem dX0_lastRow_4 : decode cX0_lastRow 4 = .ok (.istore_n 2, 1) := by decide +kernel
theorem dX0_lastRow_5 : decode cX0_lastRow 5 = .ok (.iload_n 2, 1) := by decide +kernel
theorem dX0_lastRow_6 : decode cX0_lastRow 6 = .ok (.aload_n 0, 1) := by decide +kernel
theorem dX0_lastRow_7 : decode cX0_lastRow 7 = .ok (.getfield 123, 3) := by decide +kernel
theorem dX0_lastRow_10 : decode cX0_lastRow 10 = .ok (.aload_n 0, 1) := by decide +kernel
theorem dX0_lastRow_11 : decode cX0_lastRow 11 = .ok (.getfield 134, 3) := by decide +kernel
theorem dX0_lastRow_14 : decode cX0_lastRow 14 = .ok (.iadd, 1) := by decide +kernel
theorem dX0_lastRow_15 : decode cX0_lastRow 15 = .ok (.if_icmp .ge 45, 3) := by decide +kernel
theorem dX0_lastRow_18 : decode cX0_lastRow 18 = .ok (.aload_n 0, 1) := by decide +kernel
theorem dX0_lastRow_19 : decode cX0_lastRow 19 = .ok (.getfield 129, 3) := by decide +kernel
theorem dX0_lastRow_22 : decode cX0_lastRow 22 = .ok (.istore_n 3, 1) := by decide +kernel
theorem dX0_lastRow_23 : decode cX0_lastRow 23 = .ok (.iload_n 3, 1) := by decide +kernel
theorem dX0_lastRow_24 : decode cX0_lastRow 24 = .ok (.aload_n 0, 1) := by decide +kernel
theorem dX0_lastRow_25 : decode cX0_lastRow 25 = .ok (.getfield 129, 3) := by decide +kernel
theorem dX0_lastRow_28 : decode cX0_lastRow 28 = .ok (.aload_n 0, 1) := by decide +kernel
theorem dX0_lastRow_29 : decode cX0_lastRow 29 = .ok (.getfield 140, 3) := by decide +kernel
theorem dX0_lastRow_32 : decode cX0_lastRow 32 = .ok (.iadd, 1) := by decide +kernel
theorem dX0_lastRow_33 : decode cX0_lastRow 33 = .ok (.if_icmp .ge 21, 3) := by decide +kernel
theorem dX0_lastRow_36 : decode cX0_lastRow 36 = .ok (.aload_n 0, 1) := by decide +kernel
theorem dX0_lastRow_37 : decode cX0_lastRow 37 = .ok (.aload_n 1, 1) := by decide +kernel
theorem dX0_lastRow_38 : decode cX0_lastRow 38 = .ok (.getfield 53, 3) := by decide +kernel
theorem dX0_lastRow_41 : decode cX0_lastRow 41 = .ok (.iload_n 2, 1) := by decide +kernel
theorem dX0_lastRow_42 : decode cX0_lastRow 42 = .ok (.iload_n 3, 1) := by decide +kernel
theorem dX0_lastRow_43 : decode cX0_lastRow 43 = .ok (.ldc 81, 2) := by decide +kernel
theorem dX0_lastRow_45 : decode cX0_lastRow 45 = .ok (.invokevirtual 150, 3) := by decide +kernel
theorem dX0_lastRow_48 : decode cX0_lastRow 48 = .ok (.iinc 3 1, 3) := by decide +kernel
theorem dX0_lastRow_51 : decode cX0_lastRow 51 = .ok (.goto (-28), 3) := by decide +kernel
theorem dX0_lastRow_54 : decode cX0_lastRow 54 = .ok (.iinc 2 1, 3) := by decide +kernel
theorem dX0_lastRow_57 : decode cX0_lastRow 57 = .ok (.goto (-52), 3) := by decide +kernel
theorem dX0_lastRow_60 : decode cX0_lastRow 60 = .ok (.aload_n 0, 1) := by decide +kernel
theorem dX0_lastRow_61 : decode cX0_lastRow 61 = .ok (.aload_n 1, 1) := by decide +kernel
theorem dX0_lastRow_62 : decode cX0_lastRow 62 = .ok (.getfield 53, 3) := by decide +kernel
theorem dX0_lastRow_65 : decode cX0_lastRow 65 = .ok (.aload_n 1, 1) := by decide +kernel
theorem dX0_lastRow_66 : decode cX0_lastRow 66 = .ok (.iconst 0, 1) := by decide +kernel
theorem dX0_lastRow_67 : decode cX0_lastRow 67 = .ok (.invokevirtual 40, 3) := by decide +kernel
theorem dX0_lastRow_70 : decode cX0_lastRow 70 = .ok (.aload_n 1, 1) := by decide +kernel
theorem dX0_lastRow_71 : decode cX0_lastRow 71 = .ok (.iconst 0, 1) := by decide +kernel
theorem dX0_lastRow_72 : decode cX0_lastRow 72 = .ok (.invokevirtual 46, 3) := by decide +kernel
theorem dX0_lastRow_75 : decode cX0_lastRow 75 = .ok (.iconst 0, 1) := by decide +kernel
theorem dX0_lastRow_76 : decode cX0_lastRow 76 = .ok (.invokevirtual 150, 3) := by decide +kernel
theorem dX0_lastRow_79 : decode cX0_lastRow 79 = .ok (.return_, 1) := by decide +kernel
theorem dX0_fillRow_0 : decode cX0_fillRow 0 = .ok (.aload_n 0, 1) := by decide +kernel
theorem dX0_fillRow_1 : decode cX0_fillRow 1 = .ok (.getfield 123, 3) := by decide +kernel
theorem dX0_fillRow_4 : decode cX0_fillRow 4 = .ok (.istore_n 2, 1) := by decide +kernel
theorem dX0_fillRow_5 : decode cX0_fillRow 5 = .ok (.iload_n 2, 1) := by decide +kernel
theorem dX0_fillRow_6 : decode cX0_fillRow 6 = .ok (.aload_n 0, 1) := by decide +kernel
theorem dX0_fillRow_7 : decode cX0_fillRow 7 = .ok (.getfield 123, 3) := by decide +kernel
theorem dX0_fillRow_10 : decode cX0_fillRow 10 = .ok (.aload_n 0, 1) := by decide +kernel
theorem dX0_fillRow_11 : decode cX0_fillRow 11 = .ok (.getfield 134, 3) := by decide +kernel
theorem dX0_fillRow_14 : decode cX0_fillRow 14 = .ok (.iadd, 1) := by decide +kernel
theorem dX0_fillRow_15 : decode cX0_fillRow 15 = .ok (.if_icmp .ge 47, 3) := by decide +kernel
theorem dX0_fillRow_18 : decode cX0_fillRow 18 = .ok (.aload_n 0, 1) := by decide +kernel
theorem dX0_fillRow_19 : decode cX0_fillRow 19 = .ok (.getfield 129, 3) := by decide +kernel
theorem dX0_fillRow_22 : decode cX0_fillRow 22 = .ok (.istore_n 3, 1) := by decide +kernel
theorem dX0_fillRow_23 : decode cX0_fillRow 23 = .ok (.iload_n 3, 1) := by decide +kernel
theorem dX0_fillRow_24 : decode cX0_fillRow 24 = .ok (.aload_n 0, 1) := by decide +kernel
theorem dX0_fillRow_25 : decode cX0_fillRow 25 = .ok (.getfield 129, 3) := by decide +kernel
theorem dX0_fillRow_28 : decode cX0_fillRow 28 = .ok (.aload_n 0, 1) := by decide +kernel
theorem dX0_fillRow_29 : decode cX0_fillRow 29 = .ok (.getfield 140, 3) := by decide +kernel
theorem dX0_fillRow_32 : decode cX0_fillRow 32 = .ok (.iadd, 1) := by decide +kernel
theorem dX0_fillRow_33 : decode cX0_fillRow 33 = .ok (.if_icmp .ge 23, 3) := by decide +kernel
theorem dX0_fillRow_36 : decode cX0_fillRow 36 = .ok (.aload_n 0, 1) := by decide +kernel
theorem dX0_fillRow_37 : decode cX0_fillRow 37 = .ok (.iload_n 1, 1) := by decide +kernel
theorem dX0_fillRow_38 : decode cX0_fillRow 38 = .ok (.iload_n 2, 1) := by decide +kernel
theorem dX0_fillRow_39 : decode cX0_fillRow 39 = .ok (.iload_n 3, 1) := by decide +kernel
theorem dX0_fillRow_40 : decode cX0_fillRow 40 = .ok (.aload_n 0, 1) := by decide +kernel
theorem dX0_fillRow_41 : decode cX0_fillRow 41 = .ok (.iload_n 1, 1) := by decide +kernel
theorem dX0_fillRow_42 : decode cX0_fillRow 42 = .ok (.iload_n 2, 1) := by decide +kernel
theorem dX0_fillRow_43 : decode cX0_fillRow 43 = .ok (.iload_n 3, 1) := by decide +kernel
theorem dX0_fillRow_44 : decode cX0_fillRow 44 = .ok (.invokevirtual 154, 3) := by decide +kernel
theorem dX0_fillRow_47 : decode cX0_fillRow 47 = .ok (.invokevirtual 150, 3) := by decide +kernel
theorem dX0_fillRow_50 : decode cX0_fillRow 50 = .ok (.iinc 3 1, 3) := by decide +kernel
theorem dX0_fillRow_53 : decode cX0_fillRow 53 = .ok (.goto (-30), 3) := by decide +kernel
theorem dX0_fillRow_56 : decode cX0_fillRow 56 = .ok (.iinc 2 1, 3) := by decide +kernel
theorem dX0_fillRow_59 : decode cX0_fillRow 59 = .ok (.goto (-54), 3) := by decide +kernel
theorem dX0_fillRow_62 : decode cX0_fillRow 62 = .ok (.return_, 1) := by decide +kernel
theorem dX0_bestFrom_0 : decode cX0_bestFrom 0 = .ok (.ldc 81, 2) := by decide +kernel
theorem dX0_bestFrom_2 : decode cX0_bestFrom 2 = .ok (.istore 4, 2) := by decide +kernel
theorem dX0_bestFrom_4 : decode cX0_bestFrom 4 = .ok (.iconst 0, 1) := by decide +kernel
theorem dX0_bestFrom_5 : decode cX0_bestFrom 5 = .ok (.istore 5, 2) := by decide +kernel
theorem dX0_bestFrom_7 : decode cX0_bestFrom 7 = .ok (.iload 5, 2) := by decide +kernel
theorem dX0_bestFrom_9 : decode cX0_bestFrom 9 = .ok (.aload_n 0, 1) := by decide +kernel
theorem dX0_bestFrom_10 : decode cX0_bestFrom 10 = .ok (.getfield 104, 3) := by decide +kernel
theorem dX0_bestFrom_13 : decode cX0_bestFrom 13 = .ok (.if_icmp .gt 67, 3) := by decide +kernel
theorem dX0_bestFrom_16 : decode cX0_bestFrom 16 = .ok (.iload 5, 2) := by decide +kernel
theorem dX0_bestFrom_18 : decode cX0_bestFrom 18 = .ok (.iload 4, 2) := by decide +kernel
theorem dX0_bestFrom_20 : decode cX0_bestFrom 20 = .ok (.if_icmp .ge 60, 3) := by decide +kernel
theorem dX0_bestFrom_23 : decode cX0_bestFrom 23 = .ok (.aload_n 0, 1) := by decide +kernel
theorem dX0_bestFrom_24 : decode cX0_bestFrom 24 = .ok (.iload_n 2, 1) := by decide +kernel
theorem dX0_bestFrom_25 : decode cX0_bestFrom 25 = .ok (.iload 5, 2) := by decide +kernel
theorem dX0_bestFrom_27 : decode cX0_bestFrom 27 = .ok (.aload_n 0, 1) := by decide +kernel
theorem dX0_bestFrom_28 : decode cX0_bestFrom 28 = .ok (.getfield 110, 3) := by decide +kernel
theorem dX0_bestFrom_31 : decode cX0_bestFrom 31 = .ok (.imul, 1) := by decide +kernel
theorem dX0_bestFrom_32 : decode cX0_bestFrom 32 = .ok (.iadd, 1) := by decide +kernel
theorem dX0_bestFrom_33 : decode cX0_bestFrom 33 = .ok (.iload_n 3, 1) := by decide +kernel
theorem dX0_bestFrom_34 : decode cX0_bestFrom 34 = .ok (.iload 5, 2) := by decide +kernel
theorem dX0_bestFrom_36 : decode cX0_bestFrom 36 = .ok (.aload_n 0, 1) := by decide +kernel
theorem dX0_bestFrom_37 : decode cX0_bestFrom 37 = .ok (.getfield 116, 3) := by decide +kernel
theorem dX0_bestFrom_40 : decode cX0_bestFrom 40 = .ok (.imul, 1) := by decide +kernel
theorem dX0_bestFrom_41 : decode cX0_bestFrom 41 = .ok (.iadd, 1) := by decide +kernel
theorem dX0_bestFrom_42 : decode cX0_bestFrom 42 = .ok (.invokevirtual 49, 3) := by decide +kernel
theorem dX0_bestFrom_45 : decode cX0_bestFrom 45 = .ok (.istore 6, 2) := by decide +kernel
theorem dX0_bestFrom_47 : decode cX0_bestFrom 47 = .ok (.iload 6, 2) := by decide +kernel
theorem dX0_bestFrom_49 : decode cX0_bestFrom 49 = .ok (.ifCond .ge 6, 3) := by decide +kernel
theorem dX0_bestFrom_52 : decode cX0_bestFrom 52 = .ok (.iload 4, 2) := by decide +kernel
theorem dX0_bestFrom_54 : decode cX0_bestFrom 54 = .ok (.ireturn, 1) := by decide +kernel
theorem dX0_bestFrom_55 : decode cX0_bestFrom 55 = .ok (.iload 4, 2) := by decide +kernel
theorem dX0_bestFrom_57 : decode cX0_bestFrom 57 = .ok (.iload 5, 2) := by decide +kernel
theorem dX0_bestFrom_59 : decode cX0_bestFrom 59 = .ok (.aload_n 0, 1) := by decide +kernel
theorem dX0_bestFrom_60 : decode cX0_bestFrom 60 = .ok (.iload_n 1, 1) := by decide +kernel
theorem dX0_bestFrom_61 : decode cX0_bestFrom 61 = .ok (.iconst 1, 1) := by decide +kernel
theorem dX0_bestFrom_62 : decode cX0_bestFrom 62 = .ok (.iadd, 1) := by decide +kernel
theorem dX0_bestFrom_63 : decode cX0_bestFrom 63 = .ok (.iload 6, 2) := by decide +kernel
theorem dX0_bestFrom_65 : decode cX0_bestFrom 65 = .ok (.invokevirtual 147, 3) := by decide +kernel
theorem dX0_bestFrom_68 : decode cX0_bestFrom 68 = .ok (.iadd, 1) := by decide +kernel
theorem dX0_bestFrom_69 : decode cX0_bestFrom 69 = .ok (.invokestatic 158, 3) := by decide +kernel
theorem dX0_bestFrom_72 : decode cX0_bestFrom 72 = .ok (.istore 4, 2) := by decide +kernel
theorem dX0_bestFrom_74 : decode cX0_bestFrom 74 = .ok (.iinc 5 1, 3) := by decide +kernel
theorem dX0_bestFrom_77 : decode cX0_bestFrom 77 = .ok (.goto (-70), 3) := by decide +kernel
theorem dX0_bestFrom_80 : decode cX0_bestFrom 80 = .ok (.iload 4, 2) := by decide +kernel
theorem dX0_bestFrom_82 : decode cX0_bestFrom 82 = .ok (.ireturn, 1) := by decide +kernel
theorem dX0_beginAt_0 : decode cX0_beginAt 0 = .ok (.iload_n 2, 1) := by decide +kernel
theorem dX0_beginAt_1 : decode cX0_beginAt 1 = .ok (.ifCond .lt 12, 3) := by decide +kernel
theorem dX0_beginAt_4 : decode cX0_beginAt 4 = .ok (.iload_n 2, 1) := by decide +kernel
theorem dX0_beginAt_5 : decode cX0_beginAt 5 = .ok (.aload_n 0, 1) := by decide +kernel
theorem dX0_beginAt_6 : decode cX0_beginAt 6 = .ok (.getfield 23, 3) := by decide +kernel
theorem dX0_beginAt_9 : decode cX0_beginAt 9 = .ok (.arraylength, 1) := by decide +kernel
theorem dX0_beginAt_10 : decode cX0_beginAt 10 = .ok (.if_icmp .lt 4, 3) := by decide +kernel
theorem dX0_beginAt_13 : decode cX0_beginAt 13 = .ok (.return_, 1) := by decide +kernel
theorem dX0_beginAt_14 : decode cX0_beginAt 14 = .ok (.iconst 1, 1) := by decide +kernel
theorem dX0_beginAt_15 : decode cX0_beginAt 15 = .ok (.istore_n 3, 1) := by decide +kernel
theorem dX0_beginAt_16 : decode cX0_beginAt 16 = .ok (.iload_n 3, 1) := by decide +kernel
theorem dX0_beginAt_17 : decode cX0_beginAt 17 = .ok (.aload_n 0, 1) := by decide +kernel
theorem dX0_beginAt_18 : decode cX0_beginAt 18 = .ok (.getfield 104, 3) := by decide +kernel
theorem dX0_beginAt_21 : decode cX0_beginAt 21 = .ok (.if_icmp .gt 71, 3) := by decide +kernel
theorem dX0_beginAt_24 : decode cX0_beginAt 24 = .ok (.iload_n 3, 1) := by decide +kernel
theorem dX0_beginAt_25 : decode cX0_beginAt 25 = .ok (.aload_n 0, 1) := by decide +kernel
theorem dX0_beginAt_26 : decode cX0_beginAt 26 = .ok (.iload_n 2, 1) := by decide +kernel
theorem dX0_beginAt_27 : decode cX0_beginAt 27 = .ok (.iconst 1, 1) := by decide +kernel
theorem dX0_beginAt_28 : decode cX0_beginAt 28 = .ok (.iadd, 1) := by decide +kernel
theorem dX0_beginAt_29 : decode cX0_beginAt 29 = .ok (.aload_n 1, 1) := by decide +kernel
theorem dX0_beginAt_30 : decode cX0_beginAt 30 = .ok (.iconst 0, 1) := by decide +kernel
theorem dX0_beginAt_31 : decode cX0_beginAt 31 = .ok (.invokevirtual 40, 3) := by decide +kernel
theorem dX0_beginAt_34 : decode cX0_beginAt 34 = .ok (.iload_n 3, 1) := by decide +kernel
theorem dX0_beginAt_35 : decode cX0_beginAt 35 = .ok (.aload_n 0, 1) := by decide +kernel
theorem dX0_beginAt_36 : decode cX0_beginAt 36 = .ok (.getfield 110, 3) := by decide +kernel
theorem dX0_beginAt_39 : decode cX0_beginAt 39 = .ok (.imul, 1) := by decide +kernel
theorem dX0_beginAt_40 : decode cX0_beginAt 40 = .ok (.iadd, 1) := by decide +kernel
theorem dX0_beginAt_41 : decode cX0_beginAt 41 = .ok (.aload_n 1, 1) := by decide +kernel
theorem dX0_beginAt_42 : decode cX0_beginAt 42 = .ok (.iconst 0, 1) := by decide +kernel
theorem dX0_beginAt_43 : decode cX0_beginAt 43 = .ok (.invokevirtual 46, 3) := by decide +kernel
theorem dX0_beginAt_46 : decode cX0_beginAt 46 = .ok (.iload_n 3, 1) := by decide +kernel
theorem dX0_beginAt_47 : decode cX0_beginAt 47 = .ok (.aload_n 0, 1) := by decide +kernel
theorem dX0_beginAt_48 : decode cX0_beginAt 48 = .ok (.getfield 116, 3) := by decide +kernel
theorem dX0_beginAt_51 : decode cX0_beginAt 51 = .ok (.imul, 1) := by decide +kernel
theorem dX0_beginAt_52 : decode cX0_beginAt 52 = .ok (.iadd, 1) := by decide +kernel
theorem dX0_beginAt_53 : decode cX0_beginAt 53 = .ok (.invokevirtual 163, 3) := by decide +kernel
theorem dX0_beginAt_56 : decode cX0_beginAt 56 = .ok (.iadd, 1) := by decide +kernel
theorem dX0_beginAt_57 : decode cX0_beginAt 57 = .ok (.istore 4, 2) := by decide +kernel
theorem dX0_beginAt_59 : decode cX0_beginAt 59 = .ok (.iload 4, 2) := by decide +kernel
theorem dX0_beginAt_61 : decode cX0_beginAt 61 = .ok (.aload_n 0, 1) := by decide +kernel
theorem dX0_beginAt_62 : decode cX0_beginAt 62 = .ok (.getfield 82, 3) := by decide +kernel
theorem dX0_beginAt_65 : decode cX0_beginAt 65 = .ok (.if_icmp .ge 21, 3) := by decide +kernel
theorem dX0_beginAt_68 : decode cX0_beginAt 68 = .ok (.aload_n 0, 1) := by decide +kernel
theorem dX0_beginAt_69 : decode cX0_beginAt 69 = .ok (.iload 4, 2) := by decide +kernel
theorem dX0_beginAt_71 : decode cX0_beginAt 71 = .ok (.putfield 82, 3) := by decide +kernel
theorem dX0_beginAt_74 : decode cX0_beginAt 74 = .ok (.aload_n 0, 1) := by decide +kernel
theorem dX0_beginAt_75 : decode cX0_beginAt 75 = .ok (.iload_n 2, 1) := by decide +kernel
theorem dX0_beginAt_76 : decode cX0_beginAt 76 = .ok (.putfield 85, 3) := by decide +kernel
theorem dX0_beginAt_79 : decode cX0_beginAt 79 = .ok (.aload_n 0, 1) := by decide +kernel
theorem dX0_beginAt_80 : decode cX0_beginAt 80 = .ok (.getfield 23, 3) := by decide +kernel
theorem dX0_beginAt_83 : decode cX0_beginAt 83 = .ok (.iload_n 2, 1) := by decide +kernel
theorem dX0_beginAt_84 : decode cX0_beginAt 84 = .ok (.iload_n 3, 1) := by decide +kernel
theorem dX0_beginAt_85 : decode cX0_beginAt 85 = .ok (.iastore, 1) := by decide +kernel
theorem dX0_beginAt_86 : decode cX0_beginAt 86 = .ok (.iinc 3 1, 3) := by decide +kernel
theorem dX0_beginAt_89 : decode cX0_beginAt 89 = .ok (.goto (-73), 3) := by decide +kernel
theorem dX0_beginAt_92 : decode cX0_beginAt 92 = .ok (.return_, 1) := by decide +kernel
theorem dX0_goOn_0 : decode cX0_goOn 0 = .ok (.aload_n 1, 1) := by decide +kernel
theorem dX0_goOn_1 : decode cX0_goOn 1 = .ok (.iconst 0, 1) := by decide +kernel
theorem dX0_goOn_2 : decode cX0_goOn 2 = .ok (.invokevirtual 40, 3) := by decide +kernel
theorem dX0_goOn_5 : decode cX0_goOn 5 = .ok (.istore_n 2, 1) := by decide +kernel
theorem dX0_goOn_6 : decode cX0_goOn 6 = .ok (.aload_n 1, 1) := by decide +kernel
theorem dX0_goOn_7 : decode cX0_goOn 7 = .ok (.iconst 0, 1) := by decide +kernel
theorem dX0_goOn_8 : decode cX0_goOn 8 = .ok (.invokevirtual 46, 3) := by decide +kernel
theorem dX0_goOn_11 : decode cX0_goOn 11 = .ok (.istore_n 3, 1) := by decide +kernel
theorem dX0_goOn_12 : decode cX0_goOn 12 = .ok (.aload_n 0, 1) := by decide +kernel
theorem dX0_goOn_13 : decode cX0_goOn 13 = .ok (.getfield 85, 3) := by decide +kernel
theorem dX0_goOn_16 : decode cX0_goOn 16 = .ok (.istore 4, 2) := by decide +kernel
theorem dX0_goOn_18 : decode cX0_goOn 18 = .ok (.iload 4, 2) := by decide +kernel
theorem dX0_goOn_20 : decode cX0_goOn 20 = .ok (.aload_n 1, 1) := by decide +kernel
theorem dX0_goOn_21 : decode cX0_goOn 21 = .ok (.getfield 53, 3) := by decide +kernel
theorem dX0_goOn_24 : decode cX0_goOn 24 = .ok (.if_icmp .ge 80, 3) := by decide +kernel
theorem dX0_goOn_27 : decode cX0_goOn 27 = .ok (.iload 4, 2) := by decide +kernel
theorem dX0_goOn_29 : decode cX0_goOn 29 = .ok (.aload_n 0, 1) := by decide +kernel
theorem dX0_goOn_30 : decode cX0_goOn 30 = .ok (.getfield 23, 3) := by decide +kernel
theorem dX0_goOn_33 : decode cX0_goOn 33 = .ok (.arraylength, 1) := by decide +kernel
theorem dX0_goOn_34 : decode cX0_goOn 34 = .ok (.if_icmp .ge 70, 3) := by decide +kernel
theorem dX0_goOn_37 : decode cX0_goOn 37 = .ok (.aload_n 0, 1) := by decide +kernel
theorem dX0_goOn_38 : decode cX0_goOn 38 = .ok (.aload_n 1, 1) := by decide +kernel
theorem dX0_goOn_39 : decode cX0_goOn 39 = .ok (.iload 4, 2) := by decide +kernel
theorem dX0_goOn_41 : decode cX0_goOn 41 = .ok (.invokevirtual 56, 3) := by decide +kernel
theorem dX0_goOn_44 : decode cX0_goOn 44 = .ok (.iload 4, 2) := by decide +kernel
theorem dX0_goOn_46 : decode cX0_goOn 46 = .ok (.aload_n 0, 1) := by decide +kernel
theorem dX0_goOn_47 : decode cX0_goOn 47 = .ok (.getfield 85, 3) := by decide +kernel
theorem dX0_goOn_50 : decode cX0_goOn 50 = .ok (.if_icmp .le 18, 3) := by decide +kernel
theorem dX0_goOn_53 : decode cX0_goOn 53 = .ok (.aload_n 0, 1) := by decide +kernel
theorem dX0_goOn_54 : decode cX0_goOn 54 = .ok (.getfield 23, 3) := by decide +kernel
theorem dX0_goOn_57 : decode cX0_goOn 57 = .ok (.iload 4, 2) := by decide +kernel
theorem dX0_goOn_59 : decode cX0_goOn 59 = .ok (.aload_n 0, 1) := by decide +kernel
theorem dX0_goOn_60 : decode cX0_goOn 60 = .ok (.iload 4, 2) := by decide +kernel
theorem dX0_goOn_62 : decode cX0_goOn 62 = .ok (.iload_n 2, 1) := by decide +kernel
theorem dX0_goOn_63 : decode cX0_goOn 63 = .ok (.iload_n 3, 1) := by decide +kernel
theorem dX0_goOn_64 : decode cX0_goOn 64 = .ok (.invokevirtual 166, 3) := by decide +kernel
theorem dX0_goOn_67 : decode cX0_goOn 67 = .ok (.iastore, 1) := by decide +kernel
theorem dX0_goOn_68 : decode cX0_goOn 68 = .ok (.iload_n 2, 1) := by decide +kernel
theorem dX0_goOn_69 : decode cX0_goOn 69 = .ok (.aload_n 0, 1) := by decide +kernel
theorem dX0_goOn_70 : decode cX0_goOn 70 = .ok (.getfield 23, 3) := by decide +kernel
theorem dX0_goOn_73 : decode cX0_goOn 73 = .ok (.iload 4, 2) := by decide +kernel
theorem dX0_goOn_75 : decode cX0_goOn 75 = .ok (.iaload, 1) := by decide +kernel
theorem dX0_goOn_76 : decode cX0_goOn 76 = .ok (.aload_n 0, 1) := by decide +kernel
theorem dX0_goOn_77 : decode cX0_goOn 77 = .ok (.getfield 110, 3) := by decide +kernel
theorem dX0_goOn_80 : decode cX0_goOn 80 = .ok (.imul, 1) := by decide +kernel
theorem dX0_goOn_81 : decode cX0_goOn 81 = .ok (.iadd, 1) := by decide +kernel
theorem dX0_goOn_82 : decode cX0_goOn 82 = .ok (.istore_n 2, 1) := by decide +kernel
theorem dX0_goOn_83 : decode cX0_goOn 83 = .ok (.iload_n 3, 1) := by decide +kernel
theorem dX0_goOn_84 : decode cX0_goOn 84 = .ok (.aload_n 0, 1) := by decide +kernel
theorem dX0_goOn_85 : decode cX0_goOn 85 = .ok (.getfield 23, 3) := by decide +kernel
theorem dX0_goOn_88 : decode cX0_goOn 88 = .ok (.iload 4, 2) := by decide +kernel
theorem dX0_goOn_90 : decode cX0_goOn 90 = .ok (.iaload, 1) := by decide +kernel
theorem dX0_goOn_91 : decode cX0_goOn 91 = .ok (.aload_n 0, 1) := by decide +kernel
theorem dX0_goOn_92 : decode cX0_goOn 92 = .ok (.getfield 116, 3) := by decide +kernel
theorem dX0_goOn_95 : decode cX0_goOn 95 = .ok (.imul, 1) := by decide +kernel
theorem dX0_goOn_96 : decode cX0_goOn 96 = .ok (.iadd, 1) := by decide +kernel
theorem dX0_goOn_97 : decode cX0_goOn 97 = .ok (.istore_n 3, 1) := by decide +kernel
theorem dX0_goOn_98 : decode cX0_goOn 98 = .ok (.iinc 4 1, 3) := by decide +kernel
theorem dX0_goOn_101 : decode cX0_goOn 101 = .ok (.goto (-83), 3) := by decide +kernel
theorem dX0_goOn_104 : decode cX0_goOn 104 = .ok (.return_, 1) := by decide +kernel
theorem dX0_firstBest_0 : decode cX0_firstBest 0 = .ok (.aload_n 0, 1) := by decide +kernel
theorem dX0_firstBest_1 : decode cX0_firstBest 1 = .ok (.iload_n 1, 1) := by decide +kernel
theorem dX0_firstBest_2 : decode cX0_firstBest 2 = .ok (.iload_n 2, 1) := by decide +kernel
theorem dX0_firstBest_3 : decode cX0_firstBest 3 = .ok (.iload_n 3, 1) := by decide +kernel
theorem dX0_firstBest_4 : decode cX0_firstBest 4 = .ok (.invokevirtual 163, 3) := by decide +kernel
theorem dX0_firstBest_7 : decode cX0_firstBest 7 = .ok (.istore 4, 2) := by decide +kernel
theorem dX0_firstBest_9 : decode cX0_firstBest 9 = .ok (.iconst 0, 1) := by decide +kernel
theorem dX0_firstBest_10 : decode cX0_firstBest 10 = .ok (.istore 5, 2) := by decide +kernel
theorem dX0_firstBest_12 : decode cX0_firstBest 12 = .ok (.iload 5, 2) := by decide +kernel
theorem dX0_firstBest_14 : decode cX0_firstBest 14 = .ok (.aload_n 0, 1) := by decide +kernel
theorem dX0_firstBest_15 : decode cX0_firstBest 15 = .ok (.getfield 104, 3) := by decide +kernel
theorem dX0_firstBest_18 : decode cX0_firstBest 18 = .ok (.if_icmp .gt 45, 3) := by decide +kernel
theorem dX0_firstBest_21 : decode cX0_firstBest 21 = .ok (.iload 5, 2) := by decide +kernel
theorem dX0_firstBest_23 : decode cX0_firstBest 23 = .ok (.aload_n 0, 1) := by decide +kernel
theorem dX0_firstBest_24 : decode cX0_firstBest 24 = .ok (.iload_n 1, 1) := by decide +kernel
theorem dX0_firstBest_25 : decode cX0_firstBest 25 = .ok (.iconst 1, 1) := by decide +kernel
theorem dX0_firstBest_26 : decode cX0_firstBest 26 = .ok (.iadd, 1) := by decide +kernel
theorem dX0_firstBest_27 : decode cX0_firstBest 27 = .ok (.iload_n 2, 1) := by decide +kernel
theorem dX0_firstBest_28 : decode cX0_firstBest 28 = .ok (.iload 5, 2) := by decide +kernel
theorem dX0_firstBest_30 : decode cX0_firstBest 30 = .ok (.aload_n 0, 1) := by decide +kernel
theorem dX0_firstBest_31 : decode cX0_firstBest 31 = .ok (.getfield 110, 3) := by decide +kernel
theorem dX0_firstBest_34 : decode cX0_firstBest 34 = .ok (.imul, 1) := by decide +kernel
theorem dX0_firstBest_35 : decode cX0_firstBest 35 = .ok (.iadd, 1) := by decide +kernel
theorem dX0_firstBest_36 : decode cX0_firstBest 36 = .ok (.iload_n 3, 1) := by decide +kernel
theorem dX0_firstBest_37 : decode cX0_firstBest 37 = .ok (.iload 5, 2) := by decide +kernel
theorem dX0_firstBest_39 : decode cX0_firstBest 39 = .ok (.aload_n 0, 1) := by decide +kernel
theorem dX0_firstBest_40 : decode cX0_firstBest 40 = .ok (.getfield 116, 3) := by decide +kernel
theorem dX0_firstBest_43 : decode cX0_firstBest 43 = .ok (.imul, 1) := by decide +kernel
theorem dX0_firstBest_44 : decode cX0_firstBest 44 = .ok (.iadd, 1) := by decide +kernel
theorem dX0_firstBest_45 : decode cX0_firstBest 45 = .ok (.invokevirtual 163, 3) := by decide +kernel
theorem dX0_firstBest_48 : decode cX0_firstBest 48 = .ok (.iadd, 1) := by decide +kernel
theorem dX0_firstBest_49 : decode cX0_firstBest 49 = .ok (.iload 4, 2) := by decide +kernel
theorem dX0_firstBest_51 : decode cX0_firstBest 51 = .ok (.if_icmp .ne 6, 3) := by decide +kernel
theorem dX0_firstBest_54 : decode cX0_firstBest 54 = .ok (.iload 5, 2) := by decide +kernel
theorem dX0_firstBest_56 : decode cX0_firstBest 56 = .ok (.ireturn, 1) := by decide +kernel
theorem dX0_firstBest_57 : decode cX0_firstBest 57 = .ok (.iinc 5 1, 3) := by decide +kernel
theorem dX0_firstBest_60 : decode cX0_firstBest 60 = .ok (.goto (-48), 3) := by decide +kernel
theorem dX0_firstBest_63 : decode cX0_firstBest 63 = .ok (.iconst 0, 1) := by decide +kernel
theorem dX0_firstBest_64 : decode cX0_firstBest 64 = .ok (.ireturn, 1) := by decide +kernel
theorem dX1_init_0 : decode cX1_init 0 = .ok (.aload_n 0, 1) := by decide +kernel
theorem dX1_init_1 : decode cX1_init 1 = .ok (.invokespecial 3, 3) := by decide +kernel
theorem dX1_init_4 : decode cX1_init 4 = .ok (.aload_n 0, 1) := by decide +kernel
theorem dX1_init_5 : decode cX1_init 5 = .ok (.new 9, 3) := by decide +kernel
theorem dX1_init_8 : decode cX1_init 8 = .ok (.dup, 1) := by decide +kernel
theorem dX1_init_9 : decode cX1_init 9 = .ok (.bipush 40, 2) := by decide +kernel
theorem dX1_init_11 : decode cX1_init 11 = .ok (.invokespecial 11, 3) := by decide +kernel
theorem dX1_init_14 : decode cX1_init 14 = .ok (.putfield 14, 3) := by decide +kernel
theorem dX1_init_17 : decode cX1_init 17 = .ok (.aload_n 0, 1) := by decide +kernel
theorem dX1_init_18 : decode cX1_init 18 = .ok (.bipush 80, 2) := by decide +kernel
theorem dX1_init_20 : decode cX1_init 20 = .ok (.newarray .long, 2) := by decide +kernel
theorem dX1_init_22 : decode cX1_init 22 = .ok (.putfield 20, 3) := by decide +kernel
theorem dX1_init_25 : decode cX1_init 25 = .ok (.aload_n 0, 1) := by decide +kernel
theorem dX1_init_26 : decode cX1_init 26 = .ok (.iconst (-1), 1) := by decide +kernel
theorem dX1_init_27 : decode cX1_init 27 = .ok (.putfield 24, 3) := by decide +kernel
theorem dX1_init_30 : decode cX1_init 30 = .ok (.return_, 1) := by decide +kernel
theorem dX1_build_0 : decode cX1_build 0 = .ok (.aload_n 0, 1) := by decide +kernel
theorem dX1_build_1 : decode cX1_build 1 = .ok (.getfield 24, 3) := by decide +kernel
theorem dX1_build_4 : decode cX1_build 4 = .ok (.aload_n 1, 1) := by decide +kernel
theorem dX1_build_5 : decode cX1_build 5 = .ok (.getfield 28, 3) := by decide +kernel
theorem dX1_build_8 : decode cX1_build 8 = .ok (.if_icmp .ne 4, 3) := by decide +kernel
theorem dX1_build_11 : decode cX1_build 11 = .ok (.return_, 1) := by decide +kernel
theorem dX1_build_12 : decode cX1_build 12 = .ok (.aload_n 0, 1) := by decide +kernel
theorem dX1_build_13 : decode cX1_build 13 = .ok (.aload_n 1, 1) := by decide +kernel
theorem dX1_build_14 : decode cX1_build 14 = .ok (.getfield 28, 3) := by decide +kernel
theorem dX1_build_17 : decode cX1_build 17 = .ok (.putfield 24, 3) := by decide +kernel
theorem dX1_build_20 : decode cX1_build 20 = .ok (.aload_n 0, 1) := by decide +kernel
theorem dX1_build_21 : decode cX1_build 21 = .ok (.getfield 14, 3) := by decide +kernel
theorem dX1_build_24 : decode cX1_build 24 = .ok (.aload_n 1, 1) := by decide +kernel
theorem dX1_build_25 : decode cX1_build 25 = .ok (.getfield 33, 3) := by decide +kernel
theorem dX1_build_28 : decode cX1_build 28 = .ok (.invokevirtual 37, 3) := by decide +kernel
theorem dX1_build_31 : decode cX1_build 31 = .ok (.aload_n 0, 1) := by decide +kernel
theorem dX1_build_32 : decode cX1_build 32 = .ok (.iconst 0, 1) := by decide +kernel
theorem dX1_build_33 : decode cX1_build 33 = .ok (.putfield 41, 3) := by decide +kernel
theorem dX1_build_36 : decode cX1_build 36 = .ok (.iconst 0, 1) := by decide +kernel
theorem dX1_build_37 : decode cX1_build 37 = .ok (.istore_n 2, 1) := by decide +kernel
theorem dX1_build_38 : decode cX1_build 38 = .ok (.iload_n 2, 1) := by decide +kernel
theorem dX1_build_39 : decode cX1_build 39 = .ok (.aload_n 0, 1) := by decide +kernel
theorem dX1_build_40 : decode cX1_build 40 = .ok (.getfield 14, 3) := by decide +kernel
theorem dX1_build_43 : decode cX1_build 43 = .ok (.getfield 44, 3) := by decide +kernel
theorem dX1_build_46 : decode cX1_build 46 = .ok (.if_icmp .ge 54, 3) := by decide +kernel
theorem dX1_build_49 : decode cX1_build 49 = .ok (.iload_n 2, 1) := by decide +kernel
theorem dX1_build_50 : decode cX1_build 50 = .ok (.iconst 1, 1) := by decide +kernel
theorem dX1_build_51 : decode cX1_build 51 = .ok (.iadd, 1) := by decide +kernel
theorem dX1_build_52 : decode cX1_build 52 = .ok (.istore_n 3, 1) := by decide +kernel
theorem dX1_build_53 : decode cX1_build 53 = .ok (.iload_n 3, 1) := by decide +kernel
theorem dX1_build_54 : decode cX1_build 54 = .ok (.aload_n 0, 1) := by decide +kernel
theorem dX1_build_55 : decode cX1_build 55 = .ok (.getfield 14, 3) := by decide +kernel
theorem dX1_build_58 : decode cX1_build 58 = .ok (.getfield 44, 3) := by decide +kernel
theorem dX1_build_61 : decode cX1_build 61 = .ok (.if_icmp .ge 33, 3) := by decide +kernel
theorem dX1_build_64 : decode cX1_build 64 = .ok (.aload_n 0, 1) := by decide +kernel
theorem dX1_build_65 : decode cX1_build 65 = .ok (.aload_n 0, 1) := by decide +kernel
theorem dX1_build_66 : decode cX1_build 66 = .ok (.aload_n 1, 1) := by decide +kernel
theorem dX1_build_67 : decode cX1_build 67 = .ok (.getfield 45, 3) := by decide +kernel
theorem dX1_build_70 : decode cX1_build 70 = .ok (.iload_n 2, 1) := by decide +kernel
theorem dX1_build_71 : decode cX1_build 71 = .ok (.iload_n 3, 1) := by decide +kernel
theorem dX1_build_72 : decode cX1_build 72 = .ok (.aload_n 0, 1) := by decide +kernel
theorem dX1_build_73 : decode cX1_build 73 = .ok (.aload_n 1, 1) := by decide +kernel
theorem dX1_build_74 : decode cX1_build 74 = .ok (.getfield 45, 3) := by decide +kernel
theorem dX1_build_77 : decode cX1_build 77 = .ok (.iload_n 2, 1) := by decide +kernel
theorem dX1_build_78 : decode cX1_build 78 = .ok (.iload_n 3, 1) := by decide +kernel
theorem dX1_build_79 : decode cX1_build 79 = .ok (.invokevirtual 49, 3) := by decide +kernel
theorem dX1_build_82 : decode cX1_build 82 = .ok (.invokevirtual 53, 3) := by decide +kernel
theorem dX1_build_85 : decode cX1_build 85 = .ok (.invokevirtual 57, 3) := by decide +kernel
theorem dX1_build_88 : decode cX1_build 88 = .ok (.iinc 3 1, 3) := by decide +kernel
theorem dX1_build_91 : decode cX1_build 91 = .ok (.goto (-38), 3) := by decide +kernel
theorem dX1_build_94 : decode cX1_build 94 = .ok (.iinc 2 1, 3) := by decide +kernel
theorem dX1_build_97 : decode cX1_build 97 = .ok (.goto (-59), 3) := by decide +kernel
theorem dX1_build_100 : decode cX1_build 100 = .ok (.return_, 1) := by decide +kernel
theorem dX1_sizeOf_0 : decode cX1_sizeOf 0 = .ok (.aload_n 0, 1) := by decide +kernel
theorem dX1_sizeOf_1 : decode cX1_sizeOf 1 = .ok (.iload_n 1, 1) := by decide +kernel
theorem dX1_sizeOf_2 : decode cX1_sizeOf 2 = .ok (.invokevirtual 61, 3) := by decide +kernel
theorem dX1_sizeOf_5 : decode cX1_sizeOf 5 = .ok (.invokestatic 65, 3) := by decide +kernel
theorem dX1_sizeOf_8 : decode cX1_sizeOf 8 = .ok (.ireturn, 1) := by decide +kernel
theorem dX1_memberOf_0 : decode cX1_memberOf 0 = .ok (.iload_n 2, 1) := by decide +kernel
theorem dX1_memberOf_1 : decode cX1_memberOf 1 = .ok (.istore_n 3, 1) := by decide +kernel
theorem dX1_memberOf_2 : decode cX1_memberOf 2 = .ok (.iconst 0, 1) := by decide +kernel
theorem dX1_memberOf_3 : decode cX1_memberOf 3 = .ok (.istore 4, 2) := by decide +kernel
theorem dX1_memberOf_5 : decode cX1_memberOf 5 = .ok (.iload 4, 2) := by decide +kernel
theorem dX1_memberOf_7 : decode cX1_memberOf 7 = .ok (.aload_n 0, 1) := by decide +kernel
theorem dX1_memberOf_8 : decode cX1_memberOf 8 = .ok (.getfield 14, 3) := by decide +kernel
theorem dX1_memberOf_11 : decode cX1_memberOf 11 = .ok (.getfield 44, 3) := by decide +kernel
theorem dX1_memberOf_14 : decode cX1_memberOf 14 = .ok (.if_icmp .ge 35, 3) := by decide +kernel
theorem dX1_memberOf_17 : decode cX1_memberOf 17 = .ok (.aload_n 0, 1) := by decide +kernel
theorem dX1_memberOf_18 : decode cX1_memberOf 18 = .ok (.iload_n 1, 1) := by decide +kernel
theorem dX1_memberOf_19 : decode cX1_memberOf 19 = .ok (.invokevirtual 61, 3) := by decide +kernel
theorem dX1_memberOf_22 : decode cX1_memberOf 22 = .ok (.iload 4, 2) := by decide +kernel
theorem dX1_memberOf_24 : decode cX1_memberOf 24 = .ok (.invokestatic 71, 3) := by decide +kernel
theorem dX1_memberOf_27 : decode cX1_memberOf 27 = .ok (.land, 1) := by decide +kernel
theorem dX1_memberOf_28 : decode cX1_memberOf 28 = .ok (.lconst 0, 1) := by decide +kernel
theorem dX1_memberOf_29 : decode cX1_memberOf 29 = .ok (.lcmp, 1) := by decide +kernel
theorem dX1_memberOf_30 : decode cX1_memberOf 30 = .ok (.ifCond .eq 13, 3) := by decide +kernel
theorem dX1_memberOf_33 : decode cX1_memberOf 33 = .ok (.iload_n 3, 1) := by decide +kernel
theorem dX1_memberOf_34 : decode cX1_memberOf 34 = .ok (.ifCond .ne 6, 3) := by decide +kernel
theorem dX1_memberOf_37 : decode cX1_memberOf 37 = .ok (.iload 4, 2) := by decide +kernel
theorem dX1_memberOf_39 : decode cX1_memberOf 39 = .ok (.ireturn, 1) := by decide +kernel
theorem dX1_memberOf_40 : decode cX1_memberOf 40 = .ok (.iinc 3 (-1), 3) := by decide +kernel
theorem dX1_memberOf_43 : decode cX1_memberOf 43 = .ok (.iinc 4 1, 3) := by decide +kernel
theorem dX1_memberOf_46 : decode cX1_memberOf 46 = .ok (.goto (-41), 3) := by decide +kernel
theorem dX1_memberOf_49 : decode cX1_memberOf 49 = .ok (.iconst (-1), 1) := by decide +kernel
theorem dX1_memberOf_50 : decode cX1_memberOf 50 = .ok (.ireturn, 1) := by decide +kernel
theorem dX1_seen_0 : decode cX1_seen 0 = .ok (.lconst 0, 1) := by decide +kernel
theorem dX1_seen_1 : decode cX1_seen 1 = .ok (.lstore_n 1, 1) := by decide +kernel
theorem dX1_seen_2 : decode cX1_seen 2 = .ok (.iconst 0, 1) := by decide +kernel
theorem dX1_seen_3 : decode cX1_seen 3 = .ok (.istore_n 3, 1) := by decide +kernel
theorem dX1_seen_4 : decode cX1_seen 4 = .ok (.iload_n 3, 1) := by decide +kernel
theorem dX1_seen_5 : decode cX1_seen 5 = .ok (.aload_n 0, 1) := by decide +kernel
theorem dX1_seen_6 : decode cX1_seen 6 = .ok (.getfield 41, 3) := by decide +kernel
theorem dX1_seen_9 : decode cX1_seen 9 = .ok (.if_icmp .ge 17, 3) := by decide +kernel
theorem dX1_seen_12 : decode cX1_seen 12 = .ok (.lload_n 1, 1) := by decide +kernel
theorem dX1_seen_13 : decode cX1_seen 13 = .ok (.aload_n 0, 1) := by decide +kernel
theorem dX1_seen_14 : decode cX1_seen 14 = .ok (.iload_n 3, 1) := by decide +kernel
theorem dX1_seen_15 : decode cX1_seen 15 = .ok (.invokevirtual 61, 3) := by decide +kernel
theorem dX1_seen_18 : decode cX1_seen 18 = .ok (.lor, 1) := by decide +kernel
theorem dX1_seen_19 : decode cX1_seen 19 = .ok (.lstore_n 1, 1) := by decide +kernel
theorem dX1_seen_20 : decode cX1_seen 20 = .ok (.iinc 3 1, 3) := by decide +kernel
theorem dX1_seen_23 : decode cX1_seen 23 = .ok (.goto (-19), 3) := by decide +kernel
theorem dX1_seen_26 : decode cX1_seen 26 = .ok (.lload_n 1, 1) := by decide +kernel
theorem dX1_seen_27 : decode cX1_seen 27 = .ok (.invokestatic 65, 3) := by decide +kernel
theorem dX1_seen_30 : decode cX1_seen 30 = .ok (.ireturn, 1) := by decide +kernel
theorem dX1_unitTriangles_0 : decode cX1_unitTriangles 0 = .ok (.iconst 0, 1) := by decide +kernel
theorem dX1_unitTriangles_1 : decode cX1_unitTriangles 1 = .ok (.istore_n 1, 1) := by decide +kernel
theorem dX1_unitTriangles_2 : decode cX1_unitTriangles 2 = .ok (.iconst 0, 1) := by decide +kernel
theorem dX1_unitTriangles_3 : decode cX1_unitTriangles 3 = .ok (.istore_n 2, 1) := by decide +kernel
theorem dX1_unitTriangles_4 : decode cX1_unitTriangles 4 = .ok (.iload_n 2, 1) := by decide +kernel
theorem dX1_unitTriangles_5 : decode cX1_unitTriangles 5 = .ok (.aload_n 0, 1) := by decide +kernel
theorem dX1_unitTriangles_6 : decode cX1_unitTriangles 6 = .ok (.getfield 41, 3) := by decide +kernel
theorem dX1_unitTriangles_9 : decode cX1_unitTriangles 9 = .ok (.if_icmp .ge 53, 3) := by decide +kernel
theorem dX1_unitTriangles_12 : decode cX1_unitTriangles 12 = .ok (.aload_n 0, 1) := by decide +kernel
theorem dX1_unitTriangles_13 : decode cX1_unitTriangles 13 = .ok (.iload_n 2, 1) := by decide +kernel
theorem dX1_unitTriangles_14 : decode cX1_unitTriangles 14 = .ok (.invokevirtual 74, 3) := by decide +kernel
theorem dX1_unitTriangles_17 : decode cX1_unitTriangles 17 = .ok (.iconst 3, 1) := by decide +kernel
theorem dX1_unitTriangles_18 : decode cX1_unitTriangles 18 = .ok (.if_icmp .ne 38, 3) := by decide +kernel
theorem dX1_unitTriangles_21 : decode cX1_unitTriangles 21 = .ok (.aload_n 0, 1) := by decide +kernel
theorem dX1_unitTriangles_22 : decode cX1_unitTriangles 22 = .ok (.getfield 14, 3) := by decide +kernel
theorem dX1_unitTriangles_25 : decode cX1_unitTriangles 25 = .ok (.aload_n 0, 1) := by decide +kernel
theorem dX1_unitTriangles_26 : decode cX1_unitTriangles 26 = .ok (.iload_n 2, 1) := by decide +kernel
theorem dX1_unitTriangles_27 : decode cX1_unitTriangles 27 = .ok (.iconst 0, 1) := by decide +kernel
theorem dX1_unitTriangles_28 : decode cX1_unitTriangles 28 = .ok (.invokevirtual 78, 3) := by decide +kernel
theorem dX1_unitTriangles_31 : decode cX1_unitTriangles 31 = .ok (.aload_n 0, 1) := by decide +kernel
theorem dX1_unitTriangles_32 : decode cX1_unitTriangles 32 = .ok (.iload_n 2, 1) := by decide +kernel
theorem dX1_unitTriangles_33 : decode cX1_unitTriangles 33 = .ok (.iconst 1, 1) := by decide +kernel
theorem dX1_unitTriangles_34 : decode cX1_unitTriangles 34 = .ok (.invokevirtual 78, 3) := by decide +kernel
theorem dX1_unitTriangles_37 : decode cX1_unitTriangles 37 = .ok (.aload_n 0, 1) := by decide +kernel
theorem dX1_unitTriangles_38 : decode cX1_unitTriangles 38 = .ok (.iload_n 2, 1) := by decide +kernel
theorem dX1_unitTriangles_39 : decode cX1_unitTriangles 39 = .ok (.iconst 2, 1) := by decide +kernel
theorem dX1_unitTriangles_40 : decode cX1_unitTriangles 40 = .ok (.invokevirtual 78, 3) := by decide +kernel
theorem dX1_unitTriangles_43 : decode cX1_unitTriangles 43 = .ok (.invokevirtual 82, 3) := by decide +kernel
theorem dX1_unitTriangles_46 : decode cX1_unitTriangles 46 = .ok (.invokestatic 86, 3) := by decide +kernel
theorem dX1_unitTriangles_49 : decode cX1_unitTriangles 49 = .ok (.iconst 1, 1) := by decide +kernel
theorem dX1_unitTriangles_50 : decode cX1_unitTriangles 50 = .ok (.if_icmp .ne 6, 3) := by decide +kernel
theorem dX1_unitTriangles_53 : decode cX1_unitTriangles 53 = .ok (.iinc 1 1, 3) := by decide +kernel
theorem dX1_unitTriangles_56 : decode cX1_unitTriangles 56 = .ok (.iinc 2 1, 3) := by decide +kernel
theorem dX1_unitTriangles_59 : decode cX1_unitTriangles 59 = .ok (.goto (-55), 3) := by decide +kernel
theorem dX1_unitTriangles_62 : decode cX1_unitTriangles 62 = .ok (.iload_n 1, 1) := by decide +kernel
theorem dX1_unitTriangles_63 : decode cX1_unitTriangles 63 = .ok (.ireturn, 1) := by decide +kernel
theorem dX1_bit_0 : decode cX1_bit 0 = .ok (.lconst 1, 1) := by decide +kernel
theorem dX1_bit_1 : decode cX1_bit 1 = .ok (.bipush 62, 2) := by decide +kernel
theorem dX1_bit_3 : decode cX1_bit 3 = .ok (.iload_n 0, 1) := by decide +kernel
theorem dX1_bit_4 : decode cX1_bit 4 = .ok (.isub, 1) := by decide +kernel
theorem dX1_bit_5 : decode cX1_bit 5 = .ok (.lshl, 1) := by decide +kernel
theorem dX1_bit_6 : decode cX1_bit 6 = .ok (.lreturn, 1) := by decide +kernel
theorem dX1_setOf_0 : decode cX1_setOf 0 = .ok (.iload_n 1, 1) := by decide +kernel
theorem dX1_setOf_1 : decode cX1_setOf 1 = .ok (.ifCond .lt 21, 3) := by decide +kernel
theorem dX1_setOf_4 : decode cX1_setOf 4 = .ok (.iload_n 1, 1) := by decide +kernel
theorem dX1_setOf_5 : decode cX1_setOf 5 = .ok (.aload_n 0, 1) := by decide +kernel
theorem dX1_setOf_6 : decode cX1_setOf 6 = .ok (.getfield 20, 3) := by decide +kernel
theorem dX1_setOf_9 : decode cX1_setOf 9 = .ok (.arraylength, 1) := by decide +kernel
theorem dX1_setOf_10 : decode cX1_setOf 10 = .ok (.if_icmp .ge 12, 3) := by decide +kernel
theorem dX1_setOf_13 : decode cX1_setOf 13 = .ok (.aload_n 0, 1) := by decide +kernel
theorem dX1_setOf_14 : decode cX1_setOf 14 = .ok (.getfield 20, 3) := by decide +kernel
theorem dX1_setOf_17 : decode cX1_setOf 17 = .ok (.iload_n 1, 1) := by decide +kernel
theorem dX1_setOf_18 : decode cX1_setOf 18 = .ok (.laload, 1) := by decide +kernel
theorem dX1_setOf_19 : decode cX1_setOf 19 = .ok (.goto 4, 3) := by decide +kernel
theorem dX1_setOf_22 : decode cX1_setOf 22 = .ok (.lconst 0, 1) := by decide +kernel
theorem dX1_setOf_23 : decode cX1_setOf 23 = .ok (.lreturn, 1) := by decide +kernel
theorem dX1_lowestLeft_0 : decode cX1_lowestLeft 0 = .ok (.iconst (-1), 1) := by decide +kernel
theorem dX1_lowestLeft_1 : decode cX1_lowestLeft 1 = .ok (.istore 4, 2) := by decide +kernel
theorem dX1_lowestLeft_3 : decode cX1_lowestLeft 3 = .ok (.iconst 0, 1) := by decide +kernel
theorem dX1_lowestLeft_4 : decode cX1_lowestLeft 4 = .ok (.istore 5, 2) := by decide +kernel
theorem dX1_lowestLeft_6 : decode cX1_lowestLeft 6 = .ok (.iload 5, 2) := by decide +kernel
theorem dX1_lowestLeft_8 : decode cX1_lowestLeft 8 = .ok (.aload_n 0, 1) := by decide +kernel
theorem dX1_lowestLeft_9 : decode cX1_lowestLeft 9 = .ok (.getfield 14, 3) := by decide +kernel
theorem dX1_lowestLeft_12 : decode cX1_lowestLeft 12 = .ok (.getfield 44, 3) := by decide +kernel
theorem dX1_lowestLeft_15 : decode cX1_lowestLeft 15 = .ok (.if_icmp .ge 46, 3) := by decide +kernel
theorem dX1_lowestLeft_18 : decode cX1_lowestLeft 18 = .ok (.aload_n 0, 1) := by decide +kernel
theorem dX1_lowestLeft_19 : decode cX1_lowestLeft 19 = .ok (.getfield 14, 3) := by decide +kernel
theorem dX1_lowestLeft_22 : decode cX1_lowestLeft 22 = .ok (.iload_n 2, 1) := by decide +kernel
theorem dX1_lowestLeft_23 : decode cX1_lowestLeft 23 = .ok (.iload_n 3, 1) := by decide +kernel
theorem dX1_lowestLeft_24 : decode cX1_lowestLeft 24 = .ok (.iload 5, 2) := by decide +kernel
theorem dX1_lowestLeft_26 : decode cX1_lowestLeft 26 = .ok (.invokevirtual 82, 3) := by decide +kernel
theorem dX1_lowestLeft_29 : decode cX1_lowestLeft 29 = .ok (.ifCond .le 26, 3) := by decide +kernel
theorem dX1_lowestLeft_32 : decode cX1_lowestLeft 32 = .ok (.iload 4, 2) := by decide +kernel
theorem dX1_lowestLeft_34 : decode cX1_lowestLeft 34 = .ok (.ifCond .lt 17, 3) := by decide +kernel
theorem dX1_lowestLeft_37 : decode cX1_lowestLeft 37 = .ok (.aload_n 0, 1) := by decide +kernel
theorem dX1_lowestLeft_38 : decode cX1_lowestLeft 38 = .ok (.aload_n 1, 1) := by decide +kernel
theorem dX1_lowestLeft_39 : decode cX1_lowestLeft 39 = .ok (.iload_n 2, 1) := by decide +kernel
theorem dX1_lowestLeft_40 : decode cX1_lowestLeft 40 = .ok (.iload_n 3, 1) := by decide +kernel
theorem dX1_lowestLeft_41 : decode cX1_lowestLeft 41 = .ok (.iload 4, 2) := by decide +kernel
theorem dX1_lowestLeft_43 : decode cX1_lowestLeft 43 = .ok (.iload 5, 2) := by decide +kernel
theorem dX1_lowestLeft_45 : decode cX1_lowestLeft 45 = .ok (.invokevirtual 91, 3) := by decide +kernel
theorem dX1_lowestLeft_48 : decode cX1_lowestLeft 48 = .ok (.ifCond .ge 7, 3) := by decide +kernel
theorem dX1_lowestLeft_51 : decode cX1_lowestLeft 51 = .ok (.iload 5, 2) := by decide +kernel
theorem dX1_lowestLeft_53 : decode cX1_lowestLeft 53 = .ok (.istore 4, 2) := by decide +kernel
theorem dX1_lowestLeft_55 : decode cX1_lowestLeft 55 = .ok (.iinc 5 1, 3) := by decide +kernel
theorem dX1_lowestLeft_58 : decode cX1_lowestLeft 58 = .ok (.goto (-52), 3) := by decide +kernel
theorem dX1_lowestLeft_61 : decode cX1_lowestLeft 61 = .ok (.iload 4, 2) := by decide +kernel
theorem dX1_lowestLeft_63 : decode cX1_lowestLeft 63 = .ok (.ireturn, 1) := by decide +kernel
theorem dX1_above_0 : decode cX1_above 0 = .ok (.iload_n 2, 1) := by decide +kernel
theorem dX1_above_1 : decode cX1_above 1 = .ok (.iload_n 3, 1) := by decide +kernel
theorem dX1_above_2 : decode cX1_above 2 = .ok (.invokestatic 95, 3) := by decide +kernel
theorem dX1_above_5 : decode cX1_above 5 = .ok (.iload 4, 2) := by decide +kernel
theorem dX1_above_7 : decode cX1_above 7 = .ok (.iload 5, 2) := by decide +kernel
theorem dX1_above_9 : decode cX1_above 9 = .ok (.invokestatic 95, 3) := by decide +kernel
theorem dX1_above_12 : decode cX1_above 12 = .ok (.invokestatic 95, 3) := by decide +kernel
theorem dX1_above_15 : decode cX1_above 15 = .ok (.istore 6, 2) := by decide +kernel
theorem dX1_above_17 : decode cX1_above 17 = .ok (.iload_n 2, 1) := by decide +kernel
theorem dX1_above_18 : decode cX1_above 18 = .ok (.iload_n 3, 1) := by decide +kernel
theorem dX1_above_19 : decode cX1_above 19 = .ok (.invokestatic 98, 3) := by decide +kernel
theorem dX1_above_22 : decode cX1_above 22 = .ok (.iload 4, 2) := by decide +kernel
theorem dX1_above_24 : decode cX1_above 24 = .ok (.iload 5, 2) := by decide +kernel
theorem dX1_above_26 : decode cX1_above 26 = .ok (.invokestatic 98, 3) := by decide +kernel
theorem dX1_above_29 : decode cX1_above 29 = .ok (.invokestatic 98, 3) := by decide +kernel
theorem dX1_above_32 : decode cX1_above 32 = .ok (.istore 7, 2) := by decide +kernel
theorem dX1_above_34 : decode cX1_above 34 = .ok (.iload 7, 2) := by decide +kernel
theorem dX1_above_36 : decode cX1_above 36 = .ok (.ifCond .lt 10, 3) := by decide +kernel
theorem dX1_above_39 : decode cX1_above 39 = .ok (.iload 6, 2) := by decide +kernel
theorem dX1_above_41 : decode cX1_above 41 = .ok (.aload_n 1, 1) := by decide +kernel
theorem dX1_above_42 : decode cX1_above 42 = .ok (.arraylength, 1) := by decide +kernel
theorem dX1_above_43 : decode cX1_above 43 = .ok (.if_icmp .lt 5, 3) := by decide +kernel
theorem dX1_above_46 : decode cX1_above 46 = .ok (.iconst 0, 1) := by decide +kernel
theorem dX1_above_47 : decode cX1_above 47 = .ok (.ireturn, 1) := by decide +kernel
theorem dX1_above_48 : decode cX1_above 48 = .ok (.aload_n 0, 1) := by decide +kernel
theorem dX1_above_49 : decode cX1_above 49 = .ok (.getfield 14, 3) := by decide +kernel
theorem dX1_above_52 : decode cX1_above 52 = .ok (.iload_n 2, 1) := by decide +kernel
theorem dX1_above_53 : decode cX1_above 53 = .ok (.iload_n 3, 1) := by decide +kernel
theorem dX1_above_54 : decode cX1_above 54 = .ok (.iload 4, 2) := by decide +kernel
theorem dX1_above_56 : decode cX1_above 56 = .ok (.invokevirtual 82, 3) := by decide +kernel
theorem dX1_above_59 : decode cX1_above 59 = .ok (.aload_n 1, 1) := by decide +kernel
theorem dX1_above_60 : decode cX1_above 60 = .ok (.iload 5, 2) := by decide +kernel
theorem dX1_above_62 : decode cX1_above 62 = .ok (.iaload, 1) := by decide +kernel
theorem dX1_above_63 : decode cX1_above 63 = .ok (.aload_n 1, 1) := by decide +kernel
theorem dX1_above_64 : decode cX1_above 64 = .ok (.iload_n 2, 1) := by decide +kernel
theorem dX1_above_65 : decode cX1_above 65 = .ok (.iaload, 1) := by decide +kernel
theorem dX1_above_66 : decode cX1_above 66 = .ok (.isub, 1) := by decide +kernel
theorem dX1_above_67 : decode cX1_above 67 = .ok (.imul, 1) := by decide +kernel
theorem dX1_above_68 : decode cX1_above 68 = .ok (.aload_n 0, 1) := by decide +kernel
theorem dX1_above_69 : decode cX1_above 69 = .ok (.getfield 14, 3) := by decide +kernel
theorem dX1_above_72 : decode cX1_above 72 = .ok (.iload_n 2, 1) := by decide +kernel
theorem dX1_above_73 : decode cX1_above 73 = .ok (.iload 5, 2) := by decide +kernel
theorem dX1_above_75 : decode cX1_above 75 = .ok (.iload 4, 2) := by decide +kernel
theorem dX1_above_77 : decode cX1_above 77 = .ok (.invokevirtual 82, 3) := by decide +kernel
theorem dX1_above_80 : decode cX1_above 80 = .ok (.aload_n 1, 1) := by decide +kernel
theorem dX1_above_81 : decode cX1_above 81 = .ok (.iload_n 3, 1) := by decide +kernel
theorem dX1_above_82 : decode cX1_above 82 = .ok (.iaload, 1) := by decide +kernel
theorem dX1_above_83 : decode cX1_above 83 = .ok (.aload_n 1, 1) := by decide +kernel
theorem dX1_above_84 : decode cX1_above 84 = .ok (.iload_n 2, 1) := by decide +kernel
theorem dX1_above_85 : decode cX1_above 85 = .ok (.iaload, 1) := by decide +kernel
theorem dX1_above_86 : decode cX1_above 86 = .ok (.isub, 1) := by decide +kernel
theorem dX1_above_87 : decode cX1_above 87 = .ok (.imul, 1) := by decide +kernel
theorem dX1_above_88 : decode cX1_above 88 = .ok (.isub, 1) := by decide +kernel
theorem dX1_above_89 : decode cX1_above 89 = .ok (.aload_n 0, 1) := by decide +kernel
theorem dX1_above_90 : decode cX1_above 90 = .ok (.getfield 14, 3) := by decide +kernel
theorem dX1_above_93 : decode cX1_above 93 = .ok (.iload_n 2, 1) := by decide +kernel
theorem dX1_above_94 : decode cX1_above 94 = .ok (.iload_n 3, 1) := by decide +kernel
theorem dX1_above_95 : decode cX1_above 95 = .ok (.iload 5, 2) := by decide +kernel
theorem dX1_above_97 : decode cX1_above 97 = .ok (.invokevirtual 82, 3) := by decide +kernel
theorem dX1_above_100 : decode cX1_above 100 = .ok (.aload_n 1, 1) := by decide +kernel
theorem dX1_above_101 : decode cX1_above 101 = .ok (.iload 4, 2) := by decide +kernel
theorem dX1_above_103 : decode cX1_above 103 = .ok (.iaload, 1) := by decide +kernel
theorem dX1_above_104 : decode cX1_above 104 = .ok (.aload_n 1, 1) := by decide +kernel
theorem dX1_above_105 : decode cX1_above 105 = .ok (.iload_n 2, 1) := by decide +kernel
theorem dX1_above_106 : decode cX1_above 106 = .ok (.iaload, 1) := by decide +kernel
theorem dX1_above_107 : decode cX1_above 107 = .ok (.isub, 1) := by decide +kernel
theorem dX1_above_108 : decode cX1_above 108 = .ok (.imul, 1) := by decide +kernel
theorem dX1_above_109 : decode cX1_above 109 = .ok (.isub, 1) := by decide +kernel
theorem dX1_above_110 : decode cX1_above 110 = .ok (.ireturn, 1) := by decide +kernel
theorem dX1_planeOf_0 : decode cX1_planeOf 0 = .ok (.iload 4, 2) := by decide +kernel
theorem dX1_planeOf_2 : decode cX1_planeOf 2 = .ok (.ifCond .ge 5, 3) := by decide +kernel
theorem dX1_planeOf_5 : decode cX1_planeOf 5 = .ok (.lconst 0, 1) := by decide +kernel
theorem dX1_planeOf_6 : decode cX1_planeOf 6 = .ok (.lreturn, 1) := by decide +kernel
theorem dX1_planeOf_7 : decode cX1_planeOf 7 = .ok (.lconst 0, 1) := by decide +kernel
theorem dX1_planeOf_8 : decode cX1_planeOf 8 = .ok (.lstore 5, 2) := by decide +kernel
theorem dX1_planeOf_10 : decode cX1_planeOf 10 = .ok (.iconst 0, 1) := by decide +kernel
theorem dX1_planeOf_11 : decode cX1_planeOf 11 = .ok (.istore 7, 2) := by decide +kernel
theorem dX1_planeOf_13 : decode cX1_planeOf 13 = .ok (.iload 7, 2) := by decide +kernel
theorem dX1_planeOf_15 : decode cX1_planeOf 15 = .ok (.aload_n 0, 1) := by decide +kernel
theorem dX1_planeOf_16 : decode cX1_planeOf 16 = .ok (.getfield 14, 3) := by decide +kernel
theorem dX1_planeOf_19 : decode cX1_planeOf 19 = .ok (.getfield 44, 3) := by decide +kernel
theorem dX1_planeOf_22 : decode cX1_planeOf 22 = .ok (.if_icmp .ge 44, 3) := by decide +kernel
theorem dX1_planeOf_25 : decode cX1_planeOf 25 = .ok (.aload_n 0, 1) := by decide +kernel
theorem dX1_planeOf_26 : decode cX1_planeOf 26 = .ok (.aload_n 1, 1) := by decide +kernel
theorem dX1_planeOf_27 : decode cX1_planeOf 27 = .ok (.iload_n 2, 1) := by decide +kernel
theorem dX1_planeOf_28 : decode cX1_planeOf 28 = .ok (.iload_n 3, 1) := by decide +kernel
theorem dX1_planeOf_29 : decode cX1_planeOf 29 = .ok (.iload 4, 2) := by decide +kernel
theorem dX1_planeOf_31 : decode cX1_planeOf 31 = .ok (.iload 7, 2) := by decide +kernel
theorem dX1_planeOf_33 : decode cX1_planeOf 33 = .ok (.invokevirtual 91, 3) := by decide +kernel
theorem dX1_planeOf_36 : decode cX1_planeOf 36 = .ok (.istore 8, 2) := by decide +kernel
theorem dX1_planeOf_38 : decode cX1_planeOf 38 = .ok (.iload 8, 2) := by decide +kernel
theorem dX1_planeOf_40 : decode cX1_planeOf 40 = .ok (.ifCond .ge 5, 3) := by decide +kernel
theorem dX1_planeOf_43 : decode cX1_planeOf 43 = .ok (.lconst 0, 1) := by decide +kernel
theorem dX1_planeOf_44 : decode cX1_planeOf 44 = .ok (.lreturn, 1) := by decide +kernel
theorem dX1_planeOf_45 : decode cX1_planeOf 45 = .ok (.iload 8, 2) := by decide +kernel
theorem dX1_planeOf_47 : decode cX1_planeOf 47 = .ok (.ifCond .ne 13, 3) := by decide +kernel
theorem dX1_planeOf_50 : decode cX1_planeOf 50 = .ok (.lload 5, 2) := by decide +kernel
theorem dX1_planeOf_52 : decode cX1_planeOf 52 = .ok (.iload 7, 2) := by decide +kernel
theorem dX1_planeOf_54 : decode cX1_planeOf 54 = .ok (.invokestatic 71, 3) := by decide +kernel
theorem dX1_planeOf_57 : decode cX1_planeOf 57 = .ok (.lor, 1) := by decide +kernel
theorem dX1_planeOf_58 : decode cX1_planeOf 58 = .ok (.lstore 5, 2) := by decide +kernel
theorem dX1_planeOf_60 : decode cX1_planeOf 60 = .ok (.iinc 7 1, 3) := by decide +kernel
theorem dX1_planeOf_63 : decode cX1_planeOf 63 = .ok (.goto (-50), 3) := by decide +kernel
theorem dX1_planeOf_66 : decode cX1_planeOf 66 = .ok (.lload 5, 2) := by decide +kernel
theorem dX1_planeOf_68 : decode cX1_planeOf 68 = .ok (.lreturn, 1) := by decide +kernel
theorem dX1_isKnown_0 : decode cX1_isKnown 0 = .ok (.iconst 0, 1) := by decide +kernel
theorem dX1_isKnown_1 : decode cX1_isKnown 1 = .ok (.istore_n 3, 1) := by decide +kernel
theorem dX1_isKnown_2 : decode cX1_isKnown 2 = .ok (.iload_n 3, 1) := by decide +kernel
theorem dX1_isKnown_3 : decode cX1_isKnown 3 = .ok (.aload_n 0, 1) := by decide +kernel
theorem dX1_isKnown_4 : decode cX1_isKnown 4 = .ok (.getfield 41, 3) := by decide +kernel
theorem dX1_isKnown_7 : decode cX1_isKnown 7 = .ok (.if_icmp .ge 21, 3) := by decide +kernel
theorem dX1_isKnown_10 : decode cX1_isKnown 10 = .ok (.aload_n 0, 1) := by decide +kernel
theorem dX1_isKnown_11 : decode cX1_isKnown 11 = .ok (.iload_n 3, 1) := by decide +kernel
theorem dX1_isKnown_12 : decode cX1_isKnown 12 = .ok (.invokevirtual 61, 3) := by decide +kernel
theorem dX1_isKnown_15 : decode cX1_isKnown 15 = .ok (.lload_n 1, 1) := by decide +kernel
theorem dX1_isKnown_16 : decode cX1_isKnown 16 = .ok (.lcmp, 1) := by decide +kernel
theorem dX1_isKnown_17 : decode cX1_isKnown 17 = .ok (.ifCond .ne 5, 3) := by decide +kernel
theorem dX1_isKnown_20 : decode cX1_isKnown 20 = .ok (.iconst 1, 1) := by decide +kernel
theorem dX1_isKnown_21 : decode cX1_isKnown 21 = .ok (.ireturn, 1) := by decide +kernel
theorem dX1_isKnown_22 : decode cX1_isKnown 22 = .ok (.iinc 3 1, 3) := by decide +kernel
theorem dX1_isKnown_25 : decode cX1_isKnown 25 = .ok (.goto (-23), 3) := by decide +kernel
theorem dX1_isKnown_28 : decode cX1_isKnown 28 = .ok (.iconst 0, 1) := by decide +kernel
theorem dX1_isKnown_29 : decode cX1_isKnown 29 = .ok (.ireturn, 1) := by decide +kernel
theorem dX1_enter_0 : decode cX1_enter 0 = .ok (.lload_n 1, 1) := by decide +kernel
theorem dX1_enter_1 : decode cX1_enter 1 = .ok (.lconst 0, 1) := by decide +kernel
theorem dX1_enter_2 : decode cX1_enter 2 = .ok (.lcmp, 1) := by decide +kernel
theorem dX1_enter_3 : decode cX1_enter 3 = .ok (.ifCond .eq 20, 3) := by decide +kernel
theorem dX1_enter_6 : decode cX1_enter 6 = .ok (.aload_n 0, 1) := by decide +kernel
theorem dX1_enter_7 : decode cX1_enter 7 = .ok (.getfield 41, 3) := by decide +kernel
theorem dX1_enter_10 : decode cX1_enter 10 = .ok (.bipush 80, 2) := by decide +kernel
theorem dX1_enter_12 : decode cX1_enter 12 = .ok (.if_icmp .ge 11, 3) := by decide +kernel
theorem dX1_enter_15 : decode cX1_enter 15 = .ok (.aload_n 0, 1) := by decide +kernel
theorem dX1_enter_16 : decode cX1_enter 16 = .ok (.lload_n 1, 1) := by decide +kernel
theorem dX1_enter_17 : decode cX1_enter 17 = .ok (.invokevirtual 101, 3) := by decide +kernel
theorem dX1_enter_20 : decode cX1_enter 20 = .ok (.ifCond .eq 4, 3) := by decide +kernel
theorem dX1_enter_23 : decode cX1_enter 23 = .ok (.return_, 1) := by decide +kernel
theorem dX1_enter_24 : decode cX1_enter 24 = .ok (.aload_n 0, 1) := by decide +kernel
theorem dX1_enter_25 : decode cX1_enter 25 = .ok (.getfield 41, 3) := by decide +kernel
theorem dX1_enter_28 : decode cX1_enter 28 = .ok (.istore_n 3, 1) := by decide +kernel
theorem dX1_enter_29 : decode cX1_enter 29 = .ok (.iload_n 3, 1) := by decide +kernel
theorem dX1_enter_30 : decode cX1_enter 30 = .ok (.ifCond .le 36, 3) := by decide +kernel
theorem dX1_enter_33 : decode cX1_enter 33 = .ok (.aload_n 0, 1) := by decide +kernel
theorem dX1_enter_34 : decode cX1_enter 34 = .ok (.getfield 20, 3) := by decide +kernel
theorem dX1_enter_37 : decode cX1_enter 37 = .ok (.iload_n 3, 1) := by decide +kernel
theorem dX1_enter_38 : decode cX1_enter 38 = .ok (.iconst 1, 1) := by decide +kernel
theorem dX1_enter_39 : decode cX1_enter 39 = .ok (.isub, 1) := by decide +kernel
theorem dX1_enter_40 : decode cX1_enter 40 = .ok (.laload, 1) := by decide +kernel
theorem dX1_enter_41 : decode cX1_enter 41 = .ok (.lload_n 1, 1) := by decide +kernel
theorem dX1_enter_42 : decode cX1_enter 42 = .ok (.lcmp, 1) := by decide +kernel
theorem dX1_enter_43 : decode cX1_enter 43 = .ok (.ifCond .ge 23, 3) := by decide +kernel
theorem dX1_enter_46 : decode cX1_enter 46 = .ok (.aload_n 0, 1) := by decide +kernel
theorem dX1_enter_47 : decode cX1_enter 47 = .ok (.getfield 20, 3) := by decide +kernel
theorem dX1_enter_50 : decode cX1_enter 50 = .ok (.iload_n 3, 1) := by decide +kernel
theorem dX1_enter_51 : decode cX1_enter 51 = .ok (.aload_n 0, 1) := by decide +kernel
theorem dX1_enter_52 : decode cX1_enter 52 = .ok (.getfield 20, 3) := by decide +kernel
theorem dX1_enter_55 : decode cX1_enter 55 = .ok (.iload_n 3, 1) := by decide +kernel
theorem dX1_enter_56 : decode cX1_enter 56 = .ok (.iconst 1, 1) := by decide +kernel
theorem dX1_enter_57 : decode cX1_enter 57 = .ok (.isub, 1) := by decide +kernel
theorem dX1_enter_58 : decode cX1_enter 58 = .ok (.laload, 1) := by decide +kernel
theorem dX1_enter_59 : decode cX1_enter 59 = .ok (.lastore, 1) := by decide +kernel
theorem dX1_enter_60 : decode cX1_enter 60 = .ok (.iinc 3 (-1), 3) := by decide +kernel
theorem dX1_enter_63 : decode cX1_enter 63 = .ok (.goto (-34), 3) := by decide +kernel
theorem dX1_enter_66 : decode cX1_enter 66 = .ok (.aload_n 0, 1) := by decide +kernel
theorem dX1_enter_67 : decode cX1_enter 67 = .ok (.getfield 20, 3) := by decide +kernel
theorem dX1_enter_70 : decode cX1_enter 70 = .ok (.iload_n 3, 1) := by decide +kernel
theorem dX1_enter_71 : decode cX1_enter 71 = .ok (.lload_n 1, 1) := by decide +kernel
theorem dX1_enter_72 : decode cX1_enter 72 = .ok (.lastore, 1) := by decide +kernel
theorem dX1_enter_73 : decode cX1_enter 73 = .ok (.aload_n 0, 1) := by decide +kernel
theorem dX1_enter_74 : decode cX1_enter 74 = .ok (.dup, 1) := by decide +kernel
theorem dX1_enter_75 : decode cX1_enter 75 = .ok (.getfield 41, 3) := by decide +kernel
theorem dX1_enter_78 : decode cX1_enter 78 = .ok (.iconst 1, 1) := by decide +kernel
theorem dX1_enter_79 : decode cX1_enter 79 = .ok (.iadd, 1) := by decide +kernel
theorem dX1_enter_80 : decode cX1_enter 80 = .ok (.putfield 41, 3) := by decide +kernel
theorem dX1_enter_83 : decode cX1_enter 83 = .ok (.return_, 1) := by decide +kernel
theorem dX2_init_0 : decode cX2_init 0 = .ok (.aload_n 0, 1) := by decide +kernel
theorem dX2_init_1 : decode cX2_init 1 = .ok (.invokespecial 3, 3) := by decide +kernel
theorem dX2_init_4 : decode cX2_init 4 = .ok (.aload_n 0, 1) := by decide +kernel
theorem dX2_init_5 : decode cX2_init 5 = .ok (.new 9, 3) := by decide +kernel
theorem dX2_init_8 : decode cX2_init 8 = .ok (.dup, 1) := by decide +kernel
theorem dX2_init_9 : decode cX2_init 9 = .ok (.invokespecial 11, 3) := by decide +kernel
theorem dX2_init_12 : decode cX2_init 12 = .ok (.putfield 12, 3) := by decide +kernel
theorem dX2_init_15 : decode cX2_init 15 = .ok (.aload_n 0, 1) := by decide +kernel
theorem dX2_init_16 : decode cX2_init 16 = .ok (.sipush 1500, 3) := by decide +kernel
theorem dX2_init_19 : decode cX2_init 19 = .ok (.newarray .long, 2) := by decide +kernel
theorem dX2_init_21 : decode cX2_init 21 = .ok (.putfield 18, 3) := by decide +kernel
theorem dX2_init_24 : decode cX2_init 24 = .ok (.aload_n 0, 1) := by decide +kernel
theorem dX2_init_25 : decode cX2_init 25 = .ok (.sipush 1500, 3) := by decide +kernel
theorem dX2_init_28 : decode cX2_init 28 = .ok (.newarray .int, 2) := by decide +kernel
theorem dX2_init_30 : decode cX2_init 30 = .ok (.putfield 22, 3) := by decide +kernel
theorem dX2_init_33 : decode cX2_init 33 = .ok (.aload_n 0, 1) := by decide +kernel
theorem dX2_init_34 : decode cX2_init 34 = .ok (.sipush 4096, 3) := by decide +kernel
theorem dX2_init_37 : decode cX2_init 37 = .ok (.newarray .int, 2) := by decide +kernel
theorem dX2_init_39 : decode cX2_init 39 = .ok (.putfield 26, 3) := by decide +kernel
theorem dX2_init_42 : decode cX2_init 42 = .ok (.aload_n 0, 1) := by decide +kernel
theorem dX2_init_43 : decode cX2_init 43 = .ok (.iconst (-1), 1) := by decide +kernel
theorem dX2_init_44 : decode cX2_init 44 = .ok (.putfield 29, 3) := by decide +kernel
theorem dX2_init_47 : decode cX2_init 47 = .ok (.return_, 1) := by decide +kernel
theorem dX2_build_0 : decode cX2_build 0 = .ok (.aload_n 0, 1) := by decide +kernel
theorem dX2_build_1 : decode cX2_build 1 = .ok (.getfield 29, 3) := by decide +kernel
theorem dX2_build_4 : decode cX2_build 4 = .ok (.aload_n 1, 1) := by decide +kernel
theorem dX2_build_5 : decode cX2_build 5 = .ok (.getfield 33, 3) := by decide +kernel
theorem dX2_build_8 : decode cX2_build 8 = .ok (.if_icmp .eq 26, 3) := by decide +kernel
theorem dX2_build_11 : decode cX2_build 11 = .ok (.aload_n 0, 1) := by decide +kernel
theorem dX2_build_12 : decode cX2_build 12 = .ok (.aload_n 1, 1) := by decide +kernel
theorem dX2_build_13 : decode cX2_build 13 = .ok (.getfield 33, 3) := by decide +kernel
theorem dX2_build_16 : decode cX2_build 16 = .ok (.putfield 29, 3) := by decide +kernel
theorem dX2_build_19 : decode cX2_build 19 = .ok (.aload_n 0, 1) := by decide +kernel
theorem dX2_build_20 : decode cX2_build 20 = .ok (.getfield 12, 3) := by decide +kernel
theorem dX2_build_23 : decode cX2_build 23 = .ok (.aload_n 1, 1) := by decide +kernel
theorem dX2_build_24 : decode cX2_build 24 = .ok (.getfield 38, 3) := by decide +kernel
theorem dX2_build_27 : decode cX2_build 27 = .ok (.invokevirtual 42, 3) := by decide +kernel
theorem dX2_build_30 : decode cX2_build 30 = .ok (.aload_n 0, 1) := by decide +kernel
theorem dX2_build_31 : decode cX2_build 31 = .ok (.invokevirtual 46, 3) := by decide +kernel
theorem dX2_build_34 : decode cX2_build 34 = .ok (.aload_n 0, 1) := by decide +kernel
theorem dX2_build_35 : decode cX2_build 35 = .ok (.getfield 49, 3) := by decide +kernel
theorem dX2_build_38 : decode cX2_build 38 = .ok (.ifCond .ne 7, 3) := by decide +kernel
theorem dX2_build_41 : decode cX2_build 41 = .ok (.iconst 1, 1) := by decide +kernel
theorem dX2_build_42 : decode cX2_build 42 = .ok (.goto 4, 3) := by decide +kernel
theorem dX2_build_45 : decode cX2_build 45 = .ok (.iconst 0, 1) := by decide +kernel
theorem dX2_build_46 : decode cX2_build 46 = .ok (.ireturn, 1) := by decide +kernel
theorem dX2_farthest_0 : decode cX2_farthest 0 = .ok (.aload_n 0, 1) := by decide +kernel
theorem dX2_farthest_1 : decode cX2_farthest 1 = .ok (.aload_n 0, 1) := by decide +kernel
theorem dX2_farthest_2 : decode cX2_farthest 2 = .ok (.getfield 53, 3) := by decide +kernel
theorem dX2_farthest_5 : decode cX2_farthest 5 = .ok (.iconst 1, 1) := by decide +kernel
theorem dX2_farthest_6 : decode cX2_farthest 6 = .ok (.isub, 1) := by decide +kernel
theorem dX2_farthest_7 : decode cX2_farthest 7 = .ok (.invokevirtual 56, 3) := by decide +kernel
theorem dX2_farthest_10 : decode cX2_farthest 10 = .ok (.ireturn, 1) := by decide +kernel
theorem dX2_farOf_0 : decode cX2_farOf 0 = .ok (.iload_n 1, 1) := by decide +kernel
theorem dX2_farOf_1 : decode cX2_farOf 1 = .ok (.ifCond .lt 21, 3) := by decide +kernel
theorem dX2_farOf_4 : decode cX2_farOf 4 = .ok (.iload_n 1, 1) := by decide +kernel
theorem dX2_farOf_5 : decode cX2_farOf 5 = .ok (.aload_n 0, 1) := by decide +kernel
theorem dX2_farOf_6 : decode cX2_farOf 6 = .ok (.getfield 22, 3) := by decide +kernel
theorem dX2_farOf_9 : decode cX2_farOf 9 = .ok (.arraylength, 1) := by decide +kernel
theorem dX2_farOf_10 : decode cX2_farOf 10 = .ok (.if_icmp .ge 12, 3) := by decide +kernel
theorem dX2_farOf_13 : decode cX2_farOf 13 = .ok (.aload_n 0, 1) := by decide +kernel
theorem dX2_farOf_14 : decode cX2_farOf 14 = .ok (.getfield 22, 3) := by decide +kernel
theorem dX2_farOf_17 : decode cX2_farOf 17 = .ok (.iload_n 1, 1) := by decide +kernel
theorem dX2_farOf_18 : decode cX2_farOf 18 = .ok (.iaload, 1) := by decide +kernel
theorem dX2_farOf_19 : decode cX2_farOf 19 = .ok (.goto 4, 3) := by decide +kernel
theorem dX2_farOf_22 : decode cX2_farOf 22 = .ok (.iconst 0, 1) := by decide +kernel
theorem dX2_farOf_23 : decode cX2_farOf 23 = .ok (.ireturn, 1) := by decide +kernel
theorem dX2_flipsOf_0 : decode cX2_flipsOf 0 = .ok (.iconst 0, 1) := by decide +kernel
theorem dX2_flipsOf_1 : decode cX2_flipsOf 1 = .ok (.istore_n 2, 1) := by decide +kernel
theorem dX2_flipsOf_2 : decode cX2_flipsOf 2 = .ok (.iconst 0, 1) := by decide +kernel
theorem dX2_flipsOf_3 : decode cX2_flipsOf 3 = .ok (.istore_n 3, 1) := by decide +kernel
theorem dX2_flipsOf_4 : decode cX2_flipsOf 4 = .ok (.iload_n 3, 1) := by decide +kernel
theorem dX2_flipsOf_5 : decode cX2_flipsOf 5 = .ok (.aload_n 0, 1) := by decide +kernel
theorem dX2_flipsOf_6 : decode cX2_flipsOf 6 = .ok (.getfield 12, 3) := by decide +kernel
theorem dX2_flipsOf_9 : decode cX2_flipsOf 9 = .ok (.getfield 60, 3) := by decide +kernel
theorem dX2_flipsOf_12 : decode cX2_flipsOf 12 = .ok (.if_icmp .ge 30, 3) := by decide +kernel
theorem dX2_flipsOf_15 : decode cX2_flipsOf 15 = .ok (.aload_n 0, 1) := by decide +kernel
theorem dX2_flipsOf_16 : decode cX2_flipsOf 16 = .ok (.getfield 12, 3) := by decide +kernel
theorem dX2_flipsOf_19 : decode cX2_flipsOf 19 = .ok (.aload_n 0, 1) := by decide +kernel
theorem dX2_flipsOf_20 : decode cX2_flipsOf 20 = .ok (.iload_n 1, 1) := by decide +kernel
theorem dX2_flipsOf_21 : decode cX2_flipsOf 21 = .ok (.invokevirtual 63, 3) := by decide +kernel
theorem dX2_flipsOf_24 : decode cX2_flipsOf 24 = .ok (.iload_n 3, 1) := by decide +kernel
theorem dX2_flipsOf_25 : decode cX2_flipsOf 25 = .ok (.invokevirtual 67, 3) := by decide +kernel
theorem dX2_flipsOf_28 : decode cX2_flipsOf 28 = .ok (.lconst 0, 1) := by decide +kernel
theorem dX2_flipsOf_29 : decode cX2_flipsOf 29 = .ok (.lcmp, 1) := by decide +kernel
theorem dX2_flipsOf_30 : decode cX2_flipsOf 30 = .ok (.ifCond .eq 6, 3) := by decide +kernel
theorem dX2_flipsOf_33 : decode cX2_flipsOf 33 = .ok (.iinc 2 1, 3) := by decide +kernel
theorem dX2_flipsOf_36 : decode cX2_flipsOf 36 = .ok (.iinc 3 1, 3) := by decide +kernel
theorem dX2_flipsOf_39 : decode cX2_flipsOf 39 = .ok (.goto (-35), 3) := by decide +kernel
theorem dX2_flipsOf_42 : decode cX2_flipsOf 42 = .ok (.iload_n 2, 1) := by decide +kernel
theorem dX2_flipsOf_43 : decode cX2_flipsOf 43 = .ok (.ireturn, 1) := by decide +kernel
theorem dX2_segmentAt_0 : decode cX2_segmentAt 0 = .ok (.iload_n 2, 1) := by decide +kernel
theorem dX2_segmentAt_1 : decode cX2_segmentAt 1 = .ok (.istore_n 3, 1) := by decide +kernel
theorem dX2_segmentAt_2 : decode cX2_segmentAt 2 = .ok (.iconst 0, 1) := by decide +kernel
theorem dX2_segmentAt_3 : decode cX2_segmentAt 3 = .ok (.istore 4, 2) := by decide +kernel
theorem dX2_segmentAt_5 : decode cX2_segmentAt 5 = .ok (.iload 4, 2) := by decide +kernel
theorem dX2_segmentAt_7 : decode cX2_segmentAt 7 = .ok (.aload_n 0, 1) := by decide +kernel
theorem dX2_segmentAt_8 : decode cX2_segmentAt 8 = .ok (.getfield 12, 3) := by decide +kernel
theorem dX2_segmentAt_11 : decode cX2_segmentAt 11 = .ok (.getfield 71, 3) := by decide +kernel
theorem dX2_segmentAt_14 : decode cX2_segmentAt 14 = .ok (.if_icmp .ge 41, 3) := by decide +kernel
theorem dX2_segmentAt_17 : decode cX2_segmentAt 17 = .ok (.aload_n 0, 1) := by decide +kernel
theorem dX2_segmentAt_18 : decode cX2_segmentAt 18 = .ok (.iload_n 1, 1) := by decide +kernel
theorem dX2_segmentAt_19 : decode cX2_segmentAt 19 = .ok (.invokevirtual 63, 3) := by decide +kernel
theorem dX2_segmentAt_22 : decode cX2_segmentAt 22 = .ok (.iload 4, 2) := by decide +kernel
theorem dX2_segmentAt_24 : decode cX2_segmentAt 24 = .ok (.lushr, 1) := by decide +kernel
theorem dX2_segmentAt_25 : decode cX2_segmentAt 25 = .ok (.lconst 1, 1) := by decide +kernel
theorem dX2_segmentAt_26 : decode cX2_segmentAt 26 = .ok (.land, 1) := by decide +kernel
theorem dX2_segmentAt_27 : decode cX2_segmentAt 27 = .ok (.lconst 1, 1) := by decide +kernel
theorem dX2_segmentAt_28 : decode cX2_segmentAt 28 = .ok (.lcmp, 1) := by decide +kernel
theorem dX2_segmentAt_29 : decode cX2_segmentAt 29 = .ok (.ifCond .ne 20, 3) := by decide +kernel
theorem dX2_segmentAt_32 : decode cX2_segmentAt 32 = .ok (.iload_n 3, 1) := by decide +kernel
theorem dX2_segmentAt_33 : decode cX2_segmentAt 33 = .ok (.ifCond .ne 13, 3) := by decide +kernel
theorem dX2_segmentAt_36 : decode cX2_segmentAt 36 = .ok (.aload_n 0, 1) := by decide +kernel
theorem dX2_segmentAt_37 : decode cX2_segmentAt 37 = .ok (.getfield 12, 3) := by decide +kernel
theorem dX2_segmentAt_40 : decode cX2_segmentAt 40 = .ok (.iload 4, 2) := by decide +kernel
theorem dX2_segmentAt_42 : decode cX2_segmentAt 42 = .ok (.invokevirtual 72, 3) := by decide +kernel
theorem dX2_segmentAt_45 : decode cX2_segmentAt 45 = .ok (.ireturn, 1) := by decide +kernel
theorem dX2_segmentAt_46 : decode cX2_segmentAt 46 = .ok (.iinc 3 (-1), 3) := by decide +kernel
theorem dX2_segmentAt_49 : decode cX2_segmentAt 49 = .ok (.iinc 4 1, 3) := by decide +kernel
theorem dX2_segmentAt_52 : decode cX2_segmentAt 52 = .ok (.goto (-47), 3) := by decide +kernel
theorem dX2_segmentAt_55 : decode cX2_segmentAt 55 = .ok (.iconst (-1), 1) := by decide +kernel
theorem dX2_segmentAt_56 : decode cX2_segmentAt 56 = .ok (.ireturn, 1) := by decide +kernel
theorem dX2_setOf_0 : decode cX2_setOf 0 = .ok (.iload_n 1, 1) := by decide +kernel
theorem dX2_setOf_1 : decode cX2_setOf 1 = .ok (.ifCond .lt 21, 3) := by decide +kernel
theorem dX2_setOf_4 : decode cX2_setOf 4 = .ok (.iload_n 1, 1) := by decide +kernel
theorem dX2_setOf_5 : decode cX2_setOf 5 = .ok (.aload_n 0, 1) := by decide +kernel
theorem dX2_setOf_6 : decode cX2_setOf 6 = .ok (.getfield 18, 3) := by decide +kernel
theorem dX2_setOf_9 : decode cX2_setOf 9 = .ok (.arraylength, 1) := by decide +kernel
theorem dX2_setOf_10 : decode cX2_setOf 10 = .ok (.if_icmp .ge 12, 3) := by decide +kernel
theorem dX2_setOf_13 : decode cX2_setOf 13 = .ok (.aload_n 0, 1) := by decide +kernel
theorem dX2_setOf_14 : decode cX2_setOf 14 = .ok (.getfield 18, 3) := by decide +kernel
theorem dX2_setOf_17 : decode cX2_setOf 17 = .ok (.iload_n 1, 1) := by decide +kernel
theorem dX2_setOf_18 : decode cX2_setOf 18 = .ok (.laload, 1) := by decide +kernel
theorem dX2_setOf_19 : decode cX2_setOf 19 = .ok (.goto 4, 3) := by decide +kernel
theorem dX2_setOf_22 : decode cX2_setOf 22 = .ok (.lconst 0, 1) := by decide +kernel
theorem dX2_setOf_23 : decode cX2_setOf 23 = .ok (.lreturn, 1) := by decide +kernel
theorem dX2_search_0 : decode cX2_search 0 = .ok (.aload_n 0, 1) := by decide +kernel
theorem dX2_search_1 : decode cX2_search 1 = .ok (.getfield 26, 3) := by decide +kernel
theorem dX2_search_4 : decode cX2_search 4 = .ok (.iconst 0, 1) := by decide +kernel
theorem dX2_search_5 : decode cX2_search 5 = .ok (.invokestatic 75, 3) := by decide +kernel
theorem dX2_search_8 : decode cX2_search 8 = .ok (.aload_n 0, 1) := by decide +kernel
theorem dX2_search_9 : decode cX2_search 9 = .ok (.iconst 0, 1) := by decide +kernel
theorem dX2_search_10 : decode cX2_search 10 = .ok (.putfield 53, 3) := by decide +kernel
theorem dX2_search_13 : decode cX2_search 13 = .ok (.aload_n 0, 1) := by decide +kernel
theorem dX2_search_14 : decode cX2_search 14 = .ok (.iconst 0, 1) := by decide +kernel
theorem dX2_search_15 : decode cX2_search 15 = .ok (.putfield 49, 3) := by decide +kernel
theorem dX2_search_18 : decode cX2_search 18 = .ok (.aload_n 0, 1) := by decide +kernel
theorem dX2_search_19 : decode cX2_search 19 = .ok (.aload_n 0, 1) := by decide +kernel
theorem dX2_search_20 : decode cX2_search 20 = .ok (.getfield 12, 3) := by decide +kernel
theorem dX2_search_23 : decode cX2_search 23 = .ok (.invokevirtual 81, 3) := by decide +kernel
theorem dX2_search_26 : decode cX2_search 26 = .ok (.iconst 0, 1) := by decide +kernel
theorem dX2_search_27 : decode cX2_search 27 = .ok (.invokevirtual 85, 3) := by decide +kernel
theorem dX2_search_30 : decode cX2_search 30 = .ok (.iconst 0, 1) := by decide +kernel
theorem dX2_search_31 : decode cX2_search 31 = .ok (.istore_n 1, 1) := by decide +kernel
theorem dX2_search_32 : decode cX2_search 32 = .ok (.iload_n 1, 1) := by decide +kernel
theorem dX2_search_33 : decode cX2_search 33 = .ok (.aload_n 0, 1) := by decide +kernel
theorem dX2_search_34 : decode cX2_search 34 = .ok (.getfield 53, 3) := by decide +kernel
theorem dX2_search_37 : decode cX2_search 37 = .ok (.if_icmp .ge 74, 3) := by decide +kernel
theorem dX2_search_40 : decode cX2_search 40 = .ok (.aload_n 0, 1) := by decide +kernel
theorem dX2_search_41 : decode cX2_search 41 = .ok (.getfield 49, 3) := by decide +kernel
theorem dX2_search_44 : decode cX2_search 44 = .ok (.ifCond .ne 67, 3) := by decide +kernel
theorem dX2_search_47 : decode cX2_search 47 = .ok (.iconst 0, 1) := by decide +kernel
theorem dX2_search_48 : decode cX2_search 48 = .ok (.istore_n 2, 1) := by decide +kernel
theorem dX2_search_49 : decode cX2_search 49 = .ok (.iload_n 2, 1) := by decide +kernel
theorem dX2_search_50 : decode cX2_search 50 = .ok (.aload_n 0, 1) := by decide +kernel
theorem dX2_search_51 : decode cX2_search 51 = .ok (.getfield 12, 3) := by decide +kernel
theorem dX2_search_54 : decode cX2_search 54 = .ok (.getfield 60, 3) := by decide +kernel
theorem dX2_search_57 : decode cX2_search 57 = .ok (.if_icmp .ge 48, 3) := by decide +kernel
theorem dX2_search_60 : decode cX2_search 60 = .ok (.aload_n 0, 1) := by decide +kernel
theorem dX2_search_61 : decode cX2_search 61 = .ok (.getfield 49, 3) := by decide +kernel
theorem dX2_search_64 : decode cX2_search 64 = .ok (.ifCond .ne 41, 3) := by decide +kernel
theorem dX2_search_67 : decode cX2_search 67 = .ok (.aload_n 0, 1) := by decide +kernel
theorem dX2_search_68 : decode cX2_search 68 = .ok (.getfield 12, 3) := by decide +kernel
theorem dX2_search_71 : decode cX2_search 71 = .ok (.aload_n 0, 1) := by decide +kernel
theorem dX2_search_72 : decode cX2_search 72 = .ok (.iload_n 1, 1) := by decide +kernel
theorem dX2_search_73 : decode cX2_search 73 = .ok (.invokevirtual 63, 3) := by decide +kernel
theorem dX2_search_76 : decode cX2_search 76 = .ok (.iload_n 2, 1) := by decide +kernel
theorem dX2_search_77 : decode cX2_search 77 = .ok (.invokevirtual 67, 3) := by decide +kernel
theorem dX2_search_80 : decode cX2_search 80 = .ok (.lstore_n 3, 1) := by decide +kernel
theorem dX2_search_81 : decode cX2_search 81 = .ok (.lload_n 3, 1) := by decide +kernel
theorem dX2_search_82 : decode cX2_search 82 = .ok (.lconst 0, 1) := by decide +kernel
theorem dX2_search_83 : decode cX2_search 83 = .ok (.lcmp, 1) := by decide +kernel
theorem dX2_search_84 : decode cX2_search 84 = .ok (.ifCond .eq 15, 3) := by decide +kernel
theorem dX2_search_87 : decode cX2_search 87 = .ok (.aload_n 0, 1) := by decide +kernel
theorem dX2_search_88 : decode cX2_search 88 = .ok (.lload_n 3, 1) := by decide +kernel
theorem dX2_search_89 : decode cX2_search 89 = .ok (.aload_n 0, 1) := by decide +kernel
theorem dX2_search_90 : decode cX2_search 90 = .ok (.iload_n 1, 1) := by decide +kernel
theorem dX2_search_91 : decode cX2_search 91 = .ok (.invokevirtual 56, 3) := by decide +kernel
theorem dX2_search_94 : decode cX2_search 94 = .ok (.iconst 1, 1) := by decide +kernel
theorem dX2_search_95 : decode cX2_search 95 = .ok (.iadd, 1) := by decide +kernel
theorem dX2_search_96 : decode cX2_search 96 = .ok (.invokevirtual 85, 3) := by decide +kernel
theorem dX2_search_99 : decode cX2_search 99 = .ok (.iinc 2 1, 3) := by decide +kernel
theorem dX2_search_102 : decode cX2_search 102 = .ok (.goto (-53), 3) := by decide +kernel
theorem dX2_search_105 : decode cX2_search 105 = .ok (.iinc 1 1, 3) := by decide +kernel
theorem dX2_search_108 : decode cX2_search 108 = .ok (.goto (-76), 3) := by decide +kernel
theorem dX2_search_111 : decode cX2_search 111 = .ok (.return_, 1) := by decide +kernel
theorem dX2_enter_0 : decode cX2_enter 0 = .ok (.lload_n 1, 1) := by decide +kernel
theorem dX2_enter_1 : decode cX2_enter 1 = .ok (.ldc2_w 89, 3) := by decide +kernel
theorem dX2_enter_4 : decode cX2_enter 4 = .ok (.lmul, 1) := by decide +kernel
theorem dX2_enter_5 : decode cX2_enter 5 = .ok (.bipush 52, 2) := by decide +kernel
theorem dX2_enter_7 : decode cX2_enter 7 = .ok (.lushr, 1) := by decide +kernel
theorem dX2_enter_8 : decode cX2_enter 8 = .ok (.l2i, 1) := by decide +kernel
theorem dX2_enter_9 : decode cX2_enter 9 = .ok (.sipush 4095, 3) := by decide +kernel
theorem dX2_enter_12 : decode cX2_enter 12 = .ok (.iand, 1) := by decide +kernel
theorem dX2_enter_13 : decode cX2_enter 13 = .ok (.istore 4, 2) := by decide +kernel
theorem dX2_enter_15 : decode cX2_enter 15 = .ok (.iconst 0, 1) := by decide +kernel
theorem dX2_enter_16 : decode cX2_enter 16 = .ok (.istore 5, 2) := by decide +kernel
theorem dX2_enter_18 : decode cX2_enter 18 = .ok (.iload 5, 2) := by decide +kernel
theorem dX2_enter_20 : decode cX2_enter 20 = .ok (.sipush 4096, 3) := by decide +kernel
theorem dX2_enter_23 : decode cX2_enter 23 = .ok (.if_icmp .ge 48, 3) := by decide +kernel
theorem dX2_enter_26 : decode cX2_enter 26 = .ok (.aload_n 0, 1) := by decide +kernel
theorem dX2_enter_27 : decode cX2_enter 27 = .ok (.getfield 26, 3) := by decide +kernel
theorem dX2_enter_30 : decode cX2_enter 30 = .ok (.iload 4, 2) := by decide +kernel
theorem dX2_enter_32 : decode cX2_enter 32 = .ok (.iaload, 1) := by decide +kernel
theorem dX2_enter_33 : decode cX2_enter 33 = .ok (.ifCond .eq 38, 3) := by decide +kernel
theorem dX2_enter_36 : decode cX2_enter 36 = .ok (.aload_n 0, 1) := by decide +kernel
theorem dX2_enter_37 : decode cX2_enter 37 = .ok (.aload_n 0, 1) := by decide +kernel
theorem dX2_enter_38 : decode cX2_enter 38 = .ok (.getfield 26, 3) := by decide +kernel
theorem dX2_enter_41 : decode cX2_enter 41 = .ok (.iload 4, 2) := by decide +kernel
theorem dX2_enter_43 : decode cX2_enter 43 = .ok (.iaload, 1) := by decide +kernel
theorem dX2_enter_44 : decode cX2_enter 44 = .ok (.iconst 1, 1) := by decide +kernel
theorem dX2_enter_45 : decode cX2_enter 45 = .ok (.isub, 1) := by decide +kernel
theorem dX2_enter_46 : decode cX2_enter 46 = .ok (.invokevirtual 63, 3) := by decide +kernel
theorem dX2_enter_49 : decode cX2_enter 49 = .ok (.lload_n 1, 1) := by decide +kernel
theorem dX2_enter_50 : decode cX2_enter 50 = .ok (.lcmp, 1) := by decide +kernel
theorem dX2_enter_51 : decode cX2_enter 51 = .ok (.ifCond .ne 4, 3) := by decide +kernel
theorem dX2_enter_54 : decode cX2_enter 54 = .ok (.return_, 1) := by decide +kernel
theorem dX2_enter_55 : decode cX2_enter 55 = .ok (.iload 4, 2) := by decide +kernel
theorem dX2_enter_57 : decode cX2_enter 57 = .ok (.iconst 1, 1) := by decide +kernel
theorem dX2_enter_58 : decode cX2_enter 58 = .ok (.iadd, 1) := by decide +kernel
theorem dX2_enter_59 : decode cX2_enter 59 = .ok (.sipush 4095, 3) := by decide +kernel
theorem dX2_enter_62 : decode cX2_enter 62 = .ok (.iand, 1) := by decide +kernel
theorem dX2_enter_63 : decode cX2_enter 63 = .ok (.istore 4, 2) := by decide +kernel
theorem dX2_enter_65 : decode cX2_enter 65 = .ok (.iinc 5 1, 3) := by decide +kernel
theorem dX2_enter_68 : decode cX2_enter 68 = .ok (.goto (-50), 3) := by decide +kernel
theorem dX2_enter_71 : decode cX2_enter 71 = .ok (.aload_n 0, 1) := by decide +kernel
theorem dX2_enter_72 : decode cX2_enter 72 = .ok (.getfield 53, 3) := by decide +kernel
theorem dX2_enter_75 : decode cX2_enter 75 = .ok (.sipush 1500, 3) := by decide +kernel
theorem dX2_enter_78 : decode cX2_enter 78 = .ok (.if_icmp .lt 9, 3) := by decide +kernel
theorem dX2_enter_81 : decode cX2_enter 81 = .ok (.aload_n 0, 1) := by decide +kernel
theorem dX2_enter_82 : decode cX2_enter 82 = .ok (.iconst 1, 1) := by decide +kernel
theorem dX2_enter_83 : decode cX2_enter 83 = .ok (.putfield 49, 3) := by decide +kernel
theorem dX2_enter_86 : decode cX2_enter 86 = .ok (.return_, 1) := by decide +kernel
theorem dX2_enter_87 : decode cX2_enter 87 = .ok (.aload_n 0, 1) := by decide +kernel
theorem dX2_enter_88 : decode cX2_enter 88 = .ok (.getfield 18, 3) := by decide +kernel
theorem dX2_enter_91 : decode cX2_enter 91 = .ok (.aload_n 0, 1) := by decide +kernel
theorem dX2_enter_92 : decode cX2_enter 92 = .ok (.getfield 53, 3) := by decide +kernel
theorem dX2_enter_95 : decode cX2_enter 95 = .ok (.lload_n 1, 1) := by decide +kernel
theorem dX2_enter_96 : decode cX2_enter 96 = .ok (.lastore, 1) := by decide +kernel
theorem dX2_enter_97 : decode cX2_enter 97 = .ok (.aload_n 0, 1) := by decide +kernel
theorem dX2_enter_98 : decode cX2_enter 98 = .ok (.getfield 22, 3) := by decide +kernel
theorem dX2_enter_101 : decode cX2_enter 101 = .ok (.aload_n 0, 1) := by decide +kernel
theorem dX2_enter_102 : decode cX2_enter 102 = .ok (.getfield 53, 3) := by decide +kernel
theorem dX2_enter_105 : decode cX2_enter 105 = .ok (.iload_n 3, 1) := by decide +kernel
theorem dX2_enter_106 : decode cX2_enter 106 = .ok (.iastore, 1) := by decide +kernel
theorem dX2_enter_107 : decode cX2_enter 107 = .ok (.aload_n 0, 1) := by decide +kernel
theorem dX2_enter_108 : decode cX2_enter 108 = .ok (.dup, 1) := by decide +kernel
theorem dX2_enter_109 : decode cX2_enter 109 = .ok (.getfield 53, 3) := by decide +kernel
theorem dX2_enter_112 : decode cX2_enter 112 = .ok (.iconst 1, 1) := by decide +kernel
theorem dX2_enter_113 : decode cX2_enter 113 = .ok (.iadd, 1) := by decide +kernel
theorem dX2_enter_114 : decode cX2_enter 114 = .ok (.putfield 53, 3) := by decide +kernel
theorem dX2_enter_117 : decode cX2_enter 117 = .ok (.aload_n 0, 1) := by decide +kernel
theorem dX2_enter_118 : decode cX2_enter 118 = .ok (.getfield 26, 3) := by decide +kernel
theorem dX2_enter_121 : decode cX2_enter 121 = .ok (.iload 4, 2) := by decide +kernel
theorem dX2_enter_123 : decode cX2_enter 123 = .ok (.aload_n 0, 1) := by decide +kernel
theorem dX2_enter_124 : decode cX2_enter 124 = .ok (.getfield 53, 3) := by decide +kernel
theorem dX2_enter_127 : decode cX2_enter 127 = .ok (.iastore, 1) := by decide +kernel
theorem dX2_enter_128 : decode cX2_enter 128 = .ok (.return_, 1) := by decide +kernel
theorem dX3_init_0 : decode cX3_init 0 = .ok (.aload_n 0, 1) := by decide +kernel
theorem dX3_init_1 : decode cX3_init 1 = .ok (.invokespecial 3, 3) := by decide +kernel
theorem dX3_init_4 : decode cX3_init 4 = .ok (.aload_n 0, 1) := by decide +kernel
theorem dX3_init_5 : decode cX3_init 5 = .ok (.sipush 161, 3) := by decide +kernel
theorem dX3_init_8 : decode cX3_init 8 = .ok (.newarray .int, 2) := by decide +kernel
theorem dX3_init_10 : decode cX3_init 10 = .ok (.putfield 9, 3) := by decide +kernel
theorem dX3_init_13 : decode cX3_init 13 = .ok (.aload_n 0, 1) := by decide +kernel
theorem dX3_init_14 : decode cX3_init 14 = .ok (.sipush 161, 3) := by decide +kernel
theorem dX3_init_17 : decode cX3_init 17 = .ok (.newarray .int, 2) := by decide +kernel
theorem dX3_init_19 : decode cX3_init 19 = .ok (.putfield 15, 3) := by decide +kernel
theorem dX3_init_22 : decode cX3_init 22 = .ok (.aload_n 0, 1) := by decide +kernel
theorem dX3_init_23 : decode cX3_init 23 = .ok (.new 18, 3) := by decide +kernel
theorem dX3_init_26 : decode cX3_init 26 = .ok (.dup, 1) := by decide +kernel
theorem dX3_init_27 : decode cX3_init 27 = .ok (.sipush 323, 3) := by decide +kernel
theorem dX3_init_30 : decode cX3_init 30 = .ok (.invokespecial 20, 3) := by decide +kernel
theorem dX3_init_33 : decode cX3_init 33 = .ok (.putfield 23, 3) := by decide +kernel
theorem dX3_init_36 : decode cX3_init 36 = .ok (.return_, 1) := by decide +kernel
theorem dX3_begin_0 : decode cX3_begin 0 = .ok (.aload_n 0, 1) := by decide +kernel
theorem dX3_begin_1 : decode cX3_begin 1 = .ok (.getfield 9, 3) := by decide +kernel
theorem dX3_begin_4 : decode cX3_begin 4 = .ok (.bipush 81, 2) := by decide +kernel
theorem dX3_begin_6 : decode cX3_begin 6 = .ok (.invokestatic 27, 3) := by decide +kernel
theorem dX3_begin_9 : decode cX3_begin 9 = .ok (.aload_n 0, 1) := by decide +kernel
theorem dX3_begin_10 : decode cX3_begin 10 = .ok (.getfield 15, 3) := by decide +kernel
theorem dX3_begin_13 : decode cX3_begin 13 = .ok (.bipush (-81), 2) := by decide +kernel
theorem dX3_begin_15 : decode cX3_begin 15 = .ok (.invokestatic 27, 3) := by decide +kernel
theorem dX3_begin_18 : decode cX3_begin 18 = .ok (.return_, 1) := by decide +kernel
theorem dX3_take_0 : decode cX3_take 0 = .ok (.iload_n 1, 1) := by decide +kernel
theorem dX3_take_1 : decode cX3_take 1 = .ok (.bipush 80, 2) := by decide +kernel
theorem dX3_take_3 : decode cX3_take 3 = .ok (.iadd, 1) := by decide +kernel
theorem dX3_take_4 : decode cX3_take 4 = .ok (.istore_n 3, 1) := by decide +kernel
theorem dX3_take_5 : decode cX3_take 5 = .ok (.iload_n 3, 1) := by decide +kernel
theorem dX3_take_6 : decode cX3_take 6 = .ok (.ifCond .lt 22, 3) := by decide +kernel
theorem dX3_take_9 : decode cX3_take 9 = .ok (.iload_n 3, 1) := by decide +kernel
theorem dX3_take_10 : decode cX3_take 10 = .ok (.sipush 161, 3) := by decide +kernel
theorem dX3_take_13 : decode cX3_take 13 = .ok (.if_icmp .ge 15, 3) := by decide +kernel
theorem dX3_take_16 : decode cX3_take 16 = .ok (.iload_n 2, 1) := by decide +kernel
theorem dX3_take_17 : decode cX3_take 17 = .ok (.bipush (-80), 2) := by decide +kernel
theorem dX3_take_19 : decode cX3_take 19 = .ok (.if_icmp .lt 9, 3) := by decide +kernel
theorem dX3_take_22 : decode cX3_take 22 = .ok (.iload_n 2, 1) := by decide +kernel
theorem dX3_take_23 : decode cX3_take 23 = .ok (.bipush 80, 2) := by decide +kernel
theorem dX3_take_25 : decode cX3_take 25 = .ok (.if_icmp .le 4, 3) := by decide +kernel
theorem dX3_take_28 : decode cX3_take 28 = .ok (.return_, 1) := by decide +kernel
theorem dX3_take_29 : decode cX3_take 29 = .ok (.aload_n 0, 1) := by decide +kernel
theorem dX3_take_30 : decode cX3_take 30 = .ok (.getfield 9, 3) := by decide +kernel
theorem dX3_take_33 : decode cX3_take 33 = .ok (.iload_n 3, 1) := by decide +kernel
theorem dX3_take_34 : decode cX3_take 34 = .ok (.aload_n 0, 1) := by decide +kernel
theorem dX3_take_35 : decode cX3_take 35 = .ok (.getfield 9, 3) := by decide +kernel
theorem dX3_take_38 : decode cX3_take 38 = .ok (.iload_n 3, 1) := by decide +kernel
theorem dX3_take_39 : decode cX3_take 39 = .ok (.iaload, 1) := by decide +kernel
theorem dX3_take_40 : decode cX3_take 40 = .ok (.iload_n 2, 1) := by decide +kernel
theorem dX3_take_41 : decode cX3_take 41 = .ok (.invokestatic 33, 3) := by decide +kernel
theorem dX3_take_44 : decode cX3_take 44 = .ok (.iastore, 1) := by decide +kernel
theorem dX3_take_45 : decode cX3_take 45 = .ok (.aload_n 0, 1) := by decide +kernel
theorem dX3_take_46 : decode cX3_take 46 = .ok (.getfield 15, 3) := by decide +kernel
theorem dX3_take_49 : decode cX3_take 49 = .ok (.iload_n 3, 1) := by decide +kernel
theorem dX3_take_50 : decode cX3_take 50 = .ok (.aload_n 0, 1) := by decide +kernel
theorem dX3_take_51 : decode cX3_take 51 = .ok (.getfield 15, 3) := by decide +kernel
