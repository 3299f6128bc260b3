theorem dX11_cuts_61 : decode cX11_cuts 61 = .ok (.ireturn, 1) := by decide +kernel
theorem dX11_cuts_62 : decode cX11_cuts 62 = .ok (.aload_n 0, 1) := by decide +kernel
theorem dX11_cuts_63 : decode cX11_cuts 63 = .ok (.getfield 47, 3) := by decide +kernel
theorem dX11_cuts_66 : decode cX11_cuts 66 = .ok (.aload_n 3, 1) := by decide +kernel
theorem dX11_cuts_67 : decode cX11_cuts 67 = .ok (.invokevirtual 227, 3) := by decide +kernel
theorem dX11_cuts_70 : decode cX11_cuts 70 = .ok (.ifCond .ne 6, 3) := by decide +kernel
theorem dX11_cuts_73 : decode cX11_cuts 73 = .ok (.bipush (-5), 2) := by decide +kernel
theorem dX11_cuts_75 : decode cX11_cuts 75 = .ok (.ireturn, 1) := by decide +kernel
theorem dX11_cuts_76 : decode cX11_cuts 76 = .ok (.iload_n 2, 1) := by decide +kernel
theorem dX11_cuts_77 : decode cX11_cuts 77 = .ok (.ifCond .ne 13, 3) := by decide +kernel
theorem dX11_cuts_80 : decode cX11_cuts 80 = .ok (.aload_n 0, 1) := by decide +kernel
theorem dX11_cuts_81 : decode cX11_cuts 81 = .ok (.getfield 47, 3) := by decide +kernel
theorem dX11_cuts_84 : decode cX11_cuts 84 = .ok (.getfield 231, 3) := by decide +kernel
theorem dX11_cuts_87 : decode cX11_cuts 87 = .ok (.goto 10, 3) := by decide +kernel
theorem dX11_cuts_90 : decode cX11_cuts 90 = .ok (.aload_n 0, 1) := by decide +kernel
theorem dX11_cuts_91 : decode cX11_cuts 91 = .ok (.getfield 47, 3) := by decide +kernel
theorem dX11_cuts_94 : decode cX11_cuts 94 = .ok (.invokevirtual 232, 3) := by decide +kernel
theorem dX11_cuts_97 : decode cX11_cuts 97 = .ok (.ireturn, 1) := by decide +kernel
theorem dX11_cut_0 : decode cX11_cut 0 = .ok (.aload_n 0, 1) := by decide +kernel
theorem dX11_cut_1 : decode cX11_cut 1 = .ok (.iload_n 1, 1) := by decide +kernel
theorem dX11_cut_2 : decode cX11_cut 2 = .ok (.invokevirtual 58, 3) := by decide +kernel
theorem dX11_cut_5 : decode cX11_cut 5 = .ok (.astore 4, 2) := by decide +kernel
theorem dX11_cut_7 : decode cX11_cut 7 = .ok (.aload 4, 2) := by decide +kernel
theorem dX11_cut_9 : decode cX11_cut 9 = .ok (.ifnull 12, 3) := by decide +kernel
theorem dX11_cut_12 : decode cX11_cut 12 = .ok (.iload_n 2, 1) := by decide +kernel
theorem dX11_cut_13 : decode cX11_cut 13 = .ok (.ifCond .lt 8, 3) := by decide +kernel
theorem dX11_cut_16 : decode cX11_cut 16 = .ok (.iload_n 3, 1) := by decide +kernel
theorem dX11_cut_17 : decode cX11_cut 17 = .ok (.iconst (-1), 1) := by decide +kernel
theorem dX11_cut_18 : decode cX11_cut 18 = .ok (.if_icmp .ge 5, 3) := by decide +kernel
theorem dX11_cut_21 : decode cX11_cut 21 = .ok (.iconst (-1), 1) := by decide +kernel
theorem dX11_cut_22 : decode cX11_cut 22 = .ok (.ireturn, 1) := by decide +kernel
theorem dX11_cut_23 : decode cX11_cut 23 = .ok (.aload 4, 2) := by decide +kernel
theorem dX11_cut_25 : decode cX11_cut 25 = .ok (.getfield 62, 3) := by decide +kernel
theorem dX11_cut_28 : decode cX11_cut 28 = .ok (.bipush 12, 2) := by decide +kernel
theorem dX11_cut_30 : decode cX11_cut 30 = .ok (.invokestatic 219, 3) := by decide +kernel
theorem dX11_cut_33 : decode cX11_cut 33 = .ok (.ifCond .ne 6, 3) := by decide +kernel
theorem dX11_cut_36 : decode cX11_cut 36 = .ok (.bipush (-2), 2) := by decide +kernel
theorem dX11_cut_38 : decode cX11_cut 38 = .ok (.ireturn, 1) := by decide +kernel
theorem dX11_cut_39 : decode cX11_cut 39 = .ok (.iload_n 3, 1) := by decide +kernel
theorem dX11_cut_40 : decode cX11_cut 40 = .ok (.aload 4, 2) := by decide +kernel
theorem dX11_cut_42 : decode cX11_cut 42 = .ok (.getfield 62, 3) := by decide +kernel
theorem dX11_cut_45 : decode cX11_cut 45 = .ok (.invokestatic 223, 3) := by decide +kernel
theorem dX11_cut_48 : decode cX11_cut 48 = .ok (.if_icmp .lt 5, 3) := by decide +kernel
theorem dX11_cut_51 : decode cX11_cut 51 = .ok (.iconst (-1), 1) := by decide +kernel
theorem dX11_cut_52 : decode cX11_cut 52 = .ok (.ireturn, 1) := by decide +kernel
theorem dX11_cut_53 : decode cX11_cut 53 = .ok (.aload_n 0, 1) := by decide +kernel
theorem dX11_cut_54 : decode cX11_cut 54 = .ok (.getfield 47, 3) := by decide +kernel
theorem dX11_cut_57 : decode cX11_cut 57 = .ok (.aload 4, 2) := by decide +kernel
theorem dX11_cut_59 : decode cX11_cut 59 = .ok (.invokevirtual 227, 3) := by decide +kernel
theorem dX11_cut_62 : decode cX11_cut 62 = .ok (.ifCond .ne 6, 3) := by decide +kernel
theorem dX11_cut_65 : decode cX11_cut 65 = .ok (.bipush (-5), 2) := by decide +kernel
theorem dX11_cut_67 : decode cX11_cut 67 = .ok (.ireturn, 1) := by decide +kernel
theorem dX11_cut_68 : decode cX11_cut 68 = .ok (.iload_n 2, 1) := by decide +kernel
theorem dX11_cut_69 : decode cX11_cut 69 = .ok (.aload_n 0, 1) := by decide +kernel
theorem dX11_cut_70 : decode cX11_cut 70 = .ok (.getfield 47, 3) := by decide +kernel
theorem dX11_cut_73 : decode cX11_cut 73 = .ok (.getfield 231, 3) := by decide +kernel
theorem dX11_cut_76 : decode cX11_cut 76 = .ok (.if_icmp .lt 5, 3) := by decide +kernel
theorem dX11_cut_79 : decode cX11_cut 79 = .ok (.iconst (-1), 1) := by decide +kernel
theorem dX11_cut_80 : decode cX11_cut 80 = .ok (.ireturn, 1) := by decide +kernel
theorem dX11_cut_81 : decode cX11_cut 81 = .ok (.iload_n 3, 1) := by decide +kernel
theorem dX11_cut_82 : decode cX11_cut 82 = .ok (.iconst (-1), 1) := by decide +kernel
theorem dX11_cut_83 : decode cX11_cut 83 = .ok (.if_icmp .ne 14, 3) := by decide +kernel
theorem dX11_cut_86 : decode cX11_cut 86 = .ok (.aload_n 0, 1) := by decide +kernel
theorem dX11_cut_87 : decode cX11_cut 87 = .ok (.getfield 47, 3) := by decide +kernel
theorem dX11_cut_90 : decode cX11_cut 90 = .ok (.iload_n 2, 1) := by decide +kernel
theorem dX11_cut_91 : decode cX11_cut 91 = .ok (.invokevirtual 235, 3) := by decide +kernel
theorem dX11_cut_94 : decode cX11_cut 94 = .ok (.goto 12, 3) := by decide +kernel
theorem dX11_cut_97 : decode cX11_cut 97 = .ok (.aload_n 0, 1) := by decide +kernel
theorem dX11_cut_98 : decode cX11_cut 98 = .ok (.getfield 47, 3) := by decide +kernel
theorem dX11_cut_101 : decode cX11_cut 101 = .ok (.iload_n 2, 1) := by decide +kernel
theorem dX11_cut_102 : decode cX11_cut 102 = .ok (.iload_n 3, 1) := by decide +kernel
theorem dX11_cut_103 : decode cX11_cut 103 = .ok (.invokevirtual 238, 3) := by decide +kernel
theorem dX11_cut_106 : decode cX11_cut 106 = .ok (.ireturn, 1) := by decide +kernel
theorem dX11_flips_0 : decode cX11_flips 0 = .ok (.aload_n 0, 1) := by decide +kernel
theorem dX11_flips_1 : decode cX11_flips 1 = .ok (.iload_n 1, 1) := by decide +kernel
theorem dX11_flips_2 : decode cX11_flips 2 = .ok (.invokevirtual 58, 3) := by decide +kernel
theorem dX11_flips_5 : decode cX11_flips 5 = .ok (.astore_n 3, 1) := by decide +kernel
theorem dX11_flips_6 : decode cX11_flips 6 = .ok (.aload_n 3, 1) := by decide +kernel
theorem dX11_flips_7 : decode cX11_flips 7 = .ok (.ifnull 7, 3) := by decide +kernel
theorem dX11_flips_10 : decode cX11_flips 10 = .ok (.iload_n 2, 1) := by decide +kernel
theorem dX11_flips_11 : decode cX11_flips 11 = .ok (.ifCond .ge 5, 3) := by decide +kernel
theorem dX11_flips_14 : decode cX11_flips 14 = .ok (.iconst (-1), 1) := by decide +kernel
theorem dX11_flips_15 : decode cX11_flips 15 = .ok (.ireturn, 1) := by decide +kernel
theorem dX11_flips_16 : decode cX11_flips 16 = .ok (.aload_n 3, 1) := by decide +kernel
theorem dX11_flips_17 : decode cX11_flips 17 = .ok (.getfield 62, 3) := by decide +kernel
theorem dX11_flips_20 : decode cX11_flips 20 = .ok (.bipush 12, 2) := by decide +kernel
theorem dX11_flips_22 : decode cX11_flips 22 = .ok (.invokestatic 219, 3) := by decide +kernel
theorem dX11_flips_25 : decode cX11_flips 25 = .ok (.ifCond .ne 6, 3) := by decide +kernel
theorem dX11_flips_28 : decode cX11_flips 28 = .ok (.bipush (-2), 2) := by decide +kernel
theorem dX11_flips_30 : decode cX11_flips 30 = .ok (.ireturn, 1) := by decide +kernel
theorem dX11_flips_31 : decode cX11_flips 31 = .ok (.aload_n 0, 1) := by decide +kernel
theorem dX11_flips_32 : decode cX11_flips 32 = .ok (.getfield 47, 3) := by decide +kernel
theorem dX11_flips_35 : decode cX11_flips 35 = .ok (.aload_n 3, 1) := by decide +kernel
theorem dX11_flips_36 : decode cX11_flips 36 = .ok (.invokevirtual 227, 3) := by decide +kernel
theorem dX11_flips_39 : decode cX11_flips 39 = .ok (.ifCond .ne 6, 3) := by decide +kernel
theorem dX11_flips_42 : decode cX11_flips 42 = .ok (.bipush (-5), 2) := by decide +kernel
theorem dX11_flips_44 : decode cX11_flips 44 = .ok (.ireturn, 1) := by decide +kernel
theorem dX11_flips_45 : decode cX11_flips 45 = .ok (.iload_n 2, 1) := by decide +kernel
theorem dX11_flips_46 : decode cX11_flips 46 = .ok (.aload_n 0, 1) := by decide +kernel
theorem dX11_flips_47 : decode cX11_flips 47 = .ok (.getfield 47, 3) := by decide +kernel
theorem dX11_flips_50 : decode cX11_flips 50 = .ok (.getfield 231, 3) := by decide +kernel
theorem dX11_flips_53 : decode cX11_flips 53 = .ok (.if_icmp .lt 7, 3) := by decide +kernel
theorem dX11_flips_56 : decode cX11_flips 56 = .ok (.iconst (-1), 1) := by decide +kernel
theorem dX11_flips_57 : decode cX11_flips 57 = .ok (.goto 11, 3) := by decide +kernel
theorem dX11_flips_60 : decode cX11_flips 60 = .ok (.aload_n 0, 1) := by decide +kernel
theorem dX11_flips_61 : decode cX11_flips 61 = .ok (.getfield 47, 3) := by decide +kernel
theorem dX11_flips_64 : decode cX11_flips 64 = .ok (.iload_n 2, 1) := by decide +kernel
theorem dX11_flips_65 : decode cX11_flips 65 = .ok (.invokevirtual 241, 3) := by decide +kernel
theorem dX11_flips_68 : decode cX11_flips 68 = .ok (.ireturn, 1) := by decide +kernel
theorem dX11_height_0 : decode cX11_height 0 = .ok (.aload_n 0, 1) := by decide +kernel
theorem dX11_height_1 : decode cX11_height 1 = .ok (.iload_n 1, 1) := by decide +kernel
theorem dX11_height_2 : decode cX11_height 2 = .ok (.invokevirtual 58, 3) := by decide +kernel
theorem dX11_height_5 : decode cX11_height 5 = .ok (.astore 4, 2) := by decide +kernel
theorem dX11_height_7 : decode cX11_height 7 = .ok (.aload 4, 2) := by decide +kernel
theorem dX11_height_9 : decode cX11_height 9 = .ok (.ifnull 30, 3) := by decide +kernel
theorem dX11_height_12 : decode cX11_height 12 = .ok (.iload_n 3, 1) := by decide +kernel
theorem dX11_height_13 : decode cX11_height 13 = .ok (.sipush (-1000), 3) := by decide +kernel
theorem dX11_height_16 : decode cX11_height 16 = .ok (.if_icmp .lt 23, 3) := by decide +kernel
theorem dX11_height_19 : decode cX11_height 19 = .ok (.iload_n 3, 1) := by decide +kernel
theorem dX11_height_20 : decode cX11_height 20 = .ok (.sipush 1000, 3) := by decide +kernel
theorem dX11_height_23 : decode cX11_height 23 = .ok (.if_icmp .gt 16, 3) := by decide +kernel
theorem dX11_height_26 : decode cX11_height 26 = .ok (.aload 4, 2) := by decide +kernel
theorem dX11_height_28 : decode cX11_height 28 = .ok (.getfield 62, 3) := by decide +kernel
theorem dX11_height_31 : decode cX11_height 31 = .ok (.bipush 40, 2) := by decide +kernel
theorem dX11_height_33 : decode cX11_height 33 = .ok (.invokestatic 219, 3) := by decide +kernel
theorem dX11_height_36 : decode cX11_height 36 = .ok (.ifCond .ne 6, 3) := by decide +kernel
theorem dX11_height_39 : decode cX11_height 39 = .ok (.ldc 98, 2) := by decide +kernel
theorem dX11_height_41 : decode cX11_height 41 = .ok (.ireturn, 1) := by decide +kernel
theorem dX11_height_42 : decode cX11_height 42 = .ok (.iload_n 2, 1) := by decide +kernel
theorem dX11_height_43 : decode cX11_height 43 = .ok (.ifCond .lt 21, 3) := by decide +kernel
theorem dX11_height_46 : decode cX11_height 46 = .ok (.iload_n 2, 1) := by decide +kernel
theorem dX11_height_47 : decode cX11_height 47 = .ok (.aload 4, 2) := by decide +kernel
theorem dX11_height_49 : decode cX11_height 49 = .ok (.getfield 62, 3) := by decide +kernel
theorem dX11_height_52 : decode cX11_height 52 = .ok (.invokevirtual 116, 3) := by decide +kernel
theorem dX11_height_55 : decode cX11_height 55 = .ok (.if_icmp .ge 9, 3) := by decide +kernel
theorem dX11_height_58 : decode cX11_height 58 = .ok (.iload_n 2, 1) := by decide +kernel
theorem dX11_height_59 : decode cX11_height 59 = .ok (.bipush 40, 2) := by decide +kernel
theorem dX11_height_61 : decode cX11_height 61 = .ok (.if_icmp .lt 6, 3) := by decide +kernel
theorem dX11_height_64 : decode cX11_height 64 = .ok (.ldc 98, 2) := by decide +kernel
theorem dX11_height_66 : decode cX11_height 66 = .ok (.ireturn, 1) := by decide +kernel
theorem dX11_height_67 : decode cX11_height 67 = .ok (.aload 4, 2) := by decide +kernel
theorem dX11_height_69 : decode cX11_height 69 = .ok (.getfield 244, 3) := by decide +kernel
theorem dX11_height_72 : decode cX11_height 72 = .ok (.iload_n 2, 1) := by decide +kernel
theorem dX11_height_73 : decode cX11_height 73 = .ok (.iaload, 1) := by decide +kernel
theorem dX11_height_74 : decode cX11_height 74 = .ok (.istore 5, 2) := by decide +kernel
theorem dX11_height_76 : decode cX11_height 76 = .ok (.aload 4, 2) := by decide +kernel
theorem dX11_height_78 : decode cX11_height 78 = .ok (.getfield 244, 3) := by decide +kernel
theorem dX11_height_81 : decode cX11_height 81 = .ok (.iload_n 2, 1) := by decide +kernel
theorem dX11_height_82 : decode cX11_height 82 = .ok (.iload_n 3, 1) := by decide +kernel
theorem dX11_height_83 : decode cX11_height 83 = .ok (.iastore, 1) := by decide +kernel
theorem dX11_height_84 : decode cX11_height 84 = .ok (.aload 4, 2) := by decide +kernel
theorem dX11_height_86 : decode cX11_height 86 = .ok (.aload_n 0, 1) := by decide +kernel
theorem dX11_height_87 : decode cX11_height 87 = .ok (.invokevirtual 248, 3) := by decide +kernel
theorem dX11_height_90 : decode cX11_height 90 = .ok (.putfield 251, 3) := by decide +kernel
theorem dX11_height_93 : decode cX11_height 93 = .ok (.iload 5, 2) := by decide +kernel
theorem dX11_height_95 : decode cX11_height 95 = .ok (.ireturn, 1) := by decide +kernel
theorem dX11_pieces_0 : decode cX11_pieces 0 = .ok (.aload_n 0, 1) := by decide +kernel
theorem dX11_pieces_1 : decode cX11_pieces 1 = .ok (.iload_n 1, 1) := by decide +kernel
theorem dX11_pieces_2 : decode cX11_pieces 2 = .ok (.invokevirtual 58, 3) := by decide +kernel
theorem dX11_pieces_5 : decode cX11_pieces 5 = .ok (.astore_n 3, 1) := by decide +kernel
theorem dX11_pieces_6 : decode cX11_pieces 6 = .ok (.aload_n 3, 1) := by decide +kernel
theorem dX11_pieces_7 : decode cX11_pieces 7 = .ok (.ifnull 12, 3) := by decide +kernel
theorem dX11_pieces_10 : decode cX11_pieces 10 = .ok (.iload_n 2, 1) := by decide +kernel
theorem dX11_pieces_11 : decode cX11_pieces 11 = .ok (.ifCond .lt 8, 3) := by decide +kernel
theorem dX11_pieces_14 : decode cX11_pieces 14 = .ok (.iload_n 2, 1) := by decide +kernel
theorem dX11_pieces_15 : decode cX11_pieces 15 = .ok (.iconst 2, 1) := by decide +kernel
theorem dX11_pieces_16 : decode cX11_pieces 16 = .ok (.if_icmp .le 5, 3) := by decide +kernel
theorem dX11_pieces_19 : decode cX11_pieces 19 = .ok (.iconst (-1), 1) := by decide +kernel
theorem dX11_pieces_20 : decode cX11_pieces 20 = .ok (.ireturn, 1) := by decide +kernel
theorem dX11_pieces_21 : decode cX11_pieces 21 = .ok (.aload_n 3, 1) := by decide +kernel
theorem dX11_pieces_22 : decode cX11_pieces 22 = .ok (.getfield 62, 3) := by decide +kernel
theorem dX11_pieces_25 : decode cX11_pieces 25 = .ok (.bipush 40, 2) := by decide +kernel
theorem dX11_pieces_27 : decode cX11_pieces 27 = .ok (.invokestatic 219, 3) := by decide +kernel
theorem dX11_pieces_30 : decode cX11_pieces 30 = .ok (.ifCond .ne 6, 3) := by decide +kernel
theorem dX11_pieces_33 : decode cX11_pieces 33 = .ok (.bipush (-2), 2) := by decide +kernel
theorem dX11_pieces_35 : decode cX11_pieces 35 = .ok (.ireturn, 1) := by decide +kernel
theorem dX11_pieces_36 : decode cX11_pieces 36 = .ok (.aload_n 0, 1) := by decide +kernel
theorem dX11_pieces_37 : decode cX11_pieces 37 = .ok (.getfield 54, 3) := by decide +kernel
theorem dX11_pieces_40 : decode cX11_pieces 40 = .ok (.aload_n 3, 1) := by decide +kernel
theorem dX11_pieces_41 : decode cX11_pieces 41 = .ok (.invokevirtual 254, 3) := by decide +kernel
theorem dX11_pieces_44 : decode cX11_pieces 44 = .ok (.iload_n 2, 1) := by decide +kernel
theorem dX11_pieces_45 : decode cX11_pieces 45 = .ok (.ifCond .ne 11, 3) := by decide +kernel
theorem dX11_pieces_48 : decode cX11_pieces 48 = .ok (.aload_n 0, 1) := by decide +kernel
theorem dX11_pieces_49 : decode cX11_pieces 49 = .ok (.getfield 54, 3) := by decide +kernel
theorem dX11_pieces_52 : decode cX11_pieces 52 = .ok (.getfield 256, 3) := by decide +kernel
theorem dX11_pieces_55 : decode cX11_pieces 55 = .ok (.ireturn, 1) := by decide +kernel
theorem dX11_pieces_56 : decode cX11_pieces 56 = .ok (.iload_n 2, 1) := by decide +kernel
theorem dX11_pieces_57 : decode cX11_pieces 57 = .ok (.iconst 1, 1) := by decide +kernel
theorem dX11_pieces_58 : decode cX11_pieces 58 = .ok (.if_icmp .ne 13, 3) := by decide +kernel
theorem dX11_pieces_61 : decode cX11_pieces 61 = .ok (.aload_n 0, 1) := by decide +kernel
theorem dX11_pieces_62 : decode cX11_pieces 62 = .ok (.getfield 54, 3) := by decide +kernel
theorem dX11_pieces_65 : decode cX11_pieces 65 = .ok (.invokevirtual 257, 3) := by decide +kernel
theorem dX11_pieces_68 : decode cX11_pieces 68 = .ok (.goto 10, 3) := by decide +kernel
theorem dX11_pieces_71 : decode cX11_pieces 71 = .ok (.aload_n 0, 1) := by decide +kernel
theorem dX11_pieces_72 : decode cX11_pieces 72 = .ok (.getfield 54, 3) := by decide +kernel
theorem dX11_pieces_75 : decode cX11_pieces 75 = .ok (.invokevirtual 260, 3) := by decide +kernel
theorem dX11_pieces_78 : decode cX11_pieces 78 = .ok (.ireturn, 1) := by decide +kernel
theorem dX11_piece_0 : decode cX11_piece 0 = .ok (.aload_n 0, 1) := by decide +kernel
theorem dX11_piece_1 : decode cX11_piece 1 = .ok (.iload_n 1, 1) := by decide +kernel
theorem dX11_piece_2 : decode cX11_piece 2 = .ok (.invokevirtual 58, 3) := by decide +kernel
theorem dX11_piece_5 : decode cX11_piece 5 = .ok (.astore 4, 2) := by decide +kernel
theorem dX11_piece_7 : decode cX11_piece 7 = .ok (.aload 4, 2) := by decide +kernel
theorem dX11_piece_9 : decode cX11_piece 9 = .ok (.ifnull 12, 3) := by decide +kernel
theorem dX11_piece_12 : decode cX11_piece 12 = .ok (.iload_n 2, 1) := by decide +kernel
theorem dX11_piece_13 : decode cX11_piece 13 = .ok (.ifCond .lt 8, 3) := by decide +kernel
theorem dX11_piece_16 : decode cX11_piece 16 = .ok (.iload_n 3, 1) := by decide +kernel
theorem dX11_piece_17 : decode cX11_piece 17 = .ok (.iconst (-1), 1) := by decide +kernel
theorem dX11_piece_18 : decode cX11_piece 18 = .ok (.if_icmp .ge 5, 3) := by decide +kernel
theorem dX11_piece_21 : decode cX11_piece 21 = .ok (.iconst (-1), 1) := by decide +kernel
theorem dX11_piece_22 : decode cX11_piece 22 = .ok (.ireturn, 1) := by decide +kernel
theorem dX11_piece_23 : decode cX11_piece 23 = .ok (.aload 4, 2) := by decide +kernel
theorem dX11_piece_25 : decode cX11_piece 25 = .ok (.getfield 62, 3) := by decide +kernel
theorem dX11_piece_28 : decode cX11_piece 28 = .ok (.bipush 40, 2) := by decide +kernel
theorem dX11_piece_30 : decode cX11_piece 30 = .ok (.invokestatic 219, 3) := by decide +kernel
theorem dX11_piece_33 : decode cX11_piece 33 = .ok (.ifCond .ne 6, 3) := by decide +kernel
theorem dX11_piece_36 : decode cX11_piece 36 = .ok (.bipush (-2), 2) := by decide +kernel
theorem dX11_piece_38 : decode cX11_piece 38 = .ok (.ireturn, 1) := by decide +kernel
theorem dX11_piece_39 : decode cX11_piece 39 = .ok (.aload_n 0, 1) := by decide +kernel
theorem dX11_piece_40 : decode cX11_piece 40 = .ok (.getfield 54, 3) := by decide +kernel
theorem dX11_piece_43 : decode cX11_piece 43 = .ok (.aload 4, 2) := by decide +kernel
theorem dX11_piece_45 : decode cX11_piece 45 = .ok (.invokevirtual 254, 3) := by decide +kernel
theorem dX11_piece_48 : decode cX11_piece 48 = .ok (.iload_n 2, 1) := by decide +kernel
theorem dX11_piece_49 : decode cX11_piece 49 = .ok (.aload_n 0, 1) := by decide +kernel
theorem dX11_piece_50 : decode cX11_piece 50 = .ok (.getfield 54, 3) := by decide +kernel
theorem dX11_piece_53 : decode cX11_piece 53 = .ok (.getfield 256, 3) := by decide +kernel
theorem dX11_piece_56 : decode cX11_piece 56 = .ok (.if_icmp .ge 15, 3) := by decide +kernel
theorem dX11_piece_59 : decode cX11_piece 59 = .ok (.iload_n 3, 1) := by decide +kernel
theorem dX11_piece_60 : decode cX11_piece 60 = .ok (.aload_n 0, 1) := by decide +kernel
theorem dX11_piece_61 : decode cX11_piece 61 = .ok (.getfield 54, 3) := by decide +kernel
theorem dX11_piece_64 : decode cX11_piece 64 = .ok (.iload_n 2, 1) := by decide +kernel
theorem dX11_piece_65 : decode cX11_piece 65 = .ok (.invokevirtual 263, 3) := by decide +kernel
theorem dX11_piece_68 : decode cX11_piece 68 = .ok (.if_icmp .lt 5, 3) := by decide +kernel
theorem dX11_piece_71 : decode cX11_piece 71 = .ok (.iconst (-1), 1) := by decide +kernel
theorem dX11_piece_72 : decode cX11_piece 72 = .ok (.ireturn, 1) := by decide +kernel
theorem dX11_piece_73 : decode cX11_piece 73 = .ok (.iload_n 3, 1) := by decide +kernel
theorem dX11_piece_74 : decode cX11_piece 74 = .ok (.iconst (-1), 1) := by decide +kernel
theorem dX11_piece_75 : decode cX11_piece 75 = .ok (.if_icmp .ne 14, 3) := by decide +kernel
theorem dX11_piece_78 : decode cX11_piece 78 = .ok (.aload_n 0, 1) := by decide +kernel
theorem dX11_piece_79 : decode cX11_piece 79 = .ok (.getfield 54, 3) := by decide +kernel
theorem dX11_piece_82 : decode cX11_piece 82 = .ok (.iload_n 2, 1) := by decide +kernel
theorem dX11_piece_83 : decode cX11_piece 83 = .ok (.invokevirtual 263, 3) := by decide +kernel
theorem dX11_piece_86 : decode cX11_piece 86 = .ok (.goto 12, 3) := by decide +kernel
theorem dX11_piece_89 : decode cX11_piece 89 = .ok (.aload_n 0, 1) := by decide +kernel
theorem dX11_piece_90 : decode cX11_piece 90 = .ok (.getfield 54, 3) := by decide +kernel
theorem dX11_piece_93 : decode cX11_piece 93 = .ok (.iload_n 2, 1) := by decide +kernel
theorem dX11_piece_94 : decode cX11_piece 94 = .ok (.iload_n 3, 1) := by decide +kernel
theorem dX11_piece_95 : decode cX11_piece 95 = .ok (.invokevirtual 266, 3) := by decide +kernel
theorem dX11_piece_98 : decode cX11_piece 98 = .ok (.ireturn, 1) := by decide +kernel
theorem dX11_shapeAt_0 : decode cX11_shapeAt 0 = .ok (.iload_n 1, 1) := by decide +kernel
theorem dX11_shapeAt_1 : decode cX11_shapeAt 1 = .ok (.ifCond .lt 12, 3) := by decide +kernel
theorem dX11_shapeAt_4 : decode cX11_shapeAt 4 = .ok (.iload_n 1, 1) := by decide +kernel
theorem dX11_shapeAt_5 : decode cX11_shapeAt 5 = .ok (.aload_n 0, 1) := by decide +kernel
theorem dX11_shapeAt_6 : decode cX11_shapeAt 6 = .ok (.getfield 11, 3) := by decide +kernel
theorem dX11_shapeAt_9 : decode cX11_shapeAt 9 = .ok (.arraylength, 1) := by decide +kernel
theorem dX11_shapeAt_10 : decode cX11_shapeAt 10 = .ok (.if_icmp .lt 7, 3) := by decide +kernel
theorem dX11_shapeAt_13 : decode cX11_shapeAt 13 = .ok (.aconst_null, 1) := by decide +kernel
theorem dX11_shapeAt_14 : decode cX11_shapeAt 14 = .ok (.goto 9, 3) := by decide +kernel
theorem dX11_shapeAt_17 : decode cX11_shapeAt 17 = .ok (.aload_n 0, 1) := by decide +kernel
theorem dX11_shapeAt_18 : decode cX11_shapeAt 18 = .ok (.getfield 11, 3) := by decide +kernel
theorem dX11_shapeAt_21 : decode cX11_shapeAt 21 = .ok (.iload_n 1, 1) := by decide +kernel
theorem dX11_shapeAt_22 : decode cX11_shapeAt 22 = .ok (.aaload, 1) := by decide +kernel
theorem dX11_shapeAt_23 : decode cX11_shapeAt 23 = .ok (.areturn, 1) := by decide +kernel
theorem dX11_newStamp_0 : decode cX11_newStamp 0 = .ok (.aload_n 0, 1) := by decide +kernel
theorem dX11_newStamp_1 : decode cX11_newStamp 1 = .ok (.dup, 1) := by decide +kernel
theorem dX11_newStamp_2 : decode cX11_newStamp 2 = .ok (.getfield 269, 3) := by decide +kernel
theorem dX11_newStamp_5 : decode cX11_newStamp 5 = .ok (.iconst 1, 1) := by decide +kernel
theorem dX11_newStamp_6 : decode cX11_newStamp 6 = .ok (.iadd, 1) := by decide +kernel
theorem dX11_newStamp_7 : decode cX11_newStamp 7 = .ok (.putfield 269, 3) := by decide +kernel
theorem dX11_newStamp_10 : decode cX11_newStamp 10 = .ok (.aload_n 0, 1) := by decide +kernel
theorem dX11_newStamp_11 : decode cX11_newStamp 11 = .ok (.getfield 269, 3) := by decide +kernel
theorem dX11_newStamp_14 : decode cX11_newStamp 14 = .ok (.ireturn, 1) := by decide +kernel
theorem dX11_remakeIfFits_0 : decode cX11_remakeIfFits 0 = .ok (.aload_n 0, 1) := by decide +kernel
theorem dX11_remakeIfFits_1 : decode cX11_remakeIfFits 1 = .ok (.getfield 19, 3) := by decide +kernel
theorem dX11_remakeIfFits_4 : decode cX11_remakeIfFits 4 = .ok (.getfield 174, 3) := by decide +kernel
theorem dX11_remakeIfFits_7 : decode cX11_remakeIfFits 7 = .ok (.getfield 66, 3) := by decide +kernel
theorem dX11_remakeIfFits_10 : decode cX11_remakeIfFits 10 = .ok (.bipush 24, 2) := by decide +kernel
theorem dX11_remakeIfFits_12 : decode cX11_remakeIfFits 12 = .ok (.if_icmp .gt 16, 3) := by decide +kernel
theorem dX11_remakeIfFits_15 : decode cX11_remakeIfFits 15 = .ok (.aload_n 0, 1) := by decide +kernel
theorem dX11_remakeIfFits_16 : decode cX11_remakeIfFits 16 = .ok (.getfield 19, 3) := by decide +kernel
theorem dX11_remakeIfFits_19 : decode cX11_remakeIfFits 19 = .ok (.getfield 174, 3) := by decide +kernel
theorem dX11_remakeIfFits_22 : decode cX11_remakeIfFits 22 = .ok (.invokevirtual 272, 3) := by decide +kernel
theorem dX11_remakeIfFits_25 : decode cX11_remakeIfFits 25 = .ok (.ifCond .ne 6, 3) := by decide +kernel
theorem dX11_remakeIfFits_28 : decode cX11_remakeIfFits 28 = .ok (.bipush (-3), 2) := by decide +kernel
theorem dX11_remakeIfFits_30 : decode cX11_remakeIfFits 30 = .ok (.ireturn, 1) := by decide +kernel
theorem dX11_remakeIfFits_31 : decode cX11_remakeIfFits 31 = .ok (.aload_n 0, 1) := by decide +kernel
theorem dX11_remakeIfFits_32 : decode cX11_remakeIfFits 32 = .ok (.aload_n 1, 1) := by decide +kernel
theorem dX11_remakeIfFits_33 : decode cX11_remakeIfFits 33 = .ok (.invokevirtual 78, 3) := by decide +kernel
theorem dX11_remakeIfFits_36 : decode cX11_remakeIfFits 36 = .ok (.aload_n 1, 1) := by decide +kernel
theorem dX11_remakeIfFits_37 : decode cX11_remakeIfFits 37 = .ok (.getfield 62, 3) := by decide +kernel
theorem dX11_remakeIfFits_40 : decode cX11_remakeIfFits 40 = .ok (.getfield 66, 3) := by decide +kernel
theorem dX11_remakeIfFits_43 : decode cX11_remakeIfFits 43 = .ok (.ireturn, 1) := by decide +kernel
theorem dX11_remake_0 : decode cX11_remake 0 = .ok (.aload_n 1, 1) := by decide +kernel
theorem dX11_remake_1 : decode cX11_remake 1 = .ok (.getfield 62, 3) := by decide +kernel
theorem dX11_remake_4 : decode cX11_remake 4 = .ok (.iconst 0, 1) := by decide +kernel
theorem dX11_remake_5 : decode cX11_remake 5 = .ok (.putfield 66, 3) := by decide +kernel
theorem dX11_remake_8 : decode cX11_remake 8 = .ok (.iconst 0, 1) := by decide +kernel
theorem dX11_remake_9 : decode cX11_remake 9 = .ok (.istore_n 2, 1) := by decide +kernel
theorem dX11_remake_10 : decode cX11_remake 10 = .ok (.iload_n 2, 1) := by decide +kernel
theorem dX11_remake_11 : decode cX11_remake 11 = .ok (.aload_n 0, 1) := by decide +kernel
theorem dX11_remake_12 : decode cX11_remake 12 = .ok (.getfield 19, 3) := by decide +kernel
theorem dX11_remake_15 : decode cX11_remake 15 = .ok (.getfield 174, 3) := by decide +kernel
theorem dX11_remake_18 : decode cX11_remake 18 = .ok (.getfield 66, 3) := by decide +kernel
theorem dX11_remake_21 : decode cX11_remake 21 = .ok (.if_icmp .ge 38, 3) := by decide +kernel
theorem dX11_remake_24 : decode cX11_remake 24 = .ok (.aload_n 1, 1) := by decide +kernel
theorem dX11_remake_25 : decode cX11_remake 25 = .ok (.getfield 62, 3) := by decide +kernel
theorem dX11_remake_28 : decode cX11_remake 28 = .ok (.aload_n 0, 1) := by decide +kernel
theorem dX11_remake_29 : decode cX11_remake 29 = .ok (.getfield 19, 3) := by decide +kernel
theorem dX11_remake_32 : decode cX11_remake 32 = .ok (.getfield 174, 3) := by decide +kernel
theorem dX11_remake_35 : decode cX11_remake 35 = .ok (.iload_n 2, 1) := by decide +kernel
theorem dX11_remake_36 : decode cX11_remake 36 = .ok (.invokevirtual 99, 3) := by decide +kernel
theorem dX11_remake_39 : decode cX11_remake 39 = .ok (.aload_n 0, 1) := by decide +kernel
theorem dX11_remake_40 : decode cX11_remake 40 = .ok (.getfield 19, 3) := by decide +kernel
theorem dX11_remake_43 : decode cX11_remake 43 = .ok (.getfield 174, 3) := by decide +kernel
theorem dX11_remake_46 : decode cX11_remake 46 = .ok (.iload_n 2, 1) := by decide +kernel
theorem dX11_remake_47 : decode cX11_remake 47 = .ok (.invokevirtual 103, 3) := by decide +kernel
theorem dX11_remake_50 : decode cX11_remake 50 = .ok (.invokevirtual 275, 3) := by decide +kernel
theorem dX11_remake_53 : decode cX11_remake 53 = .ok (.iinc 2 1, 3) := by decide +kernel
theorem dX11_remake_56 : decode cX11_remake 56 = .ok (.goto (-46), 3) := by decide +kernel
theorem dX11_remake_59 : decode cX11_remake 59 = .ok (.aload_n 1, 1) := by decide +kernel
theorem dX11_remake_60 : decode cX11_remake 60 = .ok (.getfield 244, 3) := by decide +kernel
theorem dX11_remake_63 : decode cX11_remake 63 = .ok (.iconst 0, 1) := by decide +kernel
theorem dX11_remake_64 : decode cX11_remake 64 = .ok (.invokestatic 278, 3) := by decide +kernel
theorem dX11_remake_67 : decode cX11_remake 67 = .ok (.aload_n 1, 1) := by decide +kernel
theorem dX11_remake_68 : decode cX11_remake 68 = .ok (.aload_n 0, 1) := by decide +kernel
theorem dX11_remake_69 : decode cX11_remake 69 = .ok (.invokevirtual 248, 3) := by decide +kernel
theorem dX11_remake_72 : decode cX11_remake 72 = .ok (.putfield 251, 3) := by decide +kernel
theorem dX11_remake_75 : decode cX11_remake 75 = .ok (.return_, 1) := by decide +kernel
theorem dX11_isNewHeap_0 : decode cX11_isNewHeap 0 = .ok (.aload_n 0, 1) := by decide +kernel
theorem dX11_isNewHeap_1 : decode cX11_isNewHeap 1 = .ok (.iload_n 1, 1) := by decide +kernel
theorem dX11_isNewHeap_2 : decode cX11_isNewHeap 2 = .ok (.invokevirtual 58, 3) := by decide +kernel
theorem dX11_isNewHeap_5 : decode cX11_isNewHeap 5 = .ok (.astore_n 2, 1) := by decide +kernel
theorem dX11_isNewHeap_6 : decode cX11_isNewHeap 6 = .ok (.aload_n 2, 1) := by decide +kernel
theorem dX11_isNewHeap_7 : decode cX11_isNewHeap 7 = .ok (.ifnull 13, 3) := by decide +kernel
theorem dX11_isNewHeap_10 : decode cX11_isNewHeap 10 = .ok (.aload_n 2, 1) := by decide +kernel
theorem dX11_isNewHeap_11 : decode cX11_isNewHeap 11 = .ok (.getfield 62, 3) := by decide +kernel
theorem dX11_isNewHeap_14 : decode cX11_isNewHeap 14 = .ok (.invokevirtual 125, 3) := by decide +kernel
theorem dX11_isNewHeap_17 : decode cX11_isNewHeap 17 = .ok (.ifCond .ne 5, 3) := by decide +kernel
theorem dX11_isNewHeap_20 : decode cX11_isNewHeap 20 = .ok (.iconst 0, 1) := by decide +kernel
theorem dX11_isNewHeap_21 : decode cX11_isNewHeap 21 = .ok (.ireturn, 1) := by decide +kernel
theorem dX11_isNewHeap_22 : decode cX11_isNewHeap 22 = .ok (.iconst 0, 1) := by decide +kernel
theorem dX11_isNewHeap_23 : decode cX11_isNewHeap 23 = .ok (.istore_n 3, 1) := by decide +kernel
theorem dX11_isNewHeap_24 : decode cX11_isNewHeap 24 = .ok (.iload_n 3, 1) := by decide +kernel
theorem dX11_isNewHeap_25 : decode cX11_isNewHeap 25 = .ok (.iload_n 1, 1) := by decide +kernel
theorem dX11_isNewHeap_26 : decode cX11_isNewHeap 26 = .ok (.if_icmp .ge 38, 3) := by decide +kernel
theorem dX11_isNewHeap_29 : decode cX11_isNewHeap 29 = .ok (.aload_n 0, 1) := by decide +kernel
theorem dX11_isNewHeap_30 : decode cX11_isNewHeap 30 = .ok (.iload_n 3, 1) := by decide +kernel
theorem dX11_isNewHeap_31 : decode cX11_isNewHeap 31 = .ok (.invokevirtual 58, 3) := by decide +kernel
theorem dX11_isNewHeap_34 : decode cX11_isNewHeap 34 = .ok (.astore 4, 2) := by decide +kernel
theorem dX11_isNewHeap_36 : decode cX11_isNewHeap 36 = .ok (.aload 4, 2) := by decide +kernel
theorem dX11_isNewHeap_38 : decode cX11_isNewHeap 38 = .ok (.ifnull 20, 3) := by decide +kernel
theorem dX11_isNewHeap_41 : decode cX11_isNewHeap 41 = .ok (.aload_n 2, 1) := by decide +kernel
theorem dX11_isNewHeap_42 : decode cX11_isNewHeap 42 = .ok (.getfield 62, 3) := by decide +kernel
theorem dX11_isNewHeap_45 : decode cX11_isNewHeap 45 = .ok (.aload 4, 2) := by decide +kernel
theorem dX11_isNewHeap_47 : decode cX11_isNewHeap 47 = .ok (.getfield 62, 3) := by decide +kernel
theorem dX11_isNewHeap_50 : decode cX11_isNewHeap 50 = .ok (.invokestatic 163, 3) := by decide +kernel
theorem dX11_isNewHeap_53 : decode cX11_isNewHeap 53 = .ok (.ifCond .eq 5, 3) := by decide +kernel
theorem dX11_isNewHeap_56 : decode cX11_isNewHeap 56 = .ok (.iconst 0, 1) := by decide +kernel
theorem dX11_isNewHeap_57 : decode cX11_isNewHeap 57 = .ok (.ireturn, 1) := by decide +kernel
theorem dX11_isNewHeap_58 : decode cX11_isNewHeap 58 = .ok (.iinc 3 1, 3) := by decide +kernel
theorem dX11_isNewHeap_61 : decode cX11_isNewHeap 61 = .ok (.goto (-37), 3) := by decide +kernel
theorem dX11_isNewHeap_64 : decode cX11_isNewHeap 64 = .ok (.iconst 1, 1) := by decide +kernel
theorem dX11_isNewHeap_65 : decode cX11_isNewHeap 65 = .ok (.ireturn, 1) := by decide +kernel
theorem dX11_onGrid_0 : decode cX11_onGrid 0 = .ok (.iload_n 0, 1) := by decide +kernel
theorem dX11_onGrid_1 : decode cX11_onGrid 1 = .ok (.bipush (-40), 2) := by decide +kernel
theorem dX11_onGrid_3 : decode cX11_onGrid 3 = .ok (.if_icmp .lt 13, 3) := by decide +kernel
theorem dX11_onGrid_6 : decode cX11_onGrid 6 = .ok (.iload_n 0, 1) := by decide +kernel
theorem dX11_onGrid_7 : decode cX11_onGrid 7 = .ok (.bipush 40, 2) := by decide +kernel
theorem dX11_onGrid_9 : decode cX11_onGrid 9 = .ok (.if_icmp .gt 7, 3) := by decide +kernel
theorem dX11_onGrid_12 : decode cX11_onGrid 12 = .ok (.iconst 1, 1) := by decide +kernel
theorem dX11_onGrid_13 : decode cX11_onGrid 13 = .ok (.goto 4, 3) := by decide +kernel
theorem dX11_onGrid_16 : decode cX11_onGrid 16 = .ok (.iconst 0, 1) := by decide +kernel
theorem dX11_onGrid_17 : decode cX11_onGrid 17 = .ok (.ireturn, 1) := by decide +kernel
theorem dX11_isWay_0 : decode cX11_isWay 0 = .ok (.iload_n 0, 1) := by decide +kernel
theorem dX11_isWay_1 : decode cX11_isWay 1 = .ok (.ifCond .lt 21, 3) := by decide +kernel
theorem dX11_isWay_4 : decode cX11_isWay 4 = .ok (.iload_n 0, 1) := by decide +kernel
theorem dX11_isWay_5 : decode cX11_isWay 5 = .ok (.bipush 100, 2) := by decide +kernel
theorem dX11_isWay_7 : decode cX11_isWay 7 = .ok (.if_icmp .gt 15, 3) := by decide +kernel
theorem dX11_isWay_10 : decode cX11_isWay 10 = .ok (.iload_n 1, 1) := by decide +kernel
theorem dX11_isWay_11 : decode cX11_isWay 11 = .ok (.bipush (-100), 2) := by decide +kernel
theorem dX11_isWay_13 : decode cX11_isWay 13 = .ok (.if_icmp .lt 9, 3) := by decide +kernel
theorem dX11_isWay_16 : decode cX11_isWay 16 = .ok (.iload_n 1, 1) := by decide +kernel
theorem dX11_isWay_17 : decode cX11_isWay 17 = .ok (.bipush 100, 2) := by decide +kernel
theorem dX11_isWay_19 : decode cX11_isWay 19 = .ok (.if_icmp .le 5, 3) := by decide +kernel
theorem dX11_isWay_22 : decode cX11_isWay 22 = .ok (.iconst 0, 1) := by decide +kernel
theorem dX11_isWay_23 : decode cX11_isWay 23 = .ok (.ireturn, 1) := by decide +kernel
theorem dX11_isWay_24 : decode cX11_isWay 24 = .ok (.iload_n 0, 1) := by decide +kernel
theorem dX11_isWay_25 : decode cX11_isWay 25 = .ok (.ifCond .ne 16, 3) := by decide +kernel
theorem dX11_isWay_28 : decode cX11_isWay 28 = .ok (.iload_n 1, 1) := by decide +kernel
theorem dX11_isWay_29 : decode cX11_isWay 29 = .ok (.iconst 1, 1) := by decide +kernel
theorem dX11_isWay_30 : decode cX11_isWay 30 = .ok (.if_icmp .ne 7, 3) := by decide +kernel
theorem dX11_isWay_33 : decode cX11_isWay 33 = .ok (.iconst 1, 1) := by decide +kernel
theorem dX11_isWay_34 : decode cX11_isWay 34 = .ok (.goto 21, 3) := by decide +kernel
theorem dX11_isWay_37 : decode cX11_isWay 37 = .ok (.iconst 0, 1) := by decide +kernel
theorem dX11_isWay_38 : decode cX11_isWay 38 = .ok (.goto 17, 3) := by decide +kernel
theorem dX11_isWay_41 : decode cX11_isWay 41 = .ok (.iload_n 0, 1) := by decide +kernel
theorem dX11_isWay_42 : decode cX11_isWay 42 = .ok (.iload_n 1, 1) := by decide +kernel
theorem dX11_isWay_43 : decode cX11_isWay 43 = .ok (.invokestatic 284, 3) := by decide +kernel
theorem dX11_isWay_46 : decode cX11_isWay 46 = .ok (.iconst 1, 1) := by decide +kernel
theorem dX11_isWay_47 : decode cX11_isWay 47 = .ok (.if_icmp .ne 7, 3) := by decide +kernel
theorem dX11_isWay_50 : decode cX11_isWay 50 = .ok (.iconst 1, 1) := by decide +kernel
theorem dX11_isWay_51 : decode cX11_isWay 51 = .ok (.goto 4, 3) := by decide +kernel
theorem dX11_isWay_54 : decode cX11_isWay 54 = .ok (.iconst 0, 1) := by decide +kernel
theorem dX11_isWay_55 : decode cX11_isWay 55 = .ok (.ireturn, 1) := by decide +kernel
theorem dX11_isAngle_0 : decode cX11_isAngle 0 = .ok (.iload_n 0, 1) := by decide +kernel
theorem dX11_isAngle_1 : decode cX11_isAngle 1 = .ok (.iload_n 3, 1) := by decide +kernel
theorem dX11_isAngle_2 : decode cX11_isAngle 2 = .ok (.imul, 1) := by decide +kernel
theorem dX11_isAngle_3 : decode cX11_isAngle 3 = .ok (.iload_n 1, 1) := by decide +kernel
theorem dX11_isAngle_4 : decode cX11_isAngle 4 = .ok (.iload_n 2, 1) := by decide +kernel
theorem dX11_isAngle_5 : decode cX11_isAngle 5 = .ok (.imul, 1) := by decide +kernel
theorem dX11_isAngle_6 : decode cX11_isAngle 6 = .ok (.isub, 1) := by decide +kernel
theorem dX11_isAngle_7 : decode cX11_isAngle 7 = .ok (.ifCond .le 7, 3) := by decide +kernel
theorem dX11_isAngle_10 : decode cX11_isAngle 10 = .ok (.iconst 1, 1) := by decide +kernel
theorem dX11_isAngle_11 : decode cX11_isAngle 11 = .ok (.goto 4, 3) := by decide +kernel
theorem dX11_isAngle_14 : decode cX11_isAngle 14 = .ok (.iconst 0, 1) := by decide +kernel
theorem dX11_isAngle_15 : decode cX11_isAngle 15 = .ok (.ireturn, 1) := by decide +kernel
theorem dX11_hasAtMost_0 : decode cX11_hasAtMost 0 = .ok (.aload_n 0, 1) := by decide +kernel
theorem dX11_hasAtMost_1 : decode cX11_hasAtMost 1 = .ok (.invokevirtual 125, 3) := by decide +kernel
theorem dX11_hasAtMost_4 : decode cX11_hasAtMost 4 = .ok (.ifCond .eq 15, 3) := by decide +kernel
theorem dX11_hasAtMost_7 : decode cX11_hasAtMost 7 = .ok (.aload_n 0, 1) := by decide +kernel
theorem dX11_hasAtMost_8 : decode cX11_hasAtMost 8 = .ok (.invokevirtual 116, 3) := by decide +kernel
theorem dX11_hasAtMost_11 : decode cX11_hasAtMost 11 = .ok (.iload_n 1, 1) := by decide +kernel
theorem dX11_hasAtMost_12 : decode cX11_hasAtMost 12 = .ok (.if_icmp .gt 7, 3) := by decide +kernel
theorem dX11_hasAtMost_15 : decode cX11_hasAtMost 15 = .ok (.iconst 1, 1) := by decide +kernel
theorem dX11_hasAtMost_16 : decode cX11_hasAtMost 16 = .ok (.goto 4, 3) := by decide +kernel
theorem dX11_hasAtMost_19 : decode cX11_hasAtMost 19 = .ok (.iconst 0, 1) := by decide +kernel
theorem dX11_hasAtMost_20 : decode cX11_hasAtMost 20 = .ok (.ireturn, 1) := by decide +kernel
theorem dX11_segmentsOf_0 : decode cX11_segmentsOf 0 = .ok (.iconst 3, 1) := by decide +kernel
theorem dX11_segmentsOf_1 : decode cX11_segmentsOf 1 = .ok (.aload_n 0, 1) := by decide +kernel
theorem dX11_segmentsOf_2 : decode cX11_segmentsOf 2 = .ok (.invokevirtual 106, 3) := by decide +kernel
theorem dX11_segmentsOf_5 : decode cX11_segmentsOf 5 = .ok (.imul, 1) := by decide +kernel
theorem dX11_segmentsOf_6 : decode cX11_segmentsOf 6 = .ok (.aload_n 0, 1) := by decide +kernel
theorem dX11_segmentsOf_7 : decode cX11_segmentsOf 7 = .ok (.invokevirtual 110, 3) := by decide +kernel
theorem dX11_segmentsOf_10 : decode cX11_segmentsOf 10 = .ok (.iadd, 1) := by decide +kernel
theorem dX11_segmentsOf_11 : decode cX11_segmentsOf 11 = .ok (.iconst 2, 1) := by decide +kernel
theorem dX11_segmentsOf_12 : decode cX11_segmentsOf 12 = .ok (.idiv, 1) := by decide +kernel
theorem dX11_segmentsOf_13 : decode cX11_segmentsOf 13 = .ok (.ireturn, 1) := by decide +kernel
theorem dX11_gcd_0 : decode cX11_gcd 0 = .ok (.iload_n 0, 1) := by decide +kernel
theorem dX11_gcd_1 : decode cX11_gcd 1 = .ok (.invokestatic 287, 3) := by decide +kernel
theorem dX11_gcd_4 : decode cX11_gcd 4 = .ok (.istore_n 2, 1) := by decide +kernel
theorem dX11_gcd_5 : decode cX11_gcd 5 = .ok (.iload_n 1, 1) := by decide +kernel
theorem dX11_gcd_6 : decode cX11_gcd 6 = .ok (.invokestatic 287, 3) := by decide +kernel
theorem dX11_gcd_9 : decode cX11_gcd 9 = .ok (.istore_n 3, 1) := by decide +kernel
theorem dX11_gcd_10 : decode cX11_gcd 10 = .ok (.iconst 0, 1) := by decide +kernel
theorem dX11_gcd_11 : decode cX11_gcd 11 = .ok (.istore 4, 2) := by decide +kernel
theorem dX11_gcd_13 : decode cX11_gcd 13 = .ok (.iload 4, 2) := by decide +kernel
theorem dX11_gcd_15 : decode cX11_gcd 15 = .ok (.bipush 64, 2) := by decide +kernel
theorem dX11_gcd_17 : decode cX11_gcd 17 = .ok (.if_icmp .ge 23, 3) := by decide +kernel
theorem dX11_gcd_20 : decode cX11_gcd 20 = .ok (.iload_n 3, 1) := by decide +kernel
theorem dX11_gcd_21 : decode cX11_gcd 21 = .ok (.ifCond .eq 19, 3) := by decide +kernel
theorem dX11_gcd_24 : decode cX11_gcd 24 = .ok (.iload_n 2, 1) := by decide +kernel
theorem dX11_gcd_25 : decode cX11_gcd 25 = .ok (.iload_n 3, 1) := by decide +kernel
theorem dX11_gcd_26 : decode cX11_gcd 26 = .ok (.irem, 1) := by decide +kernel
theorem dX11_gcd_27 : decode cX11_gcd 27 = .ok (.istore 5, 2) := by decide +kernel
theorem dX11_gcd_29 : decode cX11_gcd 29 = .ok (.iload_n 3, 1) := by decide +kernel
theorem dX11_gcd_30 : decode cX11_gcd 30 = .ok (.istore_n 2, 1) := by decide +kernel
theorem dX11_gcd_31 : decode cX11_gcd 31 = .ok (.iload 5, 2) := by decide +kernel
theorem dX11_gcd_33 : decode cX11_gcd 33 = .ok (.istore_n 3, 1) := by decide +kernel
theorem dX11_gcd_34 : decode cX11_gcd 34 = .ok (.iinc 4 1, 3) := by decide +kernel
theorem dX11_gcd_37 : decode cX11_gcd 37 = .ok (.goto (-24), 3) := by decide +kernel
theorem dX11_gcd_40 : decode cX11_gcd 40 = .ok (.iload_n 2, 1) := by decide +kernel
theorem dX11_gcd_41 : decode cX11_gcd 41 = .ok (.ireturn, 1) := by decide +kernel
theorem dX11_areAlike_0 : decode cX11_areAlike 0 = .ok (.aload_n 0, 1) := by decide +kernel
theorem dX11_areAlike_1 : decode cX11_areAlike 1 = .ok (.getfield 66, 3) := by decide +kernel
theorem dX11_areAlike_4 : decode cX11_areAlike 4 = .ok (.iconst 3, 1) := by decide +kernel
theorem dX11_areAlike_5 : decode cX11_areAlike 5 = .ok (.if_icmp .lt 11, 3) := by decide +kernel
theorem dX11_areAlike_8 : decode cX11_areAlike 8 = .ok (.aload_n 1, 1) := by decide +kernel
theorem dX11_areAlike_9 : decode cX11_areAlike 9 = .ok (.getfield 66, 3) := by decide +kernel
theorem dX11_areAlike_12 : decode cX11_areAlike 12 = .ok (.iconst 3, 1) := by decide +kernel
theorem dX11_areAlike_13 : decode cX11_areAlike 13 = .ok (.if_icmp .ge 31, 3) := by decide +kernel
theorem dX11_areAlike_16 : decode cX11_areAlike 16 = .ok (.aload_n 0, 1) := by decide +kernel
theorem dX11_areAlike_17 : decode cX11_areAlike 17 = .ok (.getfield 66, 3) := by decide +kernel
theorem dX11_areAlike_20 : decode cX11_areAlike 20 = .ok (.aload_n 1, 1) := by decide +kernel
theorem dX11_areAlike_21 : decode cX11_areAlike 21 = .ok (.getfield 66, 3) := by decide +kernel
theorem dX11_areAlike_24 : decode cX11_areAlike 24 = .ok (.if_icmp .ne 18, 3) := by decide +kernel
theorem dX11_areAlike_27 : decode cX11_areAlike 27 = .ok (.aload_n 0, 1) := by decide +kernel
theorem dX11_areAlike_28 : decode cX11_areAlike 28 = .ok (.invokevirtual 110, 3) := by decide +kernel
theorem dX11_areAlike_31 : decode cX11_areAlike 31 = .ok (.aload_n 1, 1) := by decide +kernel
theorem dX11_areAlike_32 : decode cX11_areAlike 32 = .ok (.invokevirtual 110, 3) := by decide +kernel
theorem dX11_areAlike_35 : decode cX11_areAlike 35 = .ok (.if_icmp .ne 7, 3) := by decide +kernel
theorem dX11_areAlike_38 : decode cX11_areAlike 38 = .ok (.iconst 1, 1) := by decide +kernel
theorem dX11_areAlike_39 : decode cX11_areAlike 39 = .ok (.goto 4, 3) := by decide +kernel
theorem dX11_areAlike_42 : decode cX11_areAlike 42 = .ok (.iconst 0, 1) := by decide +kernel
theorem dX11_areAlike_43 : decode cX11_areAlike 43 = .ok (.ireturn, 1) := by decide +kernel
theorem dX11_areAlike_44 : decode cX11_areAlike 44 = .ok (.aload_n 0, 1) := by decide +kernel
theorem dX11_areAlike_45 : decode cX11_areAlike 45 = .ok (.aload_n 1, 1) := by decide +kernel
theorem dX11_areAlike_46 : decode cX11_areAlike 46 = .ok (.invokestatic 159, 3) := by decide +kernel
theorem dX11_areAlike_49 : decode cX11_areAlike 49 = .ok (.ifCond .le 7, 3) := by decide +kernel
theorem dX11_areAlike_52 : decode cX11_areAlike 52 = .ok (.iconst 1, 1) := by decide +kernel
theorem dX11_areAlike_53 : decode cX11_areAlike 53 = .ok (.goto 4, 3) := by decide +kernel
theorem dX11_areAlike_56 : decode cX11_areAlike 56 = .ok (.iconst 0, 1) := by decide +kernel
theorem dX11_areAlike_57 : decode cX11_areAlike 57 = .ok (.ireturn, 1) := by decide +kernel
theorem dX11_mapsBetween_0 : decode cX11_mapsBetween 0 = .ok (.aload_n 0, 1) := by decide +kernel
theorem dX11_mapsBetween_1 : decode cX11_mapsBetween 1 = .ok (.getfield 66, 3) := by decide +kernel
theorem dX11_mapsBetween_4 : decode cX11_mapsBetween 4 = .ok (.aload_n 1, 1) := by decide +kernel
theorem dX11_mapsBetween_5 : decode cX11_mapsBetween 5 = .ok (.getfield 66, 3) := by decide +kernel
theorem dX11_mapsBetween_8 : decode cX11_mapsBetween 8 = .ok (.if_icmp .ne 14, 3) := by decide +kernel
theorem dX11_mapsBetween_11 : decode cX11_mapsBetween 11 = .ok (.aload_n 0, 1) := by decide +kernel
theorem dX11_mapsBetween_12 : decode cX11_mapsBetween 12 = .ok (.invokevirtual 106, 3) := by decide +kernel
theorem dX11_mapsBetween_15 : decode cX11_mapsBetween 15 = .ok (.aload_n 1, 1) := by decide +kernel
theorem dX11_mapsBetween_16 : decode cX11_mapsBetween 16 = .ok (.invokevirtual 106, 3) := by decide +kernel
theorem dX11_mapsBetween_19 : decode cX11_mapsBetween 19 = .ok (.if_icmp .eq 5, 3) := by decide +kernel
theorem dX11_mapsBetween_22 : decode cX11_mapsBetween 22 = .ok (.iconst 0, 1) := by decide +kernel
theorem dX11_mapsBetween_23 : decode cX11_mapsBetween 23 = .ok (.ireturn, 1) := by decide +kernel
theorem dX11_mapsBetween_24 : decode cX11_mapsBetween 24 = .ok (.iconst 0, 1) := by decide +kernel
theorem dX11_mapsBetween_25 : decode cX11_mapsBetween 25 = .ok (.istore_n 2, 1) := by decide +kernel
theorem dX11_mapsBetween_26 : decode cX11_mapsBetween 26 = .ok (.iconst 0, 1) := by decide +kernel
theorem dX11_mapsBetween_27 : decode cX11_mapsBetween 27 = .ok (.istore_n 3, 1) := by decide +kernel
theorem dX11_mapsBetween_28 : decode cX11_mapsBetween 28 = .ok (.iload_n 3, 1) := by decide +kernel
theorem dX11_mapsBetween_29 : decode cX11_mapsBetween 29 = .ok (.aload_n 1, 1) := by decide +kernel
theorem dX11_mapsBetween_30 : decode cX11_mapsBetween 30 = .ok (.getfield 66, 3) := by decide +kernel
theorem dX11_mapsBetween_33 : decode cX11_mapsBetween 33 = .ok (.if_icmp .ge 35, 3) := by decide +kernel
theorem dX11_mapsBetween_36 : decode cX11_mapsBetween 36 = .ok (.aload_n 0, 1) := by decide +kernel
theorem dX11_mapsBetween_37 : decode cX11_mapsBetween 37 = .ok (.aload_n 1, 1) := by decide +kernel
theorem dX11_mapsBetween_38 : decode cX11_mapsBetween 38 = .ok (.iload_n 3, 1) := by decide +kernel
theorem dX11_mapsBetween_39 : decode cX11_mapsBetween 39 = .ok (.iconst 1, 1) := by decide +kernel
theorem dX11_mapsBetween_40 : decode cX11_mapsBetween 40 = .ok (.invokestatic 292, 3) := by decide +kernel
theorem dX11_mapsBetween_43 : decode cX11_mapsBetween 43 = .ok (.ifCond .eq 6, 3) := by decide +kernel
theorem dX11_mapsBetween_46 : decode cX11_mapsBetween 46 = .ok (.iinc 2 1, 3) := by decide +kernel
theorem dX11_mapsBetween_49 : decode cX11_mapsBetween 49 = .ok (.aload_n 0, 1) := by decide +kernel
theorem dX11_mapsBetween_50 : decode cX11_mapsBetween 50 = .ok (.aload_n 1, 1) := by decide +kernel
theorem dX11_mapsBetween_51 : decode cX11_mapsBetween 51 = .ok (.iload_n 3, 1) := by decide +kernel
theorem dX11_mapsBetween_52 : decode cX11_mapsBetween 52 = .ok (.iconst (-1), 1) := by decide +kernel
theorem dX11_mapsBetween_53 : decode cX11_mapsBetween 53 = .ok (.invokestatic 292, 3) := by decide +kernel
theorem dX11_mapsBetween_56 : decode cX11_mapsBetween 56 = .ok (.ifCond .eq 6, 3) := by decide +kernel
theorem dX11_mapsBetween_59 : decode cX11_mapsBetween 59 = .ok (.iinc 2 1, 3) := by decide +kernel
theorem dX11_mapsBetween_62 : decode cX11_mapsBetween 62 = .ok (.iinc 3 1, 3) := by decide +kernel
theorem dX11_mapsBetween_65 : decode cX11_mapsBetween 65 = .ok (.goto (-37), 3) := by decide +kernel
theorem dX11_mapsBetween_68 : decode cX11_mapsBetween 68 = .ok (.iload_n 2, 1) := by decide +kernel
theorem dX11_mapsBetween_69 : decode cX11_mapsBetween 69 = .ok (.ireturn, 1) := by decide +kernel
theorem dX11_mapFits_0 : decode cX11_mapFits 0 = .ok (.aload_n 1, 1) := by decide +kernel
theorem dX11_mapFits_1 : decode cX11_mapFits 1 = .ok (.iload_n 2, 1) := by decide +kernel
theorem dX11_mapFits_2 : decode cX11_mapFits 2 = .ok (.iload_n 3, 1) := by decide +kernel
theorem dX11_mapFits_3 : decode cX11_mapFits 3 = .ok (.invokevirtual 296, 3) := by decide +kernel
theorem dX11_mapFits_6 : decode cX11_mapFits 6 = .ok (.istore 4, 2) := by decide +kernel
theorem dX11_mapFits_8 : decode cX11_mapFits 8 = .ok (.aload_n 1, 1) := by decide +kernel
theorem dX11_mapFits_9 : decode cX11_mapFits 9 = .ok (.iload_n 2, 1) := by decide +kernel
theorem dX11_mapFits_10 : decode cX11_mapFits 10 = .ok (.iload_n 3, 1) := by decide +kernel
theorem dX11_mapFits_11 : decode cX11_mapFits 11 = .ok (.ineg, 1) := by decide +kernel
theorem dX11_mapFits_12 : decode cX11_mapFits 12 = .ok (.invokevirtual 296, 3) := by decide +kernel
theorem dX11_mapFits_15 : decode cX11_mapFits 15 = .ok (.istore 5, 2) := by decide +kernel
theorem dX11_mapFits_17 : decode cX11_mapFits 17 = .ok (.aload_n 0, 1) := by decide +kernel
theorem dX11_mapFits_18 : decode cX11_mapFits 18 = .ok (.iconst 1, 1) := by decide +kernel
theorem dX11_mapFits_19 : decode cX11_mapFits 19 = .ok (.invokevirtual 99, 3) := by decide +kernel
theorem dX11_mapFits_22 : decode cX11_mapFits 22 = .ok (.aload_n 0, 1) := by decide +kernel
theorem dX11_mapFits_23 : decode cX11_mapFits 23 = .ok (.iconst 0, 1) := by decide +kernel
theorem dX11_mapFits_24 : decode cX11_mapFits 24 = .ok (.invokevirtual 99, 3) := by decide +kernel
theorem dX11_mapFits_27 : decode cX11_mapFits 27 = .ok (.isub, 1) := by decide +kernel
theorem dX11_mapFits_28 : decode cX11_mapFits 28 = .ok (.istore 6, 2) := by decide +kernel
theorem dX11_mapFits_30 : decode cX11_mapFits 30 = .ok (.aload_n 0, 1) := by decide +kernel
theorem dX11_mapFits_31 : decode cX11_mapFits 31 = .ok (.iconst 1, 1) := by decide +kernel
theorem dX11_mapFits_32 : decode cX11_mapFits 32 = .ok (.invokevirtual 103, 3) := by decide +kernel
theorem dX11_mapFits_35 : decode cX11_mapFits 35 = .ok (.aload_n 0, 1) := by decide +kernel
theorem dX11_mapFits_36 : decode cX11_mapFits 36 = .ok (.iconst 0, 1) := by decide +kernel
theorem dX11_mapFits_37 : decode cX11_mapFits 37 = .ok (.invokevirtual 103, 3) := by decide +kernel
theorem dX11_mapFits_40 : decode cX11_mapFits 40 = .ok (.isub, 1) := by decide +kernel
theorem dX11_mapFits_41 : decode cX11_mapFits 41 = .ok (.istore 7, 2) := by decide +kernel
theorem dX11_mapFits_43 : decode cX11_mapFits 43 = .ok (.aload_n 0, 1) := by decide +kernel
theorem dX11_mapFits_44 : decode cX11_mapFits 44 = .ok (.aload_n 0, 1) := by decide +kernel
theorem dX11_mapFits_45 : decode cX11_mapFits 45 = .ok (.getfield 66, 3) := by decide +kernel
theorem dX11_mapFits_48 : decode cX11_mapFits 48 = .ok (.iconst 1, 1) := by decide +kernel
theorem dX11_mapFits_49 : decode cX11_mapFits 49 = .ok (.isub, 1) := by decide +kernel
theorem dX11_mapFits_50 : decode cX11_mapFits 50 = .ok (.invokevirtual 99, 3) := by decide +kernel
theorem dX11_mapFits_53 : decode cX11_mapFits 53 = .ok (.aload_n 0, 1) := by decide +kernel
theorem dX11_mapFits_54 : decode cX11_mapFits 54 = .ok (.iconst 0, 1) := by decide +kernel
theorem dX11_mapFits_55 : decode cX11_mapFits 55 = .ok (.invokevirtual 99, 3) := by decide +kernel
theorem dX11_mapFits_58 : decode cX11_mapFits 58 = .ok (.isub, 1) := by decide +kernel
theorem dX11_mapFits_59 : decode cX11_mapFits 59 = .ok (.istore 8, 2) := by decide +kernel
theorem dX11_mapFits_61 : decode cX11_mapFits 61 = .ok (.aload_n 0, 1) := by decide +kernel
theorem dX11_mapFits_62 : decode cX11_mapFits 62 = .ok (.aload_n 0, 1) := by decide +kernel
theorem dX11_mapFits_63 : decode cX11_mapFits 63 = .ok (.getfield 66, 3) := by decide +kernel
theorem dX11_mapFits_66 : decode cX11_mapFits 66 = .ok (.iconst 1, 1) := by decide +kernel
theorem dX11_mapFits_67 : decode cX11_mapFits 67 = .ok (.isub, 1) := by decide +kernel
theorem dX11_mapFits_68 : decode cX11_mapFits 68 = .ok (.invokevirtual 103, 3) := by decide +kernel
theorem dX11_mapFits_71 : decode cX11_mapFits 71 = .ok (.aload_n 0, 1) := by decide +kernel
theorem dX11_mapFits_72 : decode cX11_mapFits 72 = .ok (.iconst 0, 1) := by decide +kernel
theorem dX11_mapFits_73 : decode cX11_mapFits 73 = .ok (.invokevirtual 103, 3) := by decide +kernel
theorem dX11_mapFits_76 : decode cX11_mapFits 76 = .ok (.isub, 1) := by decide +kernel
theorem dX11_mapFits_77 : decode cX11_mapFits 77 = .ok (.istore 9, 2) := by decide +kernel
theorem dX11_mapFits_79 : decode cX11_mapFits 79 = .ok (.aload_n 1, 1) := by decide +kernel
theorem dX11_mapFits_80 : decode cX11_mapFits 80 = .ok (.iload 4, 2) := by decide +kernel
theorem dX11_mapFits_82 : decode cX11_mapFits 82 = .ok (.invokevirtual 99, 3) := by decide +kernel
theorem dX11_mapFits_85 : decode cX11_mapFits 85 = .ok (.aload_n 1, 1) := by decide +kernel
theorem dX11_mapFits_86 : decode cX11_mapFits 86 = .ok (.iload_n 2, 1) := by decide +kernel
theorem dX11_mapFits_87 : decode cX11_mapFits 87 = .ok (.invokevirtual 99, 3) := by decide +kernel
theorem dX11_mapFits_90 : decode cX11_mapFits 90 = .ok (.isub, 1) := by decide +kernel
theorem dX11_mapFits_91 : decode cX11_mapFits 91 = .ok (.istore 10, 2) := by decide +kernel
theorem dX11_mapFits_93 : decode cX11_mapFits 93 = .ok (.aload_n 1, 1) := by decide +kernel
theorem dX11_mapFits_94 : decode cX11_mapFits 94 = .ok (.iload 4, 2) := by decide +kernel
theorem dX11_mapFits_96 : decode cX11_mapFits 96 = .ok (.invokevirtual 103, 3) := by decide +kernel
theorem dX11_mapFits_99 : decode cX11_mapFits 99 = .ok (.aload_n 1, 1) := by decide +kernel
theorem dX11_mapFits_100 : decode cX11_mapFits 100 = .ok (.iload_n 2, 1) := by decide +kernel
theorem dX11_mapFits_101 : decode cX11_mapFits 101 = .ok (.invokevirtual 103, 3) := by decide +kernel
theorem dX11_mapFits_104 : decode cX11_mapFits 104 = .ok (.isub, 1) := by decide +kernel
theorem dX11_mapFits_105 : decode cX11_mapFits 105 = .ok (.istore 11, 2) := by decide +kernel
theorem dX11_mapFits_107 : decode cX11_mapFits 107 = .ok (.aload_n 1, 1) := by decide +kernel
theorem dX11_mapFits_108 : decode cX11_mapFits 108 = .ok (.iload 5, 2) := by decide +kernel
theorem dX11_mapFits_110 : decode cX11_mapFits 110 = .ok (.invokevirtual 99, 3) := by decide +kernel
theorem dX11_mapFits_113 : decode cX11_mapFits 113 = .ok (.aload_n 1, 1) := by decide +kernel
theorem dX11_mapFits_114 : decode cX11_mapFits 114 = .ok (.iload_n 2, 1) := by decide +kernel
theorem dX11_mapFits_115 : decode cX11_mapFits 115 = .ok (.invokevirtual 99, 3) := by decide +kernel
theorem dX11_mapFits_118 : decode cX11_mapFits 118 = .ok (.isub, 1) := by decide +kernel
theorem dX11_mapFits_119 : decode cX11_mapFits 119 = .ok (.istore 12, 2) := by decide +kernel
theorem dX11_mapFits_121 : decode cX11_mapFits 121 = .ok (.aload_n 1, 1) := by decide +kernel
theorem dX11_mapFits_122 : decode cX11_mapFits 122 = .ok (.iload 5, 2) := by decide +kernel
theorem dX11_mapFits_124 : decode cX11_mapFits 124 = .ok (.invokevirtual 103, 3) := by decide +kernel
theorem dX11_mapFits_127 : decode cX11_mapFits 127 = .ok (.aload_n 1, 1) := by decide +kernel
theorem dX11_mapFits_128 : decode cX11_mapFits 128 = .ok (.iload_n 2, 1) := by decide +kernel
theorem dX11_mapFits_129 : decode cX11_mapFits 129 = .ok (.invokevirtual 103, 3) := by decide +kernel
theorem dX11_mapFits_132 : decode cX11_mapFits 132 = .ok (.isub, 1) := by decide +kernel
theorem dX11_mapFits_133 : decode cX11_mapFits 133 = .ok (.istore 13, 2) := by decide +kernel
theorem dX11_mapFits_135 : decode cX11_mapFits 135 = .ok (.iload 6, 2) := by decide +kernel
theorem dX11_mapFits_137 : decode cX11_mapFits 137 = .ok (.iload 9, 2) := by decide +kernel
theorem dX11_mapFits_139 : decode cX11_mapFits 139 = .ok (.imul, 1) := by decide +kernel
theorem dX11_mapFits_140 : decode cX11_mapFits 140 = .ok (.iload 7, 2) := by decide +kernel
theorem dX11_mapFits_142 : decode cX11_mapFits 142 = .ok (.iload 8, 2) := by decide +kernel
theorem dX11_mapFits_144 : decode cX11_mapFits 144 = .ok (.imul, 1) := by decide +kernel
theorem dX11_mapFits_145 : decode cX11_mapFits 145 = .ok (.isub, 1) := by decide +kernel
theorem dX11_mapFits_146 : decode cX11_mapFits 146 = .ok (.istore 14, 2) := by decide +kernel
theorem dX11_mapFits_148 : decode cX11_mapFits 148 = .ok (.iload 14, 2) := by decide +kernel
theorem dX11_mapFits_150 : decode cX11_mapFits 150 = .ok (.ifCond .eq 21, 3) := by decide +kernel
theorem dX11_mapFits_153 : decode cX11_mapFits 153 = .ok (.iload 10, 2) := by decide +kernel
theorem dX11_mapFits_155 : decode cX11_mapFits 155 = .ok (.iload 13, 2) := by decide +kernel
theorem dX11_mapFits_157 : decode cX11_mapFits 157 = .ok (.imul, 1) := by decide +kernel
theorem dX11_mapFits_158 : decode cX11_mapFits 158 = .ok (.iload 11, 2) := by decide +kernel
theorem dX11_mapFits_160 : decode cX11_mapFits 160 = .ok (.iload 12, 2) := by decide +kernel
theorem dX11_mapFits_162 : decode cX11_mapFits 162 = .ok (.imul, 1) := by decide +kernel
theorem dX11_mapFits_163 : decode cX11_mapFits 163 = .ok (.isub, 1) := by decide +kernel
theorem dX11_mapFits_164 : decode cX11_mapFits 164 = .ok (.iload_n 3, 1) := by decide +kernel
theorem dX11_mapFits_165 : decode cX11_mapFits 165 = .ok (.iload 14, 2) := by decide +kernel
theorem dX11_mapFits_167 : decode cX11_mapFits 167 = .ok (.imul, 1) := by decide +kernel
theorem dX11_mapFits_168 : decode cX11_mapFits 168 = .ok (.if_icmp .eq 5, 3) := by decide +kernel
theorem dX11_mapFits_171 : decode cX11_mapFits 171 = .ok (.iconst 0, 1) := by decide +kernel
theorem dX11_mapFits_172 : decode cX11_mapFits 172 = .ok (.ireturn, 1) := by decide +kernel
theorem dX11_mapFits_173 : decode cX11_mapFits 173 = .ok (.iload 10, 2) := by decide +kernel
theorem dX11_mapFits_175 : decode cX11_mapFits 175 = .ok (.iload 9, 2) := by decide +kernel
theorem dX11_mapFits_177 : decode cX11_mapFits 177 = .ok (.imul, 1) := by decide +kernel
theorem dX11_mapFits_178 : decode cX11_mapFits 178 = .ok (.iload 12, 2) := by decide +kernel
theorem dX11_mapFits_180 : decode cX11_mapFits 180 = .ok (.iload 7, 2) := by decide +kernel
theorem dX11_mapFits_182 : decode cX11_mapFits 182 = .ok (.imul, 1) := by decide +kernel
theorem dX11_mapFits_183 : decode cX11_mapFits 183 = .ok (.isub, 1) := by decide +kernel
theorem dX11_mapFits_184 : decode cX11_mapFits 184 = .ok (.istore 15, 2) := by decide +kernel
theorem dX11_mapFits_186 : decode cX11_mapFits 186 = .ok (.iload 12, 2) := by decide +kernel
theorem dX11_mapFits_188 : decode cX11_mapFits 188 = .ok (.iload 6, 2) := by decide +kernel
theorem dX11_mapFits_190 : decode cX11_mapFits 190 = .ok (.imul, 1) := by decide +kernel
theorem dX11_mapFits_191 : decode cX11_mapFits 191 = .ok (.iload 10, 2) := by decide +kernel
theorem dX11_mapFits_193 : decode cX11_mapFits 193 = .ok (.iload 8, 2) := by decide +kernel
theorem dX11_mapFits_195 : decode cX11_mapFits 195 = .ok (.imul, 1) := by decide +kernel
theorem dX11_mapFits_196 : decode cX11_mapFits 196 = .ok (.isub, 1) := by decide +kernel
theorem dX11_mapFits_197 : decode cX11_mapFits 197 = .ok (.istore 16, 2) := by decide +kernel
theorem dX11_mapFits_199 : decode cX11_mapFits 199 = .ok (.iload 11, 2) := by decide +kernel
theorem dX11_mapFits_201 : decode cX11_mapFits 201 = .ok (.iload 9, 2) := by decide +kernel
theorem dX11_mapFits_203 : decode cX11_mapFits 203 = .ok (.imul, 1) := by decide +kernel
theorem dX11_mapFits_204 : decode cX11_mapFits 204 = .ok (.iload 13, 2) := by decide +kernel
theorem dX11_mapFits_206 : decode cX11_mapFits 206 = .ok (.iload 7, 2) := by decide +kernel
theorem dX11_mapFits_208 : decode cX11_mapFits 208 = .ok (.imul, 1) := by decide +kernel
theorem dX11_mapFits_209 : decode cX11_mapFits 209 = .ok (.isub, 1) := by decide +kernel
theorem dX11_mapFits_210 : decode cX11_mapFits 210 = .ok (.istore 17, 2) := by decide +kernel
theorem dX11_mapFits_212 : decode cX11_mapFits 212 = .ok (.iload 13, 2) := by decide +kernel
theorem dX11_mapFits_214 : decode cX11_mapFits 214 = .ok (.iload 6, 2) := by decide +kernel
theorem dX11_mapFits_216 : decode cX11_mapFits 216 = .ok (.imul, 1) := by decide +kernel
theorem dX11_mapFits_217 : decode cX11_mapFits 217 = .ok (.iload 11, 2) := by decide +kernel
theorem dX11_mapFits_219 : decode cX11_mapFits 219 = .ok (.iload 8, 2) := by decide +kernel
theorem dX11_mapFits_221 : decode cX11_mapFits 221 = .ok (.imul, 1) := by decide +kernel
theorem dX11_mapFits_222 : decode cX11_mapFits 222 = .ok (.isub, 1) := by decide +kernel
theorem dX11_mapFits_223 : decode cX11_mapFits 223 = .ok (.istore 18, 2) := by decide +kernel
theorem dX11_mapFits_225 : decode cX11_mapFits 225 = .ok (.iload 15, 2) := by decide +kernel
theorem dX11_mapFits_227 : decode cX11_mapFits 227 = .ok (.iload 14, 2) := by decide +kernel
theorem dX11_mapFits_229 : decode cX11_mapFits 229 = .ok (.irem, 1) := by decide +kernel
theorem dX11_mapFits_230 : decode cX11_mapFits 230 = .ok (.ifCond .ne 27, 3) := by decide +kernel
theorem dX11_mapFits_233 : decode cX11_mapFits 233 = .ok (.iload 16, 2) := by decide +kernel
theorem dX11_mapFits_235 : decode cX11_mapFits 235 = .ok (.iload 14, 2) := by decide +kernel
theorem dX11_mapFits_237 : decode cX11_mapFits 237 = .ok (.irem, 1) := by decide +kernel
theorem dX11_mapFits_238 : decode cX11_mapFits 238 = .ok (.ifCond .ne 19, 3) := by decide +kernel
theorem dX11_mapFits_241 : decode cX11_mapFits 241 = .ok (.iload 17, 2) := by decide +kernel
theorem dX11_mapFits_243 : decode cX11_mapFits 243 = .ok (.iload 14, 2) := by decide +kernel
theorem dX11_mapFits_245 : decode cX11_mapFits 245 = .ok (.irem, 1) := by decide +kernel
theorem dX11_mapFits_246 : decode cX11_mapFits 246 = .ok (.ifCond .ne 11, 3) := by decide +kernel
theorem dX11_mapFits_249 : decode cX11_mapFits 249 = .ok (.iload 18, 2) := by decide +kernel
theorem dX11_mapFits_251 : decode cX11_mapFits 251 = .ok (.iload 14, 2) := by decide +kernel
theorem dX11_mapFits_253 : decode cX11_mapFits 253 = .ok (.irem, 1) := by decide +kernel
theorem dX11_mapFits_254 : decode cX11_mapFits 254 = .ok (.ifCond .eq 5, 3) := by decide +kernel
theorem dX11_mapFits_257 : decode cX11_mapFits 257 = .ok (.iconst 0, 1) := by decide +kernel
theorem dX11_mapFits_258 : decode cX11_mapFits 258 = .ok (.ireturn, 1) := by decide +kernel
theorem dX11_mapFits_259 : decode cX11_mapFits 259 = .ok (.iload_n 2, 1) := by decide +kernel
theorem dX11_mapFits_260 : decode cX11_mapFits 260 = .ok (.istore 19, 2) := by decide +kernel
theorem dX11_mapFits_262 : decode cX11_mapFits 262 = .ok (.iconst 0, 1) := by decide +kernel
theorem dX11_mapFits_263 : decode cX11_mapFits 263 = .ok (.istore 20, 2) := by decide +kernel
theorem dX11_mapFits_265 : decode cX11_mapFits 265 = .ok (.iload 20, 2) := by decide +kernel
theorem dX11_mapFits_267 : decode cX11_mapFits 267 = .ok (.aload_n 0, 1) := by decide +kernel
theorem dX11_mapFits_268 : decode cX11_mapFits 268 = .ok (.getfield 66, 3) := by decide +kernel
theorem dX11_mapFits_271 : decode cX11_mapFits 271 = .ok (.if_icmp .ge 118, 3) := by decide +kernel
theorem dX11_mapFits_274 : decode cX11_mapFits 274 = .ok (.aload_n 0, 1) := by decide +kernel
theorem dX11_mapFits_275 : decode cX11_mapFits 275 = .ok (.iload 20, 2) := by decide +kernel
theorem dX11_mapFits_277 : decode cX11_mapFits 277 = .ok (.invokevirtual 99, 3) := by decide +kernel
theorem dX11_mapFits_280 : decode cX11_mapFits 280 = .ok (.aload_n 0, 1) := by decide +kernel
theorem dX11_mapFits_281 : decode cX11_mapFits 281 = .ok (.iconst 0, 1) := by decide +kernel
theorem dX11_mapFits_282 : decode cX11_mapFits 282 = .ok (.invokevirtual 99, 3) := by decide +kernel
theorem dX11_mapFits_285 : decode cX11_mapFits 285 = .ok (.isub, 1) := by decide +kernel
theorem dX11_mapFits_286 : decode cX11_mapFits 286 = .ok (.istore 21, 2) := by decide +kernel
theorem dX11_mapFits_288 : decode cX11_mapFits 288 = .ok (.aload_n 0, 1) := by decide +kernel
theorem dX11_mapFits_289 : decode cX11_mapFits 289 = .ok (.iload 20, 2) := by decide +kernel
theorem dX11_mapFits_291 : decode cX11_mapFits 291 = .ok (.invokevirtual 103, 3) := by decide +kernel
theorem dX11_mapFits_294 : decode cX11_mapFits 294 = .ok (.aload_n 0, 1) := by decide +kernel
theorem dX11_mapFits_295 : decode cX11_mapFits 295 = .ok (.iconst 0, 1) := by decide +kernel
theorem dX11_mapFits_296 : decode cX11_mapFits 296 = .ok (.invokevirtual 103, 3) := by decide +kernel
theorem dX11_mapFits_299 : decode cX11_mapFits 299 = .ok (.isub, 1) := by decide +kernel
theorem dX11_mapFits_300 : decode cX11_mapFits 300 = .ok (.istore 22, 2) := by decide +kernel
theorem dX11_mapFits_302 : decode cX11_mapFits 302 = .ok (.iload 15, 2) := by decide +kernel
theorem dX11_mapFits_304 : decode cX11_mapFits 304 = .ok (.iload 21, 2) := by decide +kernel
theorem dX11_mapFits_306 : decode cX11_mapFits 306 = .ok (.imul, 1) := by decide +kernel
theorem dX11_mapFits_307 : decode cX11_mapFits 307 = .ok (.iload 16, 2) := by decide +kernel
theorem dX11_mapFits_309 : decode cX11_mapFits 309 = .ok (.iload 22, 2) := by decide +kernel
theorem dX11_mapFits_311 : decode cX11_mapFits 311 = .ok (.imul, 1) := by decide +kernel
theorem dX11_mapFits_312 : decode cX11_mapFits 312 = .ok (.iadd, 1) := by decide +kernel
theorem dX11_mapFits_313 : decode cX11_mapFits 313 = .ok (.iload 14, 2) := by decide +kernel
theorem dX11_mapFits_315 : decode cX11_mapFits 315 = .ok (.aload_n 1, 1) := by decide +kernel
theorem dX11_mapFits_316 : decode cX11_mapFits 316 = .ok (.iload 19, 2) := by decide +kernel
theorem dX11_mapFits_318 : decode cX11_mapFits 318 = .ok (.invokevirtual 99, 3) := by decide +kernel
theorem dX11_mapFits_321 : decode cX11_mapFits 321 = .ok (.aload_n 1, 1) := by decide +kernel
theorem dX11_mapFits_322 : decode cX11_mapFits 322 = .ok (.iload_n 2, 1) := by decide +kernel
theorem dX11_mapFits_323 : decode cX11_mapFits 323 = .ok (.invokevirtual 99, 3) := by decide +kernel
theorem dX11_mapFits_326 : decode cX11_mapFits 326 = .ok (.isub, 1) := by decide +kernel
theorem dX11_mapFits_327 : decode cX11_mapFits 327 = .ok (.imul, 1) := by decide +kernel
theorem dX11_mapFits_328 : decode cX11_mapFits 328 = .ok (.if_icmp .ne 36, 3) := by decide +kernel
theorem dX11_mapFits_331 : decode cX11_mapFits 331 = .ok (.iload 17, 2) := by decide +kernel
theorem dX11_mapFits_333 : decode cX11_mapFits 333 = .ok (.iload 21, 2) := by decide +kernel
theorem dX11_mapFits_335 : decode cX11_mapFits 335 = .ok (.imul, 1) := by decide +kernel
theorem dX11_mapFits_336 : decode cX11_mapFits 336 = .ok (.iload 18, 2) := by decide +kernel
theorem dX11_mapFits_338 : decode cX11_mapFits 338 = .ok (.iload 22, 2) := by decide +kernel
theorem dX11_mapFits_340 : decode cX11_mapFits 340 = .ok (.imul, 1) := by decide +kernel
theorem dX11_mapFits_341 : decode cX11_mapFits 341 = .ok (.iadd, 1) := by decide +kernel
theorem dX11_mapFits_342 : decode cX11_mapFits 342 = .ok (.iload 14, 2) := by decide +kernel
theorem dX11_mapFits_344 : decode cX11_mapFits 344 = .ok (.aload_n 1, 1) := by decide +kernel
theorem dX11_mapFits_345 : decode cX11_mapFits 345 = .ok (.iload 19, 2) := by decide +kernel
theorem dX11_mapFits_347 : decode cX11_mapFits 347 = .ok (.invokevirtual 103, 3) := by decide +kernel
theorem dX11_mapFits_350 : decode cX11_mapFits 350 = .ok (.aload_n 1, 1) := by decide +kernel
theorem dX11_mapFits_351 : decode cX11_mapFits 351 = .ok (.iload_n 2, 1) := by decide +kernel
theorem dX11_mapFits_352 : decode cX11_mapFits 352 = .ok (.invokevirtual 103, 3) := by decide +kernel
theorem dX11_mapFits_355 : decode cX11_mapFits 355 = .ok (.isub, 1) := by decide +kernel
theorem dX11_mapFits_356 : decode cX11_mapFits 356 = .ok (.imul, 1) := by decide +kernel
theorem dX11_mapFits_357 : decode cX11_mapFits 357 = .ok (.if_icmp .ne 7, 3) := by decide +kernel
theorem dX11_mapFits_360 : decode cX11_mapFits 360 = .ok (.iconst 1, 1) := by decide +kernel
theorem dX11_mapFits_361 : decode cX11_mapFits 361 = .ok (.goto 4, 3) := by decide +kernel
theorem dX11_mapFits_364 : decode cX11_mapFits 364 = .ok (.iconst 0, 1) := by decide +kernel
theorem dX11_mapFits_365 : decode cX11_mapFits 365 = .ok (.istore 23, 2) := by decide +kernel
theorem dX11_mapFits_367 : decode cX11_mapFits 367 = .ok (.iload 23, 2) := by decide +kernel
theorem dX11_mapFits_369 : decode cX11_mapFits 369 = .ok (.ifCond .ne 5, 3) := by decide +kernel
theorem dX11_mapFits_372 : decode cX11_mapFits 372 = .ok (.iconst 0, 1) := by decide +kernel
theorem dX11_mapFits_373 : decode cX11_mapFits 373 = .ok (.ireturn, 1) := by decide +kernel
theorem dX11_mapFits_374 : decode cX11_mapFits 374 = .ok (.aload_n 1, 1) := by decide +kernel
theorem dX11_mapFits_375 : decode cX11_mapFits 375 = .ok (.iload 19, 2) := by decide +kernel
theorem dX11_mapFits_377 : decode cX11_mapFits 377 = .ok (.iload_n 3, 1) := by decide +kernel
theorem dX11_mapFits_378 : decode cX11_mapFits 378 = .ok (.invokevirtual 296, 3) := by decide +kernel
theorem dX11_mapFits_381 : decode cX11_mapFits 381 = .ok (.istore 19, 2) := by decide +kernel
theorem dX11_mapFits_383 : decode cX11_mapFits 383 = .ok (.iinc 20 1, 3) := by decide +kernel
theorem dX11_mapFits_386 : decode cX11_mapFits 386 = .ok (.goto (-121), 3) := by decide +kernel
theorem dX11_mapFits_389 : decode cX11_mapFits 389 = .ok (.iconst 1, 1) := by decide +kernel
theorem dX11_mapFits_390 : decode cX11_mapFits 390 = .ok (.ireturn, 1) := by decide +kernel
theorem dX12_init_0 : decode cX12_init 0 = .ok (.aload_n 0, 1) := by decide +kernel
theorem dX12_init_1 : decode cX12_init 1 = .ok (.invokespecial 1, 3) := by decide +kernel
theorem dX12_init_4 : decode cX12_init 4 = .ok (.aload_n 0, 1) := by decide +kernel
theorem dX12_init_5 : decode cX12_init 5 = .ok (.bipush 8, 2) := by decide +kernel
theorem dX12_init_7 : decode cX12_init 7 = .ok (.newarray .int, 2) := by decide +kernel
theorem dX12_init_9 : decode cX12_init 9 = .ok (.putfield 7, 3) := by decide +kernel
theorem dX12_init_12 : decode cX12_init 12 = .ok (.aload_n 0, 1) := by decide +kernel
theorem dX12_init_13 : decode cX12_init 13 = .ok (.sipush 192, 3) := by decide +kernel
theorem dX12_init_16 : decode cX12_init 16 = .ok (.newarray .int, 2) := by decide +kernel
theorem dX12_init_18 : decode cX12_init 18 = .ok (.putfield 13, 3) := by decide +kernel
theorem dX12_init_21 : decode cX12_init 21 = .ok (.aload_n 0, 1) := by decide +kernel
theorem dX12_init_22 : decode cX12_init 22 = .ok (.sipush 192, 3) := by decide +kernel
theorem dX12_init_25 : decode cX12_init 25 = .ok (.newarray .int, 2) := by decide +kernel
theorem dX12_init_27 : decode cX12_init 27 = .ok (.putfield 16, 3) := by decide +kernel
theorem dX12_init_30 : decode cX12_init 30 = .ok (.aload_n 0, 1) := by decide +kernel
theorem dX12_init_31 : decode cX12_init 31 = .ok (.sipush 320, 3) := by decide +kernel
theorem dX12_init_34 : decode cX12_init 34 = .ok (.newarray .int, 2) := by decide +kernel
theorem dX12_init_36 : decode cX12_init 36 = .ok (.putfield 19, 3) := by decide +kernel
theorem dX12_init_39 : decode cX12_init 39 = .ok (.aload_n 0, 1) := by decide +kernel
theorem dX12_init_40 : decode cX12_init 40 = .ok (.sipush 640, 3) := by decide +kernel
theorem dX12_init_43 : decode cX12_init 43 = .ok (.newarray .int, 2) := by decide +kernel
theorem dX12_init_45 : decode cX12_init 45 = .ok (.putfield 22, 3) := by decide +kernel
theorem dX12_init_48 : decode cX12_init 48 = .ok (.aload_n 0, 1) := by decide +kernel
theorem dX12_init_49 : decode cX12_init 49 = .ok (.sipush 640, 3) := by decide +kernel
theorem dX12_init_52 : decode cX12_init 52 = .ok (.newarray .int, 2) := by decide +kernel
theorem dX12_init_54 : decode cX12_init 54 = .ok (.putfield 25, 3) := by decide +kernel
theorem dX12_init_57 : decode cX12_init 57 = .ok (.aload_n 0, 1) := by decide +kernel
theorem dX12_init_58 : decode cX12_init 58 = .ok (.sipush 1300, 3) := by decide +kernel
theorem dX12_init_61 : decode cX12_init 61 = .ok (.newarray .int, 2) := by decide +kernel
theorem dX12_init_63 : decode cX12_init 63 = .ok (.putfield 28, 3) := by decide +kernel
theorem dX12_init_66 : decode cX12_init 66 = .ok (.aload_n 0, 1) := by decide +kernel
theorem dX12_init_67 : decode cX12_init 67 = .ok (.sipush 1300, 3) := by decide +kernel
theorem dX12_init_70 : decode cX12_init 70 = .ok (.newarray .int, 2) := by decide +kernel
theorem dX12_init_72 : decode cX12_init 72 = .ok (.putfield 31, 3) := by decide +kernel
theorem dX12_init_75 : decode cX12_init 75 = .ok (.aload_n 0, 1) := by decide +kernel
theorem dX12_init_76 : decode cX12_init 76 = .ok (.sipush 6561, 3) := by decide +kernel
theorem dX12_init_79 : decode cX12_init 79 = .ok (.newarray .int, 2) := by decide +kernel
theorem dX12_init_81 : decode cX12_init 81 = .ok (.putfield 34, 3) := by decide +kernel
theorem dX12_init_84 : decode cX12_init 84 = .ok (.aload_n 0, 1) := by decide +kernel
theorem dX12_init_85 : decode cX12_init 85 = .ok (.sipush 6561, 3) := by decide +kernel
theorem dX12_init_88 : decode cX12_init 88 = .ok (.newarray .int, 2) := by decide +kernel
theorem dX12_init_90 : decode cX12_init 90 = .ok (.putfield 37, 3) := by decide +kernel
theorem dX12_init_93 : decode cX12_init 93 = .ok (.aload_n 0, 1) := by decide +kernel
theorem dX12_init_94 : decode cX12_init 94 = .ok (.sipush 25921, 3) := by decide +kernel
theorem dX12_init_97 : decode cX12_init 97 = .ok (.newarray .long, 2) := by decide +kernel
theorem dX12_init_99 : decode cX12_init 99 = .ok (.putfield 40, 3) := by decide +kernel
theorem dX12_init_102 : decode cX12_init 102 = .ok (.aload_n 0, 1) := by decide +kernel
theorem dX12_init_103 : decode cX12_init 103 = .ok (.sipush 25921, 3) := by decide +kernel
theorem dX12_init_106 : decode cX12_init 106 = .ok (.newarray .long, 2) := by decide +kernel
theorem dX12_init_108 : decode cX12_init 108 = .ok (.putfield 44, 3) := by decide +kernel
theorem dX12_init_111 : decode cX12_init 111 = .ok (.aload_n 0, 1) := by decide +kernel
theorem dX12_init_112 : decode cX12_init 112 = .ok (.ldc 47, 2) := by decide +kernel
theorem dX12_init_114 : decode cX12_init 114 = .ok (.newarray .int, 2) := by decide +kernel
theorem dX12_init_116 : decode cX12_init 116 = .ok (.putfield 48, 3) := by decide +kernel
theorem dX12_init_119 : decode cX12_init 119 = .ok (.aload_n 0, 1) := by decide +kernel
theorem dX12_init_120 : decode cX12_init 120 = .ok (.bipush 24, 2) := by decide +kernel
theorem dX12_init_122 : decode cX12_init 122 = .ok (.newarray .int, 2) := by decide +kernel
theorem dX12_init_124 : decode cX12_init 124 = .ok (.putfield 51, 3) := by decide +kernel
theorem dX12_init_127 : decode cX12_init 127 = .ok (.aload_n 0, 1) := by decide +kernel
theorem dX12_init_128 : decode cX12_init 128 = .ok (.sipush 4000, 3) := by decide +kernel
theorem dX12_init_131 : decode cX12_init 131 = .ok (.newarray .int, 2) := by decide +kernel
theorem dX12_init_133 : decode cX12_init 133 = .ok (.putfield 54, 3) := by decide +kernel
theorem dX12_init_136 : decode cX12_init 136 = .ok (.aload_n 0, 1) := by decide +kernel
theorem dX12_init_137 : decode cX12_init 137 = .ok (.sipush 4000, 3) := by decide +kernel
theorem dX12_init_140 : decode cX12_init 140 = .ok (.newarray .int, 2) := by decide +kernel
theorem dX12_init_142 : decode cX12_init 142 = .ok (.putfield 57, 3) := by decide +kernel
theorem dX12_init_145 : decode cX12_init 145 = .ok (.aload_n 0, 1) := by decide +kernel
theorem dX12_init_146 : decode cX12_init 146 = .ok (.bipush 66, 2) := by decide +kernel
theorem dX12_init_148 : decode cX12_init 148 = .ok (.newarray .int, 2) := by decide +kernel
theorem dX12_init_150 : decode cX12_init 150 = .ok (.putfield 60, 3) := by decide +kernel
theorem dX12_init_153 : decode cX12_init 153 = .ok (.aload_n 0, 1) := by decide +kernel
theorem dX12_init_154 : decode cX12_init 154 = .ok (.bipush 66, 2) := by decide +kernel
theorem dX12_init_156 : decode cX12_init 156 = .ok (.newarray .int, 2) := by decide +kernel
theorem dX12_init_158 : decode cX12_init 158 = .ok (.putfield 63, 3) := by decide +kernel
theorem dX12_init_161 : decode cX12_init 161 = .ok (.aload_n 0, 1) := by decide +kernel
theorem dX12_init_162 : decode cX12_init 162 = .ok (.sipush 144, 3) := by decide +kernel
theorem dX12_init_165 : decode cX12_init 165 = .ok (.newarray .int, 2) := by decide +kernel
theorem dX12_init_167 : decode cX12_init 167 = .ok (.putfield 66, 3) := by decide +kernel
theorem dX12_init_170 : decode cX12_init 170 = .ok (.aload_n 0, 1) := by decide +kernel
theorem dX12_init_171 : decode cX12_init 171 = .ok (.sipush 1501, 3) := by decide +kernel
theorem dX12_init_174 : decode cX12_init 174 = .ok (.newarray .long, 2) := by decide +kernel
theorem dX12_init_176 : decode cX12_init 176 = .ok (.putfield 69, 3) := by decide +kernel
theorem dX12_init_179 : decode cX12_init 179 = .ok (.aload_n 0, 1) := by decide +kernel
theorem dX12_init_180 : decode cX12_init 180 = .ok (.sipush 1501, 3) := by decide +kernel
theorem dX12_init_183 : decode cX12_init 183 = .ok (.newarray .int, 2) := by decide +kernel
theorem dX12_init_185 : decode cX12_init 185 = .ok (.putfield 72, 3) := by decide +kernel
theorem dX12_init_188 : decode cX12_init 188 = .ok (.aload_n 0, 1) := by decide +kernel
theorem dX12_init_189 : decode cX12_init 189 = .ok (.sipush 4096, 3) := by decide +kernel
theorem dX12_init_192 : decode cX12_init 192 = .ok (.newarray .int, 2) := by decide +kernel
theorem dX12_init_194 : decode cX12_init 194 = .ok (.putfield 75, 3) := by decide +kernel
theorem dX12_init_197 : decode cX12_init 197 = .ok (.aload_n 0, 1) := by decide +kernel
theorem dX12_init_198 : decode cX12_init 198 = .ok (.bipush 100, 2) := by decide +kernel
theorem dX12_init_200 : decode cX12_init 200 = .ok (.newarray .long, 2) := by decide +kernel
theorem dX12_init_202 : decode cX12_init 202 = .ok (.putfield 78, 3) := by decide +kernel
theorem dX12_init_205 : decode cX12_init 205 = .ok (.aload_n 0, 1) := by decide +kernel
theorem dX12_init_206 : decode cX12_init 206 = .ok (.getfield 7, 3) := by decide +kernel
theorem dX12_init_209 : decode cX12_init 209 = .ok (.iconst 0, 1) := by decide +kernel
theorem dX12_init_210 : decode cX12_init 210 = .ok (.iconst 0, 1) := by decide +kernel
theorem dX12_init_211 : decode cX12_init 211 = .ok (.iastore, 1) := by decide +kernel
theorem dX12_init_212 : decode cX12_init 212 = .ok (.return_, 1) := by decide +kernel
theorem dX12_in_0 : decode cX12_in 0 = .ok (.iload_n 0, 1) := by decide +kernel
theorem dX12_in_1 : decode cX12_in 1 = .ok (.iload_n 1, 1) := by decide +kernel
theorem dX12_in_2 : decode cX12_in 2 = .ok (.if_icmp .lt 12, 3) := by decide +kernel
theorem dX12_in_5 : decode cX12_in 5 = .ok (.iload_n 0, 1) := by decide +kernel
theorem dX12_in_6 : decode cX12_in 6 = .ok (.iload_n 2, 1) := by decide +kernel
theorem dX12_in_7 : decode cX12_in 7 = .ok (.if_icmp .gt 7, 3) := by decide +kernel
theorem dX12_in_10 : decode cX12_in 10 = .ok (.iconst 1, 1) := by decide +kernel
theorem dX12_in_11 : decode cX12_in 11 = .ok (.goto 4, 3) := by decide +kernel
theorem dX12_in_14 : decode cX12_in 14 = .ok (.iconst 0, 1) := by decide +kernel
theorem dX12_in_15 : decode cX12_in 15 = .ok (.ireturn, 1) := by decide +kernel
theorem dX12_isShape_0 : decode cX12_isShape 0 = .ok (.iload_n 0, 1) := by decide +kernel
theorem dX12_isShape_1 : decode cX12_isShape 1 = .ok (.iconst 0, 1) := by decide +kernel
theorem dX12_isShape_2 : decode cX12_isShape 2 = .ok (.bipush 7, 2) := by decide +kernel
theorem dX12_isShape_4 : decode cX12_isShape 4 = .ok (.invokestatic 81, 3) := by decide +kernel
theorem dX12_isShape_7 : decode cX12_isShape 7 = .ok (.ireturn, 1) := by decide +kernel
theorem dX12_isPlace_0 : decode cX12_isPlace 0 = .ok (.iload_n 0, 1) := by decide +kernel
theorem dX12_isPlace_1 : decode cX12_isPlace 1 = .ok (.bipush (-40), 2) := by decide +kernel
theorem dX12_isPlace_3 : decode cX12_isPlace 3 = .ok (.bipush 40, 2) := by decide +kernel
theorem dX12_isPlace_5 : decode cX12_isPlace 5 = .ok (.invokestatic 81, 3) := by decide +kernel
theorem dX12_isPlace_8 : decode cX12_isPlace 8 = .ok (.ifCond .eq 18, 3) := by decide +kernel
theorem dX12_isPlace_11 : decode cX12_isPlace 11 = .ok (.iload_n 1, 1) := by decide +kernel
theorem dX12_isPlace_12 : decode cX12_isPlace 12 = .ok (.bipush (-40), 2) := by decide +kernel
theorem dX12_isPlace_14 : decode cX12_isPlace 14 = .ok (.bipush 40, 2) := by decide +kernel
theorem dX12_isPlace_16 : decode cX12_isPlace 16 = .ok (.invokestatic 81, 3) := by decide +kernel
theorem dX12_isPlace_19 : decode cX12_isPlace 19 = .ok (.ifCond .eq 7, 3) := by decide +kernel
theorem dX12_isPlace_22 : decode cX12_isPlace 22 = .ok (.iconst 1, 1) := by decide +kernel
theorem dX12_isPlace_23 : decode cX12_isPlace 23 = .ok (.goto 4, 3) := by decide +kernel
theorem dX12_isPlace_26 : decode cX12_isPlace 26 = .ok (.iconst 0, 1) := by decide +kernel
theorem dX12_isPlace_27 : decode cX12_isPlace 27 = .ok (.ireturn, 1) := by decide +kernel
theorem dX12_size_0 : decode cX12_size 0 = .ok (.iload_n 0, 1) := by decide +kernel
theorem dX12_size_1 : decode cX12_size 1 = .ok (.ifCond .ge 8, 3) := by decide +kernel
theorem dX12_size_4 : decode cX12_size 4 = .ok (.iload_n 0, 1) := by decide +kernel
theorem dX12_size_5 : decode cX12_size 5 = .ok (.ineg, 1) := by decide +kernel
theorem dX12_size_6 : decode cX12_size 6 = .ok (.goto 4, 3) := by decide +kernel
theorem dX12_size_9 : decode cX12_size 9 = .ok (.iload_n 0, 1) := by decide +kernel
theorem dX12_size_10 : decode cX12_size 10 = .ok (.ireturn, 1) := by decide +kernel
theorem dX12_common_0 : decode cX12_common 0 = .ok (.iload_n 0, 1) := by decide +kernel
theorem dX12_common_1 : decode cX12_common 1 = .ok (.invokestatic 85, 3) := by decide +kernel
theorem dX12_common_4 : decode cX12_common 4 = .ok (.istore_n 2, 1) := by decide +kernel
theorem dX12_common_5 : decode cX12_common 5 = .ok (.iload_n 1, 1) := by decide +kernel
theorem dX12_common_6 : decode cX12_common 6 = .ok (.invokestatic 85, 3) := by decide +kernel
theorem dX12_common_9 : decode cX12_common 9 = .ok (.istore_n 3, 1) := by decide +kernel
theorem dX12_common_10 : decode cX12_common 10 = .ok (.iload_n 3, 1) := by decide +kernel
theorem dX12_common_11 : decode cX12_common 11 = .ok (.ifCond .eq 16, 3) := by decide +kernel
theorem dX12_common_14 : decode cX12_common 14 = .ok (.iload_n 2, 1) := by decide +kernel
theorem dX12_common_15 : decode cX12_common 15 = .ok (.iload_n 3, 1) := by decide +kernel
theorem dX12_common_16 : decode cX12_common 16 = .ok (.irem, 1) := by decide +kernel
theorem dX12_common_17 : decode cX12_common 17 = .ok (.istore 4, 2) := by decide +kernel
theorem dX12_common_19 : decode cX12_common 19 = .ok (.iload_n 3, 1) := by decide +kernel
theorem dX12_common_20 : decode cX12_common 20 = .ok (.istore_n 2, 1) := by decide +kernel
theorem dX12_common_21 : decode cX12_common 21 = .ok (.iload 4, 2) := by decide +kernel
theorem dX12_common_23 : decode cX12_common 23 = .ok (.istore_n 3, 1) := by decide +kernel
theorem dX12_common_24 : decode cX12_common 24 = .ok (.goto (-14), 3) := by decide +kernel
theorem dX12_common_27 : decode cX12_common 27 = .ok (.iload_n 2, 1) := by decide +kernel
theorem dX12_common_28 : decode cX12_common 28 = .ok (.ireturn, 1) := by decide +kernel
theorem dX12_isAfter_0 : decode cX12_isAfter 0 = .ok (.aload_n 0, 1) := by decide +kernel
theorem dX12_isAfter_1 : decode cX12_isAfter 1 = .ok (.getfield 22, 3) := by decide +kernel
theorem dX12_isAfter_4 : decode cX12_isAfter 4 = .ok (.iload_n 1, 1) := by decide +kernel
theorem dX12_isAfter_5 : decode cX12_isAfter 5 = .ok (.iaload, 1) := by decide +kernel
theorem dX12_isAfter_6 : decode cX12_isAfter 6 = .ok (.aload_n 0, 1) := by decide +kernel
theorem dX12_isAfter_7 : decode cX12_isAfter 7 = .ok (.getfield 22, 3) := by decide +kernel
theorem dX12_isAfter_10 : decode cX12_isAfter 10 = .ok (.iload_n 2, 1) := by decide +kernel
theorem dX12_isAfter_11 : decode cX12_isAfter 11 = .ok (.iaload, 1) := by decide +kernel
theorem dX12_isAfter_12 : decode cX12_isAfter 12 = .ok (.if_icmp .gt 33, 3) := by decide +kernel
theorem dX12_isAfter_15 : decode cX12_isAfter 15 = .ok (.aload_n 0, 1) := by decide +kernel
theorem dX12_isAfter_16 : decode cX12_isAfter 16 = .ok (.getfield 22, 3) := by decide +kernel
theorem dX12_isAfter_19 : decode cX12_isAfter 19 = .ok (.iload_n 1, 1) := by decide +kernel
theorem dX12_isAfter_20 : decode cX12_isAfter 20 = .ok (.iaload, 1) := by decide +kernel
theorem dX12_isAfter_21 : decode cX12_isAfter 21 = .ok (.aload_n 0, 1) := by decide +kernel
theorem dX12_isAfter_22 : decode cX12_isAfter 22 = .ok (.getfield 22, 3) := by decide +kernel
theorem dX12_isAfter_25 : decode cX12_isAfter 25 = .ok (.iload_n 2, 1) := by decide +kernel
theorem dX12_isAfter_26 : decode cX12_isAfter 26 = .ok (.iaload, 1) := by decide +kernel
theorem dX12_isAfter_27 : decode cX12_isAfter 27 = .ok (.if_icmp .ne 22, 3) := by decide +kernel
theorem dX12_isAfter_30 : decode cX12_isAfter 30 = .ok (.aload_n 0, 1) := by decide +kernel
theorem dX12_isAfter_31 : decode cX12_isAfter 31 = .ok (.getfield 25, 3) := by decide +kernel
theorem dX12_isAfter_34 : decode cX12_isAfter 34 = .ok (.iload_n 1, 1) := by decide +kernel
theorem dX12_isAfter_35 : decode cX12_isAfter 35 = .ok (.iaload, 1) := by decide +kernel
theorem dX12_isAfter_36 : decode cX12_isAfter 36 = .ok (.aload_n 0, 1) := by decide +kernel
theorem dX12_isAfter_37 : decode cX12_isAfter 37 = .ok (.getfield 25, 3) := by decide +kernel
theorem dX12_isAfter_40 : decode cX12_isAfter 40 = .ok (.iload_n 2, 1) := by decide +kernel
theorem dX12_isAfter_41 : decode cX12_isAfter 41 = .ok (.iaload, 1) := by decide +kernel
theorem dX12_isAfter_42 : decode cX12_isAfter 42 = .ok (.if_icmp .le 7, 3) := by decide +kernel
theorem dX12_isAfter_45 : decode cX12_isAfter 45 = .ok (.iconst 1, 1) := by decide +kernel
theorem dX12_isAfter_46 : decode cX12_isAfter 46 = .ok (.goto 4, 3) := by decide +kernel
theorem dX12_isAfter_49 : decode cX12_isAfter 49 = .ok (.iconst 0, 1) := by decide +kernel
theorem dX12_isAfter_50 : decode cX12_isAfter 50 = .ok (.ireturn, 1) := by decide +kernel
theorem dX12_order_0 : decode cX12_order 0 = .ok (.iconst 1, 1) := by decide +kernel
theorem dX12_order_1 : decode cX12_order 1 = .ok (.istore_n 1, 1) := by decide +kernel
theorem dX12_order_2 : decode cX12_order 2 = .ok (.iload_n 1, 1) := by decide +kernel
theorem dX12_order_3 : decode cX12_order 3 = .ok (.aload_n 0, 1) := by decide +kernel
theorem dX12_order_4 : decode cX12_order 4 = .ok (.getfield 89, 3) := by decide +kernel
theorem dX12_order_7 : decode cX12_order 7 = .ok (.if_icmp .ge 94, 3) := by decide +kernel
theorem dX12_order_10 : decode cX12_order 10 = .ok (.iload_n 1, 1) := by decide +kernel
theorem dX12_order_11 : decode cX12_order 11 = .ok (.istore_n 2, 1) := by decide +kernel
theorem dX12_order_12 : decode cX12_order 12 = .ok (.iload_n 2, 1) := by decide +kernel
theorem dX12_order_13 : decode cX12_order 13 = .ok (.ifCond .le 82, 3) := by decide +kernel
theorem dX12_order_16 : decode cX12_order 16 = .ok (.aload_n 0, 1) := by decide +kernel
theorem dX12_order_17 : decode cX12_order 17 = .ok (.iload_n 2, 1) := by decide +kernel
theorem dX12_order_18 : decode cX12_order 18 = .ok (.iconst 1, 1) := by decide +kernel
theorem dX12_order_19 : decode cX12_order 19 = .ok (.isub, 1) := by decide +kernel
theorem dX12_order_20 : decode cX12_order 20 = .ok (.iload_n 2, 1) := by decide +kernel
theorem dX12_order_21 : decode cX12_order 21 = .ok (.invokevirtual 93, 3) := by decide +kernel
theorem dX12_order_24 : decode cX12_order 24 = .ok (.ifCond .eq 71, 3) := by decide +kernel
theorem dX12_order_27 : decode cX12_order 27 = .ok (.aload_n 0, 1) := by decide +kernel
theorem dX12_order_28 : decode cX12_order 28 = .ok (.getfield 22, 3) := by decide +kernel
theorem dX12_order_31 : decode cX12_order 31 = .ok (.iload_n 2, 1) := by decide +kernel
theorem dX12_order_32 : decode cX12_order 32 = .ok (.iaload, 1) := by decide +kernel
theorem dX12_order_33 : decode cX12_order 33 = .ok (.istore_n 3, 1) := by decide +kernel
theorem dX12_order_34 : decode cX12_order 34 = .ok (.aload_n 0, 1) := by decide +kernel
theorem dX12_order_35 : decode cX12_order 35 = .ok (.getfield 25, 3) := by decide +kernel
theorem dX12_order_38 : decode cX12_order 38 = .ok (.iload_n 2, 1) := by decide +kernel
theorem dX12_order_39 : decode cX12_order 39 = .ok (.iaload, 1) := by decide +kernel
theorem dX12_order_40 : decode cX12_order 40 = .ok (.istore 4, 2) := by decide +kernel
theorem dX12_order_42 : decode cX12_order 42 = .ok (.aload_n 0, 1) := by decide +kernel
theorem dX12_order_43 : decode cX12_order 43 = .ok (.getfield 22, 3) := by decide +kernel
theorem dX12_order_46 : decode cX12_order 46 = .ok (.iload_n 2, 1) := by decide +kernel
theorem dX12_order_47 : decode cX12_order 47 = .ok (.aload_n 0, 1) := by decide +kernel
theorem dX12_order_48 : decode cX12_order 48 = .ok (.getfield 22, 3) := by decide +kernel
theorem dX12_order_51 : decode cX12_order 51 = .ok (.iload_n 2, 1) := by decide +kernel
theorem dX12_order_52 : decode cX12_order 52 = .ok (.iconst 1, 1) := by decide +kernel
theorem dX12_order_53 : decode cX12_order 53 = .ok (.isub, 1) := by decide +kernel
theorem dX12_order_54 : decode cX12_order 54 = .ok (.iaload, 1) := by decide +kernel
theorem dX12_order_55 : decode cX12_order 55 = .ok (.iastore, 1) := by decide +kernel
theorem dX12_order_56 : decode cX12_order 56 = .ok (.aload_n 0, 1) := by decide +kernel
theorem dX12_order_57 : decode cX12_order 57 = .ok (.getfield 25, 3) := by decide +kernel
theorem dX12_order_60 : decode cX12_order 60 = .ok (.iload_n 2, 1) := by decide +kernel
theorem dX12_order_61 : decode cX12_order 61 = .ok (.aload_n 0, 1) := by decide +kernel
theorem dX12_order_62 : decode cX12_order 62 = .ok (.getfield 25, 3) := by decide +kernel
theorem dX12_order_65 : decode cX12_order 65 = .ok (.iload_n 2, 1) := by decide +kernel
theorem dX12_order_66 : decode cX12_order 66 = .ok (.iconst 1, 1) := by decide +kernel
theorem dX12_order_67 : decode cX12_order 67 = .ok (.isub, 1) := by decide +kernel
theorem dX12_order_68 : decode cX12_order 68 = .ok (.iaload, 1) := by decide +kernel
theorem dX12_order_69 : decode cX12_order 69 = .ok (.iastore, 1) := by decide +kernel
theorem dX12_order_70 : decode cX12_order 70 = .ok (.aload_n 0, 1) := by decide +kernel
theorem dX12_order_71 : decode cX12_order 71 = .ok (.getfield 22, 3) := by decide +kernel
theorem dX12_order_74 : decode cX12_order 74 = .ok (.iload_n 2, 1) := by decide +kernel
theorem dX12_order_75 : decode cX12_order 75 = .ok (.iconst 1, 1) := by decide +kernel
theorem dX12_order_76 : decode cX12_order 76 = .ok (.isub, 1) := by decide +kernel
theorem dX12_order_77 : decode cX12_order 77 = .ok (.iload_n 3, 1) := by decide +kernel
theorem dX12_order_78 : decode cX12_order 78 = .ok (.iastore, 1) := by decide +kernel
theorem dX12_order_79 : decode cX12_order 79 = .ok (.aload_n 0, 1) := by decide +kernel
theorem dX12_order_80 : decode cX12_order 80 = .ok (.getfield 25, 3) := by decide +kernel
theorem dX12_order_83 : decode cX12_order 83 = .ok (.iload_n 2, 1) := by decide +kernel
theorem dX12_order_84 : decode cX12_order 84 = .ok (.iconst 1, 1) := by decide +kernel
theorem dX12_order_85 : decode cX12_order 85 = .ok (.isub, 1) := by decide +kernel
theorem dX12_order_86 : decode cX12_order 86 = .ok (.iload 4, 2) := by decide +kernel
theorem dX12_order_88 : decode cX12_order 88 = .ok (.iastore, 1) := by decide +kernel
theorem dX12_order_89 : decode cX12_order 89 = .ok (.iinc 2 (-1), 3) := by decide +kernel
theorem dX12_order_92 : decode cX12_order 92 = .ok (.goto (-80), 3) := by decide +kernel
theorem dX12_order_95 : decode cX12_order 95 = .ok (.iinc 1 1, 3) := by decide +kernel
theorem dX12_order_98 : decode cX12_order 98 = .ok (.goto (-96), 3) := by decide +kernel
theorem dX12_order_101 : decode cX12_order 101 = .ok (.iconst 0, 1) := by decide +kernel
theorem dX12_order_102 : decode cX12_order 102 = .ok (.istore_n 1, 1) := by decide +kernel
theorem dX12_order_103 : decode cX12_order 103 = .ok (.iconst 0, 1) := by decide +kernel
theorem dX12_order_104 : decode cX12_order 104 = .ok (.istore_n 2, 1) := by decide +kernel
theorem dX12_order_105 : decode cX12_order 105 = .ok (.iload_n 2, 1) := by decide +kernel
theorem dX12_order_106 : decode cX12_order 106 = .ok (.aload_n 0, 1) := by decide +kernel
theorem dX12_order_107 : decode cX12_order 107 = .ok (.getfield 89, 3) := by decide +kernel
theorem dX12_order_110 : decode cX12_order 110 = .ok (.if_icmp .ge 74, 3) := by decide +kernel
theorem dX12_order_113 : decode cX12_order 113 = .ok (.iload_n 1, 1) := by decide +kernel
theorem dX12_order_114 : decode cX12_order 114 = .ok (.ifCond .eq 37, 3) := by decide +kernel
theorem dX12_order_117 : decode cX12_order 117 = .ok (.aload_n 0, 1) := by decide +kernel
theorem dX12_order_118 : decode cX12_order 118 = .ok (.getfield 22, 3) := by decide +kernel
theorem dX12_order_121 : decode cX12_order 121 = .ok (.iload_n 2, 1) := by decide +kernel
theorem dX12_order_122 : decode cX12_order 122 = .ok (.iaload, 1) := by decide +kernel
theorem dX12_order_123 : decode cX12_order 123 = .ok (.aload_n 0, 1) := by decide +kernel
theorem dX12_order_124 : decode cX12_order 124 = .ok (.getfield 22, 3) := by decide +kernel
theorem dX12_order_127 : decode cX12_order 127 = .ok (.iload_n 1, 1) := by decide +kernel
theorem dX12_order_128 : decode cX12_order 128 = .ok (.iconst 1, 1) := by decide +kernel
theorem dX12_order_129 : decode cX12_order 129 = .ok (.isub, 1) := by decide +kernel
theorem dX12_order_130 : decode cX12_order 130 = .ok (.iaload, 1) := by decide +kernel
theorem dX12_order_131 : decode cX12_order 131 = .ok (.if_icmp .ne 20, 3) := by decide +kernel
theorem dX12_order_134 : decode cX12_order 134 = .ok (.aload_n 0, 1) := by decide +kernel
theorem dX12_order_135 : decode cX12_order 135 = .ok (.getfield 25, 3) := by decide +kernel
theorem dX12_order_138 : decode cX12_order 138 = .ok (.iload_n 2, 1) := by decide +kernel
theorem dX12_order_139 : decode cX12_order 139 = .ok (.iaload, 1) := by decide +kernel
theorem dX12_order_140 : decode cX12_order 140 = .ok (.aload_n 0, 1) := by decide +kernel
theorem dX12_order_141 : decode cX12_order 141 = .ok (.getfield 25, 3) := by decide +kernel
theorem dX12_order_144 : decode cX12_order 144 = .ok (.iload_n 1, 1) := by decide +kernel
theorem dX12_order_145 : decode cX12_order 145 = .ok (.iconst 1, 1) := by decide +kernel
theorem dX12_order_146 : decode cX12_order 146 = .ok (.isub, 1) := by decide +kernel
theorem dX12_order_147 : decode cX12_order 147 = .ok (.iaload, 1) := by decide +kernel
theorem dX12_order_148 : decode cX12_order 148 = .ok (.if_icmp .eq 30, 3) := by decide +kernel
theorem dX12_order_151 : decode cX12_order 151 = .ok (.aload_n 0, 1) := by decide +kernel
theorem dX12_order_152 : decode cX12_order 152 = .ok (.getfield 22, 3) := by decide +kernel
theorem dX12_order_155 : decode cX12_order 155 = .ok (.iload_n 1, 1) := by decide +kernel
theorem dX12_order_156 : decode cX12_order 156 = .ok (.aload_n 0, 1) := by decide +kernel
theorem dX12_order_157 : decode cX12_order 157 = .ok (.getfield 22, 3) := by decide +kernel
theorem dX12_order_160 : decode cX12_order 160 = .ok (.iload_n 2, 1) := by decide +kernel
theorem dX12_order_161 : decode cX12_order 161 = .ok (.iaload, 1) := by decide +kernel
theorem dX12_order_162 : decode cX12_order 162 = .ok (.iastore, 1) := by decide +kernel
theorem dX12_order_163 : decode cX12_order 163 = .ok (.aload_n 0, 1) := by decide +kernel
theorem dX12_order_164 : decode cX12_order 164 = .ok (.getfield 25, 3) := by decide +kernel
theorem dX12_order_167 : decode cX12_order 167 = .ok (.iload_n 1, 1) := by decide +kernel
theorem dX12_order_168 : decode cX12_order 168 = .ok (.aload_n 0, 1) := by decide +kernel
theorem dX12_order_169 : decode cX12_order 169 = .ok (.getfield 25, 3) := by decide +kernel
theorem dX12_order_172 : decode cX12_order 172 = .ok (.iload_n 2, 1) := by decide +kernel
theorem dX12_order_173 : decode cX12_order 173 = .ok (.iaload, 1) := by decide +kernel
theorem dX12_order_174 : decode cX12_order 174 = .ok (.iastore, 1) := by decide +kernel
theorem dX12_order_175 : decode cX12_order 175 = .ok (.iinc 1 1, 3) := by decide +kernel
theorem dX12_order_178 : decode cX12_order 178 = .ok (.iinc 2 1, 3) := by decide +kernel
theorem dX12_order_181 : decode cX12_order 181 = .ok (.goto (-76), 3) := by decide +kernel
theorem dX12_order_184 : decode cX12_order 184 = .ok (.aload_n 0, 1) := by decide +kernel
theorem dX12_order_185 : decode cX12_order 185 = .ok (.iload_n 1, 1) := by decide +kernel
theorem dX12_order_186 : decode cX12_order 186 = .ok (.putfield 89, 3) := by decide +kernel
theorem dX12_order_189 : decode cX12_order 189 = .ok (.return_, 1) := by decide +kernel
theorem dX12_goOn_0 : decode cX12_goOn 0 = .ok (.iconst 1, 1) := by decide +kernel
theorem dX12_goOn_1 : decode cX12_goOn 1 = .ok (.istore_n 3, 1) := by decide +kernel
theorem dX12_goOn_2 : decode cX12_goOn 2 = .ok (.iload_n 3, 1) := by decide +kernel
theorem dX12_goOn_3 : decode cX12_goOn 3 = .ok (.ifCond .eq 144, 3) := by decide +kernel
theorem dX12_goOn_6 : decode cX12_goOn 6 = .ok (.aload_n 0, 1) := by decide +kernel
theorem dX12_goOn_7 : decode cX12_goOn 7 = .ok (.getfield 97, 3) := by decide +kernel
theorem dX12_goOn_10 : decode cX12_goOn 10 = .ok (.iload_n 2, 1) := by decide +kernel
theorem dX12_goOn_11 : decode cX12_goOn 11 = .ok (.isub, 1) := by decide +kernel
theorem dX12_goOn_12 : decode cX12_goOn 12 = .ok (.iconst 1, 1) := by decide +kernel
theorem dX12_goOn_13 : decode cX12_goOn 13 = .ok (.if_icmp .le 134, 3) := by decide +kernel
theorem dX12_goOn_16 : decode cX12_goOn 16 = .ok (.aload_n 0, 1) := by decide +kernel
theorem dX12_goOn_17 : decode cX12_goOn 17 = .ok (.getfield 28, 3) := by decide +kernel
theorem dX12_goOn_20 : decode cX12_goOn 20 = .ok (.aload_n 0, 1) := by decide +kernel
theorem dX12_goOn_21 : decode cX12_goOn 21 = .ok (.getfield 97, 3) := by decide +kernel
theorem dX12_goOn_24 : decode cX12_goOn 24 = .ok (.iconst 1, 1) := by decide +kernel
theorem dX12_goOn_25 : decode cX12_goOn 25 = .ok (.isub, 1) := by decide +kernel
theorem dX12_goOn_26 : decode cX12_goOn 26 = .ok (.iaload, 1) := by decide +kernel
theorem dX12_goOn_27 : decode cX12_goOn 27 = .ok (.aload_n 0, 1) := by decide +kernel
theorem dX12_goOn_28 : decode cX12_goOn 28 = .ok (.getfield 28, 3) := by decide +kernel
theorem dX12_goOn_31 : decode cX12_goOn 31 = .ok (.aload_n 0, 1) := by decide +kernel
theorem dX12_goOn_32 : decode cX12_goOn 32 = .ok (.getfield 97, 3) := by decide +kernel
theorem dX12_goOn_35 : decode cX12_goOn 35 = .ok (.iconst 2, 1) := by decide +kernel
theorem dX12_goOn_36 : decode cX12_goOn 36 = .ok (.isub, 1) := by decide +kernel
theorem dX12_goOn_37 : decode cX12_goOn 37 = .ok (.iaload, 1) := by decide +kernel
theorem dX12_goOn_38 : decode cX12_goOn 38 = .ok (.isub, 1) := by decide +kernel
theorem dX12_goOn_39 : decode cX12_goOn 39 = .ok (.istore 4, 2) := by decide +kernel
theorem dX12_goOn_41 : decode cX12_goOn 41 = .ok (.aload_n 0, 1) := by decide +kernel
theorem dX12_goOn_42 : decode cX12_goOn 42 = .ok (.getfield 31, 3) := by decide +kernel
theorem dX12_goOn_45 : decode cX12_goOn 45 = .ok (.aload_n 0, 1) := by decide +kernel
theorem dX12_goOn_46 : decode cX12_goOn 46 = .ok (.getfield 97, 3) := by decide +kernel
theorem dX12_goOn_49 : decode cX12_goOn 49 = .ok (.iconst 1, 1) := by decide +kernel
theorem dX12_goOn_50 : decode cX12_goOn 50 = .ok (.isub, 1) := by decide +kernel
theorem dX12_goOn_51 : decode cX12_goOn 51 = .ok (.iaload, 1) := by decide +kernel
theorem dX12_goOn_52 : decode cX12_goOn 52 = .ok (.aload_n 0, 1) := by decide +kernel
theorem dX12_goOn_53 : decode cX12_goOn 53 = .ok (.getfield 31, 3) := by decide +kernel
theorem dX12_goOn_56 : decode cX12_goOn 56 = .ok (.aload_n 0, 1) := by decide +kernel
theorem dX12_goOn_57 : decode cX12_goOn 57 = .ok (.getfield 97, 3) := by decide +kernel
theorem dX12_goOn_60 : decode cX12_goOn 60 = .ok (.iconst 2, 1) := by decide +kernel
theorem dX12_goOn_61 : decode cX12_goOn 61 = .ok (.isub, 1) := by decide +kernel
theorem dX12_goOn_62 : decode cX12_goOn 62 = .ok (.iaload, 1) := by decide +kernel
theorem dX12_goOn_63 : decode cX12_goOn 63 = .ok (.isub, 1) := by decide +kernel
theorem dX12_goOn_64 : decode cX12_goOn 64 = .ok (.istore 5, 2) := by decide +kernel
theorem dX12_goOn_66 : decode cX12_goOn 66 = .ok (.aload_n 0, 1) := by decide +kernel
theorem dX12_goOn_67 : decode cX12_goOn 67 = .ok (.getfield 22, 3) := by decide +kernel
theorem dX12_goOn_70 : decode cX12_goOn 70 = .ok (.iload_n 1, 1) := by decide +kernel
theorem dX12_goOn_71 : decode cX12_goOn 71 = .ok (.iaload, 1) := by decide +kernel
theorem dX12_goOn_72 : decode cX12_goOn 72 = .ok (.aload_n 0, 1) := by decide +kernel
theorem dX12_goOn_73 : decode cX12_goOn 73 = .ok (.getfield 28, 3) := by decide +kernel
theorem dX12_goOn_76 : decode cX12_goOn 76 = .ok (.aload_n 0, 1) := by decide +kernel
theorem dX12_goOn_77 : decode cX12_goOn 77 = .ok (.getfield 97, 3) := by decide +kernel
theorem dX12_goOn_80 : decode cX12_goOn 80 = .ok (.iconst 2, 1) := by decide +kernel
theorem dX12_goOn_81 : decode cX12_goOn 81 = .ok (.isub, 1) := by decide +kernel
theorem dX12_goOn_82 : decode cX12_goOn 82 = .ok (.iaload, 1) := by decide +kernel
theorem dX12_goOn_83 : decode cX12_goOn 83 = .ok (.isub, 1) := by decide +kernel
theorem dX12_goOn_84 : decode cX12_goOn 84 = .ok (.istore 6, 2) := by decide +kernel
theorem dX12_goOn_86 : decode cX12_goOn 86 = .ok (.aload_n 0, 1) := by decide +kernel
theorem dX12_goOn_87 : decode cX12_goOn 87 = .ok (.getfield 25, 3) := by decide +kernel
theorem dX12_goOn_90 : decode cX12_goOn 90 = .ok (.iload_n 1, 1) := by decide +kernel
theorem dX12_goOn_91 : decode cX12_goOn 91 = .ok (.iaload, 1) := by decide +kernel
theorem dX12_goOn_92 : decode cX12_goOn 92 = .ok (.aload_n 0, 1) := by decide +kernel
theorem dX12_goOn_93 : decode cX12_goOn 93 = .ok (.getfield 31, 3) := by decide +kernel
theorem dX12_goOn_96 : decode cX12_goOn 96 = .ok (.aload_n 0, 1) := by decide +kernel
theorem dX12_goOn_97 : decode cX12_goOn 97 = .ok (.getfield 97, 3) := by decide +kernel
theorem dX12_goOn_100 : decode cX12_goOn 100 = .ok (.iconst 2, 1) := by decide +kernel
theorem dX12_goOn_101 : decode cX12_goOn 101 = .ok (.isub, 1) := by decide +kernel
theorem dX12_goOn_102 : decode cX12_goOn 102 = .ok (.iaload, 1) := by decide +kernel
theorem dX12_goOn_103 : decode cX12_goOn 103 = .ok (.isub, 1) := by decide +kernel
theorem dX12_goOn_104 : decode cX12_goOn 104 = .ok (.istore 7, 2) := by decide +kernel
theorem dX12_goOn_106 : decode cX12_goOn 106 = .ok (.iload 4, 2) := by decide +kernel
theorem dX12_goOn_108 : decode cX12_goOn 108 = .ok (.iload 7, 2) := by decide +kernel
theorem dX12_goOn_110 : decode cX12_goOn 110 = .ok (.imul, 1) := by decide +kernel
theorem dX12_goOn_111 : decode cX12_goOn 111 = .ok (.iload 5, 2) := by decide +kernel
theorem dX12_goOn_113 : decode cX12_goOn 113 = .ok (.iload 6, 2) := by decide +kernel
theorem dX12_goOn_115 : decode cX12_goOn 115 = .ok (.imul, 1) := by decide +kernel
theorem dX12_goOn_116 : decode cX12_goOn 116 = .ok (.isub, 1) := by decide +kernel
theorem dX12_goOn_117 : decode cX12_goOn 117 = .ok (.ifCond .gt 7, 3) := by decide +kernel
theorem dX12_goOn_120 : decode cX12_goOn 120 = .ok (.iconst 1, 1) := by decide +kernel
theorem dX12_goOn_121 : decode cX12_goOn 121 = .ok (.goto 4, 3) := by decide +kernel
theorem dX12_goOn_124 : decode cX12_goOn 124 = .ok (.iconst 0, 1) := by decide +kernel
theorem dX12_goOn_125 : decode cX12_goOn 125 = .ok (.istore_n 3, 1) := by decide +kernel
theorem dX12_goOn_126 : decode cX12_goOn 126 = .ok (.aload_n 0, 1) := by decide +kernel
theorem dX12_goOn_127 : decode cX12_goOn 127 = .ok (.dup, 1) := by decide +kernel
theorem dX12_goOn_128 : decode cX12_goOn 128 = .ok (.getfield 97, 3) := by decide +kernel
theorem dX12_goOn_131 : decode cX12_goOn 131 = .ok (.iload_n 3, 1) := by decide +kernel
theorem dX12_goOn_132 : decode cX12_goOn 132 = .ok (.ifCond .eq 7, 3) := by decide +kernel
theorem dX12_goOn_135 : decode cX12_goOn 135 = .ok (.iconst 1, 1) := by decide +kernel
theorem dX12_goOn_136 : decode cX12_goOn 136 = .ok (.goto 4, 3) := by decide +kernel
theorem dX12_goOn_139 : decode cX12_goOn 139 = .ok (.iconst 0, 1) := by decide +kernel
theorem dX12_goOn_140 : decode cX12_goOn 140 = .ok (.isub, 1) := by decide +kernel
theorem dX12_goOn_141 : decode cX12_goOn 141 = .ok (.putfield 97, 3) := by decide +kernel
theorem dX12_goOn_144 : decode cX12_goOn 144 = .ok (.goto (-142), 3) := by decide +kernel
theorem dX12_goOn_147 : decode cX12_goOn 147 = .ok (.aload_n 0, 1) := by decide +kernel
theorem dX12_goOn_148 : decode cX12_goOn 148 = .ok (.getfield 28, 3) := by decide +kernel
theorem dX12_goOn_151 : decode cX12_goOn 151 = .ok (.aload_n 0, 1) := by decide +kernel
theorem dX12_goOn_152 : decode cX12_goOn 152 = .ok (.getfield 97, 3) := by decide +kernel
theorem dX12_goOn_155 : decode cX12_goOn 155 = .ok (.aload_n 0, 1) := by decide +kernel
theorem dX12_goOn_156 : decode cX12_goOn 156 = .ok (.getfield 22, 3) := by decide +kernel
theorem dX12_goOn_159 : decode cX12_goOn 159 = .ok (.iload_n 1, 1) := by decide +kernel
theorem dX12_goOn_160 : decode cX12_goOn 160 = .ok (.iaload, 1) := by decide +kernel
theorem dX12_goOn_161 : decode cX12_goOn 161 = .ok (.iastore, 1) := by decide +kernel
theorem dX12_goOn_162 : decode cX12_goOn 162 = .ok (.aload_n 0, 1) := by decide +kernel
theorem dX12_goOn_163 : decode cX12_goOn 163 = .ok (.getfield 31, 3) := by decide +kernel
theorem dX12_goOn_166 : decode cX12_goOn 166 = .ok (.aload_n 0, 1) := by decide +kernel
theorem dX12_goOn_167 : decode cX12_goOn 167 = .ok (.getfield 97, 3) := by decide +kernel
theorem dX12_goOn_170 : decode cX12_goOn 170 = .ok (.aload_n 0, 1) := by decide +kernel
theorem dX12_goOn_171 : decode cX12_goOn 171 = .ok (.getfield 25, 3) := by decide +kernel
theorem dX12_goOn_174 : decode cX12_goOn 174 = .ok (.iload_n 1, 1) := by decide +kernel
theorem dX12_goOn_175 : decode cX12_goOn 175 = .ok (.iaload, 1) := by decide +kernel
theorem dX12_goOn_176 : decode cX12_goOn 176 = .ok (.iastore, 1) := by decide +kernel
theorem dX12_goOn_177 : decode cX12_goOn 177 = .ok (.aload_n 0, 1) := by decide +kernel
theorem dX12_goOn_178 : decode cX12_goOn 178 = .ok (.dup, 1) := by decide +kernel
theorem dX12_goOn_179 : decode cX12_goOn 179 = .ok (.getfield 97, 3) := by decide +kernel
theorem dX12_goOn_182 : decode cX12_goOn 182 = .ok (.iconst 1, 1) := by decide +kernel
theorem dX12_goOn_183 : decode cX12_goOn 183 = .ok (.iadd, 1) := by decide +kernel
theorem dX12_goOn_184 : decode cX12_goOn 184 = .ok (.putfield 97, 3) := by decide +kernel
theorem dX12_goOn_187 : decode cX12_goOn 187 = .ok (.return_, 1) := by decide +kernel
theorem dX12_findHull_0 : decode cX12_findHull 0 = .ok (.aload_n 0, 1) := by decide +kernel
theorem dX12_findHull_1 : decode cX12_findHull 1 = .ok (.invokevirtual 100, 3) := by decide +kernel
theorem dX12_findHull_4 : decode cX12_findHull 4 = .ok (.aload_n 0, 1) := by decide +kernel
theorem dX12_findHull_5 : decode cX12_findHull 5 = .ok (.iconst 0, 1) := by decide +kernel
theorem dX12_findHull_6 : decode cX12_findHull 6 = .ok (.putfield 97, 3) := by decide +kernel
theorem dX12_findHull_9 : decode cX12_findHull 9 = .ok (.iconst 0, 1) := by decide +kernel
theorem dX12_findHull_10 : decode cX12_findHull 10 = .ok (.istore_n 1, 1) := by decide +kernel
theorem dX12_findHull_11 : decode cX12_findHull 11 = .ok (.iload_n 1, 1) := by decide +kernel
theorem dX12_findHull_12 : decode cX12_findHull 12 = .ok (.aload_n 0, 1) := by decide +kernel
theorem dX12_findHull_13 : decode cX12_findHull 13 = .ok (.getfield 89, 3) := by decide +kernel
theorem dX12_findHull_16 : decode cX12_findHull 16 = .ok (.if_icmp .ge 15, 3) := by decide +kernel
theorem dX12_findHull_19 : decode cX12_findHull 19 = .ok (.aload_n 0, 1) := by decide +kernel
theorem dX12_findHull_20 : decode cX12_findHull 20 = .ok (.iload_n 1, 1) := by decide +kernel
theorem dX12_findHull_21 : decode cX12_findHull 21 = .ok (.iconst 0, 1) := by decide +kernel
theorem dX12_findHull_22 : decode cX12_findHull 22 = .ok (.invokevirtual 103, 3) := by decide +kernel
theorem dX12_findHull_25 : decode cX12_findHull 25 = .ok (.iinc 1 1, 3) := by decide +kernel
theorem dX12_findHull_28 : decode cX12_findHull 28 = .ok (.goto (-17), 3) := by decide +kernel
theorem dX12_findHull_31 : decode cX12_findHull 31 = .ok (.aload_n 0, 1) := by decide +kernel
theorem dX12_findHull_32 : decode cX12_findHull 32 = .ok (.getfield 97, 3) := by decide +kernel
theorem dX12_findHull_35 : decode cX12_findHull 35 = .ok (.iconst 1, 1) := by decide +kernel
theorem dX12_findHull_36 : decode cX12_findHull 36 = .ok (.isub, 1) := by decide +kernel
theorem dX12_findHull_37 : decode cX12_findHull 37 = .ok (.istore_n 1, 1) := by decide +kernel
theorem dX12_findHull_38 : decode cX12_findHull 38 = .ok (.aload_n 0, 1) := by decide +kernel
theorem dX12_findHull_39 : decode cX12_findHull 39 = .ok (.getfield 89, 3) := by decide +kernel
theorem dX12_findHull_42 : decode cX12_findHull 42 = .ok (.iconst 2, 1) := by decide +kernel
theorem dX12_findHull_43 : decode cX12_findHull 43 = .ok (.isub, 1) := by decide +kernel
theorem dX12_findHull_44 : decode cX12_findHull 44 = .ok (.istore_n 2, 1) := by decide +kernel
theorem dX12_findHull_45 : decode cX12_findHull 45 = .ok (.iload_n 2, 1) := by decide +kernel
theorem dX12_findHull_46 : decode cX12_findHull 46 = .ok (.ifCond .lt 15, 3) := by decide +kernel
theorem dX12_findHull_49 : decode cX12_findHull 49 = .ok (.aload_n 0, 1) := by decide +kernel
theorem dX12_findHull_50 : decode cX12_findHull 50 = .ok (.iload_n 2, 1) := by decide +kernel
theorem dX12_findHull_51 : decode cX12_findHull 51 = .ok (.iload_n 1, 1) := by decide +kernel
theorem dX12_findHull_52 : decode cX12_findHull 52 = .ok (.invokevirtual 103, 3) := by decide +kernel
theorem dX12_findHull_55 : decode cX12_findHull 55 = .ok (.iinc 2 (-1), 3) := by decide +kernel
theorem dX12_findHull_58 : decode cX12_findHull 58 = .ok (.goto (-13), 3) := by decide +kernel
theorem dX12_findHull_61 : decode cX12_findHull 61 = .ok (.aload_n 0, 1) := by decide +kernel
theorem dX12_findHull_62 : decode cX12_findHull 62 = .ok (.dup, 1) := by decide +kernel
theorem dX12_findHull_63 : decode cX12_findHull 63 = .ok (.getfield 97, 3) := by decide +kernel
theorem dX12_findHull_66 : decode cX12_findHull 66 = .ok (.aload_n 0, 1) := by decide +kernel
theorem dX12_findHull_67 : decode cX12_findHull 67 = .ok (.getfield 89, 3) := by decide +kernel
theorem dX12_findHull_70 : decode cX12_findHull 70 = .ok (.iconst 1, 1) := by decide +kernel
theorem dX12_findHull_71 : decode cX12_findHull 71 = .ok (.if_icmp .le 7, 3) := by decide +kernel
theorem dX12_findHull_74 : decode cX12_findHull 74 = .ok (.iconst 1, 1) := by decide +kernel
theorem dX12_findHull_75 : decode cX12_findHull 75 = .ok (.goto 4, 3) := by decide +kernel
theorem dX12_findHull_78 : decode cX12_findHull 78 = .ok (.iconst 0, 1) := by decide +kernel
theorem dX12_findHull_79 : decode cX12_findHull 79 = .ok (.isub, 1) := by decide +kernel
theorem dX12_findHull_80 : decode cX12_findHull 80 = .ok (.putfield 97, 3) := by decide +kernel
theorem dX12_findHull_83 : decode cX12_findHull 83 = .ok (.return_, 1) := by decide +kernel
theorem dX12_x_0 : decode cX12_x 0 = .ok (.aload_n 0, 1) := by decide +kernel
theorem dX12_x_1 : decode cX12_x 1 = .ok (.getfield 13, 3) := by decide +kernel
theorem dX12_x_4 : decode cX12_x 4 = .ok (.bipush 24, 2) := by decide +kernel
theorem dX12_x_6 : decode cX12_x 6 = .ok (.iload_n 1, 1) := by decide +kernel
theorem dX12_x_7 : decode cX12_x 7 = .ok (.imul, 1) := by decide +kernel
theorem dX12_x_8 : decode cX12_x 8 = .ok (.iload_n 2, 1) := by decide +kernel
theorem dX12_x_9 : decode cX12_x 9 = .ok (.aload_n 0, 1) := by decide +kernel
theorem dX12_x_10 : decode cX12_x 10 = .ok (.getfield 7, 3) := by decide +kernel
theorem dX12_x_13 : decode cX12_x 13 = .ok (.iload_n 1, 1) := by decide +kernel
theorem dX12_x_14 : decode cX12_x 14 = .ok (.iaload, 1) := by decide +kernel
theorem dX12_x_15 : decode cX12_x 15 = .ok (.irem, 1) := by decide +kernel
theorem dX12_x_16 : decode cX12_x 16 = .ok (.iadd, 1) := by decide +kernel
theorem dX12_x_17 : decode cX12_x 17 = .ok (.iaload, 1) := by decide +kernel
theorem dX12_x_18 : decode cX12_x 18 = .ok (.ireturn, 1) := by decide +kernel
theorem dX12_y_0 : decode cX12_y 0 = .ok (.aload_n 0, 1) := by decide +kernel
theorem dX12_y_1 : decode cX12_y 1 = .ok (.getfield 16, 3) := by decide +kernel
theorem dX12_y_4 : decode cX12_y 4 = .ok (.bipush 24, 2) := by decide +kernel
theorem dX12_y_6 : decode cX12_y 6 = .ok (.iload_n 1, 1) := by decide +kernel
theorem dX12_y_7 : decode cX12_y 7 = .ok (.imul, 1) := by decide +kernel
theorem dX12_y_8 : decode cX12_y 8 = .ok (.iload_n 2, 1) := by decide +kernel
theorem dX12_y_9 : decode cX12_y 9 = .ok (.aload_n 0, 1) := by decide +kernel
theorem dX12_y_10 : decode cX12_y 10 = .ok (.getfield 7, 3) := by decide +kernel
theorem dX12_y_13 : decode cX12_y 13 = .ok (.iload_n 1, 1) := by decide +kernel
theorem dX12_y_14 : decode cX12_y 14 = .ok (.iaload, 1) := by decide +kernel
theorem dX12_y_15 : decode cX12_y 15 = .ok (.irem, 1) := by decide +kernel
theorem dX12_y_16 : decode cX12_y 16 = .ok (.iadd, 1) := by decide +kernel
theorem dX12_y_17 : decode cX12_y 17 = .ok (.iaload, 1) := by decide +kernel
theorem dX12_y_18 : decode cX12_y 18 = .ok (.ireturn, 1) := by decide +kernel
theorem dX12_put_0 : decode cX12_put 0 = .ok (.aload_n 0, 1) := by decide +kernel
theorem dX12_put_1 : decode cX12_put 1 = .ok (.getfield 22, 3) := by decide +kernel
theorem dX12_put_4 : decode cX12_put 4 = .ok (.aload_n 0, 1) := by decide +kernel
theorem dX12_put_5 : decode cX12_put 5 = .ok (.getfield 89, 3) := by decide +kernel
theorem dX12_put_8 : decode cX12_put 8 = .ok (.iload_n 1, 1) := by decide +kernel
theorem dX12_put_9 : decode cX12_put 9 = .ok (.iastore, 1) := by decide +kernel
theorem dX12_put_10 : decode cX12_put 10 = .ok (.aload_n 0, 1) := by decide +kernel
theorem dX12_put_11 : decode cX12_put 11 = .ok (.getfield 25, 3) := by decide +kernel
theorem dX12_put_14 : decode cX12_put 14 = .ok (.aload_n 0, 1) := by decide +kernel
theorem dX12_put_15 : decode cX12_put 15 = .ok (.getfield 89, 3) := by decide +kernel
theorem dX12_put_18 : decode cX12_put 18 = .ok (.iload_n 2, 1) := by decide +kernel
theorem dX12_put_19 : decode cX12_put 19 = .ok (.iastore, 1) := by decide +kernel
theorem dX12_put_20 : decode cX12_put 20 = .ok (.aload_n 0, 1) := by decide +kernel
theorem dX12_put_21 : decode cX12_put 21 = .ok (.dup, 1) := by decide +kernel
theorem dX12_put_22 : decode cX12_put 22 = .ok (.getfield 89, 3) := by decide +kernel
theorem dX12_put_25 : decode cX12_put 25 = .ok (.iconst 1, 1) := by decide +kernel
theorem dX12_put_26 : decode cX12_put 26 = .ok (.iadd, 1) := by decide +kernel
theorem dX12_put_27 : decode cX12_put 27 = .ok (.putfield 89, 3) := by decide +kernel
theorem dX12_put_30 : decode cX12_put 30 = .ok (.return_, 1) := by decide +kernel
theorem dX12_putShape_0 : decode cX12_putShape 0 = .ok (.iconst 0, 1) := by decide +kernel
theorem dX12_putShape_1 : decode cX12_putShape 1 = .ok (.istore_n 2, 1) := by decide +kernel
theorem dX12_putShape_2 : decode cX12_putShape 2 = .ok (.iload_n 2, 1) := by decide +kernel
theorem dX12_putShape_3 : decode cX12_putShape 3 = .ok (.aload_n 0, 1) := by decide +kernel
theorem dX12_putShape_4 : decode cX12_putShape 4 = .ok (.getfield 7, 3) := by decide +kernel
theorem dX12_putShape_7 : decode cX12_putShape 7 = .ok (.iload_n 1, 1) := by decide +kernel
theorem dX12_putShape_8 : decode cX12_putShape 8 = .ok (.iaload, 1) := by decide +kernel
theorem dX12_putShape_9 : decode cX12_putShape 9 = .ok (.if_icmp .ge 25, 3) := by decide +kernel
theorem dX12_putShape_12 : decode cX12_putShape 12 = .ok (.aload_n 0, 1) := by decide +kernel
theorem dX12_putShape_13 : decode cX12_putShape 13 = .ok (.aload_n 0, 1) := by decide +kernel
theorem dX12_putShape_14 : decode cX12_putShape 14 = .ok (.iload_n 1, 1) := by decide +kernel
theorem dX12_putShape_15 : decode cX12_putShape 15 = .ok (.iload_n 2, 1) := by decide +kernel
theorem dX12_putShape_16 : decode cX12_putShape 16 = .ok (.invokevirtual 107, 3) := by decide +kernel
theorem dX12_putShape_19 : decode cX12_putShape 19 = .ok (.aload_n 0, 1) := by decide +kernel
theorem dX12_putShape_20 : decode cX12_putShape 20 = .ok (.iload_n 1, 1) := by decide +kernel
theorem dX12_putShape_21 : decode cX12_putShape 21 = .ok (.iload_n 2, 1) := by decide +kernel
theorem dX12_putShape_22 : decode cX12_putShape 22 = .ok (.invokevirtual 111, 3) := by decide +kernel
theorem dX12_putShape_25 : decode cX12_putShape 25 = .ok (.invokevirtual 114, 3) := by decide +kernel
theorem dX12_putShape_28 : decode cX12_putShape 28 = .ok (.iinc 2 1, 3) := by decide +kernel
theorem dX12_putShape_31 : decode cX12_putShape 31 = .ok (.goto (-29), 3) := by decide +kernel
theorem dX12_putShape_34 : decode cX12_putShape 34 = .ok (.return_, 1) := by decide +kernel
theorem dX12_take_0 : decode cX12_take 0 = .ok (.aload_n 0, 1) := by decide +kernel
theorem dX12_take_1 : decode cX12_take 1 = .ok (.getfield 97, 3) := by decide +kernel
theorem dX12_take_4 : decode cX12_take 4 = .ok (.bipush 24, 2) := by decide +kernel
theorem dX12_take_6 : decode cX12_take 6 = .ok (.if_icmp .gt 7, 3) := by decide +kernel
theorem dX12_take_9 : decode cX12_take 9 = .ok (.iconst 1, 1) := by decide +kernel
theorem dX12_take_10 : decode cX12_take 10 = .ok (.goto 4, 3) := by decide +kernel
theorem dX12_take_13 : decode cX12_take 13 = .ok (.iconst 0, 1) := by decide +kernel
theorem dX12_take_14 : decode cX12_take 14 = .ok (.istore_n 3, 1) := by decide +kernel
theorem dX12_take_15 : decode cX12_take 15 = .ok (.iconst 0, 1) := by decide +kernel
theorem dX12_take_16 : decode cX12_take 16 = .ok (.istore 4, 2) := by decide +kernel
theorem dX12_take_18 : decode cX12_take 18 = .ok (.iload 4, 2) := by decide +kernel
theorem dX12_take_20 : decode cX12_take 20 = .ok (.aload_n 0, 1) := by decide +kernel
theorem dX12_take_21 : decode cX12_take 21 = .ok (.getfield 97, 3) := by decide +kernel
theorem dX12_take_24 : decode cX12_take 24 = .ok (.if_icmp .ge 43, 3) := by decide +kernel
theorem dX12_take_27 : decode cX12_take 27 = .ok (.iload_n 3, 1) := by decide +kernel
theorem dX12_take_28 : decode cX12_take 28 = .ok (.ifCond .eq 31, 3) := by decide +kernel
theorem dX12_take_31 : decode cX12_take 31 = .ok (.iload_n 2, 1) := by decide +kernel
theorem dX12_take_32 : decode cX12_take 32 = .ok (.ifCond .eq 23, 3) := by decide +kernel
theorem dX12_take_35 : decode cX12_take 35 = .ok (.aload_n 0, 1) := by decide +kernel
theorem dX12_take_36 : decode cX12_take 36 = .ok (.getfield 28, 3) := by decide +kernel
theorem dX12_take_39 : decode cX12_take 39 = .ok (.iload 4, 2) := by decide +kernel
theorem dX12_take_41 : decode cX12_take 41 = .ok (.iaload, 1) := by decide +kernel
theorem dX12_take_42 : decode cX12_take 42 = .ok (.aload_n 0, 1) := by decide +kernel
theorem dX12_take_43 : decode cX12_take 43 = .ok (.getfield 31, 3) := by decide +kernel
theorem dX12_take_46 : decode cX12_take 46 = .ok (.iload 4, 2) := by decide +kernel
theorem dX12_take_48 : decode cX12_take 48 = .ok (.iaload, 1) := by decide +kernel
theorem dX12_take_49 : decode cX12_take 49 = .ok (.invokestatic 117, 3) := by decide +kernel
theorem dX12_take_52 : decode cX12_take 52 = .ok (.ifCond .eq 7, 3) := by decide +kernel
theorem dX12_take_55 : decode cX12_take 55 = .ok (.iconst 1, 1) := by decide +kernel
theorem dX12_take_56 : decode cX12_take 56 = .ok (.goto 4, 3) := by decide +kernel
theorem dX12_take_59 : decode cX12_take 59 = .ok (.iconst 0, 1) := by decide +kernel
theorem dX12_take_60 : decode cX12_take 60 = .ok (.istore_n 3, 1) := by decide +kernel
theorem dX12_take_61 : decode cX12_take 61 = .ok (.iinc 4 1, 3) := by decide +kernel
theorem dX12_take_64 : decode cX12_take 64 = .ok (.goto (-46), 3) := by decide +kernel
theorem dX12_take_67 : decode cX12_take 67 = .ok (.iload_n 3, 1) := by decide +kernel
theorem dX12_take_68 : decode cX12_take 68 = .ok (.ifCond .ne 6, 3) := by decide +kernel
theorem dX12_take_71 : decode cX12_take 71 = .ok (.bipush (-3), 2) := by decide +kernel
theorem dX12_take_73 : decode cX12_take 73 = .ok (.ireturn, 1) := by decide +kernel
theorem dX12_take_74 : decode cX12_take 74 = .ok (.aload_n 0, 1) := by decide +kernel
theorem dX12_take_75 : decode cX12_take 75 = .ok (.getfield 7, 3) := by decide +kernel
theorem dX12_take_78 : decode cX12_take 78 = .ok (.iload_n 1, 1) := by decide +kernel
theorem dX12_take_79 : decode cX12_take 79 = .ok (.aload_n 0, 1) := by decide +kernel
theorem dX12_take_80 : decode cX12_take 80 = .ok (.getfield 97, 3) := by decide +kernel
theorem dX12_take_83 : decode cX12_take 83 = .ok (.iastore, 1) := by decide +kernel
theorem dX12_take_84 : decode cX12_take 84 = .ok (.iconst 0, 1) := by decide +kernel
theorem dX12_take_85 : decode cX12_take 85 = .ok (.istore 4, 2) := by decide +kernel
theorem dX12_take_87 : decode cX12_take 87 = .ok (.iload 4, 2) := by decide +kernel
theorem dX12_take_89 : decode cX12_take 89 = .ok (.aload_n 0, 1) := by decide +kernel
theorem dX12_take_90 : decode cX12_take 90 = .ok (.getfield 97, 3) := by decide +kernel
theorem dX12_take_93 : decode cX12_take 93 = .ok (.if_icmp .ge 47, 3) := by decide +kernel
theorem dX12_take_96 : decode cX12_take 96 = .ok (.aload_n 0, 1) := by decide +kernel
theorem dX12_take_97 : decode cX12_take 97 = .ok (.getfield 13, 3) := by decide +kernel
theorem dX12_take_100 : decode cX12_take 100 = .ok (.bipush 24, 2) := by decide +kernel
theorem dX12_take_102 : decode cX12_take 102 = .ok (.iload_n 1, 1) := by decide +kernel
theorem dX12_take_103 : decode cX12_take 103 = .ok (.imul, 1) := by decide +kernel
theorem dX12_take_104 : decode cX12_take 104 = .ok (.iload 4, 2) := by decide +kernel
theorem dX12_take_106 : decode cX12_take 106 = .ok (.iadd, 1) := by decide +kernel
theorem dX12_take_107 : decode cX12_take 107 = .ok (.aload_n 0, 1) := by decide +kernel
theorem dX12_take_108 : decode cX12_take 108 = .ok (.getfield 28, 3) := by decide +kernel
theorem dX12_take_111 : decode cX12_take 111 = .ok (.iload 4, 2) := by decide +kernel
theorem dX12_take_113 : decode cX12_take 113 = .ok (.iaload, 1) := by decide +kernel
theorem dX12_take_114 : decode cX12_take 114 = .ok (.iastore, 1) := by decide +kernel
theorem dX12_take_115 : decode cX12_take 115 = .ok (.aload_n 0, 1) := by decide +kernel
theorem dX12_take_116 : decode cX12_take 116 = .ok (.getfield 16, 3) := by decide +kernel
theorem dX12_take_119 : decode cX12_take 119 = .ok (.bipush 24, 2) := by decide +kernel
theorem dX12_take_121 : decode cX12_take 121 = .ok (.iload_n 1, 1) := by decide +kernel
theorem dX12_take_122 : decode cX12_take 122 = .ok (.imul, 1) := by decide +kernel
theorem dX12_take_123 : decode cX12_take 123 = .ok (.iload 4, 2) := by decide +kernel
theorem dX12_take_125 : decode cX12_take 125 = .ok (.iadd, 1) := by decide +kernel
theorem dX12_take_126 : decode cX12_take 126 = .ok (.aload_n 0, 1) := by decide +kernel
theorem dX12_take_127 : decode cX12_take 127 = .ok (.getfield 31, 3) := by decide +kernel
theorem dX12_take_130 : decode cX12_take 130 = .ok (.iload 4, 2) := by decide +kernel
theorem dX12_take_132 : decode cX12_take 132 = .ok (.iaload, 1) := by decide +kernel
theorem dX12_take_133 : decode cX12_take 133 = .ok (.iastore, 1) := by decide +kernel
theorem dX12_take_134 : decode cX12_take 134 = .ok (.iinc 4 1, 3) := by decide +kernel
theorem dX12_take_137 : decode cX12_take 137 = .ok (.goto (-50), 3) := by decide +kernel
theorem dX12_take_140 : decode cX12_take 140 = .ok (.iconst 0, 1) := by decide +kernel
theorem dX12_take_141 : decode cX12_take 141 = .ok (.istore 4, 2) := by decide +kernel
theorem dX12_take_143 : decode cX12_take 143 = .ok (.iload 4, 2) := by decide +kernel
theorem dX12_take_145 : decode cX12_take 145 = .ok (.bipush 40, 2) := by decide +kernel
theorem dX12_take_147 : decode cX12_take 147 = .ok (.if_icmp .ge 22, 3) := by decide +kernel
theorem dX12_take_150 : decode cX12_take 150 = .ok (.aload_n 0, 1) := by decide +kernel
theorem dX12_take_151 : decode cX12_take 151 = .ok (.getfield 19, 3) := by decide +kernel
theorem dX12_take_154 : decode cX12_take 154 = .ok (.bipush 40, 2) := by decide +kernel
theorem dX12_take_156 : decode cX12_take 156 = .ok (.iload_n 1, 1) := by decide +kernel
theorem dX12_take_157 : decode cX12_take 157 = .ok (.imul, 1) := by decide +kernel
theorem dX12_take_158 : decode cX12_take 158 = .ok (.iload 4, 2) := by decide +kernel
theorem dX12_take_160 : decode cX12_take 160 = .ok (.iadd, 1) := by decide +kernel
theorem dX12_take_161 : decode cX12_take 161 = .ok (.iconst 0, 1) := by decide +kernel
theorem dX12_take_162 : decode cX12_take 162 = .ok (.iastore, 1) := by decide +kernel
theorem dX12_take_163 : decode cX12_take 163 = .ok (.iinc 4 1, 3) := by decide +kernel
theorem dX12_take_166 : decode cX12_take 166 = .ok (.goto (-23), 3) := by decide +kernel
theorem dX12_take_169 : decode cX12_take 169 = .ok (.aload_n 0, 1) := by decide +kernel
theorem dX12_take_170 : decode cX12_take 170 = .ok (.getfield 97, 3) := by decide +kernel
theorem dX12_take_173 : decode cX12_take 173 = .ok (.ireturn, 1) := by decide +kernel
theorem dX12_clear_0 : decode cX12_clear 0 = .ok (.iload_n 1, 1) := by decide +kernel
theorem dX12_clear_1 : decode cX12_clear 1 = .ok (.invokestatic 120, 3) := by decide +kernel
theorem dX12_clear_4 : decode cX12_clear 4 = .ok (.ifCond .ne 5, 3) := by decide +kernel
theorem dX12_clear_7 : decode cX12_clear 7 = .ok (.iconst (-1), 1) := by decide +kernel
theorem dX12_clear_8 : decode cX12_clear 8 = .ok (.ireturn, 1) := by decide +kernel
theorem dX12_clear_9 : decode cX12_clear 9 = .ok (.aload_n 0, 1) := by decide +kernel
theorem dX12_clear_10 : decode cX12_clear 10 = .ok (.getfield 7, 3) := by decide +kernel
theorem dX12_clear_13 : decode cX12_clear 13 = .ok (.iload_n 1, 1) := by decide +kernel
theorem dX12_clear_14 : decode cX12_clear 14 = .ok (.iaload, 1) := by decide +kernel
