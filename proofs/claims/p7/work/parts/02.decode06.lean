theorem dX12_doCross_60 : decode cX12_doCross 60 = .ok (.iload 5, 2) := by decide +kernel
theorem dX12_doCross_62 : decode cX12_doCross 62 = .ok (.iload 6, 2) := by decide +kernel
theorem dX12_doCross_64 : decode cX12_doCross 64 = .ok (.iload_n 3, 1) := by decide +kernel
theorem dX12_doCross_65 : decode cX12_doCross 65 = .ok (.invokevirtual 235, 3) := by decide +kernel
theorem dX12_doCross_68 : decode cX12_doCross 68 = .ok (.invokestatic 238, 3) := by decide +kernel
theorem dX12_doCross_71 : decode cX12_doCross 71 = .ok (.aload_n 0, 1) := by decide +kernel
theorem dX12_doCross_72 : decode cX12_doCross 72 = .ok (.iload 5, 2) := by decide +kernel
theorem dX12_doCross_74 : decode cX12_doCross 74 = .ok (.iload 6, 2) := by decide +kernel
theorem dX12_doCross_76 : decode cX12_doCross 76 = .ok (.iload 4, 2) := by decide +kernel
theorem dX12_doCross_78 : decode cX12_doCross 78 = .ok (.invokevirtual 235, 3) := by decide +kernel
theorem dX12_doCross_81 : decode cX12_doCross 81 = .ok (.invokestatic 238, 3) := by decide +kernel
theorem dX12_doCross_84 : decode cX12_doCross 84 = .ok (.imul, 1) := by decide +kernel
theorem dX12_doCross_85 : decode cX12_doCross 85 = .ok (.ifCond .ge 7, 3) := by decide +kernel
theorem dX12_doCross_88 : decode cX12_doCross 88 = .ok (.iconst 1, 1) := by decide +kernel
theorem dX12_doCross_89 : decode cX12_doCross 89 = .ok (.goto 4, 3) := by decide +kernel
theorem dX12_doCross_92 : decode cX12_doCross 92 = .ok (.iconst 0, 1) := by decide +kernel
theorem dX12_doCross_93 : decode cX12_doCross 93 = .ok (.ireturn, 1) := by decide +kernel
theorem dX12_findSegments_0 : decode cX12_findSegments 0 = .ok (.aload_n 0, 1) := by decide +kernel
theorem dX12_findSegments_1 : decode cX12_findSegments 1 = .ok (.iconst 0, 1) := by decide +kernel
theorem dX12_findSegments_2 : decode cX12_findSegments 2 = .ok (.putfield 241, 3) := by decide +kernel
theorem dX12_findSegments_5 : decode cX12_findSegments 5 = .ok (.iconst 0, 1) := by decide +kernel
theorem dX12_findSegments_6 : decode cX12_findSegments 6 = .ok (.istore_n 1, 1) := by decide +kernel
theorem dX12_findSegments_7 : decode cX12_findSegments 7 = .ok (.iload_n 1, 1) := by decide +kernel
theorem dX12_findSegments_8 : decode cX12_findSegments 8 = .ok (.aload_n 0, 1) := by decide +kernel
theorem dX12_findSegments_9 : decode cX12_findSegments 9 = .ok (.getfield 168, 3) := by decide +kernel
theorem dX12_findSegments_12 : decode cX12_findSegments 12 = .ok (.if_icmp .ge 118, 3) := by decide +kernel
theorem dX12_findSegments_15 : decode cX12_findSegments 15 = .ok (.iload_n 1, 1) := by decide +kernel
theorem dX12_findSegments_16 : decode cX12_findSegments 16 = .ok (.iconst 1, 1) := by decide +kernel
theorem dX12_findSegments_17 : decode cX12_findSegments 17 = .ok (.iadd, 1) := by decide +kernel
theorem dX12_findSegments_18 : decode cX12_findSegments 18 = .ok (.istore_n 2, 1) := by decide +kernel
theorem dX12_findSegments_19 : decode cX12_findSegments 19 = .ok (.iload_n 2, 1) := by decide +kernel
theorem dX12_findSegments_20 : decode cX12_findSegments 20 = .ok (.aload_n 0, 1) := by decide +kernel
theorem dX12_findSegments_21 : decode cX12_findSegments 21 = .ok (.getfield 168, 3) := by decide +kernel
theorem dX12_findSegments_24 : decode cX12_findSegments 24 = .ok (.if_icmp .ge 100, 3) := by decide +kernel
theorem dX12_findSegments_27 : decode cX12_findSegments 27 = .ok (.aload_n 0, 1) := by decide +kernel
theorem dX12_findSegments_28 : decode cX12_findSegments 28 = .ok (.getfield 66, 3) := by decide +kernel
theorem dX12_findSegments_31 : decode cX12_findSegments 31 = .ok (.bipush 12, 2) := by decide +kernel
theorem dX12_findSegments_33 : decode cX12_findSegments 33 = .ok (.iload_n 1, 1) := by decide +kernel
theorem dX12_findSegments_34 : decode cX12_findSegments 34 = .ok (.imul, 1) := by decide +kernel
theorem dX12_findSegments_35 : decode cX12_findSegments 35 = .ok (.iload_n 2, 1) := by decide +kernel
theorem dX12_findSegments_36 : decode cX12_findSegments 36 = .ok (.iadd, 1) := by decide +kernel
theorem dX12_findSegments_37 : decode cX12_findSegments 37 = .ok (.bipush (-9), 2) := by decide +kernel
theorem dX12_findSegments_39 : decode cX12_findSegments 39 = .ok (.iastore, 1) := by decide +kernel
theorem dX12_findSegments_40 : decode cX12_findSegments 40 = .ok (.aload_n 0, 1) := by decide +kernel
theorem dX12_findSegments_41 : decode cX12_findSegments 41 = .ok (.getfield 34, 3) := by decide +kernel
theorem dX12_findSegments_44 : decode cX12_findSegments 44 = .ok (.iload_n 2, 1) := by decide +kernel
theorem dX12_findSegments_45 : decode cX12_findSegments 45 = .ok (.iaload, 1) := by decide +kernel
theorem dX12_findSegments_46 : decode cX12_findSegments 46 = .ok (.aload_n 0, 1) := by decide +kernel
theorem dX12_findSegments_47 : decode cX12_findSegments 47 = .ok (.getfield 34, 3) := by decide +kernel
theorem dX12_findSegments_50 : decode cX12_findSegments 50 = .ok (.iload_n 1, 1) := by decide +kernel
theorem dX12_findSegments_51 : decode cX12_findSegments 51 = .ok (.iaload, 1) := by decide +kernel
theorem dX12_findSegments_52 : decode cX12_findSegments 52 = .ok (.isub, 1) := by decide +kernel
theorem dX12_findSegments_53 : decode cX12_findSegments 53 = .ok (.aload_n 0, 1) := by decide +kernel
theorem dX12_findSegments_54 : decode cX12_findSegments 54 = .ok (.getfield 37, 3) := by decide +kernel
theorem dX12_findSegments_57 : decode cX12_findSegments 57 = .ok (.iload_n 2, 1) := by decide +kernel
theorem dX12_findSegments_58 : decode cX12_findSegments 58 = .ok (.iaload, 1) := by decide +kernel
theorem dX12_findSegments_59 : decode cX12_findSegments 59 = .ok (.aload_n 0, 1) := by decide +kernel
theorem dX12_findSegments_60 : decode cX12_findSegments 60 = .ok (.getfield 37, 3) := by decide +kernel
theorem dX12_findSegments_63 : decode cX12_findSegments 63 = .ok (.iload_n 1, 1) := by decide +kernel
theorem dX12_findSegments_64 : decode cX12_findSegments 64 = .ok (.iaload, 1) := by decide +kernel
theorem dX12_findSegments_65 : decode cX12_findSegments 65 = .ok (.isub, 1) := by decide +kernel
theorem dX12_findSegments_66 : decode cX12_findSegments 66 = .ok (.invokestatic 136, 3) := by decide +kernel
theorem dX12_findSegments_69 : decode cX12_findSegments 69 = .ok (.iconst 1, 1) := by decide +kernel
theorem dX12_findSegments_70 : decode cX12_findSegments 70 = .ok (.if_icmp .ne 48, 3) := by decide +kernel
theorem dX12_findSegments_73 : decode cX12_findSegments 73 = .ok (.aload_n 0, 1) := by decide +kernel
theorem dX12_findSegments_74 : decode cX12_findSegments 74 = .ok (.getfield 60, 3) := by decide +kernel
theorem dX12_findSegments_77 : decode cX12_findSegments 77 = .ok (.aload_n 0, 1) := by decide +kernel
theorem dX12_findSegments_78 : decode cX12_findSegments 78 = .ok (.getfield 241, 3) := by decide +kernel
theorem dX12_findSegments_81 : decode cX12_findSegments 81 = .ok (.iload_n 1, 1) := by decide +kernel
theorem dX12_findSegments_82 : decode cX12_findSegments 82 = .ok (.iastore, 1) := by decide +kernel
theorem dX12_findSegments_83 : decode cX12_findSegments 83 = .ok (.aload_n 0, 1) := by decide +kernel
theorem dX12_findSegments_84 : decode cX12_findSegments 84 = .ok (.getfield 63, 3) := by decide +kernel
theorem dX12_findSegments_87 : decode cX12_findSegments 87 = .ok (.aload_n 0, 1) := by decide +kernel
theorem dX12_findSegments_88 : decode cX12_findSegments 88 = .ok (.getfield 241, 3) := by decide +kernel
theorem dX12_findSegments_91 : decode cX12_findSegments 91 = .ok (.iload_n 2, 1) := by decide +kernel
theorem dX12_findSegments_92 : decode cX12_findSegments 92 = .ok (.iastore, 1) := by decide +kernel
theorem dX12_findSegments_93 : decode cX12_findSegments 93 = .ok (.aload_n 0, 1) := by decide +kernel
theorem dX12_findSegments_94 : decode cX12_findSegments 94 = .ok (.getfield 66, 3) := by decide +kernel
theorem dX12_findSegments_97 : decode cX12_findSegments 97 = .ok (.bipush 12, 2) := by decide +kernel
theorem dX12_findSegments_99 : decode cX12_findSegments 99 = .ok (.iload_n 1, 1) := by decide +kernel
theorem dX12_findSegments_100 : decode cX12_findSegments 100 = .ok (.imul, 1) := by decide +kernel
theorem dX12_findSegments_101 : decode cX12_findSegments 101 = .ok (.iload_n 2, 1) := by decide +kernel
theorem dX12_findSegments_102 : decode cX12_findSegments 102 = .ok (.iadd, 1) := by decide +kernel
theorem dX12_findSegments_103 : decode cX12_findSegments 103 = .ok (.aload_n 0, 1) := by decide +kernel
theorem dX12_findSegments_104 : decode cX12_findSegments 104 = .ok (.getfield 241, 3) := by decide +kernel
theorem dX12_findSegments_107 : decode cX12_findSegments 107 = .ok (.iastore, 1) := by decide +kernel
theorem dX12_findSegments_108 : decode cX12_findSegments 108 = .ok (.aload_n 0, 1) := by decide +kernel
theorem dX12_findSegments_109 : decode cX12_findSegments 109 = .ok (.dup, 1) := by decide +kernel
theorem dX12_findSegments_110 : decode cX12_findSegments 110 = .ok (.getfield 241, 3) := by decide +kernel
theorem dX12_findSegments_113 : decode cX12_findSegments 113 = .ok (.iconst 1, 1) := by decide +kernel
theorem dX12_findSegments_114 : decode cX12_findSegments 114 = .ok (.iadd, 1) := by decide +kernel
theorem dX12_findSegments_115 : decode cX12_findSegments 115 = .ok (.putfield 241, 3) := by decide +kernel
theorem dX12_findSegments_118 : decode cX12_findSegments 118 = .ok (.iinc 2 1, 3) := by decide +kernel
theorem dX12_findSegments_121 : decode cX12_findSegments 121 = .ok (.goto (-102), 3) := by decide +kernel
theorem dX12_findSegments_124 : decode cX12_findSegments 124 = .ok (.iinc 1 1, 3) := by decide +kernel
theorem dX12_findSegments_127 : decode cX12_findSegments 127 = .ok (.goto (-120), 3) := by decide +kernel
theorem dX12_findSegments_130 : decode cX12_findSegments 130 = .ok (.return_, 1) := by decide +kernel
theorem dX12_between1_0 : decode cX12_between1 0 = .ok (.iload_n 1, 1) := by decide +kernel
theorem dX12_between1_1 : decode cX12_between1 1 = .ok (.iload_n 2, 1) := by decide +kernel
theorem dX12_between1_2 : decode cX12_between1 2 = .ok (.if_icmp .ge 17, 3) := by decide +kernel
theorem dX12_between1_5 : decode cX12_between1 5 = .ok (.aload_n 0, 1) := by decide +kernel
theorem dX12_between1_6 : decode cX12_between1 6 = .ok (.getfield 66, 3) := by decide +kernel
theorem dX12_between1_9 : decode cX12_between1 9 = .ok (.bipush 12, 2) := by decide +kernel
theorem dX12_between1_11 : decode cX12_between1 11 = .ok (.iload_n 1, 1) := by decide +kernel
theorem dX12_between1_12 : decode cX12_between1 12 = .ok (.imul, 1) := by decide +kernel
theorem dX12_between1_13 : decode cX12_between1 13 = .ok (.iload_n 2, 1) := by decide +kernel
theorem dX12_between1_14 : decode cX12_between1 14 = .ok (.iadd, 1) := by decide +kernel
theorem dX12_between1_15 : decode cX12_between1 15 = .ok (.iaload, 1) := by decide +kernel
theorem dX12_between1_16 : decode cX12_between1 16 = .ok (.goto 14, 3) := by decide +kernel
theorem dX12_between1_19 : decode cX12_between1 19 = .ok (.aload_n 0, 1) := by decide +kernel
theorem dX12_between1_20 : decode cX12_between1 20 = .ok (.getfield 66, 3) := by decide +kernel
theorem dX12_between1_23 : decode cX12_between1 23 = .ok (.bipush 12, 2) := by decide +kernel
theorem dX12_between1_25 : decode cX12_between1 25 = .ok (.iload_n 2, 1) := by decide +kernel
theorem dX12_between1_26 : decode cX12_between1 26 = .ok (.imul, 1) := by decide +kernel
theorem dX12_between1_27 : decode cX12_between1 27 = .ok (.iload_n 1, 1) := by decide +kernel
theorem dX12_between1_28 : decode cX12_between1 28 = .ok (.iadd, 1) := by decide +kernel
theorem dX12_between1_29 : decode cX12_between1 29 = .ok (.iaload, 1) := by decide +kernel
theorem dX12_between1_30 : decode cX12_between1 30 = .ok (.ireturn, 1) := by decide +kernel
theorem dX12_has_0 : decode cX12_has 0 = .ok (.iload_n 2, 1) := by decide +kernel
theorem dX12_has_1 : decode cX12_has 1 = .ok (.bipush (-9), 2) := by decide +kernel
theorem dX12_has_3 : decode cX12_has 3 = .ok (.if_icmp .eq 17, 3) := by decide +kernel
theorem dX12_has_6 : decode cX12_has 6 = .ok (.lload_n 0, 1) := by decide +kernel
theorem dX12_has_7 : decode cX12_has 7 = .ok (.iload_n 2, 1) := by decide +kernel
theorem dX12_has_8 : decode cX12_has 8 = .ok (.lshr, 1) := by decide +kernel
theorem dX12_has_9 : decode cX12_has 9 = .ok (.lconst 1, 1) := by decide +kernel
theorem dX12_has_10 : decode cX12_has 10 = .ok (.land, 1) := by decide +kernel
theorem dX12_has_11 : decode cX12_has 11 = .ok (.lconst 1, 1) := by decide +kernel
theorem dX12_has_12 : decode cX12_has 12 = .ok (.lcmp, 1) := by decide +kernel
theorem dX12_has_13 : decode cX12_has 13 = .ok (.ifCond .ne 7, 3) := by decide +kernel
theorem dX12_has_16 : decode cX12_has 16 = .ok (.iconst 1, 1) := by decide +kernel
theorem dX12_has_17 : decode cX12_has 17 = .ok (.goto 4, 3) := by decide +kernel
theorem dX12_has_20 : decode cX12_has 20 = .ok (.iconst 0, 1) := by decide +kernel
theorem dX12_has_21 : decode cX12_has 21 = .ok (.ireturn, 1) := by decide +kernel
theorem dX12_firstCut_0 : decode cX12_firstCut 0 = .ok (.lconst 0, 1) := by decide +kernel
theorem dX12_firstCut_1 : decode cX12_firstCut 1 = .ok (.lstore_n 1, 1) := by decide +kernel
theorem dX12_firstCut_2 : decode cX12_firstCut 2 = .ok (.iconst 0, 1) := by decide +kernel
theorem dX12_firstCut_3 : decode cX12_firstCut 3 = .ok (.istore_n 3, 1) := by decide +kernel
theorem dX12_firstCut_4 : decode cX12_firstCut 4 = .ok (.iload_n 3, 1) := by decide +kernel
theorem dX12_firstCut_5 : decode cX12_firstCut 5 = .ok (.aload_n 0, 1) := by decide +kernel
theorem dX12_firstCut_6 : decode cX12_firstCut 6 = .ok (.getfield 241, 3) := by decide +kernel
theorem dX12_firstCut_9 : decode cX12_firstCut 9 = .ok (.if_icmp .ge 73, 3) := by decide +kernel
theorem dX12_firstCut_12 : decode cX12_firstCut 12 = .ok (.iconst 1, 1) := by decide +kernel
theorem dX12_firstCut_13 : decode cX12_firstCut 13 = .ok (.istore 4, 2) := by decide +kernel
theorem dX12_firstCut_15 : decode cX12_firstCut 15 = .ok (.iconst 0, 1) := by decide +kernel
theorem dX12_firstCut_16 : decode cX12_firstCut 16 = .ok (.istore 5, 2) := by decide +kernel
theorem dX12_firstCut_18 : decode cX12_firstCut 18 = .ok (.iload 5, 2) := by decide +kernel
theorem dX12_firstCut_20 : decode cX12_firstCut 20 = .ok (.iload_n 3, 1) := by decide +kernel
theorem dX12_firstCut_21 : decode cX12_firstCut 21 = .ok (.if_icmp .ge 40, 3) := by decide +kernel
theorem dX12_firstCut_24 : decode cX12_firstCut 24 = .ok (.iload 4, 2) := by decide +kernel
theorem dX12_firstCut_26 : decode cX12_firstCut 26 = .ok (.ifCond .eq 35, 3) := by decide +kernel
theorem dX12_firstCut_29 : decode cX12_firstCut 29 = .ok (.lload_n 1, 1) := by decide +kernel
theorem dX12_firstCut_30 : decode cX12_firstCut 30 = .ok (.iload 5, 2) := by decide +kernel
theorem dX12_firstCut_32 : decode cX12_firstCut 32 = .ok (.invokestatic 244, 3) := by decide +kernel
theorem dX12_firstCut_35 : decode cX12_firstCut 35 = .ok (.ifCond .eq 13, 3) := by decide +kernel
theorem dX12_firstCut_38 : decode cX12_firstCut 38 = .ok (.aload_n 0, 1) := by decide +kernel
theorem dX12_firstCut_39 : decode cX12_firstCut 39 = .ok (.iload 5, 2) := by decide +kernel
theorem dX12_firstCut_41 : decode cX12_firstCut 41 = .ok (.iload_n 3, 1) := by decide +kernel
theorem dX12_firstCut_42 : decode cX12_firstCut 42 = .ok (.invokevirtual 248, 3) := by decide +kernel
theorem dX12_firstCut_45 : decode cX12_firstCut 45 = .ok (.ifCond .ne 7, 3) := by decide +kernel
theorem dX12_firstCut_48 : decode cX12_firstCut 48 = .ok (.iconst 1, 1) := by decide +kernel
theorem dX12_firstCut_49 : decode cX12_firstCut 49 = .ok (.goto 4, 3) := by decide +kernel
theorem dX12_firstCut_52 : decode cX12_firstCut 52 = .ok (.iconst 0, 1) := by decide +kernel
theorem dX12_firstCut_53 : decode cX12_firstCut 53 = .ok (.istore 4, 2) := by decide +kernel
theorem dX12_firstCut_55 : decode cX12_firstCut 55 = .ok (.iinc 5 1, 3) := by decide +kernel
theorem dX12_firstCut_58 : decode cX12_firstCut 58 = .ok (.goto (-40), 3) := by decide +kernel
theorem dX12_firstCut_61 : decode cX12_firstCut 61 = .ok (.lload_n 1, 1) := by decide +kernel
theorem dX12_firstCut_62 : decode cX12_firstCut 62 = .ok (.iload 4, 2) := by decide +kernel
theorem dX12_firstCut_64 : decode cX12_firstCut 64 = .ok (.ifCond .eq 9, 3) := by decide +kernel
theorem dX12_firstCut_67 : decode cX12_firstCut 67 = .ok (.lconst 1, 1) := by decide +kernel
theorem dX12_firstCut_68 : decode cX12_firstCut 68 = .ok (.iload_n 3, 1) := by decide +kernel
theorem dX12_firstCut_69 : decode cX12_firstCut 69 = .ok (.lshl, 1) := by decide +kernel
theorem dX12_firstCut_70 : decode cX12_firstCut 70 = .ok (.goto 4, 3) := by decide +kernel
theorem dX12_firstCut_73 : decode cX12_firstCut 73 = .ok (.lconst 0, 1) := by decide +kernel
theorem dX12_firstCut_74 : decode cX12_firstCut 74 = .ok (.lor, 1) := by decide +kernel
theorem dX12_firstCut_75 : decode cX12_firstCut 75 = .ok (.lstore_n 1, 1) := by decide +kernel
theorem dX12_firstCut_76 : decode cX12_firstCut 76 = .ok (.iinc 3 1, 3) := by decide +kernel
theorem dX12_firstCut_79 : decode cX12_firstCut 79 = .ok (.goto (-75), 3) := by decide +kernel
theorem dX12_firstCut_82 : decode cX12_firstCut 82 = .ok (.lload_n 1, 1) := by decide +kernel
theorem dX12_firstCut_83 : decode cX12_firstCut 83 = .ok (.lreturn, 1) := by decide +kernel
theorem dX12_third_0 : decode cX12_third 0 = .ok (.iconst 0, 1) := by decide +kernel
theorem dX12_third_1 : decode cX12_third 1 = .ok (.istore 5, 2) := by decide +kernel
theorem dX12_third_3 : decode cX12_third 3 = .ok (.iload 5, 2) := by decide +kernel
theorem dX12_third_5 : decode cX12_third 5 = .ok (.aload_n 0, 1) := by decide +kernel
theorem dX12_third_6 : decode cX12_third 6 = .ok (.getfield 168, 3) := by decide +kernel
theorem dX12_third_9 : decode cX12_third 9 = .ok (.if_icmp .ge 95, 3) := by decide +kernel
theorem dX12_third_12 : decode cX12_third 12 = .ok (.iload 5, 2) := by decide +kernel
theorem dX12_third_14 : decode cX12_third 14 = .ok (.aload_n 0, 1) := by decide +kernel
theorem dX12_third_15 : decode cX12_third 15 = .ok (.getfield 60, 3) := by decide +kernel
theorem dX12_third_18 : decode cX12_third 18 = .ok (.iload_n 3, 1) := by decide +kernel
theorem dX12_third_19 : decode cX12_third 19 = .ok (.iaload, 1) := by decide +kernel
theorem dX12_third_20 : decode cX12_third 20 = .ok (.if_icmp .eq 78, 3) := by decide +kernel
theorem dX12_third_23 : decode cX12_third 23 = .ok (.iload 5, 2) := by decide +kernel
theorem dX12_third_25 : decode cX12_third 25 = .ok (.aload_n 0, 1) := by decide +kernel
theorem dX12_third_26 : decode cX12_third 26 = .ok (.getfield 63, 3) := by decide +kernel
theorem dX12_third_29 : decode cX12_third 29 = .ok (.iload_n 3, 1) := by decide +kernel
theorem dX12_third_30 : decode cX12_third 30 = .ok (.iaload, 1) := by decide +kernel
theorem dX12_third_31 : decode cX12_third 31 = .ok (.if_icmp .eq 67, 3) := by decide +kernel
theorem dX12_third_34 : decode cX12_third 34 = .ok (.aload_n 0, 1) := by decide +kernel
theorem dX12_third_35 : decode cX12_third 35 = .ok (.aload_n 0, 1) := by decide +kernel
theorem dX12_third_36 : decode cX12_third 36 = .ok (.getfield 60, 3) := by decide +kernel
theorem dX12_third_39 : decode cX12_third 39 = .ok (.iload_n 3, 1) := by decide +kernel
theorem dX12_third_40 : decode cX12_third 40 = .ok (.iaload, 1) := by decide +kernel
theorem dX12_third_41 : decode cX12_third 41 = .ok (.aload_n 0, 1) := by decide +kernel
theorem dX12_third_42 : decode cX12_third 42 = .ok (.getfield 63, 3) := by decide +kernel
theorem dX12_third_45 : decode cX12_third 45 = .ok (.iload_n 3, 1) := by decide +kernel
theorem dX12_third_46 : decode cX12_third 46 = .ok (.iaload, 1) := by decide +kernel
theorem dX12_third_47 : decode cX12_third 47 = .ok (.iload 5, 2) := by decide +kernel
theorem dX12_third_49 : decode cX12_third 49 = .ok (.invokevirtual 235, 3) := by decide +kernel
theorem dX12_third_52 : decode cX12_third 52 = .ok (.iload 4, 2) := by decide +kernel
theorem dX12_third_54 : decode cX12_third 54 = .ok (.if_icmp .ne 44, 3) := by decide +kernel
theorem dX12_third_57 : decode cX12_third 57 = .ok (.lload_n 1, 1) := by decide +kernel
theorem dX12_third_58 : decode cX12_third 58 = .ok (.aload_n 0, 1) := by decide +kernel
theorem dX12_third_59 : decode cX12_third 59 = .ok (.aload_n 0, 1) := by decide +kernel
theorem dX12_third_60 : decode cX12_third 60 = .ok (.getfield 60, 3) := by decide +kernel
theorem dX12_third_63 : decode cX12_third 63 = .ok (.iload_n 3, 1) := by decide +kernel
theorem dX12_third_64 : decode cX12_third 64 = .ok (.iaload, 1) := by decide +kernel
theorem dX12_third_65 : decode cX12_third 65 = .ok (.iload 5, 2) := by decide +kernel
theorem dX12_third_67 : decode cX12_third 67 = .ok (.invokevirtual 251, 3) := by decide +kernel
theorem dX12_third_70 : decode cX12_third 70 = .ok (.invokestatic 244, 3) := by decide +kernel
theorem dX12_third_73 : decode cX12_third 73 = .ok (.ifCond .eq 25, 3) := by decide +kernel
theorem dX12_third_76 : decode cX12_third 76 = .ok (.lload_n 1, 1) := by decide +kernel
theorem dX12_third_77 : decode cX12_third 77 = .ok (.aload_n 0, 1) := by decide +kernel
theorem dX12_third_78 : decode cX12_third 78 = .ok (.aload_n 0, 1) := by decide +kernel
theorem dX12_third_79 : decode cX12_third 79 = .ok (.getfield 63, 3) := by decide +kernel
theorem dX12_third_82 : decode cX12_third 82 = .ok (.iload_n 3, 1) := by decide +kernel
theorem dX12_third_83 : decode cX12_third 83 = .ok (.iaload, 1) := by decide +kernel
theorem dX12_third_84 : decode cX12_third 84 = .ok (.iload 5, 2) := by decide +kernel
theorem dX12_third_86 : decode cX12_third 86 = .ok (.invokevirtual 251, 3) := by decide +kernel
theorem dX12_third_89 : decode cX12_third 89 = .ok (.invokestatic 244, 3) := by decide +kernel
theorem dX12_third_92 : decode cX12_third 92 = .ok (.ifCond .eq 6, 3) := by decide +kernel
theorem dX12_third_95 : decode cX12_third 95 = .ok (.iload 5, 2) := by decide +kernel
theorem dX12_third_97 : decode cX12_third 97 = .ok (.ireturn, 1) := by decide +kernel
theorem dX12_third_98 : decode cX12_third 98 = .ok (.iinc 5 1, 3) := by decide +kernel
theorem dX12_third_101 : decode cX12_third 101 = .ok (.goto (-98), 3) := by decide +kernel
theorem dX12_third_104 : decode cX12_third 104 = .ok (.bipush (-9), 2) := by decide +kernel
theorem dX12_third_106 : decode cX12_third 106 = .ok (.ireturn, 1) := by decide +kernel
theorem dX12_flipped_0 : decode cX12_flipped 0 = .ok (.aload_n 0, 1) := by decide +kernel
theorem dX12_flipped_1 : decode cX12_flipped 1 = .ok (.lload_n 1, 1) := by decide +kernel
theorem dX12_flipped_2 : decode cX12_flipped 2 = .ok (.iload_n 3, 1) := by decide +kernel
theorem dX12_flipped_3 : decode cX12_flipped 3 = .ok (.iconst 1, 1) := by decide +kernel
theorem dX12_flipped_4 : decode cX12_flipped 4 = .ok (.invokevirtual 254, 3) := by decide +kernel
theorem dX12_flipped_7 : decode cX12_flipped 7 = .ok (.istore 4, 2) := by decide +kernel
theorem dX12_flipped_9 : decode cX12_flipped 9 = .ok (.aload_n 0, 1) := by decide +kernel
theorem dX12_flipped_10 : decode cX12_flipped 10 = .ok (.lload_n 1, 1) := by decide +kernel
theorem dX12_flipped_11 : decode cX12_flipped 11 = .ok (.iload_n 3, 1) := by decide +kernel
theorem dX12_flipped_12 : decode cX12_flipped 12 = .ok (.iconst (-1), 1) := by decide +kernel
theorem dX12_flipped_13 : decode cX12_flipped 13 = .ok (.invokevirtual 254, 3) := by decide +kernel
theorem dX12_flipped_16 : decode cX12_flipped 16 = .ok (.istore 5, 2) := by decide +kernel
theorem dX12_flipped_18 : decode cX12_flipped 18 = .ok (.lload_n 1, 1) := by decide +kernel
theorem dX12_flipped_19 : decode cX12_flipped 19 = .ok (.iload_n 3, 1) := by decide +kernel
theorem dX12_flipped_20 : decode cX12_flipped 20 = .ok (.invokestatic 244, 3) := by decide +kernel
theorem dX12_flipped_23 : decode cX12_flipped 23 = .ok (.ifCond .eq 17, 3) := by decide +kernel
theorem dX12_flipped_26 : decode cX12_flipped 26 = .ok (.iload 4, 2) := by decide +kernel
theorem dX12_flipped_28 : decode cX12_flipped 28 = .ok (.bipush (-9), 2) := by decide +kernel
theorem dX12_flipped_30 : decode cX12_flipped 30 = .ok (.if_icmp .eq 10, 3) := by decide +kernel
theorem dX12_flipped_33 : decode cX12_flipped 33 = .ok (.iload 5, 2) := by decide +kernel
theorem dX12_flipped_35 : decode cX12_flipped 35 = .ok (.bipush (-9), 2) := by decide +kernel
theorem dX12_flipped_37 : decode cX12_flipped 37 = .ok (.if_icmp .ne 5, 3) := by decide +kernel
theorem dX12_flipped_40 : decode cX12_flipped 40 = .ok (.lconst 0, 1) := by decide +kernel
theorem dX12_flipped_41 : decode cX12_flipped 41 = .ok (.lreturn, 1) := by decide +kernel
theorem dX12_flipped_42 : decode cX12_flipped 42 = .ok (.aload_n 0, 1) := by decide +kernel
theorem dX12_flipped_43 : decode cX12_flipped 43 = .ok (.iload 4, 2) := by decide +kernel
theorem dX12_flipped_45 : decode cX12_flipped 45 = .ok (.iload 5, 2) := by decide +kernel
theorem dX12_flipped_47 : decode cX12_flipped 47 = .ok (.invokevirtual 251, 3) := by decide +kernel
theorem dX12_flipped_50 : decode cX12_flipped 50 = .ok (.istore 6, 2) := by decide +kernel
theorem dX12_flipped_52 : decode cX12_flipped 52 = .ok (.iload 6, 2) := by decide +kernel
theorem dX12_flipped_54 : decode cX12_flipped 54 = .ok (.bipush (-9), 2) := by decide +kernel
theorem dX12_flipped_56 : decode cX12_flipped 56 = .ok (.if_icmp .eq 30, 3) := by decide +kernel
theorem dX12_flipped_59 : decode cX12_flipped 59 = .ok (.aload_n 0, 1) := by decide +kernel
theorem dX12_flipped_60 : decode cX12_flipped 60 = .ok (.iload_n 3, 1) := by decide +kernel
theorem dX12_flipped_61 : decode cX12_flipped 61 = .ok (.iload 6, 2) := by decide +kernel
theorem dX12_flipped_63 : decode cX12_flipped 63 = .ok (.invokevirtual 248, 3) := by decide +kernel
theorem dX12_flipped_66 : decode cX12_flipped 66 = .ok (.ifCond .eq 20, 3) := by decide +kernel
theorem dX12_flipped_69 : decode cX12_flipped 69 = .ok (.lload_n 1, 1) := by decide +kernel
theorem dX12_flipped_70 : decode cX12_flipped 70 = .ok (.lconst 1, 1) := by decide +kernel
theorem dX12_flipped_71 : decode cX12_flipped 71 = .ok (.iload_n 3, 1) := by decide +kernel
theorem dX12_flipped_72 : decode cX12_flipped 72 = .ok (.lshl, 1) := by decide +kernel
theorem dX12_flipped_73 : decode cX12_flipped 73 = .ok (.ldc2_w 154, 3) := by decide +kernel
theorem dX12_flipped_76 : decode cX12_flipped 76 = .ok (.lxor, 1) := by decide +kernel
theorem dX12_flipped_77 : decode cX12_flipped 77 = .ok (.land, 1) := by decide +kernel
theorem dX12_flipped_78 : decode cX12_flipped 78 = .ok (.lconst 1, 1) := by decide +kernel
theorem dX12_flipped_79 : decode cX12_flipped 79 = .ok (.iload 6, 2) := by decide +kernel
theorem dX12_flipped_81 : decode cX12_flipped 81 = .ok (.lshl, 1) := by decide +kernel
theorem dX12_flipped_82 : decode cX12_flipped 82 = .ok (.lor, 1) := by decide +kernel
theorem dX12_flipped_83 : decode cX12_flipped 83 = .ok (.goto 4, 3) := by decide +kernel
theorem dX12_flipped_86 : decode cX12_flipped 86 = .ok (.lconst 0, 1) := by decide +kernel
theorem dX12_flipped_87 : decode cX12_flipped 87 = .ok (.lreturn, 1) := by decide +kernel
theorem dX12_slotOf_0 : decode cX12_slotOf 0 = .ok (.lload_n 1, 1) := by decide +kernel
theorem dX12_slotOf_1 : decode cX12_slotOf 1 = .ok (.lload_n 1, 1) := by decide +kernel
theorem dX12_slotOf_2 : decode cX12_slotOf 2 = .ok (.bipush 17, 2) := by decide +kernel
theorem dX12_slotOf_4 : decode cX12_slotOf 4 = .ok (.lshr, 1) := by decide +kernel
theorem dX12_slotOf_5 : decode cX12_slotOf 5 = .ok (.lxor, 1) := by decide +kernel
theorem dX12_slotOf_6 : decode cX12_slotOf 6 = .ok (.lload_n 1, 1) := by decide +kernel
theorem dX12_slotOf_7 : decode cX12_slotOf 7 = .ok (.bipush 37, 2) := by decide +kernel
theorem dX12_slotOf_9 : decode cX12_slotOf 9 = .ok (.lshr, 1) := by decide +kernel
theorem dX12_slotOf_10 : decode cX12_slotOf 10 = .ok (.lxor, 1) := by decide +kernel
theorem dX12_slotOf_11 : decode cX12_slotOf 11 = .ok (.ldc2_w 258, 3) := by decide +kernel
theorem dX12_slotOf_14 : decode cX12_slotOf 14 = .ok (.land, 1) := by decide +kernel
theorem dX12_slotOf_15 : decode cX12_slotOf 15 = .ok (.l2i, 1) := by decide +kernel
theorem dX12_slotOf_16 : decode cX12_slotOf 16 = .ok (.istore_n 3, 1) := by decide +kernel
theorem dX12_slotOf_17 : decode cX12_slotOf 17 = .ok (.aload_n 0, 1) := by decide +kernel
theorem dX12_slotOf_18 : decode cX12_slotOf 18 = .ok (.getfield 75, 3) := by decide +kernel
theorem dX12_slotOf_21 : decode cX12_slotOf 21 = .ok (.iload_n 3, 1) := by decide +kernel
theorem dX12_slotOf_22 : decode cX12_slotOf 22 = .ok (.iaload, 1) := by decide +kernel
theorem dX12_slotOf_23 : decode cX12_slotOf 23 = .ok (.bipush (-9), 2) := by decide +kernel
theorem dX12_slotOf_25 : decode cX12_slotOf 25 = .ok (.if_icmp .eq 30, 3) := by decide +kernel
theorem dX12_slotOf_28 : decode cX12_slotOf 28 = .ok (.aload_n 0, 1) := by decide +kernel
theorem dX12_slotOf_29 : decode cX12_slotOf 29 = .ok (.getfield 69, 3) := by decide +kernel
theorem dX12_slotOf_32 : decode cX12_slotOf 32 = .ok (.aload_n 0, 1) := by decide +kernel
theorem dX12_slotOf_33 : decode cX12_slotOf 33 = .ok (.getfield 75, 3) := by decide +kernel
theorem dX12_slotOf_36 : decode cX12_slotOf 36 = .ok (.iload_n 3, 1) := by decide +kernel
theorem dX12_slotOf_37 : decode cX12_slotOf 37 = .ok (.iaload, 1) := by decide +kernel
theorem dX12_slotOf_38 : decode cX12_slotOf 38 = .ok (.laload, 1) := by decide +kernel
theorem dX12_slotOf_39 : decode cX12_slotOf 39 = .ok (.lload_n 1, 1) := by decide +kernel
theorem dX12_slotOf_40 : decode cX12_slotOf 40 = .ok (.lcmp, 1) := by decide +kernel
theorem dX12_slotOf_41 : decode cX12_slotOf 41 = .ok (.ifCond .eq 14, 3) := by decide +kernel
theorem dX12_slotOf_44 : decode cX12_slotOf 44 = .ok (.iload_n 3, 1) := by decide +kernel
theorem dX12_slotOf_45 : decode cX12_slotOf 45 = .ok (.iconst 1, 1) := by decide +kernel
theorem dX12_slotOf_46 : decode cX12_slotOf 46 = .ok (.iadd, 1) := by decide +kernel
theorem dX12_slotOf_47 : decode cX12_slotOf 47 = .ok (.sipush 4095, 3) := by decide +kernel
theorem dX12_slotOf_50 : decode cX12_slotOf 50 = .ok (.iand, 1) := by decide +kernel
theorem dX12_slotOf_51 : decode cX12_slotOf 51 = .ok (.istore_n 3, 1) := by decide +kernel
theorem dX12_slotOf_52 : decode cX12_slotOf 52 = .ok (.goto (-35), 3) := by decide +kernel
theorem dX12_slotOf_55 : decode cX12_slotOf 55 = .ok (.iload_n 3, 1) := by decide +kernel
theorem dX12_slotOf_56 : decode cX12_slotOf 56 = .ok (.ireturn, 1) := by decide +kernel
theorem dX12_findCuts_0 : decode cX12_findCuts 0 = .ok (.aload_n 0, 1) := by decide +kernel
theorem dX12_findCuts_1 : decode cX12_findCuts 1 = .ok (.iload_n 1, 1) := by decide +kernel
theorem dX12_findCuts_2 : decode cX12_findCuts 2 = .ok (.invokevirtual 171, 3) := by decide +kernel
theorem dX12_findCuts_5 : decode cX12_findCuts 5 = .ok (.aload_n 0, 1) := by decide +kernel
theorem dX12_findCuts_6 : decode cX12_findCuts 6 = .ok (.invokevirtual 260, 3) := by decide +kernel
theorem dX12_findCuts_9 : decode cX12_findCuts 9 = .ok (.iconst 0, 1) := by decide +kernel
theorem dX12_findCuts_10 : decode cX12_findCuts 10 = .ok (.istore_n 2, 1) := by decide +kernel
theorem dX12_findCuts_11 : decode cX12_findCuts 11 = .ok (.iload_n 2, 1) := by decide +kernel
theorem dX12_findCuts_12 : decode cX12_findCuts 12 = .ok (.sipush 4096, 3) := by decide +kernel
theorem dX12_findCuts_15 : decode cX12_findCuts 15 = .ok (.if_icmp .ge 17, 3) := by decide +kernel
theorem dX12_findCuts_18 : decode cX12_findCuts 18 = .ok (.aload_n 0, 1) := by decide +kernel
theorem dX12_findCuts_19 : decode cX12_findCuts 19 = .ok (.getfield 75, 3) := by decide +kernel
theorem dX12_findCuts_22 : decode cX12_findCuts 22 = .ok (.iload_n 2, 1) := by decide +kernel
theorem dX12_findCuts_23 : decode cX12_findCuts 23 = .ok (.bipush (-9), 2) := by decide +kernel
theorem dX12_findCuts_25 : decode cX12_findCuts 25 = .ok (.iastore, 1) := by decide +kernel
theorem dX12_findCuts_26 : decode cX12_findCuts 26 = .ok (.iinc 2 1, 3) := by decide +kernel
theorem dX12_findCuts_29 : decode cX12_findCuts 29 = .ok (.goto (-18), 3) := by decide +kernel
theorem dX12_findCuts_32 : decode cX12_findCuts 32 = .ok (.aload_n 0, 1) := by decide +kernel
theorem dX12_findCuts_33 : decode cX12_findCuts 33 = .ok (.iconst 0, 1) := by decide +kernel
theorem dX12_findCuts_34 : decode cX12_findCuts 34 = .ok (.putfield 263, 3) := by decide +kernel
theorem dX12_findCuts_37 : decode cX12_findCuts 37 = .ok (.aload_n 0, 1) := by decide +kernel
theorem dX12_findCuts_38 : decode cX12_findCuts 38 = .ok (.iconst 1, 1) := by decide +kernel
theorem dX12_findCuts_39 : decode cX12_findCuts 39 = .ok (.putfield 267, 3) := by decide +kernel
theorem dX12_findCuts_42 : decode cX12_findCuts 42 = .ok (.aload_n 0, 1) := by decide +kernel
theorem dX12_findCuts_43 : decode cX12_findCuts 43 = .ok (.getfield 69, 3) := by decide +kernel
theorem dX12_findCuts_46 : decode cX12_findCuts 46 = .ok (.iconst 0, 1) := by decide +kernel
theorem dX12_findCuts_47 : decode cX12_findCuts 47 = .ok (.aload_n 0, 1) := by decide +kernel
theorem dX12_findCuts_48 : decode cX12_findCuts 48 = .ok (.invokevirtual 270, 3) := by decide +kernel
theorem dX12_findCuts_51 : decode cX12_findCuts 51 = .ok (.lastore, 1) := by decide +kernel
theorem dX12_findCuts_52 : decode cX12_findCuts 52 = .ok (.aload_n 0, 1) := by decide +kernel
theorem dX12_findCuts_53 : decode cX12_findCuts 53 = .ok (.getfield 72, 3) := by decide +kernel
theorem dX12_findCuts_56 : decode cX12_findCuts 56 = .ok (.iconst 0, 1) := by decide +kernel
theorem dX12_findCuts_57 : decode cX12_findCuts 57 = .ok (.iconst 0, 1) := by decide +kernel
theorem dX12_findCuts_58 : decode cX12_findCuts 58 = .ok (.iastore, 1) := by decide +kernel
theorem dX12_findCuts_59 : decode cX12_findCuts 59 = .ok (.aload_n 0, 1) := by decide +kernel
theorem dX12_findCuts_60 : decode cX12_findCuts 60 = .ok (.getfield 75, 3) := by decide +kernel
theorem dX12_findCuts_63 : decode cX12_findCuts 63 = .ok (.aload_n 0, 1) := by decide +kernel
theorem dX12_findCuts_64 : decode cX12_findCuts 64 = .ok (.aload_n 0, 1) := by decide +kernel
theorem dX12_findCuts_65 : decode cX12_findCuts 65 = .ok (.getfield 69, 3) := by decide +kernel
theorem dX12_findCuts_68 : decode cX12_findCuts 68 = .ok (.iconst 0, 1) := by decide +kernel
theorem dX12_findCuts_69 : decode cX12_findCuts 69 = .ok (.laload, 1) := by decide +kernel
theorem dX12_findCuts_70 : decode cX12_findCuts 70 = .ok (.invokevirtual 274, 3) := by decide +kernel
theorem dX12_findCuts_73 : decode cX12_findCuts 73 = .ok (.iconst 0, 1) := by decide +kernel
theorem dX12_findCuts_74 : decode cX12_findCuts 74 = .ok (.iastore, 1) := by decide +kernel
theorem dX12_findCuts_75 : decode cX12_findCuts 75 = .ok (.iconst 0, 1) := by decide +kernel
theorem dX12_findCuts_76 : decode cX12_findCuts 76 = .ok (.istore_n 2, 1) := by decide +kernel
theorem dX12_findCuts_77 : decode cX12_findCuts 77 = .ok (.iload_n 2, 1) := by decide +kernel
theorem dX12_findCuts_78 : decode cX12_findCuts 78 = .ok (.aload_n 0, 1) := by decide +kernel
theorem dX12_findCuts_79 : decode cX12_findCuts 79 = .ok (.getfield 267, 3) := by decide +kernel
theorem dX12_findCuts_82 : decode cX12_findCuts 82 = .ok (.if_icmp .ge 166, 3) := by decide +kernel
theorem dX12_findCuts_85 : decode cX12_findCuts 85 = .ok (.aload_n 0, 1) := by decide +kernel
theorem dX12_findCuts_86 : decode cX12_findCuts 86 = .ok (.getfield 263, 3) := by decide +kernel
theorem dX12_findCuts_89 : decode cX12_findCuts 89 = .ok (.ifCond .ne 159, 3) := by decide +kernel
theorem dX12_findCuts_92 : decode cX12_findCuts 92 = .ok (.iconst 0, 1) := by decide +kernel
theorem dX12_findCuts_93 : decode cX12_findCuts 93 = .ok (.istore_n 3, 1) := by decide +kernel
theorem dX12_findCuts_94 : decode cX12_findCuts 94 = .ok (.iload_n 3, 1) := by decide +kernel
theorem dX12_findCuts_95 : decode cX12_findCuts 95 = .ok (.aload_n 0, 1) := by decide +kernel
theorem dX12_findCuts_96 : decode cX12_findCuts 96 = .ok (.getfield 241, 3) := by decide +kernel
theorem dX12_findCuts_99 : decode cX12_findCuts 99 = .ok (.if_icmp .ge 143, 3) := by decide +kernel
theorem dX12_findCuts_102 : decode cX12_findCuts 102 = .ok (.aload_n 0, 1) := by decide +kernel
theorem dX12_findCuts_103 : decode cX12_findCuts 103 = .ok (.getfield 263, 3) := by decide +kernel
theorem dX12_findCuts_106 : decode cX12_findCuts 106 = .ok (.ifCond .ne 136, 3) := by decide +kernel
theorem dX12_findCuts_109 : decode cX12_findCuts 109 = .ok (.aload_n 0, 1) := by decide +kernel
theorem dX12_findCuts_110 : decode cX12_findCuts 110 = .ok (.aload_n 0, 1) := by decide +kernel
theorem dX12_findCuts_111 : decode cX12_findCuts 111 = .ok (.getfield 69, 3) := by decide +kernel
theorem dX12_findCuts_114 : decode cX12_findCuts 114 = .ok (.iload_n 2, 1) := by decide +kernel
theorem dX12_findCuts_115 : decode cX12_findCuts 115 = .ok (.laload, 1) := by decide +kernel
theorem dX12_findCuts_116 : decode cX12_findCuts 116 = .ok (.iload_n 3, 1) := by decide +kernel
theorem dX12_findCuts_117 : decode cX12_findCuts 117 = .ok (.invokevirtual 278, 3) := by decide +kernel
theorem dX12_findCuts_120 : decode cX12_findCuts 120 = .ok (.lstore 4, 2) := by decide +kernel
theorem dX12_findCuts_122 : decode cX12_findCuts 122 = .ok (.lload 4, 2) := by decide +kernel
theorem dX12_findCuts_124 : decode cX12_findCuts 124 = .ok (.lconst 0, 1) := by decide +kernel
theorem dX12_findCuts_125 : decode cX12_findCuts 125 = .ok (.lcmp, 1) := by decide +kernel
theorem dX12_findCuts_126 : decode cX12_findCuts 126 = .ok (.ifCond .ne 8, 3) := by decide +kernel
theorem dX12_findCuts_129 : decode cX12_findCuts 129 = .ok (.bipush (-9), 2) := by decide +kernel
theorem dX12_findCuts_131 : decode cX12_findCuts 131 = .ok (.goto 9, 3) := by decide +kernel
theorem dX12_findCuts_134 : decode cX12_findCuts 134 = .ok (.aload_n 0, 1) := by decide +kernel
theorem dX12_findCuts_135 : decode cX12_findCuts 135 = .ok (.lload 4, 2) := by decide +kernel
theorem dX12_findCuts_137 : decode cX12_findCuts 137 = .ok (.invokevirtual 274, 3) := by decide +kernel
theorem dX12_findCuts_140 : decode cX12_findCuts 140 = .ok (.istore 6, 2) := by decide +kernel
theorem dX12_findCuts_142 : decode cX12_findCuts 142 = .ok (.iload 6, 2) := by decide +kernel
theorem dX12_findCuts_144 : decode cX12_findCuts 144 = .ok (.bipush (-9), 2) := by decide +kernel
theorem dX12_findCuts_146 : decode cX12_findCuts 146 = .ok (.if_icmp .eq 90, 3) := by decide +kernel
theorem dX12_findCuts_149 : decode cX12_findCuts 149 = .ok (.aload_n 0, 1) := by decide +kernel
theorem dX12_findCuts_150 : decode cX12_findCuts 150 = .ok (.getfield 75, 3) := by decide +kernel
theorem dX12_findCuts_153 : decode cX12_findCuts 153 = .ok (.iload 6, 2) := by decide +kernel
theorem dX12_findCuts_155 : decode cX12_findCuts 155 = .ok (.iaload, 1) := by decide +kernel
theorem dX12_findCuts_156 : decode cX12_findCuts 156 = .ok (.bipush (-9), 2) := by decide +kernel
theorem dX12_findCuts_158 : decode cX12_findCuts 158 = .ok (.if_icmp .ne 78, 3) := by decide +kernel
theorem dX12_findCuts_161 : decode cX12_findCuts 161 = .ok (.aload_n 0, 1) := by decide +kernel
theorem dX12_findCuts_162 : decode cX12_findCuts 162 = .ok (.aload_n 0, 1) := by decide +kernel
theorem dX12_findCuts_163 : decode cX12_findCuts 163 = .ok (.getfield 267, 3) := by decide +kernel
theorem dX12_findCuts_166 : decode cX12_findCuts 166 = .ok (.sipush 1500, 3) := by decide +kernel
theorem dX12_findCuts_169 : decode cX12_findCuts 169 = .ok (.if_icmp .ne 7, 3) := by decide +kernel
theorem dX12_findCuts_172 : decode cX12_findCuts 172 = .ok (.iconst 1, 1) := by decide +kernel
theorem dX12_findCuts_173 : decode cX12_findCuts 173 = .ok (.goto 4, 3) := by decide +kernel
theorem dX12_findCuts_176 : decode cX12_findCuts 176 = .ok (.iconst 0, 1) := by decide +kernel
theorem dX12_findCuts_177 : decode cX12_findCuts 177 = .ok (.putfield 263, 3) := by decide +kernel
theorem dX12_findCuts_180 : decode cX12_findCuts 180 = .ok (.aload_n 0, 1) := by decide +kernel
theorem dX12_findCuts_181 : decode cX12_findCuts 181 = .ok (.getfield 263, 3) := by decide +kernel
theorem dX12_findCuts_184 : decode cX12_findCuts 184 = .ok (.ifCond .ne 52, 3) := by decide +kernel
theorem dX12_findCuts_187 : decode cX12_findCuts 187 = .ok (.aload_n 0, 1) := by decide +kernel
theorem dX12_findCuts_188 : decode cX12_findCuts 188 = .ok (.getfield 75, 3) := by decide +kernel
theorem dX12_findCuts_191 : decode cX12_findCuts 191 = .ok (.iload 6, 2) := by decide +kernel
theorem dX12_findCuts_193 : decode cX12_findCuts 193 = .ok (.aload_n 0, 1) := by decide +kernel
theorem dX12_findCuts_194 : decode cX12_findCuts 194 = .ok (.getfield 267, 3) := by decide +kernel
theorem dX12_findCuts_197 : decode cX12_findCuts 197 = .ok (.iastore, 1) := by decide +kernel
theorem dX12_findCuts_198 : decode cX12_findCuts 198 = .ok (.aload_n 0, 1) := by decide +kernel
theorem dX12_findCuts_199 : decode cX12_findCuts 199 = .ok (.getfield 69, 3) := by decide +kernel
theorem dX12_findCuts_202 : decode cX12_findCuts 202 = .ok (.aload_n 0, 1) := by decide +kernel
theorem dX12_findCuts_203 : decode cX12_findCuts 203 = .ok (.getfield 267, 3) := by decide +kernel
theorem dX12_findCuts_206 : decode cX12_findCuts 206 = .ok (.lload 4, 2) := by decide +kernel
theorem dX12_findCuts_208 : decode cX12_findCuts 208 = .ok (.lastore, 1) := by decide +kernel
theorem dX12_findCuts_209 : decode cX12_findCuts 209 = .ok (.aload_n 0, 1) := by decide +kernel
theorem dX12_findCuts_210 : decode cX12_findCuts 210 = .ok (.getfield 72, 3) := by decide +kernel
theorem dX12_findCuts_213 : decode cX12_findCuts 213 = .ok (.aload_n 0, 1) := by decide +kernel
theorem dX12_findCuts_214 : decode cX12_findCuts 214 = .ok (.getfield 267, 3) := by decide +kernel
theorem dX12_findCuts_217 : decode cX12_findCuts 217 = .ok (.aload_n 0, 1) := by decide +kernel
theorem dX12_findCuts_218 : decode cX12_findCuts 218 = .ok (.getfield 72, 3) := by decide +kernel
theorem dX12_findCuts_221 : decode cX12_findCuts 221 = .ok (.iload_n 2, 1) := by decide +kernel
theorem dX12_findCuts_222 : decode cX12_findCuts 222 = .ok (.iaload, 1) := by decide +kernel
theorem dX12_findCuts_223 : decode cX12_findCuts 223 = .ok (.iconst 1, 1) := by decide +kernel
theorem dX12_findCuts_224 : decode cX12_findCuts 224 = .ok (.iadd, 1) := by decide +kernel
theorem dX12_findCuts_225 : decode cX12_findCuts 225 = .ok (.iastore, 1) := by decide +kernel
theorem dX12_findCuts_226 : decode cX12_findCuts 226 = .ok (.aload_n 0, 1) := by decide +kernel
theorem dX12_findCuts_227 : decode cX12_findCuts 227 = .ok (.dup, 1) := by decide +kernel
theorem dX12_findCuts_228 : decode cX12_findCuts 228 = .ok (.getfield 267, 3) := by decide +kernel
theorem dX12_findCuts_231 : decode cX12_findCuts 231 = .ok (.iconst 1, 1) := by decide +kernel
theorem dX12_findCuts_232 : decode cX12_findCuts 232 = .ok (.iadd, 1) := by decide +kernel
theorem dX12_findCuts_233 : decode cX12_findCuts 233 = .ok (.putfield 267, 3) := by decide +kernel
theorem dX12_findCuts_236 : decode cX12_findCuts 236 = .ok (.iinc 3 1, 3) := by decide +kernel
theorem dX12_findCuts_239 : decode cX12_findCuts 239 = .ok (.goto (-145), 3) := by decide +kernel
theorem dX12_findCuts_242 : decode cX12_findCuts 242 = .ok (.iinc 2 1, 3) := by decide +kernel
theorem dX12_findCuts_245 : decode cX12_findCuts 245 = .ok (.goto (-168), 3) := by decide +kernel
theorem dX12_findCuts_248 : decode cX12_findCuts 248 = .ok (.return_, 1) := by decide +kernel
theorem dX12_isCuttable_0 : decode cX12_isCuttable 0 = .ok (.aload_n 0, 1) := by decide +kernel
theorem dX12_isCuttable_1 : decode cX12_isCuttable 1 = .ok (.iload_n 1, 1) := by decide +kernel
theorem dX12_isCuttable_2 : decode cX12_isCuttable 2 = .ok (.invokevirtual 142, 3) := by decide +kernel
theorem dX12_isCuttable_5 : decode cX12_isCuttable 5 = .ok (.ifCond .eq 23, 3) := by decide +kernel
theorem dX12_isCuttable_8 : decode cX12_isCuttable 8 = .ok (.aload_n 0, 1) := by decide +kernel
theorem dX12_isCuttable_9 : decode cX12_isCuttable 9 = .ok (.iload_n 1, 1) := by decide +kernel
theorem dX12_isCuttable_10 : decode cX12_isCuttable 10 = .ok (.invokevirtual 148, 3) := by decide +kernel
theorem dX12_isCuttable_13 : decode cX12_isCuttable 13 = .ok (.aload_n 0, 1) := by decide +kernel
theorem dX12_isCuttable_14 : decode cX12_isCuttable 14 = .ok (.iload_n 1, 1) := by decide +kernel
theorem dX12_isCuttable_15 : decode cX12_isCuttable 15 = .ok (.invokevirtual 151, 3) := by decide +kernel
theorem dX12_isCuttable_18 : decode cX12_isCuttable 18 = .ok (.iadd, 1) := by decide +kernel
theorem dX12_isCuttable_19 : decode cX12_isCuttable 19 = .ok (.bipush 12, 2) := by decide +kernel
theorem dX12_isCuttable_21 : decode cX12_isCuttable 21 = .ok (.if_icmp .gt 7, 3) := by decide +kernel
theorem dX12_isCuttable_24 : decode cX12_isCuttable 24 = .ok (.iconst 1, 1) := by decide +kernel
theorem dX12_isCuttable_25 : decode cX12_isCuttable 25 = .ok (.goto 4, 3) := by decide +kernel
theorem dX12_isCuttable_28 : decode cX12_isCuttable 28 = .ok (.iconst 0, 1) := by decide +kernel
theorem dX12_isCuttable_29 : decode cX12_isCuttable 29 = .ok (.ireturn, 1) := by decide +kernel
theorem dX12_sizeOf_0 : decode cX12_sizeOf 0 = .ok (.iconst 0, 1) := by decide +kernel
theorem dX12_sizeOf_1 : decode cX12_sizeOf 1 = .ok (.istore_n 3, 1) := by decide +kernel
theorem dX12_sizeOf_2 : decode cX12_sizeOf 2 = .ok (.iconst 0, 1) := by decide +kernel
theorem dX12_sizeOf_3 : decode cX12_sizeOf 3 = .ok (.istore 4, 2) := by decide +kernel
theorem dX12_sizeOf_5 : decode cX12_sizeOf 5 = .ok (.iload 4, 2) := by decide +kernel
theorem dX12_sizeOf_7 : decode cX12_sizeOf 7 = .ok (.aload_n 0, 1) := by decide +kernel
theorem dX12_sizeOf_8 : decode cX12_sizeOf 8 = .ok (.getfield 241, 3) := by decide +kernel
theorem dX12_sizeOf_11 : decode cX12_sizeOf 11 = .ok (.if_icmp .ge 26, 3) := by decide +kernel
theorem dX12_sizeOf_14 : decode cX12_sizeOf 14 = .ok (.iload_n 3, 1) := by decide +kernel
theorem dX12_sizeOf_15 : decode cX12_sizeOf 15 = .ok (.lload_n 1, 1) := by decide +kernel
theorem dX12_sizeOf_16 : decode cX12_sizeOf 16 = .ok (.iload 4, 2) := by decide +kernel
theorem dX12_sizeOf_18 : decode cX12_sizeOf 18 = .ok (.invokestatic 244, 3) := by decide +kernel
theorem dX12_sizeOf_21 : decode cX12_sizeOf 21 = .ok (.ifCond .eq 7, 3) := by decide +kernel
theorem dX12_sizeOf_24 : decode cX12_sizeOf 24 = .ok (.iconst 1, 1) := by decide +kernel
theorem dX12_sizeOf_25 : decode cX12_sizeOf 25 = .ok (.goto 4, 3) := by decide +kernel
theorem dX12_sizeOf_28 : decode cX12_sizeOf 28 = .ok (.iconst 0, 1) := by decide +kernel
theorem dX12_sizeOf_29 : decode cX12_sizeOf 29 = .ok (.iadd, 1) := by decide +kernel
theorem dX12_sizeOf_30 : decode cX12_sizeOf 30 = .ok (.istore_n 3, 1) := by decide +kernel
theorem dX12_sizeOf_31 : decode cX12_sizeOf 31 = .ok (.iinc 4 1, 3) := by decide +kernel
theorem dX12_sizeOf_34 : decode cX12_sizeOf 34 = .ok (.goto (-29), 3) := by decide +kernel
theorem dX12_sizeOf_37 : decode cX12_sizeOf 37 = .ok (.iload_n 3, 1) := by decide +kernel
theorem dX12_sizeOf_38 : decode cX12_sizeOf 38 = .ok (.ireturn, 1) := by decide +kernel
theorem dX12_cuts_0 : decode cX12_cuts 0 = .ok (.iload_n 1, 1) := by decide +kernel
theorem dX12_cuts_1 : decode cX12_cuts 1 = .ok (.invokestatic 120, 3) := by decide +kernel
theorem dX12_cuts_4 : decode cX12_cuts 4 = .ok (.ifCond .eq 12, 3) := by decide +kernel
theorem dX12_cuts_7 : decode cX12_cuts 7 = .ok (.iload_n 2, 1) := by decide +kernel
theorem dX12_cuts_8 : decode cX12_cuts 8 = .ok (.iconst 0, 1) := by decide +kernel
theorem dX12_cuts_9 : decode cX12_cuts 9 = .ok (.iconst 3, 1) := by decide +kernel
theorem dX12_cuts_10 : decode cX12_cuts 10 = .ok (.invokestatic 81, 3) := by decide +kernel
theorem dX12_cuts_13 : decode cX12_cuts 13 = .ok (.ifCond .ne 5, 3) := by decide +kernel
theorem dX12_cuts_16 : decode cX12_cuts 16 = .ok (.iconst (-1), 1) := by decide +kernel
theorem dX12_cuts_17 : decode cX12_cuts 17 = .ok (.ireturn, 1) := by decide +kernel
theorem dX12_cuts_18 : decode cX12_cuts 18 = .ok (.aload_n 0, 1) := by decide +kernel
theorem dX12_cuts_19 : decode cX12_cuts 19 = .ok (.iload_n 1, 1) := by decide +kernel
theorem dX12_cuts_20 : decode cX12_cuts 20 = .ok (.invokevirtual 282, 3) := by decide +kernel
theorem dX12_cuts_23 : decode cX12_cuts 23 = .ok (.ifCond .ne 6, 3) := by decide +kernel
theorem dX12_cuts_26 : decode cX12_cuts 26 = .ok (.bipush (-2), 2) := by decide +kernel
theorem dX12_cuts_28 : decode cX12_cuts 28 = .ok (.ireturn, 1) := by decide +kernel
theorem dX12_cuts_29 : decode cX12_cuts 29 = .ok (.iload_n 2, 1) := by decide +kernel
theorem dX12_cuts_30 : decode cX12_cuts 30 = .ok (.iconst 3, 1) := by decide +kernel
theorem dX12_cuts_31 : decode cX12_cuts 31 = .ok (.if_icmp .ne 9, 3) := by decide +kernel
theorem dX12_cuts_34 : decode cX12_cuts 34 = .ok (.aload_n 0, 1) := by decide +kernel
theorem dX12_cuts_35 : decode cX12_cuts 35 = .ok (.iload_n 1, 1) := by decide +kernel
theorem dX12_cuts_36 : decode cX12_cuts 36 = .ok (.invokevirtual 145, 3) := by decide +kernel
theorem dX12_cuts_39 : decode cX12_cuts 39 = .ok (.ireturn, 1) := by decide +kernel
theorem dX12_cuts_40 : decode cX12_cuts 40 = .ok (.iload_n 2, 1) := by decide +kernel
theorem dX12_cuts_41 : decode cX12_cuts 41 = .ok (.iconst 2, 1) := by decide +kernel
theorem dX12_cuts_42 : decode cX12_cuts 42 = .ok (.if_icmp .ne 21, 3) := by decide +kernel
theorem dX12_cuts_45 : decode cX12_cuts 45 = .ok (.aload_n 0, 1) := by decide +kernel
theorem dX12_cuts_46 : decode cX12_cuts 46 = .ok (.iload_n 1, 1) := by decide +kernel
theorem dX12_cuts_47 : decode cX12_cuts 47 = .ok (.invokevirtual 171, 3) := by decide +kernel
theorem dX12_cuts_50 : decode cX12_cuts 50 = .ok (.aload_n 0, 1) := by decide +kernel
theorem dX12_cuts_51 : decode cX12_cuts 51 = .ok (.invokevirtual 260, 3) := by decide +kernel
theorem dX12_cuts_54 : decode cX12_cuts 54 = .ok (.aload_n 0, 1) := by decide +kernel
theorem dX12_cuts_55 : decode cX12_cuts 55 = .ok (.aload_n 0, 1) := by decide +kernel
theorem dX12_cuts_56 : decode cX12_cuts 56 = .ok (.invokevirtual 270, 3) := by decide +kernel
theorem dX12_cuts_59 : decode cX12_cuts 59 = .ok (.invokevirtual 285, 3) := by decide +kernel
theorem dX12_cuts_62 : decode cX12_cuts 62 = .ok (.ireturn, 1) := by decide +kernel
theorem dX12_cuts_63 : decode cX12_cuts 63 = .ok (.aload_n 0, 1) := by decide +kernel
theorem dX12_cuts_64 : decode cX12_cuts 64 = .ok (.iload_n 1, 1) := by decide +kernel
theorem dX12_cuts_65 : decode cX12_cuts 65 = .ok (.invokevirtual 288, 3) := by decide +kernel
theorem dX12_cuts_68 : decode cX12_cuts 68 = .ok (.aload_n 0, 1) := by decide +kernel
theorem dX12_cuts_69 : decode cX12_cuts 69 = .ok (.getfield 263, 3) := by decide +kernel
theorem dX12_cuts_72 : decode cX12_cuts 72 = .ok (.ifCond .eq 8, 3) := by decide +kernel
theorem dX12_cuts_75 : decode cX12_cuts 75 = .ok (.bipush (-5), 2) := by decide +kernel
theorem dX12_cuts_77 : decode cX12_cuts 77 = .ok (.goto 25, 3) := by decide +kernel
theorem dX12_cuts_80 : decode cX12_cuts 80 = .ok (.iload_n 2, 1) := by decide +kernel
theorem dX12_cuts_81 : decode cX12_cuts 81 = .ok (.ifCond .ne 10, 3) := by decide +kernel
theorem dX12_cuts_84 : decode cX12_cuts 84 = .ok (.aload_n 0, 1) := by decide +kernel
theorem dX12_cuts_85 : decode cX12_cuts 85 = .ok (.getfield 267, 3) := by decide +kernel
theorem dX12_cuts_88 : decode cX12_cuts 88 = .ok (.goto 14, 3) := by decide +kernel
theorem dX12_cuts_91 : decode cX12_cuts 91 = .ok (.aload_n 0, 1) := by decide +kernel
theorem dX12_cuts_92 : decode cX12_cuts 92 = .ok (.getfield 72, 3) := by decide +kernel
theorem dX12_cuts_95 : decode cX12_cuts 95 = .ok (.aload_n 0, 1) := by decide +kernel
theorem dX12_cuts_96 : decode cX12_cuts 96 = .ok (.getfield 267, 3) := by decide +kernel
theorem dX12_cuts_99 : decode cX12_cuts 99 = .ok (.iconst 1, 1) := by decide +kernel
theorem dX12_cuts_100 : decode cX12_cuts 100 = .ok (.isub, 1) := by decide +kernel
theorem dX12_cuts_101 : decode cX12_cuts 101 = .ok (.iaload, 1) := by decide +kernel
theorem dX12_cuts_102 : decode cX12_cuts 102 = .ok (.ireturn, 1) := by decide +kernel
theorem dX12_cut_0 : decode cX12_cut 0 = .ok (.iload_n 1, 1) := by decide +kernel
theorem dX12_cut_1 : decode cX12_cut 1 = .ok (.invokestatic 120, 3) := by decide +kernel
theorem dX12_cut_4 : decode cX12_cut 4 = .ok (.ifCond .eq 12, 3) := by decide +kernel
theorem dX12_cut_7 : decode cX12_cut 7 = .ok (.iload_n 2, 1) := by decide +kernel
theorem dX12_cut_8 : decode cX12_cut 8 = .ok (.ifCond .lt 8, 3) := by decide +kernel
theorem dX12_cut_11 : decode cX12_cut 11 = .ok (.iload_n 3, 1) := by decide +kernel
theorem dX12_cut_12 : decode cX12_cut 12 = .ok (.iconst (-1), 1) := by decide +kernel
theorem dX12_cut_13 : decode cX12_cut 13 = .ok (.if_icmp .ge 5, 3) := by decide +kernel
theorem dX12_cut_16 : decode cX12_cut 16 = .ok (.iconst (-1), 1) := by decide +kernel
theorem dX12_cut_17 : decode cX12_cut 17 = .ok (.ireturn, 1) := by decide +kernel
theorem dX12_cut_18 : decode cX12_cut 18 = .ok (.aload_n 0, 1) := by decide +kernel
theorem dX12_cut_19 : decode cX12_cut 19 = .ok (.iload_n 1, 1) := by decide +kernel
theorem dX12_cut_20 : decode cX12_cut 20 = .ok (.invokevirtual 282, 3) := by decide +kernel
theorem dX12_cut_23 : decode cX12_cut 23 = .ok (.ifCond .ne 6, 3) := by decide +kernel
theorem dX12_cut_26 : decode cX12_cut 26 = .ok (.bipush (-2), 2) := by decide +kernel
theorem dX12_cut_28 : decode cX12_cut 28 = .ok (.ireturn, 1) := by decide +kernel
theorem dX12_cut_29 : decode cX12_cut 29 = .ok (.aload_n 0, 1) := by decide +kernel
theorem dX12_cut_30 : decode cX12_cut 30 = .ok (.iload_n 1, 1) := by decide +kernel
theorem dX12_cut_31 : decode cX12_cut 31 = .ok (.invokevirtual 288, 3) := by decide +kernel
theorem dX12_cut_34 : decode cX12_cut 34 = .ok (.aload_n 0, 1) := by decide +kernel
theorem dX12_cut_35 : decode cX12_cut 35 = .ok (.getfield 263, 3) := by decide +kernel
theorem dX12_cut_38 : decode cX12_cut 38 = .ok (.ifCond .eq 6, 3) := by decide +kernel
theorem dX12_cut_41 : decode cX12_cut 41 = .ok (.bipush (-5), 2) := by decide +kernel
theorem dX12_cut_43 : decode cX12_cut 43 = .ok (.ireturn, 1) := by decide +kernel
theorem dX12_cut_44 : decode cX12_cut 44 = .ok (.iload_n 2, 1) := by decide +kernel
theorem dX12_cut_45 : decode cX12_cut 45 = .ok (.aload_n 0, 1) := by decide +kernel
theorem dX12_cut_46 : decode cX12_cut 46 = .ok (.getfield 267, 3) := by decide +kernel
theorem dX12_cut_49 : decode cX12_cut 49 = .ok (.if_icmp .lt 5, 3) := by decide +kernel
theorem dX12_cut_52 : decode cX12_cut 52 = .ok (.iconst (-1), 1) := by decide +kernel
theorem dX12_cut_53 : decode cX12_cut 53 = .ok (.ireturn, 1) := by decide +kernel
theorem dX12_cut_54 : decode cX12_cut 54 = .ok (.iload_n 3, 1) := by decide +kernel
theorem dX12_cut_55 : decode cX12_cut 55 = .ok (.ifCond .ge 10, 3) := by decide +kernel
theorem dX12_cut_58 : decode cX12_cut 58 = .ok (.aload_n 0, 1) := by decide +kernel
theorem dX12_cut_59 : decode cX12_cut 59 = .ok (.getfield 72, 3) := by decide +kernel
theorem dX12_cut_62 : decode cX12_cut 62 = .ok (.iload_n 2, 1) := by decide +kernel
theorem dX12_cut_63 : decode cX12_cut 63 = .ok (.iaload, 1) := by decide +kernel
theorem dX12_cut_64 : decode cX12_cut 64 = .ok (.ireturn, 1) := by decide +kernel
theorem dX12_cut_65 : decode cX12_cut 65 = .ok (.iconst 0, 1) := by decide +kernel
theorem dX12_cut_66 : decode cX12_cut 66 = .ok (.istore 4, 2) := by decide +kernel
theorem dX12_cut_68 : decode cX12_cut 68 = .ok (.iconst 0, 1) := by decide +kernel
theorem dX12_cut_69 : decode cX12_cut 69 = .ok (.istore 5, 2) := by decide +kernel
theorem dX12_cut_71 : decode cX12_cut 71 = .ok (.iload 5, 2) := by decide +kernel
theorem dX12_cut_73 : decode cX12_cut 73 = .ok (.aload_n 0, 1) := by decide +kernel
theorem dX12_cut_74 : decode cX12_cut 74 = .ok (.getfield 241, 3) := by decide +kernel
theorem dX12_cut_77 : decode cX12_cut 77 = .ok (.if_icmp .ge 51, 3) := by decide +kernel
theorem dX12_cut_80 : decode cX12_cut 80 = .ok (.aload_n 0, 1) := by decide +kernel
theorem dX12_cut_81 : decode cX12_cut 81 = .ok (.getfield 69, 3) := by decide +kernel
theorem dX12_cut_84 : decode cX12_cut 84 = .ok (.iload_n 2, 1) := by decide +kernel
theorem dX12_cut_85 : decode cX12_cut 85 = .ok (.laload, 1) := by decide +kernel
theorem dX12_cut_86 : decode cX12_cut 86 = .ok (.iload 5, 2) := by decide +kernel
theorem dX12_cut_88 : decode cX12_cut 88 = .ok (.invokestatic 244, 3) := by decide +kernel
theorem dX12_cut_91 : decode cX12_cut 91 = .ok (.ifCond .eq 31, 3) := by decide +kernel
theorem dX12_cut_94 : decode cX12_cut 94 = .ok (.iload 4, 2) := by decide +kernel
theorem dX12_cut_96 : decode cX12_cut 96 = .ok (.iload_n 3, 1) := by decide +kernel
theorem dX12_cut_97 : decode cX12_cut 97 = .ok (.if_icmp .ne 22, 3) := by decide +kernel
theorem dX12_cut_100 : decode cX12_cut 100 = .ok (.bipush 16, 2) := by decide +kernel
theorem dX12_cut_102 : decode cX12_cut 102 = .ok (.aload_n 0, 1) := by decide +kernel
theorem dX12_cut_103 : decode cX12_cut 103 = .ok (.getfield 60, 3) := by decide +kernel
theorem dX12_cut_106 : decode cX12_cut 106 = .ok (.iload 5, 2) := by decide +kernel
theorem dX12_cut_108 : decode cX12_cut 108 = .ok (.iaload, 1) := by decide +kernel
theorem dX12_cut_109 : decode cX12_cut 109 = .ok (.imul, 1) := by decide +kernel
theorem dX12_cut_110 : decode cX12_cut 110 = .ok (.aload_n 0, 1) := by decide +kernel
theorem dX12_cut_111 : decode cX12_cut 111 = .ok (.getfield 63, 3) := by decide +kernel
theorem dX12_cut_114 : decode cX12_cut 114 = .ok (.iload 5, 2) := by decide +kernel
theorem dX12_cut_116 : decode cX12_cut 116 = .ok (.iaload, 1) := by decide +kernel
theorem dX12_cut_117 : decode cX12_cut 117 = .ok (.iadd, 1) := by decide +kernel
theorem dX12_cut_118 : decode cX12_cut 118 = .ok (.ireturn, 1) := by decide +kernel
theorem dX12_cut_119 : decode cX12_cut 119 = .ok (.iinc 4 1, 3) := by decide +kernel
theorem dX12_cut_122 : decode cX12_cut 122 = .ok (.iinc 5 1, 3) := by decide +kernel
theorem dX12_cut_125 : decode cX12_cut 125 = .ok (.goto (-54), 3) := by decide +kernel
theorem dX12_cut_128 : decode cX12_cut 128 = .ok (.iconst (-1), 1) := by decide +kernel
theorem dX12_cut_129 : decode cX12_cut 129 = .ok (.ireturn, 1) := by decide +kernel
theorem dX12_flips_0 : decode cX12_flips 0 = .ok (.iload_n 1, 1) := by decide +kernel
theorem dX12_flips_1 : decode cX12_flips 1 = .ok (.invokestatic 120, 3) := by decide +kernel
theorem dX12_flips_4 : decode cX12_flips 4 = .ok (.ifCond .eq 7, 3) := by decide +kernel
theorem dX12_flips_7 : decode cX12_flips 7 = .ok (.iload_n 2, 1) := by decide +kernel
theorem dX12_flips_8 : decode cX12_flips 8 = .ok (.ifCond .ge 5, 3) := by decide +kernel
theorem dX12_flips_11 : decode cX12_flips 11 = .ok (.iconst (-1), 1) := by decide +kernel
theorem dX12_flips_12 : decode cX12_flips 12 = .ok (.ireturn, 1) := by decide +kernel
theorem dX12_flips_13 : decode cX12_flips 13 = .ok (.aload_n 0, 1) := by decide +kernel
theorem dX12_flips_14 : decode cX12_flips 14 = .ok (.iload_n 1, 1) := by decide +kernel
theorem dX12_flips_15 : decode cX12_flips 15 = .ok (.invokevirtual 282, 3) := by decide +kernel
theorem dX12_flips_18 : decode cX12_flips 18 = .ok (.ifCond .ne 6, 3) := by decide +kernel
theorem dX12_flips_21 : decode cX12_flips 21 = .ok (.bipush (-2), 2) := by decide +kernel
theorem dX12_flips_23 : decode cX12_flips 23 = .ok (.ireturn, 1) := by decide +kernel
theorem dX12_flips_24 : decode cX12_flips 24 = .ok (.aload_n 0, 1) := by decide +kernel
theorem dX12_flips_25 : decode cX12_flips 25 = .ok (.iload_n 1, 1) := by decide +kernel
theorem dX12_flips_26 : decode cX12_flips 26 = .ok (.invokevirtual 288, 3) := by decide +kernel
theorem dX12_flips_29 : decode cX12_flips 29 = .ok (.aload_n 0, 1) := by decide +kernel
theorem dX12_flips_30 : decode cX12_flips 30 = .ok (.getfield 263, 3) := by decide +kernel
theorem dX12_flips_33 : decode cX12_flips 33 = .ok (.ifCond .eq 6, 3) := by decide +kernel
theorem dX12_flips_36 : decode cX12_flips 36 = .ok (.bipush (-5), 2) := by decide +kernel
theorem dX12_flips_38 : decode cX12_flips 38 = .ok (.ireturn, 1) := by decide +kernel
theorem dX12_flips_39 : decode cX12_flips 39 = .ok (.iload_n 2, 1) := by decide +kernel
theorem dX12_flips_40 : decode cX12_flips 40 = .ok (.aload_n 0, 1) := by decide +kernel
theorem dX12_flips_41 : decode cX12_flips 41 = .ok (.getfield 267, 3) := by decide +kernel
theorem dX12_flips_44 : decode cX12_flips 44 = .ok (.if_icmp .lt 5, 3) := by decide +kernel
theorem dX12_flips_47 : decode cX12_flips 47 = .ok (.iconst (-1), 1) := by decide +kernel
theorem dX12_flips_48 : decode cX12_flips 48 = .ok (.ireturn, 1) := by decide +kernel
theorem dX12_flips_49 : decode cX12_flips 49 = .ok (.iconst 0, 1) := by decide +kernel
theorem dX12_flips_50 : decode cX12_flips 50 = .ok (.istore_n 3, 1) := by decide +kernel
theorem dX12_flips_51 : decode cX12_flips 51 = .ok (.iconst 0, 1) := by decide +kernel
theorem dX12_flips_52 : decode cX12_flips 52 = .ok (.istore 4, 2) := by decide +kernel
theorem dX12_flips_54 : decode cX12_flips 54 = .ok (.iload 4, 2) := by decide +kernel
theorem dX12_flips_56 : decode cX12_flips 56 = .ok (.aload_n 0, 1) := by decide +kernel
theorem dX12_flips_57 : decode cX12_flips 57 = .ok (.getfield 241, 3) := by decide +kernel
theorem dX12_flips_60 : decode cX12_flips 60 = .ok (.if_icmp .ge 34, 3) := by decide +kernel
theorem dX12_flips_63 : decode cX12_flips 63 = .ok (.iload_n 3, 1) := by decide +kernel
theorem dX12_flips_64 : decode cX12_flips 64 = .ok (.aload_n 0, 1) := by decide +kernel
theorem dX12_flips_65 : decode cX12_flips 65 = .ok (.aload_n 0, 1) := by decide +kernel
theorem dX12_flips_66 : decode cX12_flips 66 = .ok (.getfield 69, 3) := by decide +kernel
theorem dX12_flips_69 : decode cX12_flips 69 = .ok (.iload_n 2, 1) := by decide +kernel
theorem dX12_flips_70 : decode cX12_flips 70 = .ok (.laload, 1) := by decide +kernel
theorem dX12_flips_71 : decode cX12_flips 71 = .ok (.iload 4, 2) := by decide +kernel
theorem dX12_flips_73 : decode cX12_flips 73 = .ok (.invokevirtual 278, 3) := by decide +kernel
theorem dX12_flips_76 : decode cX12_flips 76 = .ok (.lconst 0, 1) := by decide +kernel
theorem dX12_flips_77 : decode cX12_flips 77 = .ok (.lcmp, 1) := by decide +kernel
theorem dX12_flips_78 : decode cX12_flips 78 = .ok (.ifCond .eq 7, 3) := by decide +kernel
theorem dX12_flips_81 : decode cX12_flips 81 = .ok (.iconst 1, 1) := by decide +kernel
theorem dX12_flips_82 : decode cX12_flips 82 = .ok (.goto 4, 3) := by decide +kernel
theorem dX12_flips_85 : decode cX12_flips 85 = .ok (.iconst 0, 1) := by decide +kernel
theorem dX12_flips_86 : decode cX12_flips 86 = .ok (.iadd, 1) := by decide +kernel
theorem dX12_flips_87 : decode cX12_flips 87 = .ok (.istore_n 3, 1) := by decide +kernel
theorem dX12_flips_88 : decode cX12_flips 88 = .ok (.iinc 4 1, 3) := by decide +kernel
theorem dX12_flips_91 : decode cX12_flips 91 = .ok (.goto (-37), 3) := by decide +kernel
theorem dX12_flips_94 : decode cX12_flips 94 = .ok (.iload_n 3, 1) := by decide +kernel
theorem dX12_flips_95 : decode cX12_flips 95 = .ok (.ireturn, 1) := by decide +kernel
theorem dX12_isLifted_0 : decode cX12_isLifted 0 = .ok (.aload_n 0, 1) := by decide +kernel
theorem dX12_isLifted_1 : decode cX12_isLifted 1 = .ok (.iload_n 1, 1) := by decide +kernel
theorem dX12_isLifted_2 : decode cX12_isLifted 2 = .ok (.invokevirtual 142, 3) := by decide +kernel
theorem dX12_isLifted_5 : decode cX12_isLifted 5 = .ok (.ifCond .eq 23, 3) := by decide +kernel
theorem dX12_isLifted_8 : decode cX12_isLifted 8 = .ok (.aload_n 0, 1) := by decide +kernel
theorem dX12_isLifted_9 : decode cX12_isLifted 9 = .ok (.iload_n 1, 1) := by decide +kernel
theorem dX12_isLifted_10 : decode cX12_isLifted 10 = .ok (.invokevirtual 148, 3) := by decide +kernel
theorem dX12_isLifted_13 : decode cX12_isLifted 13 = .ok (.aload_n 0, 1) := by decide +kernel
theorem dX12_isLifted_14 : decode cX12_isLifted 14 = .ok (.iload_n 1, 1) := by decide +kernel
theorem dX12_isLifted_15 : decode cX12_isLifted 15 = .ok (.invokevirtual 151, 3) := by decide +kernel
theorem dX12_isLifted_18 : decode cX12_isLifted 18 = .ok (.iadd, 1) := by decide +kernel
theorem dX12_isLifted_19 : decode cX12_isLifted 19 = .ok (.bipush 40, 2) := by decide +kernel
theorem dX12_isLifted_21 : decode cX12_isLifted 21 = .ok (.if_icmp .gt 7, 3) := by decide +kernel
theorem dX12_isLifted_24 : decode cX12_isLifted 24 = .ok (.iconst 1, 1) := by decide +kernel
theorem dX12_isLifted_25 : decode cX12_isLifted 25 = .ok (.goto 4, 3) := by decide +kernel
theorem dX12_isLifted_28 : decode cX12_isLifted 28 = .ok (.iconst 0, 1) := by decide +kernel
theorem dX12_isLifted_29 : decode cX12_isLifted 29 = .ok (.ireturn, 1) := by decide +kernel
theorem dX12_height_0 : decode cX12_height 0 = .ok (.iload_n 1, 1) := by decide +kernel
theorem dX12_height_1 : decode cX12_height 1 = .ok (.invokestatic 120, 3) := by decide +kernel
theorem dX12_height_4 : decode cX12_height 4 = .ok (.ifCond .eq 45, 3) := by decide +kernel
theorem dX12_height_7 : decode cX12_height 7 = .ok (.iload_n 3, 1) := by decide +kernel
theorem dX12_height_8 : decode cX12_height 8 = .ok (.sipush (-1000), 3) := by decide +kernel
theorem dX12_height_11 : decode cX12_height 11 = .ok (.sipush 1000, 3) := by decide +kernel
theorem dX12_height_14 : decode cX12_height 14 = .ok (.invokestatic 81, 3) := by decide +kernel
theorem dX12_height_17 : decode cX12_height 17 = .ok (.ifCond .eq 32, 3) := by decide +kernel
theorem dX12_height_20 : decode cX12_height 20 = .ok (.aload_n 0, 1) := by decide +kernel
theorem dX12_height_21 : decode cX12_height 21 = .ok (.iload_n 1, 1) := by decide +kernel
theorem dX12_height_22 : decode cX12_height 22 = .ok (.invokevirtual 291, 3) := by decide +kernel
theorem dX12_height_25 : decode cX12_height 25 = .ok (.ifCond .eq 24, 3) := by decide +kernel
theorem dX12_height_28 : decode cX12_height 28 = .ok (.iload_n 2, 1) := by decide +kernel
theorem dX12_height_29 : decode cX12_height 29 = .ok (.iconst 0, 1) := by decide +kernel
theorem dX12_height_30 : decode cX12_height 30 = .ok (.aload_n 0, 1) := by decide +kernel
theorem dX12_height_31 : decode cX12_height 31 = .ok (.iload_n 1, 1) := by decide +kernel
theorem dX12_height_32 : decode cX12_height 32 = .ok (.invokevirtual 148, 3) := by decide +kernel
theorem dX12_height_35 : decode cX12_height 35 = .ok (.aload_n 0, 1) := by decide +kernel
theorem dX12_height_36 : decode cX12_height 36 = .ok (.iload_n 1, 1) := by decide +kernel
theorem dX12_height_37 : decode cX12_height 37 = .ok (.invokevirtual 151, 3) := by decide +kernel
theorem dX12_height_40 : decode cX12_height 40 = .ok (.iadd, 1) := by decide +kernel
theorem dX12_height_41 : decode cX12_height 41 = .ok (.iconst 1, 1) := by decide +kernel
theorem dX12_height_42 : decode cX12_height 42 = .ok (.isub, 1) := by decide +kernel
theorem dX12_height_43 : decode cX12_height 43 = .ok (.invokestatic 81, 3) := by decide +kernel
theorem dX12_height_46 : decode cX12_height 46 = .ok (.ifCond .ne 6, 3) := by decide +kernel
theorem dX12_height_49 : decode cX12_height 49 = .ok (.ldc 135, 2) := by decide +kernel
theorem dX12_height_51 : decode cX12_height 51 = .ok (.ireturn, 1) := by decide +kernel
theorem dX12_height_52 : decode cX12_height 52 = .ok (.aload_n 0, 1) := by decide +kernel
theorem dX12_height_53 : decode cX12_height 53 = .ok (.getfield 19, 3) := by decide +kernel
theorem dX12_height_56 : decode cX12_height 56 = .ok (.bipush 40, 2) := by decide +kernel
theorem dX12_height_58 : decode cX12_height 58 = .ok (.iload_n 1, 1) := by decide +kernel
theorem dX12_height_59 : decode cX12_height 59 = .ok (.imul, 1) := by decide +kernel
theorem dX12_height_60 : decode cX12_height 60 = .ok (.iload_n 2, 1) := by decide +kernel
theorem dX12_height_61 : decode cX12_height 61 = .ok (.iadd, 1) := by decide +kernel
theorem dX12_height_62 : decode cX12_height 62 = .ok (.iaload, 1) := by decide +kernel
theorem dX12_height_63 : decode cX12_height 63 = .ok (.istore 4, 2) := by decide +kernel
theorem dX12_height_65 : decode cX12_height 65 = .ok (.aload_n 0, 1) := by decide +kernel
theorem dX12_height_66 : decode cX12_height 66 = .ok (.getfield 19, 3) := by decide +kernel
theorem dX12_height_69 : decode cX12_height 69 = .ok (.bipush 40, 2) := by decide +kernel
theorem dX12_height_71 : decode cX12_height 71 = .ok (.iload_n 1, 1) := by decide +kernel
theorem dX12_height_72 : decode cX12_height 72 = .ok (.imul, 1) := by decide +kernel
theorem dX12_height_73 : decode cX12_height 73 = .ok (.iload_n 2, 1) := by decide +kernel
theorem dX12_height_74 : decode cX12_height 74 = .ok (.iadd, 1) := by decide +kernel
theorem dX12_height_75 : decode cX12_height 75 = .ok (.iload_n 3, 1) := by decide +kernel
theorem dX12_height_76 : decode cX12_height 76 = .ok (.iastore, 1) := by decide +kernel
theorem dX12_height_77 : decode cX12_height 77 = .ok (.iload 4, 2) := by decide +kernel
theorem dX12_height_79 : decode cX12_height 79 = .ok (.ireturn, 1) := by decide +kernel
theorem dX12_planeOf_0 : decode cX12_planeOf 0 = .ok (.aload_n 0, 1) := by decide +kernel
theorem dX12_planeOf_1 : decode cX12_planeOf 1 = .ok (.iload_n 2, 1) := by decide +kernel
theorem dX12_planeOf_2 : decode cX12_planeOf 2 = .ok (.iload_n 3, 1) := by decide +kernel
theorem dX12_planeOf_3 : decode cX12_planeOf 3 = .ok (.iload 4, 2) := by decide +kernel
theorem dX12_planeOf_5 : decode cX12_planeOf 5 = .ok (.invokevirtual 235, 3) := by decide +kernel
theorem dX12_planeOf_8 : decode cX12_planeOf 8 = .ok (.i2l, 1) := by decide +kernel
theorem dX12_planeOf_9 : decode cX12_planeOf 9 = .ok (.lstore 5, 2) := by decide +kernel
theorem dX12_planeOf_11 : decode cX12_planeOf 11 = .ok (.aload_n 0, 1) := by decide +kernel
theorem dX12_planeOf_12 : decode cX12_planeOf 12 = .ok (.getfield 19, 3) := by decide +kernel
theorem dX12_planeOf_15 : decode cX12_planeOf 15 = .ok (.bipush 40, 2) := by decide +kernel
theorem dX12_planeOf_17 : decode cX12_planeOf 17 = .ok (.iload_n 1, 1) := by decide +kernel
theorem dX12_planeOf_18 : decode cX12_planeOf 18 = .ok (.imul, 1) := by decide +kernel
theorem dX12_planeOf_19 : decode cX12_planeOf 19 = .ok (.iload_n 3, 1) := by decide +kernel
theorem dX12_planeOf_20 : decode cX12_planeOf 20 = .ok (.iadd, 1) := by decide +kernel
theorem dX12_planeOf_21 : decode cX12_planeOf 21 = .ok (.iaload, 1) := by decide +kernel
theorem dX12_planeOf_22 : decode cX12_planeOf 22 = .ok (.aload_n 0, 1) := by decide +kernel
theorem dX12_planeOf_23 : decode cX12_planeOf 23 = .ok (.getfield 19, 3) := by decide +kernel
theorem dX12_planeOf_26 : decode cX12_planeOf 26 = .ok (.bipush 40, 2) := by decide +kernel
theorem dX12_planeOf_28 : decode cX12_planeOf 28 = .ok (.iload_n 1, 1) := by decide +kernel
theorem dX12_planeOf_29 : decode cX12_planeOf 29 = .ok (.imul, 1) := by decide +kernel
theorem dX12_planeOf_30 : decode cX12_planeOf 30 = .ok (.iload_n 2, 1) := by decide +kernel
theorem dX12_planeOf_31 : decode cX12_planeOf 31 = .ok (.iadd, 1) := by decide +kernel
theorem dX12_planeOf_32 : decode cX12_planeOf 32 = .ok (.iaload, 1) := by decide +kernel
theorem dX12_planeOf_33 : decode cX12_planeOf 33 = .ok (.isub, 1) := by decide +kernel
theorem dX12_planeOf_34 : decode cX12_planeOf 34 = .ok (.i2l, 1) := by decide +kernel
theorem dX12_planeOf_35 : decode cX12_planeOf 35 = .ok (.lstore 7, 2) := by decide +kernel
theorem dX12_planeOf_37 : decode cX12_planeOf 37 = .ok (.aload_n 0, 1) := by decide +kernel
theorem dX12_planeOf_38 : decode cX12_planeOf 38 = .ok (.getfield 19, 3) := by decide +kernel
theorem dX12_planeOf_41 : decode cX12_planeOf 41 = .ok (.bipush 40, 2) := by decide +kernel
theorem dX12_planeOf_43 : decode cX12_planeOf 43 = .ok (.iload_n 1, 1) := by decide +kernel
theorem dX12_planeOf_44 : decode cX12_planeOf 44 = .ok (.imul, 1) := by decide +kernel
theorem dX12_planeOf_45 : decode cX12_planeOf 45 = .ok (.iload 4, 2) := by decide +kernel
theorem dX12_planeOf_47 : decode cX12_planeOf 47 = .ok (.iadd, 1) := by decide +kernel
theorem dX12_planeOf_48 : decode cX12_planeOf 48 = .ok (.iaload, 1) := by decide +kernel
theorem dX12_planeOf_49 : decode cX12_planeOf 49 = .ok (.aload_n 0, 1) := by decide +kernel
theorem dX12_planeOf_50 : decode cX12_planeOf 50 = .ok (.getfield 19, 3) := by decide +kernel
theorem dX12_planeOf_53 : decode cX12_planeOf 53 = .ok (.bipush 40, 2) := by decide +kernel
theorem dX12_planeOf_55 : decode cX12_planeOf 55 = .ok (.iload_n 1, 1) := by decide +kernel
theorem dX12_planeOf_56 : decode cX12_planeOf 56 = .ok (.imul, 1) := by decide +kernel
theorem dX12_planeOf_57 : decode cX12_planeOf 57 = .ok (.iload_n 2, 1) := by decide +kernel
theorem dX12_planeOf_58 : decode cX12_planeOf 58 = .ok (.iadd, 1) := by decide +kernel
theorem dX12_planeOf_59 : decode cX12_planeOf 59 = .ok (.iaload, 1) := by decide +kernel
theorem dX12_planeOf_60 : decode cX12_planeOf 60 = .ok (.isub, 1) := by decide +kernel
theorem dX12_planeOf_61 : decode cX12_planeOf 61 = .ok (.i2l, 1) := by decide +kernel
theorem dX12_planeOf_62 : decode cX12_planeOf 62 = .ok (.lstore 9, 2) := by decide +kernel
theorem dX12_planeOf_64 : decode cX12_planeOf 64 = .ok (.lconst 0, 1) := by decide +kernel
theorem dX12_planeOf_65 : decode cX12_planeOf 65 = .ok (.lstore 11, 2) := by decide +kernel
theorem dX12_planeOf_67 : decode cX12_planeOf 67 = .ok (.iconst 0, 1) := by decide +kernel
theorem dX12_planeOf_68 : decode cX12_planeOf 68 = .ok (.istore 13, 2) := by decide +kernel
theorem dX12_planeOf_70 : decode cX12_planeOf 70 = .ok (.iload 13, 2) := by decide +kernel
theorem dX12_planeOf_72 : decode cX12_planeOf 72 = .ok (.aload_n 0, 1) := by decide +kernel
theorem dX12_planeOf_73 : decode cX12_planeOf 73 = .ok (.getfield 168, 3) := by decide +kernel
theorem dX12_planeOf_76 : decode cX12_planeOf 76 = .ok (.if_icmp .ge 126, 3) := by decide +kernel
theorem dX12_planeOf_79 : decode cX12_planeOf 79 = .ok (.aload_n 0, 1) := by decide +kernel
theorem dX12_planeOf_80 : decode cX12_planeOf 80 = .ok (.iload_n 2, 1) := by decide +kernel
theorem dX12_planeOf_81 : decode cX12_planeOf 81 = .ok (.iload 13, 2) := by decide +kernel
theorem dX12_planeOf_83 : decode cX12_planeOf 83 = .ok (.iload 4, 2) := by decide +kernel
theorem dX12_planeOf_85 : decode cX12_planeOf 85 = .ok (.invokevirtual 235, 3) := by decide +kernel
theorem dX12_planeOf_88 : decode cX12_planeOf 88 = .ok (.i2l, 1) := by decide +kernel
theorem dX12_planeOf_89 : decode cX12_planeOf 89 = .ok (.lstore 14, 2) := by decide +kernel
theorem dX12_planeOf_91 : decode cX12_planeOf 91 = .ok (.aload_n 0, 1) := by decide +kernel
theorem dX12_planeOf_92 : decode cX12_planeOf 92 = .ok (.iload_n 2, 1) := by decide +kernel
theorem dX12_planeOf_93 : decode cX12_planeOf 93 = .ok (.iload_n 3, 1) := by decide +kernel
theorem dX12_planeOf_94 : decode cX12_planeOf 94 = .ok (.iload 13, 2) := by decide +kernel
theorem dX12_planeOf_96 : decode cX12_planeOf 96 = .ok (.invokevirtual 235, 3) := by decide +kernel
theorem dX12_planeOf_99 : decode cX12_planeOf 99 = .ok (.i2l, 1) := by decide +kernel
theorem dX12_planeOf_100 : decode cX12_planeOf 100 = .ok (.lstore 16, 2) := by decide +kernel
theorem dX12_planeOf_102 : decode cX12_planeOf 102 = .ok (.lload 14, 2) := by decide +kernel
theorem dX12_planeOf_104 : decode cX12_planeOf 104 = .ok (.lload 7, 2) := by decide +kernel
theorem dX12_planeOf_106 : decode cX12_planeOf 106 = .ok (.lmul, 1) := by decide +kernel
theorem dX12_planeOf_107 : decode cX12_planeOf 107 = .ok (.lload 16, 2) := by decide +kernel
theorem dX12_planeOf_109 : decode cX12_planeOf 109 = .ok (.lload 9, 2) := by decide +kernel
theorem dX12_planeOf_111 : decode cX12_planeOf 111 = .ok (.lmul, 1) := by decide +kernel
theorem dX12_planeOf_112 : decode cX12_planeOf 112 = .ok (.ladd, 1) := by decide +kernel
theorem dX12_planeOf_113 : decode cX12_planeOf 113 = .ok (.lstore 18, 2) := by decide +kernel
theorem dX12_planeOf_115 : decode cX12_planeOf 115 = .ok (.aload_n 0, 1) := by decide +kernel
theorem dX12_planeOf_116 : decode cX12_planeOf 116 = .ok (.getfield 19, 3) := by decide +kernel
theorem dX12_planeOf_119 : decode cX12_planeOf 119 = .ok (.bipush 40, 2) := by decide +kernel
theorem dX12_planeOf_121 : decode cX12_planeOf 121 = .ok (.iload_n 1, 1) := by decide +kernel
theorem dX12_planeOf_122 : decode cX12_planeOf 122 = .ok (.imul, 1) := by decide +kernel
theorem dX12_planeOf_123 : decode cX12_planeOf 123 = .ok (.iload 13, 2) := by decide +kernel
theorem dX12_planeOf_125 : decode cX12_planeOf 125 = .ok (.iadd, 1) := by decide +kernel
theorem dX12_planeOf_126 : decode cX12_planeOf 126 = .ok (.iaload, 1) := by decide +kernel
theorem dX12_planeOf_127 : decode cX12_planeOf 127 = .ok (.aload_n 0, 1) := by decide +kernel
theorem dX12_planeOf_128 : decode cX12_planeOf 128 = .ok (.getfield 19, 3) := by decide +kernel
theorem dX12_planeOf_131 : decode cX12_planeOf 131 = .ok (.bipush 40, 2) := by decide +kernel
theorem dX12_planeOf_133 : decode cX12_planeOf 133 = .ok (.iload_n 1, 1) := by decide +kernel
theorem dX12_planeOf_134 : decode cX12_planeOf 134 = .ok (.imul, 1) := by decide +kernel
theorem dX12_planeOf_135 : decode cX12_planeOf 135 = .ok (.iload_n 2, 1) := by decide +kernel
theorem dX12_planeOf_136 : decode cX12_planeOf 136 = .ok (.iadd, 1) := by decide +kernel
theorem dX12_planeOf_137 : decode cX12_planeOf 137 = .ok (.iaload, 1) := by decide +kernel
theorem dX12_planeOf_138 : decode cX12_planeOf 138 = .ok (.isub, 1) := by decide +kernel
theorem dX12_planeOf_139 : decode cX12_planeOf 139 = .ok (.i2l, 1) := by decide +kernel
theorem dX12_planeOf_140 : decode cX12_planeOf 140 = .ok (.lload 5, 2) := by decide +kernel
theorem dX12_planeOf_142 : decode cX12_planeOf 142 = .ok (.lmul, 1) := by decide +kernel
theorem dX12_planeOf_143 : decode cX12_planeOf 143 = .ok (.lstore 20, 2) := by decide +kernel
theorem dX12_planeOf_145 : decode cX12_planeOf 145 = .ok (.lload 5, 2) := by decide +kernel
theorem dX12_planeOf_147 : decode cX12_planeOf 147 = .ok (.lconst 0, 1) := by decide +kernel
theorem dX12_planeOf_148 : decode cX12_planeOf 148 = .ok (.lcmp, 1) := by decide +kernel
theorem dX12_planeOf_149 : decode cX12_planeOf 149 = .ok (.ifCond .le 11, 3) := by decide +kernel
theorem dX12_planeOf_152 : decode cX12_planeOf 152 = .ok (.lload 20, 2) := by decide +kernel
theorem dX12_planeOf_154 : decode cX12_planeOf 154 = .ok (.lload 18, 2) := by decide +kernel
theorem dX12_planeOf_156 : decode cX12_planeOf 156 = .ok (.lsub, 1) := by decide +kernel
theorem dX12_planeOf_157 : decode cX12_planeOf 157 = .ok (.goto 8, 3) := by decide +kernel
theorem dX12_planeOf_160 : decode cX12_planeOf 160 = .ok (.lload 18, 2) := by decide +kernel
theorem dX12_planeOf_162 : decode cX12_planeOf 162 = .ok (.lload 20, 2) := by decide +kernel
theorem dX12_planeOf_164 : decode cX12_planeOf 164 = .ok (.lsub, 1) := by decide +kernel
theorem dX12_planeOf_165 : decode cX12_planeOf 165 = .ok (.lstore 22, 2) := by decide +kernel
theorem dX12_planeOf_167 : decode cX12_planeOf 167 = .ok (.lload 22, 2) := by decide +kernel
theorem dX12_planeOf_169 : decode cX12_planeOf 169 = .ok (.lconst 0, 1) := by decide +kernel
theorem dX12_planeOf_170 : decode cX12_planeOf 170 = .ok (.lcmp, 1) := by decide +kernel
theorem dX12_planeOf_171 : decode cX12_planeOf 171 = .ok (.ifCond .ge 5, 3) := by decide +kernel
theorem dX12_planeOf_174 : decode cX12_planeOf 174 = .ok (.lconst 0, 1) := by decide +kernel
theorem dX12_planeOf_175 : decode cX12_planeOf 175 = .ok (.lreturn, 1) := by decide +kernel
theorem dX12_planeOf_176 : decode cX12_planeOf 176 = .ok (.lload 11, 2) := by decide +kernel
theorem dX12_planeOf_178 : decode cX12_planeOf 178 = .ok (.lload 22, 2) := by decide +kernel
theorem dX12_planeOf_180 : decode cX12_planeOf 180 = .ok (.lconst 0, 1) := by decide +kernel
theorem dX12_planeOf_181 : decode cX12_planeOf 181 = .ok (.lcmp, 1) := by decide +kernel
theorem dX12_planeOf_182 : decode cX12_planeOf 182 = .ok (.ifCond .ne 10, 3) := by decide +kernel
theorem dX12_planeOf_185 : decode cX12_planeOf 185 = .ok (.lconst 1, 1) := by decide +kernel
theorem dX12_planeOf_186 : decode cX12_planeOf 186 = .ok (.iload 13, 2) := by decide +kernel
theorem dX12_planeOf_188 : decode cX12_planeOf 188 = .ok (.lshl, 1) := by decide +kernel
theorem dX12_planeOf_189 : decode cX12_planeOf 189 = .ok (.goto 4, 3) := by decide +kernel
theorem dX12_planeOf_192 : decode cX12_planeOf 192 = .ok (.lconst 0, 1) := by decide +kernel
theorem dX12_planeOf_193 : decode cX12_planeOf 193 = .ok (.lor, 1) := by decide +kernel
theorem dX12_planeOf_194 : decode cX12_planeOf 194 = .ok (.lstore 11, 2) := by decide +kernel
theorem dX12_planeOf_196 : decode cX12_planeOf 196 = .ok (.iinc 13 1, 3) := by decide +kernel
theorem dX12_planeOf_199 : decode cX12_planeOf 199 = .ok (.goto (-129), 3) := by decide +kernel
theorem dX12_planeOf_202 : decode cX12_planeOf 202 = .ok (.lload 11, 2) := by decide +kernel
theorem dX12_planeOf_204 : decode cX12_planeOf 204 = .ok (.lreturn, 1) := by decide +kernel
theorem dX12_isAhead_0 : decode cX12_isAhead 0 = .ok (.lload_n 0, 1) := by decide +kernel
theorem dX12_isAhead_1 : decode cX12_isAhead 1 = .ok (.lload_n 2, 1) := by decide +kernel
theorem dX12_isAhead_2 : decode cX12_isAhead 2 = .ok (.lxor, 1) := by decide +kernel
theorem dX12_isAhead_3 : decode cX12_isAhead 3 = .ok (.lstore 4, 2) := by decide +kernel
theorem dX12_isAhead_5 : decode cX12_isAhead 5 = .ok (.lload 4, 2) := by decide +kernel
theorem dX12_isAhead_7 : decode cX12_isAhead 7 = .ok (.lload 4, 2) := by decide +kernel
theorem dX12_isAhead_9 : decode cX12_isAhead 9 = .ok (.lneg, 1) := by decide +kernel
theorem dX12_isAhead_10 : decode cX12_isAhead 10 = .ok (.land, 1) := by decide +kernel
theorem dX12_isAhead_11 : decode cX12_isAhead 11 = .ok (.lload_n 0, 1) := by decide +kernel
theorem dX12_isAhead_12 : decode cX12_isAhead 12 = .ok (.land, 1) := by decide +kernel
theorem dX12_isAhead_13 : decode cX12_isAhead 13 = .ok (.lconst 0, 1) := by decide +kernel
theorem dX12_isAhead_14 : decode cX12_isAhead 14 = .ok (.lcmp, 1) := by decide +kernel
theorem dX12_isAhead_15 : decode cX12_isAhead 15 = .ok (.ifCond .eq 7, 3) := by decide +kernel
theorem dX12_isAhead_18 : decode cX12_isAhead 18 = .ok (.iconst 1, 1) := by decide +kernel
theorem dX12_isAhead_19 : decode cX12_isAhead 19 = .ok (.goto 4, 3) := by decide +kernel
theorem dX12_isAhead_22 : decode cX12_isAhead 22 = .ok (.iconst 0, 1) := by decide +kernel
theorem dX12_isAhead_23 : decode cX12_isAhead 23 = .ok (.ireturn, 1) := by decide +kernel
theorem dX12_findPieces_0 : decode cX12_findPieces 0 = .ok (.aload_n 0, 1) := by decide +kernel
theorem dX12_findPieces_1 : decode cX12_findPieces 1 = .ok (.iload_n 1, 1) := by decide +kernel
theorem dX12_findPieces_2 : decode cX12_findPieces 2 = .ok (.invokevirtual 171, 3) := by decide +kernel
theorem dX12_findPieces_5 : decode cX12_findPieces 5 = .ok (.aload_n 0, 1) := by decide +kernel
theorem dX12_findPieces_6 : decode cX12_findPieces 6 = .ok (.iconst 0, 1) := by decide +kernel
theorem dX12_findPieces_7 : decode cX12_findPieces 7 = .ok (.putfield 294, 3) := by decide +kernel
theorem dX12_findPieces_10 : decode cX12_findPieces 10 = .ok (.iconst 0, 1) := by decide +kernel
theorem dX12_findPieces_11 : decode cX12_findPieces 11 = .ok (.istore_n 2, 1) := by decide +kernel
theorem dX12_findPieces_12 : decode cX12_findPieces 12 = .ok (.iload_n 2, 1) := by decide +kernel
theorem dX12_findPieces_13 : decode cX12_findPieces 13 = .ok (.aload_n 0, 1) := by decide +kernel
theorem dX12_findPieces_14 : decode cX12_findPieces 14 = .ok (.getfield 168, 3) := by decide +kernel
theorem dX12_findPieces_17 : decode cX12_findPieces 17 = .ok (.if_icmp .ge 204, 3) := by decide +kernel
theorem dX12_findPieces_20 : decode cX12_findPieces 20 = .ok (.iload_n 2, 1) := by decide +kernel
theorem dX12_findPieces_21 : decode cX12_findPieces 21 = .ok (.iconst 1, 1) := by decide +kernel
theorem dX12_findPieces_22 : decode cX12_findPieces 22 = .ok (.iadd, 1) := by decide +kernel
theorem dX12_findPieces_23 : decode cX12_findPieces 23 = .ok (.istore_n 3, 1) := by decide +kernel
theorem dX12_findPieces_24 : decode cX12_findPieces 24 = .ok (.iload_n 3, 1) := by decide +kernel
theorem dX12_findPieces_25 : decode cX12_findPieces 25 = .ok (.aload_n 0, 1) := by decide +kernel
theorem dX12_findPieces_26 : decode cX12_findPieces 26 = .ok (.getfield 168, 3) := by decide +kernel
theorem dX12_findPieces_29 : decode cX12_findPieces 29 = .ok (.if_icmp .ge 186, 3) := by decide +kernel
theorem dX12_findPieces_32 : decode cX12_findPieces 32 = .ok (.iload_n 3, 1) := by decide +kernel
theorem dX12_findPieces_33 : decode cX12_findPieces 33 = .ok (.iconst 1, 1) := by decide +kernel
theorem dX12_findPieces_34 : decode cX12_findPieces 34 = .ok (.iadd, 1) := by decide +kernel
theorem dX12_findPieces_35 : decode cX12_findPieces 35 = .ok (.istore 4, 2) := by decide +kernel
theorem dX12_findPieces_37 : decode cX12_findPieces 37 = .ok (.iload 4, 2) := by decide +kernel
theorem dX12_findPieces_39 : decode cX12_findPieces 39 = .ok (.aload_n 0, 1) := by decide +kernel
theorem dX12_findPieces_40 : decode cX12_findPieces 40 = .ok (.getfield 168, 3) := by decide +kernel
theorem dX12_findPieces_43 : decode cX12_findPieces 43 = .ok (.if_icmp .ge 166, 3) := by decide +kernel
theorem dX12_findPieces_46 : decode cX12_findPieces 46 = .ok (.aload_n 0, 1) := by decide +kernel
theorem dX12_findPieces_47 : decode cX12_findPieces 47 = .ok (.iload_n 2, 1) := by decide +kernel
theorem dX12_findPieces_48 : decode cX12_findPieces 48 = .ok (.iload_n 3, 1) := by decide +kernel
theorem dX12_findPieces_49 : decode cX12_findPieces 49 = .ok (.iload 4, 2) := by decide +kernel
theorem dX12_findPieces_51 : decode cX12_findPieces 51 = .ok (.invokevirtual 235, 3) := by decide +kernel
theorem dX12_findPieces_54 : decode cX12_findPieces 54 = .ok (.ifCond .ne 7, 3) := by decide +kernel
theorem dX12_findPieces_57 : decode cX12_findPieces 57 = .ok (.lconst 0, 1) := by decide +kernel
theorem dX12_findPieces_58 : decode cX12_findPieces 58 = .ok (.goto 12, 3) := by decide +kernel
theorem dX12_findPieces_61 : decode cX12_findPieces 61 = .ok (.aload_n 0, 1) := by decide +kernel
theorem dX12_findPieces_62 : decode cX12_findPieces 62 = .ok (.iload_n 1, 1) := by decide +kernel
theorem dX12_findPieces_63 : decode cX12_findPieces 63 = .ok (.iload_n 2, 1) := by decide +kernel
theorem dX12_findPieces_64 : decode cX12_findPieces 64 = .ok (.iload_n 3, 1) := by decide +kernel
theorem dX12_findPieces_65 : decode cX12_findPieces 65 = .ok (.iload 4, 2) := by decide +kernel
theorem dX12_findPieces_67 : decode cX12_findPieces 67 = .ok (.invokevirtual 297, 3) := by decide +kernel
theorem dX12_findPieces_70 : decode cX12_findPieces 70 = .ok (.lstore 5, 2) := by decide +kernel
theorem dX12_findPieces_72 : decode cX12_findPieces 72 = .ok (.lload 5, 2) := by decide +kernel
theorem dX12_findPieces_74 : decode cX12_findPieces 74 = .ok (.lconst 0, 1) := by decide +kernel
theorem dX12_findPieces_75 : decode cX12_findPieces 75 = .ok (.lcmp, 1) := by decide +kernel
theorem dX12_findPieces_76 : decode cX12_findPieces 76 = .ok (.ifCond .ne 7, 3) := by decide +kernel
theorem dX12_findPieces_79 : decode cX12_findPieces 79 = .ok (.iconst 1, 1) := by decide +kernel
theorem dX12_findPieces_80 : decode cX12_findPieces 80 = .ok (.goto 4, 3) := by decide +kernel
theorem dX12_findPieces_83 : decode cX12_findPieces 83 = .ok (.iconst 0, 1) := by decide +kernel
theorem dX12_findPieces_84 : decode cX12_findPieces 84 = .ok (.istore 7, 2) := by decide +kernel
theorem dX12_findPieces_86 : decode cX12_findPieces 86 = .ok (.iconst 0, 1) := by decide +kernel
theorem dX12_findPieces_87 : decode cX12_findPieces 87 = .ok (.istore 8, 2) := by decide +kernel
theorem dX12_findPieces_89 : decode cX12_findPieces 89 = .ok (.iload 8, 2) := by decide +kernel
theorem dX12_findPieces_91 : decode cX12_findPieces 91 = .ok (.aload_n 0, 1) := by decide +kernel
theorem dX12_findPieces_92 : decode cX12_findPieces 92 = .ok (.getfield 294, 3) := by decide +kernel
theorem dX12_findPieces_95 : decode cX12_findPieces 95 = .ok (.if_icmp .ge 34, 3) := by decide +kernel
theorem dX12_findPieces_98 : decode cX12_findPieces 98 = .ok (.iload 7, 2) := by decide +kernel
theorem dX12_findPieces_100 : decode cX12_findPieces 100 = .ok (.ifCond .ne 29, 3) := by decide +kernel
theorem dX12_findPieces_103 : decode cX12_findPieces 103 = .ok (.aload_n 0, 1) := by decide +kernel
theorem dX12_findPieces_104 : decode cX12_findPieces 104 = .ok (.getfield 78, 3) := by decide +kernel
theorem dX12_findPieces_107 : decode cX12_findPieces 107 = .ok (.iload 8, 2) := by decide +kernel
theorem dX12_findPieces_109 : decode cX12_findPieces 109 = .ok (.laload, 1) := by decide +kernel
theorem dX12_findPieces_110 : decode cX12_findPieces 110 = .ok (.lload 5, 2) := by decide +kernel
theorem dX12_findPieces_112 : decode cX12_findPieces 112 = .ok (.lcmp, 1) := by decide +kernel
theorem dX12_findPieces_113 : decode cX12_findPieces 113 = .ok (.ifCond .ne 7, 3) := by decide +kernel
theorem dX12_findPieces_116 : decode cX12_findPieces 116 = .ok (.iconst 1, 1) := by decide +kernel
theorem dX12_findPieces_117 : decode cX12_findPieces 117 = .ok (.goto 4, 3) := by decide +kernel
theorem dX12_findPieces_120 : decode cX12_findPieces 120 = .ok (.iconst 0, 1) := by decide +kernel
theorem dX12_findPieces_121 : decode cX12_findPieces 121 = .ok (.istore 7, 2) := by decide +kernel
theorem dX12_findPieces_123 : decode cX12_findPieces 123 = .ok (.iinc 8 1, 3) := by decide +kernel
theorem dX12_findPieces_126 : decode cX12_findPieces 126 = .ok (.goto (-37), 3) := by decide +kernel
theorem dX12_findPieces_129 : decode cX12_findPieces 129 = .ok (.iload 7, 2) := by decide +kernel
theorem dX12_findPieces_131 : decode cX12_findPieces 131 = .ok (.ifCond .ne 72, 3) := by decide +kernel
theorem dX12_findPieces_134 : decode cX12_findPieces 134 = .ok (.aload_n 0, 1) := by decide +kernel
theorem dX12_findPieces_135 : decode cX12_findPieces 135 = .ok (.getfield 294, 3) := by decide +kernel
theorem dX12_findPieces_138 : decode cX12_findPieces 138 = .ok (.istore 8, 2) := by decide +kernel
theorem dX12_findPieces_140 : decode cX12_findPieces 140 = .ok (.iload 8, 2) := by decide +kernel
theorem dX12_findPieces_142 : decode cX12_findPieces 142 = .ok (.ifCond .le 42, 3) := by decide +kernel
theorem dX12_findPieces_145 : decode cX12_findPieces 145 = .ok (.lload 5, 2) := by decide +kernel
theorem dX12_findPieces_147 : decode cX12_findPieces 147 = .ok (.aload_n 0, 1) := by decide +kernel
theorem dX12_findPieces_148 : decode cX12_findPieces 148 = .ok (.getfield 78, 3) := by decide +kernel
theorem dX12_findPieces_151 : decode cX12_findPieces 151 = .ok (.iload 8, 2) := by decide +kernel
theorem dX12_findPieces_153 : decode cX12_findPieces 153 = .ok (.iconst 1, 1) := by decide +kernel
theorem dX12_findPieces_154 : decode cX12_findPieces 154 = .ok (.isub, 1) := by decide +kernel
theorem dX12_findPieces_155 : decode cX12_findPieces 155 = .ok (.laload, 1) := by decide +kernel
theorem dX12_findPieces_156 : decode cX12_findPieces 156 = .ok (.invokestatic 301, 3) := by decide +kernel
theorem dX12_findPieces_159 : decode cX12_findPieces 159 = .ok (.ifCond .eq 25, 3) := by decide +kernel
theorem dX12_findPieces_162 : decode cX12_findPieces 162 = .ok (.aload_n 0, 1) := by decide +kernel
theorem dX12_findPieces_163 : decode cX12_findPieces 163 = .ok (.getfield 78, 3) := by decide +kernel
theorem dX12_findPieces_166 : decode cX12_findPieces 166 = .ok (.iload 8, 2) := by decide +kernel
theorem dX12_findPieces_168 : decode cX12_findPieces 168 = .ok (.aload_n 0, 1) := by decide +kernel
theorem dX12_findPieces_169 : decode cX12_findPieces 169 = .ok (.getfield 78, 3) := by decide +kernel
theorem dX12_findPieces_172 : decode cX12_findPieces 172 = .ok (.iload 8, 2) := by decide +kernel
theorem dX12_findPieces_174 : decode cX12_findPieces 174 = .ok (.iconst 1, 1) := by decide +kernel
theorem dX12_findPieces_175 : decode cX12_findPieces 175 = .ok (.isub, 1) := by decide +kernel
theorem dX12_findPieces_176 : decode cX12_findPieces 176 = .ok (.laload, 1) := by decide +kernel
theorem dX12_findPieces_177 : decode cX12_findPieces 177 = .ok (.lastore, 1) := by decide +kernel
theorem dX12_findPieces_178 : decode cX12_findPieces 178 = .ok (.iinc 8 (-1), 3) := by decide +kernel
theorem dX12_findPieces_181 : decode cX12_findPieces 181 = .ok (.goto (-41), 3) := by decide +kernel
theorem dX12_findPieces_184 : decode cX12_findPieces 184 = .ok (.aload_n 0, 1) := by decide +kernel
theorem dX12_findPieces_185 : decode cX12_findPieces 185 = .ok (.getfield 78, 3) := by decide +kernel
theorem dX12_findPieces_188 : decode cX12_findPieces 188 = .ok (.iload 8, 2) := by decide +kernel
theorem dX12_findPieces_190 : decode cX12_findPieces 190 = .ok (.lload 5, 2) := by decide +kernel
theorem dX12_findPieces_192 : decode cX12_findPieces 192 = .ok (.lastore, 1) := by decide +kernel
theorem dX12_findPieces_193 : decode cX12_findPieces 193 = .ok (.aload_n 0, 1) := by decide +kernel
theorem dX12_findPieces_194 : decode cX12_findPieces 194 = .ok (.dup, 1) := by decide +kernel
theorem dX12_findPieces_195 : decode cX12_findPieces 195 = .ok (.getfield 294, 3) := by decide +kernel
theorem dX12_findPieces_198 : decode cX12_findPieces 198 = .ok (.iconst 1, 1) := by decide +kernel
theorem dX12_findPieces_199 : decode cX12_findPieces 199 = .ok (.iadd, 1) := by decide +kernel
theorem dX12_findPieces_200 : decode cX12_findPieces 200 = .ok (.putfield 294, 3) := by decide +kernel
theorem dX12_findPieces_203 : decode cX12_findPieces 203 = .ok (.iinc 4 1, 3) := by decide +kernel
theorem dX12_findPieces_206 : decode cX12_findPieces 206 = .ok (.goto (-169), 3) := by decide +kernel
theorem dX12_findPieces_209 : decode cX12_findPieces 209 = .ok (.iinc 3 1, 3) := by decide +kernel
theorem dX12_findPieces_212 : decode cX12_findPieces 212 = .ok (.goto (-188), 3) := by decide +kernel
theorem dX12_findPieces_215 : decode cX12_findPieces 215 = .ok (.iinc 2 1, 3) := by decide +kernel
theorem dX12_findPieces_218 : decode cX12_findPieces 218 = .ok (.goto (-206), 3) := by decide +kernel
theorem dX12_findPieces_221 : decode cX12_findPieces 221 = .ok (.return_, 1) := by decide +kernel
theorem dX12_bitsIn_0 : decode cX12_bitsIn 0 = .ok (.iconst 0, 1) := by decide +kernel
theorem dX12_bitsIn_1 : decode cX12_bitsIn 1 = .ok (.istore_n 2, 1) := by decide +kernel
theorem dX12_bitsIn_2 : decode cX12_bitsIn 2 = .ok (.iconst 0, 1) := by decide +kernel
theorem dX12_bitsIn_3 : decode cX12_bitsIn 3 = .ok (.istore_n 3, 1) := by decide +kernel
theorem dX12_bitsIn_4 : decode cX12_bitsIn 4 = .ok (.iload_n 3, 1) := by decide +kernel
theorem dX12_bitsIn_5 : decode cX12_bitsIn 5 = .ok (.bipush 40, 2) := by decide +kernel
theorem dX12_bitsIn_7 : decode cX12_bitsIn 7 = .ok (.if_icmp .ge 18, 3) := by decide +kernel
theorem dX12_bitsIn_10 : decode cX12_bitsIn 10 = .ok (.iload_n 2, 1) := by decide +kernel
theorem dX12_bitsIn_11 : decode cX12_bitsIn 11 = .ok (.lload_n 0, 1) := by decide +kernel
theorem dX12_bitsIn_12 : decode cX12_bitsIn 12 = .ok (.iload_n 3, 1) := by decide +kernel
theorem dX12_bitsIn_13 : decode cX12_bitsIn 13 = .ok (.lshr, 1) := by decide +kernel
theorem dX12_bitsIn_14 : decode cX12_bitsIn 14 = .ok (.lconst 1, 1) := by decide +kernel
theorem dX12_bitsIn_15 : decode cX12_bitsIn 15 = .ok (.land, 1) := by decide +kernel
theorem dX12_bitsIn_16 : decode cX12_bitsIn 16 = .ok (.l2i, 1) := by decide +kernel
theorem dX12_bitsIn_17 : decode cX12_bitsIn 17 = .ok (.iadd, 1) := by decide +kernel
theorem dX12_bitsIn_18 : decode cX12_bitsIn 18 = .ok (.istore_n 2, 1) := by decide +kernel
theorem dX12_bitsIn_19 : decode cX12_bitsIn 19 = .ok (.iinc 3 1, 3) := by decide +kernel
theorem dX12_bitsIn_22 : decode cX12_bitsIn 22 = .ok (.goto (-18), 3) := by decide +kernel
theorem dX12_bitsIn_25 : decode cX12_bitsIn 25 = .ok (.iload_n 2, 1) := by decide +kernel
theorem dX12_bitsIn_26 : decode cX12_bitsIn 26 = .ok (.ireturn, 1) := by decide +kernel
theorem dX12_bitAt_0 : decode cX12_bitAt 0 = .ok (.iconst 0, 1) := by decide +kernel
theorem dX12_bitAt_1 : decode cX12_bitAt 1 = .ok (.istore_n 3, 1) := by decide +kernel
theorem dX12_bitAt_2 : decode cX12_bitAt 2 = .ok (.iconst 0, 1) := by decide +kernel
theorem dX12_bitAt_3 : decode cX12_bitAt 3 = .ok (.istore 4, 2) := by decide +kernel
theorem dX12_bitAt_5 : decode cX12_bitAt 5 = .ok (.iload 4, 2) := by decide +kernel
theorem dX12_bitAt_7 : decode cX12_bitAt 7 = .ok (.bipush 40, 2) := by decide +kernel
theorem dX12_bitAt_9 : decode cX12_bitAt 9 = .ok (.if_icmp .ge 31, 3) := by decide +kernel
theorem dX12_bitAt_12 : decode cX12_bitAt 12 = .ok (.lload_n 0, 1) := by decide +kernel
theorem dX12_bitAt_13 : decode cX12_bitAt 13 = .ok (.iload 4, 2) := by decide +kernel
theorem dX12_bitAt_15 : decode cX12_bitAt 15 = .ok (.lshr, 1) := by decide +kernel
theorem dX12_bitAt_16 : decode cX12_bitAt 16 = .ok (.lconst 1, 1) := by decide +kernel
theorem dX12_bitAt_17 : decode cX12_bitAt 17 = .ok (.land, 1) := by decide +kernel
theorem dX12_bitAt_18 : decode cX12_bitAt 18 = .ok (.lconst 1, 1) := by decide +kernel
theorem dX12_bitAt_19 : decode cX12_bitAt 19 = .ok (.lcmp, 1) := by decide +kernel
theorem dX12_bitAt_20 : decode cX12_bitAt 20 = .ok (.ifCond .ne 14, 3) := by decide +kernel
theorem dX12_bitAt_23 : decode cX12_bitAt 23 = .ok (.iload_n 3, 1) := by decide +kernel
theorem dX12_bitAt_24 : decode cX12_bitAt 24 = .ok (.iload_n 2, 1) := by decide +kernel
theorem dX12_bitAt_25 : decode cX12_bitAt 25 = .ok (.if_icmp .ne 6, 3) := by decide +kernel
theorem dX12_bitAt_28 : decode cX12_bitAt 28 = .ok (.iload 4, 2) := by decide +kernel
theorem dX12_bitAt_30 : decode cX12_bitAt 30 = .ok (.ireturn, 1) := by decide +kernel
theorem dX12_bitAt_31 : decode cX12_bitAt 31 = .ok (.iinc 3 1, 3) := by decide +kernel
theorem dX12_bitAt_34 : decode cX12_bitAt 34 = .ok (.iinc 4 1, 3) := by decide +kernel
theorem dX12_bitAt_37 : decode cX12_bitAt 37 = .ok (.goto (-32), 3) := by decide +kernel
theorem dX12_bitAt_40 : decode cX12_bitAt 40 = .ok (.bipush (-9), 2) := by decide +kernel
theorem dX12_bitAt_42 : decode cX12_bitAt 42 = .ok (.ireturn, 1) := by decide +kernel
theorem dX12_pieces_0 : decode cX12_pieces 0 = .ok (.iload_n 1, 1) := by decide +kernel
theorem dX12_pieces_1 : decode cX12_pieces 1 = .ok (.invokestatic 120, 3) := by decide +kernel
theorem dX12_pieces_4 : decode cX12_pieces 4 = .ok (.ifCond .eq 12, 3) := by decide +kernel
theorem dX12_pieces_7 : decode cX12_pieces 7 = .ok (.iload_n 2, 1) := by decide +kernel
theorem dX12_pieces_8 : decode cX12_pieces 8 = .ok (.iconst 0, 1) := by decide +kernel
theorem dX12_pieces_9 : decode cX12_pieces 9 = .ok (.iconst 2, 1) := by decide +kernel
theorem dX12_pieces_10 : decode cX12_pieces 10 = .ok (.invokestatic 81, 3) := by decide +kernel
theorem dX12_pieces_13 : decode cX12_pieces 13 = .ok (.ifCond .ne 5, 3) := by decide +kernel
theorem dX12_pieces_16 : decode cX12_pieces 16 = .ok (.iconst (-1), 1) := by decide +kernel
theorem dX12_pieces_17 : decode cX12_pieces 17 = .ok (.ireturn, 1) := by decide +kernel
theorem dX12_pieces_18 : decode cX12_pieces 18 = .ok (.aload_n 0, 1) := by decide +kernel
theorem dX12_pieces_19 : decode cX12_pieces 19 = .ok (.iload_n 1, 1) := by decide +kernel
theorem dX12_pieces_20 : decode cX12_pieces 20 = .ok (.invokevirtual 291, 3) := by decide +kernel
theorem dX12_pieces_23 : decode cX12_pieces 23 = .ok (.ifCond .ne 6, 3) := by decide +kernel
theorem dX12_pieces_26 : decode cX12_pieces 26 = .ok (.bipush (-2), 2) := by decide +kernel
theorem dX12_pieces_28 : decode cX12_pieces 28 = .ok (.ireturn, 1) := by decide +kernel
theorem dX12_pieces_29 : decode cX12_pieces 29 = .ok (.aload_n 0, 1) := by decide +kernel
theorem dX12_pieces_30 : decode cX12_pieces 30 = .ok (.iload_n 1, 1) := by decide +kernel
theorem dX12_pieces_31 : decode cX12_pieces 31 = .ok (.invokevirtual 305, 3) := by decide +kernel
theorem dX12_pieces_34 : decode cX12_pieces 34 = .ok (.iload_n 2, 1) := by decide +kernel
theorem dX12_pieces_35 : decode cX12_pieces 35 = .ok (.ifCond .ne 8, 3) := by decide +kernel
theorem dX12_pieces_38 : decode cX12_pieces 38 = .ok (.aload_n 0, 1) := by decide +kernel
theorem dX12_pieces_39 : decode cX12_pieces 39 = .ok (.getfield 294, 3) := by decide +kernel
theorem dX12_pieces_42 : decode cX12_pieces 42 = .ok (.ireturn, 1) := by decide +kernel
theorem dX12_pieces_43 : decode cX12_pieces 43 = .ok (.lconst 0, 1) := by decide +kernel
theorem dX12_pieces_44 : decode cX12_pieces 44 = .ok (.lstore_n 3, 1) := by decide +kernel
theorem dX12_pieces_45 : decode cX12_pieces 45 = .ok (.iconst 0, 1) := by decide +kernel
theorem dX12_pieces_46 : decode cX12_pieces 46 = .ok (.istore 5, 2) := by decide +kernel
theorem dX12_pieces_48 : decode cX12_pieces 48 = .ok (.iconst 0, 1) := by decide +kernel
theorem dX12_pieces_49 : decode cX12_pieces 49 = .ok (.istore 6, 2) := by decide +kernel
theorem dX12_pieces_51 : decode cX12_pieces 51 = .ok (.iload 6, 2) := by decide +kernel
theorem dX12_pieces_53 : decode cX12_pieces 53 = .ok (.aload_n 0, 1) := by decide +kernel
theorem dX12_pieces_54 : decode cX12_pieces 54 = .ok (.getfield 294, 3) := by decide +kernel
theorem dX12_pieces_57 : decode cX12_pieces 57 = .ok (.if_icmp .ge 71, 3) := by decide +kernel
theorem dX12_pieces_60 : decode cX12_pieces 60 = .ok (.aload_n 0, 1) := by decide +kernel
theorem dX12_pieces_61 : decode cX12_pieces 61 = .ok (.getfield 78, 3) := by decide +kernel
theorem dX12_pieces_64 : decode cX12_pieces 64 = .ok (.iload 6, 2) := by decide +kernel
theorem dX12_pieces_66 : decode cX12_pieces 66 = .ok (.laload, 1) := by decide +kernel
theorem dX12_pieces_67 : decode cX12_pieces 67 = .ok (.lstore 7, 2) := by decide +kernel
theorem dX12_pieces_69 : decode cX12_pieces 69 = .ok (.lload_n 3, 1) := by decide +kernel
theorem dX12_pieces_70 : decode cX12_pieces 70 = .ok (.lload 7, 2) := by decide +kernel
theorem dX12_pieces_72 : decode cX12_pieces 72 = .ok (.lor, 1) := by decide +kernel
theorem dX12_pieces_73 : decode cX12_pieces 73 = .ok (.lstore_n 3, 1) := by decide +kernel
theorem dX12_pieces_74 : decode cX12_pieces 74 = .ok (.iload 5, 2) := by decide +kernel
theorem dX12_pieces_76 : decode cX12_pieces 76 = .ok (.lload 7, 2) := by decide +kernel
theorem dX12_pieces_78 : decode cX12_pieces 78 = .ok (.invokestatic 308, 3) := by decide +kernel
theorem dX12_pieces_81 : decode cX12_pieces 81 = .ok (.iconst 3, 1) := by decide +kernel
theorem dX12_pieces_82 : decode cX12_pieces 82 = .ok (.if_icmp .ne 36, 3) := by decide +kernel
theorem dX12_pieces_85 : decode cX12_pieces 85 = .ok (.aload_n 0, 1) := by decide +kernel
theorem dX12_pieces_86 : decode cX12_pieces 86 = .ok (.lload 7, 2) := by decide +kernel
theorem dX12_pieces_88 : decode cX12_pieces 88 = .ok (.iconst 0, 1) := by decide +kernel
theorem dX12_pieces_89 : decode cX12_pieces 89 = .ok (.invokestatic 311, 3) := by decide +kernel
theorem dX12_pieces_92 : decode cX12_pieces 92 = .ok (.lload 7, 2) := by decide +kernel
theorem dX12_pieces_94 : decode cX12_pieces 94 = .ok (.iconst 1, 1) := by decide +kernel
theorem dX12_pieces_95 : decode cX12_pieces 95 = .ok (.invokestatic 311, 3) := by decide +kernel
theorem dX12_pieces_98 : decode cX12_pieces 98 = .ok (.lload 7, 2) := by decide +kernel
theorem dX12_pieces_100 : decode cX12_pieces 100 = .ok (.iconst 2, 1) := by decide +kernel
theorem dX12_pieces_101 : decode cX12_pieces 101 = .ok (.invokestatic 311, 3) := by decide +kernel
theorem dX12_pieces_104 : decode cX12_pieces 104 = .ok (.invokevirtual 235, 3) := by decide +kernel
theorem dX12_pieces_107 : decode cX12_pieces 107 = .ok (.invokestatic 85, 3) := by decide +kernel
theorem dX12_pieces_110 : decode cX12_pieces 110 = .ok (.iconst 1, 1) := by decide +kernel
theorem dX12_pieces_111 : decode cX12_pieces 111 = .ok (.if_icmp .ne 7, 3) := by decide +kernel
theorem dX12_pieces_114 : decode cX12_pieces 114 = .ok (.iconst 1, 1) := by decide +kernel
theorem dX12_pieces_115 : decode cX12_pieces 115 = .ok (.goto 4, 3) := by decide +kernel
theorem dX12_pieces_118 : decode cX12_pieces 118 = .ok (.iconst 0, 1) := by decide +kernel
theorem dX12_pieces_119 : decode cX12_pieces 119 = .ok (.iadd, 1) := by decide +kernel
theorem dX12_pieces_120 : decode cX12_pieces 120 = .ok (.istore 5, 2) := by decide +kernel
theorem dX12_pieces_122 : decode cX12_pieces 122 = .ok (.iinc 6 1, 3) := by decide +kernel
theorem dX12_pieces_125 : decode cX12_pieces 125 = .ok (.goto (-74), 3) := by decide +kernel
theorem dX12_pieces_128 : decode cX12_pieces 128 = .ok (.iload_n 2, 1) := by decide +kernel
theorem dX12_pieces_129 : decode cX12_pieces 129 = .ok (.iconst 1, 1) := by decide +kernel
theorem dX12_pieces_130 : decode cX12_pieces 130 = .ok (.if_icmp .ne 10, 3) := by decide +kernel
theorem dX12_pieces_133 : decode cX12_pieces 133 = .ok (.lload_n 3, 1) := by decide +kernel
theorem dX12_pieces_134 : decode cX12_pieces 134 = .ok (.invokestatic 308, 3) := by decide +kernel
theorem dX12_pieces_137 : decode cX12_pieces 137 = .ok (.goto 5, 3) := by decide +kernel
theorem dX12_pieces_140 : decode cX12_pieces 140 = .ok (.iload 5, 2) := by decide +kernel
theorem dX12_pieces_142 : decode cX12_pieces 142 = .ok (.ireturn, 1) := by decide +kernel
theorem dX12_piece_0 : decode cX12_piece 0 = .ok (.iload_n 1, 1) := by decide +kernel
theorem dX12_piece_1 : decode cX12_piece 1 = .ok (.invokestatic 120, 3) := by decide +kernel
theorem dX12_piece_4 : decode cX12_piece 4 = .ok (.ifCond .eq 12, 3) := by decide +kernel
theorem dX12_piece_7 : decode cX12_piece 7 = .ok (.iload_n 2, 1) := by decide +kernel
theorem dX12_piece_8 : decode cX12_piece 8 = .ok (.ifCond .lt 8, 3) := by decide +kernel
theorem dX12_piece_11 : decode cX12_piece 11 = .ok (.iload_n 3, 1) := by decide +kernel
theorem dX12_piece_12 : decode cX12_piece 12 = .ok (.iconst (-1), 1) := by decide +kernel
theorem dX12_piece_13 : decode cX12_piece 13 = .ok (.if_icmp .ge 5, 3) := by decide +kernel
theorem dX12_piece_16 : decode cX12_piece 16 = .ok (.iconst (-1), 1) := by decide +kernel
theorem dX12_piece_17 : decode cX12_piece 17 = .ok (.ireturn, 1) := by decide +kernel
theorem dX12_piece_18 : decode cX12_piece 18 = .ok (.aload_n 0, 1) := by decide +kernel
theorem dX12_piece_19 : decode cX12_piece 19 = .ok (.iload_n 1, 1) := by decide +kernel
theorem dX12_piece_20 : decode cX12_piece 20 = .ok (.invokevirtual 291, 3) := by decide +kernel
theorem dX12_piece_23 : decode cX12_piece 23 = .ok (.ifCond .ne 6, 3) := by decide +kernel
theorem dX12_piece_26 : decode cX12_piece 26 = .ok (.bipush (-2), 2) := by decide +kernel
theorem dX12_piece_28 : decode cX12_piece 28 = .ok (.ireturn, 1) := by decide +kernel
theorem dX12_piece_29 : decode cX12_piece 29 = .ok (.aload_n 0, 1) := by decide +kernel
theorem dX12_piece_30 : decode cX12_piece 30 = .ok (.iload_n 1, 1) := by decide +kernel
theorem dX12_piece_31 : decode cX12_piece 31 = .ok (.invokevirtual 305, 3) := by decide +kernel
theorem dX12_piece_34 : decode cX12_piece 34 = .ok (.iload_n 2, 1) := by decide +kernel
theorem dX12_piece_35 : decode cX12_piece 35 = .ok (.aload_n 0, 1) := by decide +kernel
theorem dX12_piece_36 : decode cX12_piece 36 = .ok (.getfield 294, 3) := by decide +kernel
theorem dX12_piece_39 : decode cX12_piece 39 = .ok (.if_icmp .lt 5, 3) := by decide +kernel
theorem dX12_piece_42 : decode cX12_piece 42 = .ok (.iconst (-1), 1) := by decide +kernel
theorem dX12_piece_43 : decode cX12_piece 43 = .ok (.ireturn, 1) := by decide +kernel
theorem dX12_piece_44 : decode cX12_piece 44 = .ok (.iload_n 3, 1) := by decide +kernel
theorem dX12_piece_45 : decode cX12_piece 45 = .ok (.ifCond .ge 8, 3) := by decide +kernel
theorem dX12_piece_48 : decode cX12_piece 48 = .ok (.bipush (-9), 2) := by decide +kernel
theorem dX12_piece_50 : decode cX12_piece 50 = .ok (.goto 13, 3) := by decide +kernel
theorem dX12_piece_53 : decode cX12_piece 53 = .ok (.aload_n 0, 1) := by decide +kernel
theorem dX12_piece_54 : decode cX12_piece 54 = .ok (.getfield 78, 3) := by decide +kernel
theorem dX12_piece_57 : decode cX12_piece 57 = .ok (.iload_n 2, 1) := by decide +kernel
theorem dX12_piece_58 : decode cX12_piece 58 = .ok (.laload, 1) := by decide +kernel
theorem dX12_piece_59 : decode cX12_piece 59 = .ok (.iload_n 3, 1) := by decide +kernel
theorem dX12_piece_60 : decode cX12_piece 60 = .ok (.invokestatic 311, 3) := by decide +kernel
theorem dX12_piece_63 : decode cX12_piece 63 = .ok (.istore 4, 2) := by decide +kernel
theorem dX12_piece_65 : decode cX12_piece 65 = .ok (.iload_n 3, 1) := by decide +kernel
theorem dX12_piece_66 : decode cX12_piece 66 = .ok (.ifCond .ge 15, 3) := by decide +kernel
theorem dX12_piece_69 : decode cX12_piece 69 = .ok (.aload_n 0, 1) := by decide +kernel
theorem dX12_piece_70 : decode cX12_piece 70 = .ok (.getfield 78, 3) := by decide +kernel
theorem dX12_piece_73 : decode cX12_piece 73 = .ok (.iload_n 2, 1) := by decide +kernel
theorem dX12_piece_74 : decode cX12_piece 74 = .ok (.laload, 1) := by decide +kernel
theorem dX12_piece_75 : decode cX12_piece 75 = .ok (.invokestatic 308, 3) := by decide +kernel
theorem dX12_piece_78 : decode cX12_piece 78 = .ok (.goto 16, 3) := by decide +kernel
theorem dX12_piece_81 : decode cX12_piece 81 = .ok (.iload 4, 2) := by decide +kernel
theorem dX12_piece_83 : decode cX12_piece 83 = .ok (.bipush (-9), 2) := by decide +kernel
theorem dX12_piece_85 : decode cX12_piece 85 = .ok (.if_icmp .ne 7, 3) := by decide +kernel
theorem dX12_piece_88 : decode cX12_piece 88 = .ok (.iconst (-1), 1) := by decide +kernel
theorem dX12_piece_89 : decode cX12_piece 89 = .ok (.goto 5, 3) := by decide +kernel
theorem dX12_piece_92 : decode cX12_piece 92 = .ok (.iload 4, 2) := by decide +kernel
theorem dX12_piece_94 : decode cX12_piece 94 = .ok (.ireturn, 1) := by decide +kernel
theorem dJ13_bitCount_95d88_0 : decode cJ13_bitCount_95d88 0 = .ok (.lload_n 0, 1) := by decide +kernel
theorem dJ13_bitCount_95d88_1 : decode cJ13_bitCount_95d88 1 = .ok (.lload_n 0, 1) := by decide +kernel
theorem dJ13_bitCount_95d88_2 : decode cJ13_bitCount_95d88 2 = .ok (.iconst 1, 1) := by decide +kernel
theorem dJ13_bitCount_95d88_3 : decode cJ13_bitCount_95d88 3 = .ok (.lushr, 1) := by decide +kernel
theorem dJ13_bitCount_95d88_4 : decode cJ13_bitCount_95d88 4 = .ok (.ldc2_w 314, 3) := by decide +kernel
theorem dJ13_bitCount_95d88_7 : decode cJ13_bitCount_95d88 7 = .ok (.land, 1) := by decide +kernel
theorem dJ13_bitCount_95d88_8 : decode cJ13_bitCount_95d88 8 = .ok (.lsub, 1) := by decide +kernel
theorem dJ13_bitCount_95d88_9 : decode cJ13_bitCount_95d88 9 = .ok (.lstore_n 0, 1) := by decide +kernel
theorem dJ13_bitCount_95d88_10 : decode cJ13_bitCount_95d88 10 = .ok (.lload_n 0, 1) := by decide +kernel
theorem dJ13_bitCount_95d88_11 : decode cJ13_bitCount_95d88 11 = .ok (.ldc2_w 316, 3) := by decide +kernel
theorem dJ13_bitCount_95d88_14 : decode cJ13_bitCount_95d88 14 = .ok (.land, 1) := by decide +kernel
theorem dJ13_bitCount_95d88_15 : decode cJ13_bitCount_95d88 15 = .ok (.lload_n 0, 1) := by decide +kernel
theorem dJ13_bitCount_95d88_16 : decode cJ13_bitCount_95d88 16 = .ok (.iconst 2, 1) := by decide +kernel
theorem dJ13_bitCount_95d88_17 : decode cJ13_bitCount_95d88 17 = .ok (.lushr, 1) := by decide +kernel
theorem dJ13_bitCount_95d88_18 : decode cJ13_bitCount_95d88 18 = .ok (.ldc2_w 316, 3) := by decide +kernel
theorem dJ13_bitCount_95d88_21 : decode cJ13_bitCount_95d88 21 = .ok (.land, 1) := by decide +kernel
theorem dJ13_bitCount_95d88_22 : decode cJ13_bitCount_95d88 22 = .ok (.ladd, 1) := by decide +kernel
theorem dJ13_bitCount_95d88_23 : decode cJ13_bitCount_95d88 23 = .ok (.lstore_n 0, 1) := by decide +kernel
theorem dJ13_bitCount_95d88_24 : decode cJ13_bitCount_95d88 24 = .ok (.lload_n 0, 1) := by decide +kernel
theorem dJ13_bitCount_95d88_25 : decode cJ13_bitCount_95d88 25 = .ok (.lload_n 0, 1) := by decide +kernel
theorem dJ13_bitCount_95d88_26 : decode cJ13_bitCount_95d88 26 = .ok (.iconst 4, 1) := by decide +kernel
theorem dJ13_bitCount_95d88_27 : decode cJ13_bitCount_95d88 27 = .ok (.lushr, 1) := by decide +kernel
theorem dJ13_bitCount_95d88_28 : decode cJ13_bitCount_95d88 28 = .ok (.ladd, 1) := by decide +kernel
theorem dJ13_bitCount_95d88_29 : decode cJ13_bitCount_95d88 29 = .ok (.ldc2_w 318, 3) := by decide +kernel
theorem dJ13_bitCount_95d88_32 : decode cJ13_bitCount_95d88 32 = .ok (.land, 1) := by decide +kernel
theorem dJ13_bitCount_95d88_33 : decode cJ13_bitCount_95d88 33 = .ok (.lstore_n 0, 1) := by decide +kernel
theorem dJ13_bitCount_95d88_34 : decode cJ13_bitCount_95d88 34 = .ok (.lload_n 0, 1) := by decide +kernel
theorem dJ13_bitCount_95d88_35 : decode cJ13_bitCount_95d88 35 = .ok (.lload_n 0, 1) := by decide +kernel
theorem dJ13_bitCount_95d88_36 : decode cJ13_bitCount_95d88 36 = .ok (.bipush 8, 2) := by decide +kernel
theorem dJ13_bitCount_95d88_38 : decode cJ13_bitCount_95d88 38 = .ok (.lushr, 1) := by decide +kernel
theorem dJ13_bitCount_95d88_39 : decode cJ13_bitCount_95d88 39 = .ok (.ladd, 1) := by decide +kernel
theorem dJ13_bitCount_95d88_40 : decode cJ13_bitCount_95d88 40 = .ok (.lstore_n 0, 1) := by decide +kernel
theorem dJ13_bitCount_95d88_41 : decode cJ13_bitCount_95d88 41 = .ok (.lload_n 0, 1) := by decide +kernel
theorem dJ13_bitCount_95d88_42 : decode cJ13_bitCount_95d88 42 = .ok (.lload_n 0, 1) := by decide +kernel
theorem dJ13_bitCount_95d88_43 : decode cJ13_bitCount_95d88 43 = .ok (.bipush 16, 2) := by decide +kernel
theorem dJ13_bitCount_95d88_45 : decode cJ13_bitCount_95d88 45 = .ok (.lushr, 1) := by decide +kernel
theorem dJ13_bitCount_95d88_46 : decode cJ13_bitCount_95d88 46 = .ok (.ladd, 1) := by decide +kernel
theorem dJ13_bitCount_95d88_47 : decode cJ13_bitCount_95d88 47 = .ok (.lstore_n 0, 1) := by decide +kernel
theorem dJ13_bitCount_95d88_48 : decode cJ13_bitCount_95d88 48 = .ok (.lload_n 0, 1) := by decide +kernel
theorem dJ13_bitCount_95d88_49 : decode cJ13_bitCount_95d88 49 = .ok (.lload_n 0, 1) := by decide +kernel
theorem dJ13_bitCount_95d88_50 : decode cJ13_bitCount_95d88 50 = .ok (.bipush 32, 2) := by decide +kernel
theorem dJ13_bitCount_95d88_52 : decode cJ13_bitCount_95d88 52 = .ok (.lushr, 1) := by decide +kernel
theorem dJ13_bitCount_95d88_53 : decode cJ13_bitCount_95d88 53 = .ok (.ladd, 1) := by decide +kernel
theorem dJ13_bitCount_95d88_54 : decode cJ13_bitCount_95d88 54 = .ok (.lstore_n 0, 1) := by decide +kernel
theorem dJ13_bitCount_95d88_55 : decode cJ13_bitCount_95d88 55 = .ok (.lload_n 0, 1) := by decide +kernel
theorem dJ13_bitCount_95d88_56 : decode cJ13_bitCount_95d88 56 = .ok (.l2i, 1) := by decide +kernel
theorem dJ13_bitCount_95d88_57 : decode cJ13_bitCount_95d88 57 = .ok (.bipush 127, 2) := by decide +kernel
theorem dJ13_bitCount_95d88_59 : decode cJ13_bitCount_95d88 59 = .ok (.iand, 1) := by decide +kernel
theorem dJ13_bitCount_95d88_60 : decode cJ13_bitCount_95d88 60 = .ok (.ireturn, 1) := by decide +kernel
theorem dJ9_floorDiv_7cf53_0 : decode cJ9_floorDiv_7cf53 0 = .ok (.iload_n 0, 1) := by decide +kernel
theorem dJ9_floorDiv_7cf53_1 : decode cJ9_floorDiv_7cf53 1 = .ok (.iload_n 1, 1) := by decide +kernel
theorem dJ9_floorDiv_7cf53_2 : decode cJ9_floorDiv_7cf53 2 = .ok (.idiv, 1) := by decide +kernel
theorem dJ9_floorDiv_7cf53_3 : decode cJ9_floorDiv_7cf53 3 = .ok (.istore_n 2, 1) := by decide +kernel
theorem dJ9_floorDiv_7cf53_4 : decode cJ9_floorDiv_7cf53 4 = .ok (.iload_n 0, 1) := by decide +kernel
theorem dJ9_floorDiv_7cf53_5 : decode cJ9_floorDiv_7cf53 5 = .ok (.iload_n 1, 1) := by decide +kernel
theorem dJ9_floorDiv_7cf53_6 : decode cJ9_floorDiv_7cf53 6 = .ok (.ixor, 1) := by decide +kernel
theorem dJ9_floorDiv_7cf53_7 : decode cJ9_floorDiv_7cf53 7 = .ok (.ifCond .ge 14, 3) := by decide +kernel
theorem dJ9_floorDiv_7cf53_10 : decode cJ9_floorDiv_7cf53 10 = .ok (.iload_n 2, 1) := by decide +kernel
theorem dJ9_floorDiv_7cf53_11 : decode cJ9_floorDiv_7cf53 11 = .ok (.iload_n 1, 1) := by decide +kernel
theorem dJ9_floorDiv_7cf53_12 : decode cJ9_floorDiv_7cf53 12 = .ok (.imul, 1) := by decide +kernel
theorem dJ9_floorDiv_7cf53_13 : decode cJ9_floorDiv_7cf53 13 = .ok (.iload_n 0, 1) := by decide +kernel
theorem dJ9_floorDiv_7cf53_14 : decode cJ9_floorDiv_7cf53 14 = .ok (.if_icmp .eq 7, 3) := by decide +kernel
theorem dJ9_floorDiv_7cf53_17 : decode cJ9_floorDiv_7cf53 17 = .ok (.iload_n 2, 1) := by decide +kernel
theorem dJ9_floorDiv_7cf53_18 : decode cJ9_floorDiv_7cf53 18 = .ok (.iconst 1, 1) := by decide +kernel
theorem dJ9_floorDiv_7cf53_19 : decode cJ9_floorDiv_7cf53 19 = .ok (.isub, 1) := by decide +kernel
theorem dJ9_floorDiv_7cf53_20 : decode cJ9_floorDiv_7cf53 20 = .ok (.ireturn, 1) := by decide +kernel
theorem dJ9_floorDiv_7cf53_21 : decode cJ9_floorDiv_7cf53 21 = .ok (.iload_n 2, 1) := by decide +kernel
theorem dJ9_floorDiv_7cf53_22 : decode cJ9_floorDiv_7cf53 22 = .ok (.ireturn, 1) := by decide +kernel
theorem dJ9_abs_0f7a4_0 : decode cJ9_abs_0f7a4 0 = .ok (.iload_n 0, 1) := by decide +kernel
theorem dJ9_abs_0f7a4_1 : decode cJ9_abs_0f7a4 1 = .ok (.ifCond .ge 8, 3) := by decide +kernel
theorem dJ9_abs_0f7a4_4 : decode cJ9_abs_0f7a4 4 = .ok (.iload_n 0, 1) := by decide +kernel
theorem dJ9_abs_0f7a4_5 : decode cJ9_abs_0f7a4 5 = .ok (.ineg, 1) := by decide +kernel
theorem dJ9_abs_0f7a4_6 : decode cJ9_abs_0f7a4 6 = .ok (.goto 4, 3) := by decide +kernel
theorem dJ9_abs_0f7a4_9 : decode cJ9_abs_0f7a4 9 = .ok (.iload_n 0, 1) := by decide +kernel
theorem dJ9_abs_0f7a4_10 : decode cJ9_abs_0f7a4 10 = .ok (.ireturn, 1) := by decide +kernel
theorem dJ9_max_7cf53_0 : decode cJ9_max_7cf53 0 = .ok (.iload_n 0, 1) := by decide +kernel
theorem dJ9_max_7cf53_1 : decode cJ9_max_7cf53 1 = .ok (.iload_n 1, 1) := by decide +kernel
theorem dJ9_max_7cf53_2 : decode cJ9_max_7cf53 2 = .ok (.if_icmp .lt 7, 3) := by decide +kernel
theorem dJ9_max_7cf53_5 : decode cJ9_max_7cf53 5 = .ok (.iload_n 0, 1) := by decide +kernel
theorem dJ9_max_7cf53_6 : decode cJ9_max_7cf53 6 = .ok (.goto 4, 3) := by decide +kernel
theorem dJ9_max_7cf53_9 : decode cJ9_max_7cf53 9 = .ok (.iload_n 1, 1) := by decide +kernel
theorem dJ9_max_7cf53_10 : decode cJ9_max_7cf53 10 = .ok (.ireturn, 1) := by decide +kernel
theorem dJ9_min_7cf53_0 : decode cJ9_min_7cf53 0 = .ok (.iload_n 0, 1) := by decide +kernel
theorem dJ9_min_7cf53_1 : decode cJ9_min_7cf53 1 = .ok (.iload_n 1, 1) := by decide +kernel
theorem dJ9_min_7cf53_2 : decode cJ9_min_7cf53 2 = .ok (.if_icmp .gt 7, 3) := by decide +kernel
theorem dJ9_min_7cf53_5 : decode cJ9_min_7cf53 5 = .ok (.iload_n 0, 1) := by decide +kernel
theorem dJ9_min_7cf53_6 : decode cJ9_min_7cf53 6 = .ok (.goto 4, 3) := by decide +kernel
theorem dJ9_min_7cf53_9 : decode cJ9_min_7cf53 9 = .ok (.iload_n 1, 1) := by decide +kernel
theorem dJ9_min_7cf53_10 : decode cJ9_min_7cf53 10 = .ok (.ireturn, 1) := by decide +kernel
theorem dJ7_fill_d0a16_0 : decode cJ7_fill_d0a16 0 = .ok (.iconst 0, 1) := by decide +kernel
theorem dJ7_fill_d0a16_1 : decode cJ7_fill_d0a16 1 = .ok (.istore_n 3, 1) := by decide +kernel
theorem dJ7_fill_d0a16_2 : decode cJ7_fill_d0a16 2 = .ok (.aload_n 0, 1) := by decide +kernel
theorem dJ7_fill_d0a16_3 : decode cJ7_fill_d0a16 3 = .ok (.arraylength, 1) := by decide +kernel
theorem dJ7_fill_d0a16_4 : decode cJ7_fill_d0a16 4 = .ok (.istore 4, 2) := by decide +kernel
theorem dJ7_fill_d0a16_6 : decode cJ7_fill_d0a16 6 = .ok (.iload_n 3, 1) := by decide +kernel
theorem dJ7_fill_d0a16_7 : decode cJ7_fill_d0a16 7 = .ok (.iload 4, 2) := by decide +kernel
theorem dJ7_fill_d0a16_9 : decode cJ7_fill_d0a16 9 = .ok (.if_icmp .ge 13, 3) := by decide +kernel
theorem dJ7_fill_d0a16_12 : decode cJ7_fill_d0a16 12 = .ok (.aload_n 0, 1) := by decide +kernel
theorem dJ7_fill_d0a16_13 : decode cJ7_fill_d0a16 13 = .ok (.iload_n 3, 1) := by decide +kernel
theorem dJ7_fill_d0a16_14 : decode cJ7_fill_d0a16 14 = .ok (.lload_n 1, 1) := by decide +kernel
theorem dJ7_fill_d0a16_15 : decode cJ7_fill_d0a16 15 = .ok (.lastore, 1) := by decide +kernel
theorem dJ7_fill_d0a16_16 : decode cJ7_fill_d0a16 16 = .ok (.iinc 3 1, 3) := by decide +kernel
theorem dJ7_fill_d0a16_19 : decode cJ7_fill_d0a16 19 = .ok (.goto (-13), 3) := by decide +kernel
theorem dJ7_fill_d0a16_22 : decode cJ7_fill_d0a16 22 = .ok (.return_, 1) := by decide +kernel
theorem dJ7_fill_53178_0 : decode cJ7_fill_53178 0 = .ok (.iconst 0, 1) := by decide +kernel
theorem dJ7_fill_53178_1 : decode cJ7_fill_53178 1 = .ok (.istore_n 2, 1) := by decide +kernel
theorem dJ7_fill_53178_2 : decode cJ7_fill_53178 2 = .ok (.aload_n 0, 1) := by decide +kernel
theorem dJ7_fill_53178_3 : decode cJ7_fill_53178 3 = .ok (.arraylength, 1) := by decide +kernel
theorem dJ7_fill_53178_4 : decode cJ7_fill_53178 4 = .ok (.istore_n 3, 1) := by decide +kernel
theorem dJ7_fill_53178_5 : decode cJ7_fill_53178 5 = .ok (.iload_n 2, 1) := by decide +kernel
theorem dJ7_fill_53178_6 : decode cJ7_fill_53178 6 = .ok (.iload_n 3, 1) := by decide +kernel
theorem dJ7_fill_53178_7 : decode cJ7_fill_53178 7 = .ok (.if_icmp .ge 13, 3) := by decide +kernel
theorem dJ7_fill_53178_10 : decode cJ7_fill_53178 10 = .ok (.aload_n 0, 1) := by decide +kernel
theorem dJ7_fill_53178_11 : decode cJ7_fill_53178 11 = .ok (.iload_n 2, 1) := by decide +kernel
theorem dJ7_fill_53178_12 : decode cJ7_fill_53178 12 = .ok (.iload_n 1, 1) := by decide +kernel
theorem dJ7_fill_53178_13 : decode cJ7_fill_53178 13 = .ok (.iastore, 1) := by decide +kernel
theorem dJ7_fill_53178_14 : decode cJ7_fill_53178 14 = .ok (.iinc 2 1, 3) := by decide +kernel
theorem dJ7_fill_53178_17 : decode cJ7_fill_53178 17 = .ok (.goto (-12), 3) := by decide +kernel
theorem dJ7_fill_53178_20 : decode cJ7_fill_53178 20 = .ok (.return_, 1) := by decide +kernel
theorem dL_law_0 : decode cL_law 0 = .ok (.new 7, 3) := by decide +kernel
theorem dL_law_3 : decode cL_law 3 = .ok (.dup, 1) := by decide +kernel
theorem dL_law_4 : decode cL_law 4 = .ok (.invokespecial 9, 3) := by decide +kernel
theorem dL_law_7 : decode cL_law 7 = .ok (.astore_n 1, 1) := by decide +kernel
theorem dL_law_8 : decode cL_law 8 = .ok (.new 10, 3) := by decide +kernel
theorem dL_law_11 : decode cL_law 11 = .ok (.dup, 1) := by decide +kernel
theorem dL_law_12 : decode cL_law 12 = .ok (.invokespecial 12, 3) := by decide +kernel
theorem dL_law_15 : decode cL_law 15 = .ok (.astore_n 2, 1) := by decide +kernel
theorem dL_law_16 : decode cL_law 16 = .ok (.iconst 0, 1) := by decide +kernel
theorem dL_law_17 : decode cL_law 17 = .ok (.istore_n 3, 1) := by decide +kernel
theorem dL_law_18 : decode cL_law 18 = .ok (.iload_n 3, 1) := by decide +kernel
theorem dL_law_19 : decode cL_law 19 = .ok (.aload_n 0, 1) := by decide +kernel
theorem dL_law_20 : decode cL_law 20 = .ok (.arraylength, 1) := by decide +kernel
theorem dL_law_21 : decode cL_law 21 = .ok (.bipush 9, 2) := by decide +kernel
theorem dL_law_23 : decode cL_law 23 = .ok (.isub, 1) := by decide +kernel
theorem dL_law_24 : decode cL_law 24 = .ok (.if_icmp .gt 1282, 3) := by decide +kernel
theorem dL_law_27 : decode cL_law 27 = .ok (.aload_n 0, 1) := by decide +kernel
theorem dL_law_28 : decode cL_law 28 = .ok (.iload_n 3, 1) := by decide +kernel
theorem dL_law_29 : decode cL_law 29 = .ok (.iaload, 1) := by decide +kernel
theorem dL_law_30 : decode cL_law 30 = .ok (.bipush 31, 2) := by decide +kernel
theorem dL_law_32 : decode cL_law 32 = .ok (.iand, 1) := by decide +kernel
theorem dL_law_33 : decode cL_law 33 = .ok (.tableswitch 1267 0 28 #[131, 154, 197, 220, 263, 296, 340, 383, 426, 469, 502, 601, 634, 667, 680, 723, 756, 779, 812, 855, 878, 911, 964, 1039, 1072, 1115, 1148, 1191, 1224], 131) := by decide +kernel
theorem dL_law_164 : decode cL_law 164 = .ok (.aload_n 1, 1) := by decide +kernel
theorem dL_law_165 : decode cL_law 165 = .ok (.aload_n 0, 1) := by decide +kernel
theorem dL_law_166 : decode cL_law 166 = .ok (.iload_n 3, 1) := by decide +kernel
theorem dL_law_167 : decode cL_law 167 = .ok (.iconst 1, 1) := by decide +kernel
theorem dL_law_168 : decode cL_law 168 = .ok (.iadd, 1) := by decide +kernel
theorem dL_law_169 : decode cL_law 169 = .ok (.iaload, 1) := by decide +kernel
theorem dL_law_170 : decode cL_law 170 = .ok (.invokevirtual 13, 3) := by decide +kernel
theorem dL_law_173 : decode cL_law 173 = .ok (.pop, 1) := by decide +kernel
theorem dL_law_174 : decode cL_law 174 = .ok (.aload_n 2, 1) := by decide +kernel
theorem dL_law_175 : decode cL_law 175 = .ok (.aload_n 0, 1) := by decide +kernel
theorem dL_law_176 : decode cL_law 176 = .ok (.iload_n 3, 1) := by decide +kernel
theorem dL_law_177 : decode cL_law 177 = .ok (.iconst 1, 1) := by decide +kernel
theorem dL_law_178 : decode cL_law 178 = .ok (.iadd, 1) := by decide +kernel
theorem dL_law_179 : decode cL_law 179 = .ok (.iaload, 1) := by decide +kernel
theorem dL_law_180 : decode cL_law 180 = .ok (.invokevirtual 17, 3) := by decide +kernel
theorem dL_law_183 : decode cL_law 183 = .ok (.pop, 1) := by decide +kernel
theorem dL_law_184 : decode cL_law 184 = .ok (.goto 1116, 3) := by decide +kernel
theorem dL_law_187 : decode cL_law 187 = .ok (.aload_n 1, 1) := by decide +kernel
theorem dL_law_188 : decode cL_law 188 = .ok (.aload_n 0, 1) := by decide +kernel
theorem dL_law_189 : decode cL_law 189 = .ok (.iload_n 3, 1) := by decide +kernel
theorem dL_law_190 : decode cL_law 190 = .ok (.iconst 1, 1) := by decide +kernel
theorem dL_law_191 : decode cL_law 191 = .ok (.iadd, 1) := by decide +kernel
theorem dL_law_192 : decode cL_law 192 = .ok (.iaload, 1) := by decide +kernel
theorem dL_law_193 : decode cL_law 193 = .ok (.aload_n 0, 1) := by decide +kernel
theorem dL_law_194 : decode cL_law 194 = .ok (.iload_n 3, 1) := by decide +kernel
theorem dL_law_195 : decode cL_law 195 = .ok (.iconst 2, 1) := by decide +kernel
theorem dL_law_196 : decode cL_law 196 = .ok (.iadd, 1) := by decide +kernel
theorem dL_law_197 : decode cL_law 197 = .ok (.iaload, 1) := by decide +kernel
theorem dL_law_198 : decode cL_law 198 = .ok (.aload_n 0, 1) := by decide +kernel
theorem dL_law_199 : decode cL_law 199 = .ok (.iload_n 3, 1) := by decide +kernel
theorem dL_law_200 : decode cL_law 200 = .ok (.iconst 3, 1) := by decide +kernel
theorem dL_law_201 : decode cL_law 201 = .ok (.iadd, 1) := by decide +kernel
theorem dL_law_202 : decode cL_law 202 = .ok (.iaload, 1) := by decide +kernel
theorem dL_law_203 : decode cL_law 203 = .ok (.invokevirtual 18, 3) := by decide +kernel
theorem dL_law_206 : decode cL_law 206 = .ok (.pop, 1) := by decide +kernel
theorem dL_law_207 : decode cL_law 207 = .ok (.aload_n 2, 1) := by decide +kernel
theorem dL_law_208 : decode cL_law 208 = .ok (.aload_n 0, 1) := by decide +kernel
theorem dL_law_209 : decode cL_law 209 = .ok (.iload_n 3, 1) := by decide +kernel
theorem dL_law_210 : decode cL_law 210 = .ok (.iconst 1, 1) := by decide +kernel
theorem dL_law_211 : decode cL_law 211 = .ok (.iadd, 1) := by decide +kernel
theorem dL_law_212 : decode cL_law 212 = .ok (.iaload, 1) := by decide +kernel
theorem dL_law_213 : decode cL_law 213 = .ok (.aload_n 0, 1) := by decide +kernel
theorem dL_law_214 : decode cL_law 214 = .ok (.iload_n 3, 1) := by decide +kernel
theorem dL_law_215 : decode cL_law 215 = .ok (.iconst 2, 1) := by decide +kernel
theorem dL_law_216 : decode cL_law 216 = .ok (.iadd, 1) := by decide +kernel
theorem dL_law_217 : decode cL_law 217 = .ok (.iaload, 1) := by decide +kernel
theorem dL_law_218 : decode cL_law 218 = .ok (.aload_n 0, 1) := by decide +kernel
theorem dL_law_219 : decode cL_law 219 = .ok (.iload_n 3, 1) := by decide +kernel
theorem dL_law_220 : decode cL_law 220 = .ok (.iconst 3, 1) := by decide +kernel
theorem dL_law_221 : decode cL_law 221 = .ok (.iadd, 1) := by decide +kernel
theorem dL_law_222 : decode cL_law 222 = .ok (.iaload, 1) := by decide +kernel
theorem dL_law_223 : decode cL_law 223 = .ok (.invokevirtual 22, 3) := by decide +kernel
theorem dL_law_226 : decode cL_law 226 = .ok (.pop, 1) := by decide +kernel
theorem dL_law_227 : decode cL_law 227 = .ok (.goto 1073, 3) := by decide +kernel
theorem dL_law_230 : decode cL_law 230 = .ok (.aload_n 1, 1) := by decide +kernel
theorem dL_law_231 : decode cL_law 231 = .ok (.aload_n 0, 1) := by decide +kernel
theorem dL_law_232 : decode cL_law 232 = .ok (.iload_n 3, 1) := by decide +kernel
theorem dL_law_233 : decode cL_law 233 = .ok (.iconst 1, 1) := by decide +kernel
theorem dL_law_234 : decode cL_law 234 = .ok (.iadd, 1) := by decide +kernel
theorem dL_law_235 : decode cL_law 235 = .ok (.iaload, 1) := by decide +kernel
theorem dL_law_236 : decode cL_law 236 = .ok (.invokevirtual 23, 3) := by decide +kernel
theorem dL_law_239 : decode cL_law 239 = .ok (.pop, 1) := by decide +kernel
theorem dL_law_240 : decode cL_law 240 = .ok (.aload_n 2, 1) := by decide +kernel
theorem dL_law_241 : decode cL_law 241 = .ok (.aload_n 0, 1) := by decide +kernel
theorem dL_law_242 : decode cL_law 242 = .ok (.iload_n 3, 1) := by decide +kernel
theorem dL_law_243 : decode cL_law 243 = .ok (.iconst 1, 1) := by decide +kernel
theorem dL_law_244 : decode cL_law 244 = .ok (.iadd, 1) := by decide +kernel
theorem dL_law_245 : decode cL_law 245 = .ok (.iaload, 1) := by decide +kernel
theorem dL_law_246 : decode cL_law 246 = .ok (.invokevirtual 26, 3) := by decide +kernel
theorem dL_law_249 : decode cL_law 249 = .ok (.pop, 1) := by decide +kernel
theorem dL_law_250 : decode cL_law 250 = .ok (.goto 1050, 3) := by decide +kernel
theorem dL_law_253 : decode cL_law 253 = .ok (.aload_n 1, 1) := by decide +kernel
theorem dL_law_254 : decode cL_law 254 = .ok (.aload_n 0, 1) := by decide +kernel
theorem dL_law_255 : decode cL_law 255 = .ok (.iload_n 3, 1) := by decide +kernel
