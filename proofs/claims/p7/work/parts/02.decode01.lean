theorem dX3_take_54 : decode cX3_take 54 = .ok (.iload_n 3, 1) := by decide +kernel
theorem dX3_take_55 : decode cX3_take 55 = .ok (.iaload, 1) := by decide +kernel
theorem dX3_take_56 : decode cX3_take 56 = .ok (.iload_n 2, 1) := by decide +kernel
theorem dX3_take_57 : decode cX3_take 57 = .ok (.invokestatic 39, 3) := by decide +kernel
theorem dX3_take_60 : decode cX3_take 60 = .ok (.iastore, 1) := by decide +kernel
theorem dX3_take_61 : decode cX3_take 61 = .ok (.return_, 1) := by decide +kernel
theorem dX3_takeRing_0 : decode cX3_takeRing 0 = .ok (.iconst 0, 1) := by decide +kernel
theorem dX3_takeRing_1 : decode cX3_takeRing 1 = .ok (.istore_n 2, 1) := by decide +kernel
theorem dX3_takeRing_2 : decode cX3_takeRing 2 = .ok (.iload_n 2, 1) := by decide +kernel
theorem dX3_takeRing_3 : decode cX3_takeRing 3 = .ok (.aload_n 1, 1) := by decide +kernel
theorem dX3_takeRing_4 : decode cX3_takeRing 4 = .ok (.getfield 42, 3) := by decide +kernel
theorem dX3_takeRing_7 : decode cX3_takeRing 7 = .ok (.if_icmp .ge 23, 3) := by decide +kernel
theorem dX3_takeRing_10 : decode cX3_takeRing 10 = .ok (.aload_n 0, 1) := by decide +kernel
theorem dX3_takeRing_11 : decode cX3_takeRing 11 = .ok (.aload_n 1, 1) := by decide +kernel
theorem dX3_takeRing_12 : decode cX3_takeRing 12 = .ok (.iload_n 2, 1) := by decide +kernel
theorem dX3_takeRing_13 : decode cX3_takeRing 13 = .ok (.invokevirtual 46, 3) := by decide +kernel
theorem dX3_takeRing_16 : decode cX3_takeRing 16 = .ok (.aload_n 1, 1) := by decide +kernel
theorem dX3_takeRing_17 : decode cX3_takeRing 17 = .ok (.iload_n 2, 1) := by decide +kernel
theorem dX3_takeRing_18 : decode cX3_takeRing 18 = .ok (.invokevirtual 50, 3) := by decide +kernel
theorem dX3_takeRing_21 : decode cX3_takeRing 21 = .ok (.invokevirtual 53, 3) := by decide +kernel
theorem dX3_takeRing_24 : decode cX3_takeRing 24 = .ok (.iinc 2 1, 3) := by decide +kernel
theorem dX3_takeRing_27 : decode cX3_takeRing 27 = .ok (.goto (-25), 3) := by decide +kernel
theorem dX3_takeRing_30 : decode cX3_takeRing 30 = .ok (.return_, 1) := by decide +kernel
theorem dX3_close_0 : decode cX3_close 0 = .ok (.aload_n 0, 1) := by decide +kernel
theorem dX3_close_1 : decode cX3_close 1 = .ok (.getfield 23, 3) := by decide +kernel
theorem dX3_close_4 : decode cX3_close 4 = .ok (.iconst 0, 1) := by decide +kernel
theorem dX3_close_5 : decode cX3_close 5 = .ok (.putfield 42, 3) := by decide +kernel
theorem dX3_close_8 : decode cX3_close 8 = .ok (.iconst 0, 1) := by decide +kernel
theorem dX3_close_9 : decode cX3_close 9 = .ok (.istore_n 1, 1) := by decide +kernel
theorem dX3_close_10 : decode cX3_close 10 = .ok (.iload_n 1, 1) := by decide +kernel
theorem dX3_close_11 : decode cX3_close 11 = .ok (.sipush 161, 3) := by decide +kernel
theorem dX3_close_14 : decode cX3_close 14 = .ok (.if_icmp .ge 39, 3) := by decide +kernel
theorem dX3_close_17 : decode cX3_close 17 = .ok (.aload_n 0, 1) := by decide +kernel
theorem dX3_close_18 : decode cX3_close 18 = .ok (.getfield 9, 3) := by decide +kernel
theorem dX3_close_21 : decode cX3_close 21 = .ok (.iload_n 1, 1) := by decide +kernel
theorem dX3_close_22 : decode cX3_close 22 = .ok (.iaload, 1) := by decide +kernel
theorem dX3_close_23 : decode cX3_close 23 = .ok (.aload_n 0, 1) := by decide +kernel
theorem dX3_close_24 : decode cX3_close 24 = .ok (.getfield 15, 3) := by decide +kernel
theorem dX3_close_27 : decode cX3_close 27 = .ok (.iload_n 1, 1) := by decide +kernel
theorem dX3_close_28 : decode cX3_close 28 = .ok (.iaload, 1) := by decide +kernel
theorem dX3_close_29 : decode cX3_close 29 = .ok (.if_icmp .gt 18, 3) := by decide +kernel
theorem dX3_close_32 : decode cX3_close 32 = .ok (.aload_n 0, 1) := by decide +kernel
theorem dX3_close_33 : decode cX3_close 33 = .ok (.iload_n 1, 1) := by decide +kernel
theorem dX3_close_34 : decode cX3_close 34 = .ok (.bipush 80, 2) := by decide +kernel
theorem dX3_close_36 : decode cX3_close 36 = .ok (.isub, 1) := by decide +kernel
theorem dX3_close_37 : decode cX3_close 37 = .ok (.aload_n 0, 1) := by decide +kernel
theorem dX3_close_38 : decode cX3_close 38 = .ok (.getfield 9, 3) := by decide +kernel
theorem dX3_close_41 : decode cX3_close 41 = .ok (.iload_n 1, 1) := by decide +kernel
theorem dX3_close_42 : decode cX3_close 42 = .ok (.iaload, 1) := by decide +kernel
theorem dX3_close_43 : decode cX3_close 43 = .ok (.iconst 0, 1) := by decide +kernel
theorem dX3_close_44 : decode cX3_close 44 = .ok (.invokevirtual 57, 3) := by decide +kernel
theorem dX3_close_47 : decode cX3_close 47 = .ok (.iinc 1 1, 3) := by decide +kernel
theorem dX3_close_50 : decode cX3_close 50 = .ok (.goto (-40), 3) := by decide +kernel
theorem dX3_close_53 : decode cX3_close 53 = .ok (.aload_n 0, 1) := by decide +kernel
theorem dX3_close_54 : decode cX3_close 54 = .ok (.getfield 23, 3) := by decide +kernel
theorem dX3_close_57 : decode cX3_close 57 = .ok (.getfield 42, 3) := by decide +kernel
theorem dX3_close_60 : decode cX3_close 60 = .ok (.iconst 1, 1) := by decide +kernel
theorem dX3_close_61 : decode cX3_close 61 = .ok (.isub, 1) := by decide +kernel
theorem dX3_close_62 : decode cX3_close 62 = .ok (.istore_n 1, 1) := by decide +kernel
theorem dX3_close_63 : decode cX3_close 63 = .ok (.sipush 160, 3) := by decide +kernel
theorem dX3_close_66 : decode cX3_close 66 = .ok (.istore_n 2, 1) := by decide +kernel
theorem dX3_close_67 : decode cX3_close 67 = .ok (.iload_n 2, 1) := by decide +kernel
theorem dX3_close_68 : decode cX3_close 68 = .ok (.ifCond .lt 39, 3) := by decide +kernel
theorem dX3_close_71 : decode cX3_close 71 = .ok (.aload_n 0, 1) := by decide +kernel
theorem dX3_close_72 : decode cX3_close 72 = .ok (.getfield 9, 3) := by decide +kernel
theorem dX3_close_75 : decode cX3_close 75 = .ok (.iload_n 2, 1) := by decide +kernel
theorem dX3_close_76 : decode cX3_close 76 = .ok (.iaload, 1) := by decide +kernel
theorem dX3_close_77 : decode cX3_close 77 = .ok (.aload_n 0, 1) := by decide +kernel
theorem dX3_close_78 : decode cX3_close 78 = .ok (.getfield 15, 3) := by decide +kernel
theorem dX3_close_81 : decode cX3_close 81 = .ok (.iload_n 2, 1) := by decide +kernel
theorem dX3_close_82 : decode cX3_close 82 = .ok (.iaload, 1) := by decide +kernel
theorem dX3_close_83 : decode cX3_close 83 = .ok (.if_icmp .gt 18, 3) := by decide +kernel
theorem dX3_close_86 : decode cX3_close 86 = .ok (.aload_n 0, 1) := by decide +kernel
theorem dX3_close_87 : decode cX3_close 87 = .ok (.iload_n 2, 1) := by decide +kernel
theorem dX3_close_88 : decode cX3_close 88 = .ok (.bipush 80, 2) := by decide +kernel
theorem dX3_close_90 : decode cX3_close 90 = .ok (.isub, 1) := by decide +kernel
theorem dX3_close_91 : decode cX3_close 91 = .ok (.aload_n 0, 1) := by decide +kernel
theorem dX3_close_92 : decode cX3_close 92 = .ok (.getfield 15, 3) := by decide +kernel
theorem dX3_close_95 : decode cX3_close 95 = .ok (.iload_n 2, 1) := by decide +kernel
theorem dX3_close_96 : decode cX3_close 96 = .ok (.iaload, 1) := by decide +kernel
theorem dX3_close_97 : decode cX3_close 97 = .ok (.iload_n 1, 1) := by decide +kernel
theorem dX3_close_98 : decode cX3_close 98 = .ok (.invokevirtual 57, 3) := by decide +kernel
theorem dX3_close_101 : decode cX3_close 101 = .ok (.iinc 2 (-1), 3) := by decide +kernel
theorem dX3_close_104 : decode cX3_close 104 = .ok (.goto (-37), 3) := by decide +kernel
theorem dX3_close_107 : decode cX3_close 107 = .ok (.aload_n 0, 1) := by decide +kernel
theorem dX3_close_108 : decode cX3_close 108 = .ok (.getfield 23, 3) := by decide +kernel
theorem dX3_close_111 : decode cX3_close 111 = .ok (.getfield 42, 3) := by decide +kernel
theorem dX3_close_114 : decode cX3_close 114 = .ok (.iconst 1, 1) := by decide +kernel
theorem dX3_close_115 : decode cX3_close 115 = .ok (.if_icmp .le 39, 3) := by decide +kernel
theorem dX3_close_118 : decode cX3_close 118 = .ok (.aload_n 0, 1) := by decide +kernel
theorem dX3_close_119 : decode cX3_close 119 = .ok (.aload_n 0, 1) := by decide +kernel
theorem dX3_close_120 : decode cX3_close 120 = .ok (.getfield 23, 3) := by decide +kernel
theorem dX3_close_123 : decode cX3_close 123 = .ok (.iconst 0, 1) := by decide +kernel
theorem dX3_close_124 : decode cX3_close 124 = .ok (.invokevirtual 46, 3) := by decide +kernel
theorem dX3_close_127 : decode cX3_close 127 = .ok (.aload_n 0, 1) := by decide +kernel
theorem dX3_close_128 : decode cX3_close 128 = .ok (.getfield 23, 3) := by decide +kernel
theorem dX3_close_131 : decode cX3_close 131 = .ok (.iconst 0, 1) := by decide +kernel
theorem dX3_close_132 : decode cX3_close 132 = .ok (.invokevirtual 50, 3) := by decide +kernel
theorem dX3_close_135 : decode cX3_close 135 = .ok (.invokevirtual 61, 3) := by decide +kernel
theorem dX3_close_138 : decode cX3_close 138 = .ok (.ifCond .eq 16, 3) := by decide +kernel
theorem dX3_close_141 : decode cX3_close 141 = .ok (.aload_n 0, 1) := by decide +kernel
theorem dX3_close_142 : decode cX3_close 142 = .ok (.getfield 23, 3) := by decide +kernel
theorem dX3_close_145 : decode cX3_close 145 = .ok (.dup, 1) := by decide +kernel
theorem dX3_close_146 : decode cX3_close 146 = .ok (.getfield 42, 3) := by decide +kernel
theorem dX3_close_149 : decode cX3_close 149 = .ok (.iconst 1, 1) := by decide +kernel
theorem dX3_close_150 : decode cX3_close 150 = .ok (.isub, 1) := by decide +kernel
theorem dX3_close_151 : decode cX3_close 151 = .ok (.putfield 42, 3) := by decide +kernel
theorem dX3_close_154 : decode cX3_close 154 = .ok (.return_, 1) := by decide +kernel
theorem dX3_closeSum_0 : decode cX3_closeSum 0 = .ok (.aload_n 0, 1) := by decide +kernel
theorem dX3_closeSum_1 : decode cX3_closeSum 1 = .ok (.invokevirtual 65, 3) := by decide +kernel
theorem dX3_closeSum_4 : decode cX3_closeSum 4 = .ok (.iconst 0, 1) := by decide +kernel
theorem dX3_closeSum_5 : decode cX3_closeSum 5 = .ok (.istore_n 3, 1) := by decide +kernel
theorem dX3_closeSum_6 : decode cX3_closeSum 6 = .ok (.iload_n 3, 1) := by decide +kernel
theorem dX3_closeSum_7 : decode cX3_closeSum 7 = .ok (.aload_n 1, 1) := by decide +kernel
theorem dX3_closeSum_8 : decode cX3_closeSum 8 = .ok (.getfield 42, 3) := by decide +kernel
theorem dX3_closeSum_11 : decode cX3_closeSum 11 = .ok (.if_icmp .ge 55, 3) := by decide +kernel
theorem dX3_closeSum_14 : decode cX3_closeSum 14 = .ok (.iconst 0, 1) := by decide +kernel
theorem dX3_closeSum_15 : decode cX3_closeSum 15 = .ok (.istore 4, 2) := by decide +kernel
theorem dX3_closeSum_17 : decode cX3_closeSum 17 = .ok (.iload 4, 2) := by decide +kernel
theorem dX3_closeSum_19 : decode cX3_closeSum 19 = .ok (.aload_n 2, 1) := by decide +kernel
theorem dX3_closeSum_20 : decode cX3_closeSum 20 = .ok (.getfield 42, 3) := by decide +kernel
theorem dX3_closeSum_23 : decode cX3_closeSum 23 = .ok (.if_icmp .ge 37, 3) := by decide +kernel
theorem dX3_closeSum_26 : decode cX3_closeSum 26 = .ok (.aload_n 0, 1) := by decide +kernel
theorem dX3_closeSum_27 : decode cX3_closeSum 27 = .ok (.aload_n 1, 1) := by decide +kernel
theorem dX3_closeSum_28 : decode cX3_closeSum 28 = .ok (.iload_n 3, 1) := by decide +kernel
theorem dX3_closeSum_29 : decode cX3_closeSum 29 = .ok (.invokevirtual 46, 3) := by decide +kernel
theorem dX3_closeSum_32 : decode cX3_closeSum 32 = .ok (.aload_n 2, 1) := by decide +kernel
theorem dX3_closeSum_33 : decode cX3_closeSum 33 = .ok (.iload 4, 2) := by decide +kernel
theorem dX3_closeSum_35 : decode cX3_closeSum 35 = .ok (.invokevirtual 46, 3) := by decide +kernel
theorem dX3_closeSum_38 : decode cX3_closeSum 38 = .ok (.iadd, 1) := by decide +kernel
theorem dX3_closeSum_39 : decode cX3_closeSum 39 = .ok (.aload_n 1, 1) := by decide +kernel
theorem dX3_closeSum_40 : decode cX3_closeSum 40 = .ok (.iload_n 3, 1) := by decide +kernel
theorem dX3_closeSum_41 : decode cX3_closeSum 41 = .ok (.invokevirtual 50, 3) := by decide +kernel
theorem dX3_closeSum_44 : decode cX3_closeSum 44 = .ok (.aload_n 2, 1) := by decide +kernel
theorem dX3_closeSum_45 : decode cX3_closeSum 45 = .ok (.iload 4, 2) := by decide +kernel
theorem dX3_closeSum_47 : decode cX3_closeSum 47 = .ok (.invokevirtual 50, 3) := by decide +kernel
theorem dX3_closeSum_50 : decode cX3_closeSum 50 = .ok (.iadd, 1) := by decide +kernel
theorem dX3_closeSum_51 : decode cX3_closeSum 51 = .ok (.invokevirtual 53, 3) := by decide +kernel
theorem dX3_closeSum_54 : decode cX3_closeSum 54 = .ok (.iinc 4 1, 3) := by decide +kernel
theorem dX3_closeSum_57 : decode cX3_closeSum 57 = .ok (.goto (-40), 3) := by decide +kernel
theorem dX3_closeSum_60 : decode cX3_closeSum 60 = .ok (.iinc 3 1, 3) := by decide +kernel
theorem dX3_closeSum_63 : decode cX3_closeSum 63 = .ok (.goto (-57), 3) := by decide +kernel
theorem dX3_closeSum_66 : decode cX3_closeSum 66 = .ok (.aload_n 0, 1) := by decide +kernel
theorem dX3_closeSum_67 : decode cX3_closeSum 67 = .ok (.invokevirtual 68, 3) := by decide +kernel
theorem dX3_closeSum_70 : decode cX3_closeSum 70 = .ok (.return_, 1) := by decide +kernel
theorem dX3_isLast_0 : decode cX3_isLast 0 = .ok (.aload_n 0, 1) := by decide +kernel
theorem dX3_isLast_1 : decode cX3_isLast 1 = .ok (.getfield 23, 3) := by decide +kernel
theorem dX3_isLast_4 : decode cX3_isLast 4 = .ok (.getfield 42, 3) := by decide +kernel
theorem dX3_isLast_7 : decode cX3_isLast 7 = .ok (.ifCond .le 47, 3) := by decide +kernel
theorem dX3_isLast_10 : decode cX3_isLast 10 = .ok (.aload_n 0, 1) := by decide +kernel
theorem dX3_isLast_11 : decode cX3_isLast 11 = .ok (.getfield 23, 3) := by decide +kernel
theorem dX3_isLast_14 : decode cX3_isLast 14 = .ok (.aload_n 0, 1) := by decide +kernel
theorem dX3_isLast_15 : decode cX3_isLast 15 = .ok (.getfield 23, 3) := by decide +kernel
theorem dX3_isLast_18 : decode cX3_isLast 18 = .ok (.getfield 42, 3) := by decide +kernel
theorem dX3_isLast_21 : decode cX3_isLast 21 = .ok (.iconst 1, 1) := by decide +kernel
theorem dX3_isLast_22 : decode cX3_isLast 22 = .ok (.isub, 1) := by decide +kernel
theorem dX3_isLast_23 : decode cX3_isLast 23 = .ok (.invokevirtual 46, 3) := by decide +kernel
theorem dX3_isLast_26 : decode cX3_isLast 26 = .ok (.iload_n 1, 1) := by decide +kernel
theorem dX3_isLast_27 : decode cX3_isLast 27 = .ok (.if_icmp .ne 27, 3) := by decide +kernel
theorem dX3_isLast_30 : decode cX3_isLast 30 = .ok (.aload_n 0, 1) := by decide +kernel
theorem dX3_isLast_31 : decode cX3_isLast 31 = .ok (.getfield 23, 3) := by decide +kernel
theorem dX3_isLast_34 : decode cX3_isLast 34 = .ok (.aload_n 0, 1) := by decide +kernel
theorem dX3_isLast_35 : decode cX3_isLast 35 = .ok (.getfield 23, 3) := by decide +kernel
theorem dX3_isLast_38 : decode cX3_isLast 38 = .ok (.getfield 42, 3) := by decide +kernel
theorem dX3_isLast_41 : decode cX3_isLast 41 = .ok (.iconst 1, 1) := by decide +kernel
theorem dX3_isLast_42 : decode cX3_isLast 42 = .ok (.isub, 1) := by decide +kernel
theorem dX3_isLast_43 : decode cX3_isLast 43 = .ok (.invokevirtual 50, 3) := by decide +kernel
theorem dX3_isLast_46 : decode cX3_isLast 46 = .ok (.iload_n 2, 1) := by decide +kernel
theorem dX3_isLast_47 : decode cX3_isLast 47 = .ok (.if_icmp .ne 7, 3) := by decide +kernel
theorem dX3_isLast_50 : decode cX3_isLast 50 = .ok (.iconst 1, 1) := by decide +kernel
theorem dX3_isLast_51 : decode cX3_isLast 51 = .ok (.goto 4, 3) := by decide +kernel
theorem dX3_isLast_54 : decode cX3_isLast 54 = .ok (.iconst 0, 1) := by decide +kernel
theorem dX3_isLast_55 : decode cX3_isLast 55 = .ok (.ireturn, 1) := by decide +kernel
theorem dX3_push_0 : decode cX3_push 0 = .ok (.aload_n 0, 1) := by decide +kernel
theorem dX3_push_1 : decode cX3_push 1 = .ok (.iload_n 1, 1) := by decide +kernel
theorem dX3_push_2 : decode cX3_push 2 = .ok (.iload_n 2, 1) := by decide +kernel
theorem dX3_push_3 : decode cX3_push 3 = .ok (.invokevirtual 61, 3) := by decide +kernel
theorem dX3_push_6 : decode cX3_push 6 = .ok (.ifCond .eq 4, 3) := by decide +kernel
theorem dX3_push_9 : decode cX3_push 9 = .ok (.return_, 1) := by decide +kernel
theorem dX3_push_10 : decode cX3_push 10 = .ok (.aload_n 0, 1) := by decide +kernel
theorem dX3_push_11 : decode cX3_push 11 = .ok (.getfield 23, 3) := by decide +kernel
theorem dX3_push_14 : decode cX3_push 14 = .ok (.getfield 42, 3) := by decide +kernel
theorem dX3_push_17 : decode cX3_push 17 = .ok (.iload_n 3, 1) := by decide +kernel
theorem dX3_push_18 : decode cX3_push 18 = .ok (.isub, 1) := by decide +kernel
theorem dX3_push_19 : decode cX3_push 19 = .ok (.iconst 2, 1) := by decide +kernel
theorem dX3_push_20 : decode cX3_push 20 = .ok (.if_icmp .lt 28, 3) := by decide +kernel
theorem dX3_push_23 : decode cX3_push 23 = .ok (.aload_n 0, 1) := by decide +kernel
theorem dX3_push_24 : decode cX3_push 24 = .ok (.iload_n 1, 1) := by decide +kernel
theorem dX3_push_25 : decode cX3_push 25 = .ok (.iload_n 2, 1) := by decide +kernel
theorem dX3_push_26 : decode cX3_push 26 = .ok (.invokevirtual 71, 3) := by decide +kernel
theorem dX3_push_29 : decode cX3_push 29 = .ok (.ifCond .ne 19, 3) := by decide +kernel
theorem dX3_push_32 : decode cX3_push 32 = .ok (.aload_n 0, 1) := by decide +kernel
theorem dX3_push_33 : decode cX3_push 33 = .ok (.getfield 23, 3) := by decide +kernel
theorem dX3_push_36 : decode cX3_push 36 = .ok (.dup, 1) := by decide +kernel
theorem dX3_push_37 : decode cX3_push 37 = .ok (.getfield 42, 3) := by decide +kernel
theorem dX3_push_40 : decode cX3_push 40 = .ok (.iconst 1, 1) := by decide +kernel
theorem dX3_push_41 : decode cX3_push 41 = .ok (.isub, 1) := by decide +kernel
theorem dX3_push_42 : decode cX3_push 42 = .ok (.putfield 42, 3) := by decide +kernel
theorem dX3_push_45 : decode cX3_push 45 = .ok (.goto (-35), 3) := by decide +kernel
theorem dX3_push_48 : decode cX3_push 48 = .ok (.aload_n 0, 1) := by decide +kernel
theorem dX3_push_49 : decode cX3_push 49 = .ok (.getfield 23, 3) := by decide +kernel
theorem dX3_push_52 : decode cX3_push 52 = .ok (.iload_n 1, 1) := by decide +kernel
theorem dX3_push_53 : decode cX3_push 53 = .ok (.iload_n 2, 1) := by decide +kernel
theorem dX3_push_54 : decode cX3_push 54 = .ok (.invokevirtual 74, 3) := by decide +kernel
theorem dX3_push_57 : decode cX3_push 57 = .ok (.return_, 1) := by decide +kernel
theorem dX3_turnsLeft_0 : decode cX3_turnsLeft 0 = .ok (.aload_n 0, 1) := by decide +kernel
theorem dX3_turnsLeft_1 : decode cX3_turnsLeft 1 = .ok (.getfield 23, 3) := by decide +kernel
theorem dX3_turnsLeft_4 : decode cX3_turnsLeft 4 = .ok (.getfield 42, 3) := by decide +kernel
theorem dX3_turnsLeft_7 : decode cX3_turnsLeft 7 = .ok (.iconst 1, 1) := by decide +kernel
theorem dX3_turnsLeft_8 : decode cX3_turnsLeft 8 = .ok (.isub, 1) := by decide +kernel
theorem dX3_turnsLeft_9 : decode cX3_turnsLeft 9 = .ok (.istore_n 3, 1) := by decide +kernel
theorem dX3_turnsLeft_10 : decode cX3_turnsLeft 10 = .ok (.aload_n 0, 1) := by decide +kernel
theorem dX3_turnsLeft_11 : decode cX3_turnsLeft 11 = .ok (.getfield 23, 3) := by decide +kernel
theorem dX3_turnsLeft_14 : decode cX3_turnsLeft 14 = .ok (.iload_n 3, 1) := by decide +kernel
theorem dX3_turnsLeft_15 : decode cX3_turnsLeft 15 = .ok (.invokevirtual 46, 3) := by decide +kernel
theorem dX3_turnsLeft_18 : decode cX3_turnsLeft 18 = .ok (.aload_n 0, 1) := by decide +kernel
theorem dX3_turnsLeft_19 : decode cX3_turnsLeft 19 = .ok (.getfield 23, 3) := by decide +kernel
theorem dX3_turnsLeft_22 : decode cX3_turnsLeft 22 = .ok (.iload_n 3, 1) := by decide +kernel
theorem dX3_turnsLeft_23 : decode cX3_turnsLeft 23 = .ok (.iconst 1, 1) := by decide +kernel
theorem dX3_turnsLeft_24 : decode cX3_turnsLeft 24 = .ok (.isub, 1) := by decide +kernel
theorem dX3_turnsLeft_25 : decode cX3_turnsLeft 25 = .ok (.invokevirtual 46, 3) := by decide +kernel
theorem dX3_turnsLeft_28 : decode cX3_turnsLeft 28 = .ok (.isub, 1) := by decide +kernel
theorem dX3_turnsLeft_29 : decode cX3_turnsLeft 29 = .ok (.istore 4, 2) := by decide +kernel
theorem dX3_turnsLeft_31 : decode cX3_turnsLeft 31 = .ok (.aload_n 0, 1) := by decide +kernel
theorem dX3_turnsLeft_32 : decode cX3_turnsLeft 32 = .ok (.getfield 23, 3) := by decide +kernel
theorem dX3_turnsLeft_35 : decode cX3_turnsLeft 35 = .ok (.iload_n 3, 1) := by decide +kernel
theorem dX3_turnsLeft_36 : decode cX3_turnsLeft 36 = .ok (.invokevirtual 50, 3) := by decide +kernel
theorem dX3_turnsLeft_39 : decode cX3_turnsLeft 39 = .ok (.aload_n 0, 1) := by decide +kernel
theorem dX3_turnsLeft_40 : decode cX3_turnsLeft 40 = .ok (.getfield 23, 3) := by decide +kernel
theorem dX3_turnsLeft_43 : decode cX3_turnsLeft 43 = .ok (.iload_n 3, 1) := by decide +kernel
theorem dX3_turnsLeft_44 : decode cX3_turnsLeft 44 = .ok (.iconst 1, 1) := by decide +kernel
theorem dX3_turnsLeft_45 : decode cX3_turnsLeft 45 = .ok (.isub, 1) := by decide +kernel
theorem dX3_turnsLeft_46 : decode cX3_turnsLeft 46 = .ok (.invokevirtual 50, 3) := by decide +kernel
theorem dX3_turnsLeft_49 : decode cX3_turnsLeft 49 = .ok (.isub, 1) := by decide +kernel
theorem dX3_turnsLeft_50 : decode cX3_turnsLeft 50 = .ok (.istore 5, 2) := by decide +kernel
theorem dX3_turnsLeft_52 : decode cX3_turnsLeft 52 = .ok (.iload 4, 2) := by decide +kernel
theorem dX3_turnsLeft_54 : decode cX3_turnsLeft 54 = .ok (.iload_n 2, 1) := by decide +kernel
theorem dX3_turnsLeft_55 : decode cX3_turnsLeft 55 = .ok (.aload_n 0, 1) := by decide +kernel
theorem dX3_turnsLeft_56 : decode cX3_turnsLeft 56 = .ok (.getfield 23, 3) := by decide +kernel
theorem dX3_turnsLeft_59 : decode cX3_turnsLeft 59 = .ok (.iload_n 3, 1) := by decide +kernel
theorem dX3_turnsLeft_60 : decode cX3_turnsLeft 60 = .ok (.invokevirtual 50, 3) := by decide +kernel
theorem dX3_turnsLeft_63 : decode cX3_turnsLeft 63 = .ok (.isub, 1) := by decide +kernel
theorem dX3_turnsLeft_64 : decode cX3_turnsLeft 64 = .ok (.imul, 1) := by decide +kernel
theorem dX3_turnsLeft_65 : decode cX3_turnsLeft 65 = .ok (.iload 5, 2) := by decide +kernel
theorem dX3_turnsLeft_67 : decode cX3_turnsLeft 67 = .ok (.iload_n 1, 1) := by decide +kernel
theorem dX3_turnsLeft_68 : decode cX3_turnsLeft 68 = .ok (.aload_n 0, 1) := by decide +kernel
theorem dX3_turnsLeft_69 : decode cX3_turnsLeft 69 = .ok (.getfield 23, 3) := by decide +kernel
theorem dX3_turnsLeft_72 : decode cX3_turnsLeft 72 = .ok (.iload_n 3, 1) := by decide +kernel
theorem dX3_turnsLeft_73 : decode cX3_turnsLeft 73 = .ok (.invokevirtual 46, 3) := by decide +kernel
theorem dX3_turnsLeft_76 : decode cX3_turnsLeft 76 = .ok (.isub, 1) := by decide +kernel
theorem dX3_turnsLeft_77 : decode cX3_turnsLeft 77 = .ok (.imul, 1) := by decide +kernel
theorem dX3_turnsLeft_78 : decode cX3_turnsLeft 78 = .ok (.isub, 1) := by decide +kernel
theorem dX3_turnsLeft_79 : decode cX3_turnsLeft 79 = .ok (.ifCond .le 7, 3) := by decide +kernel
theorem dX3_turnsLeft_82 : decode cX3_turnsLeft 82 = .ok (.iconst 1, 1) := by decide +kernel
theorem dX3_turnsLeft_83 : decode cX3_turnsLeft 83 = .ok (.goto 4, 3) := by decide +kernel
theorem dX3_turnsLeft_86 : decode cX3_turnsLeft 86 = .ok (.iconst 0, 1) := by decide +kernel
theorem dX3_turnsLeft_87 : decode cX3_turnsLeft 87 = .ok (.ireturn, 1) := by decide +kernel
theorem dX4_init_0 : decode cX4_init 0 = .ok (.aload_n 0, 1) := by decide +kernel
theorem dX4_init_1 : decode cX4_init 1 = .ok (.invokespecial 1, 3) := by decide +kernel
theorem dX4_init_4 : decode cX4_init 4 = .ok (.return_, 1) := by decide +kernel
theorem dX4_find_0 : decode cX4_find 0 = .ok (.aload_n 0, 1) := by decide +kernel
theorem dX4_find_1 : decode cX4_find 1 = .ok (.iconst 0, 1) := by decide +kernel
theorem dX4_find_2 : decode cX4_find 2 = .ok (.putfield 7, 3) := by decide +kernel
theorem dX4_find_5 : decode cX4_find 5 = .ok (.aload_n 0, 1) := by decide +kernel
theorem dX4_find_6 : decode cX4_find 6 = .ok (.iconst 1, 1) := by decide +kernel
theorem dX4_find_7 : decode cX4_find 7 = .ok (.putfield 13, 3) := by decide +kernel
theorem dX4_find_10 : decode cX4_find 10 = .ok (.aload_n 0, 1) := by decide +kernel
theorem dX4_find_11 : decode cX4_find 11 = .ok (.aload_n 1, 1) := by decide +kernel
theorem dX4_find_12 : decode cX4_find 12 = .ok (.iconst 0, 1) := by decide +kernel
theorem dX4_find_13 : decode cX4_find 13 = .ok (.iconst 1, 1) := by decide +kernel
theorem dX4_find_14 : decode cX4_find 14 = .ok (.invokevirtual 16, 3) := by decide +kernel
theorem dX4_find_17 : decode cX4_find 17 = .ok (.putfield 22, 3) := by decide +kernel
theorem dX4_find_20 : decode cX4_find 20 = .ok (.aload_n 0, 1) := by decide +kernel
theorem dX4_find_21 : decode cX4_find 21 = .ok (.aload_n 1, 1) := by decide +kernel
theorem dX4_find_22 : decode cX4_find 22 = .ok (.iconst 1, 1) := by decide +kernel
theorem dX4_find_23 : decode cX4_find 23 = .ok (.iconst 0, 1) := by decide +kernel
theorem dX4_find_24 : decode cX4_find 24 = .ok (.invokevirtual 24, 3) := by decide +kernel
theorem dX4_find_27 : decode cX4_find 27 = .ok (.aload_n 1, 1) := by decide +kernel
theorem dX4_find_28 : decode cX4_find 28 = .ok (.iconst 0, 1) := by decide +kernel
theorem dX4_find_29 : decode cX4_find 29 = .ok (.invokevirtual 28, 3) := by decide +kernel
theorem dX4_find_32 : decode cX4_find 32 = .ok (.istore_n 2, 1) := by decide +kernel
theorem dX4_find_33 : decode cX4_find 33 = .ok (.aload_n 1, 1) := by decide +kernel
theorem dX4_find_34 : decode cX4_find 34 = .ok (.iconst 0, 1) := by decide +kernel
theorem dX4_find_35 : decode cX4_find 35 = .ok (.invokevirtual 32, 3) := by decide +kernel
theorem dX4_find_38 : decode cX4_find 38 = .ok (.istore_n 3, 1) := by decide +kernel
theorem dX4_find_39 : decode cX4_find 39 = .ok (.aload_n 1, 1) := by decide +kernel
theorem dX4_find_40 : decode cX4_find 40 = .ok (.aload_n 1, 1) := by decide +kernel
theorem dX4_find_41 : decode cX4_find 41 = .ok (.getfield 35, 3) := by decide +kernel
theorem dX4_find_44 : decode cX4_find 44 = .ok (.iconst 1, 1) := by decide +kernel
theorem dX4_find_45 : decode cX4_find 45 = .ok (.isub, 1) := by decide +kernel
theorem dX4_find_46 : decode cX4_find 46 = .ok (.invokevirtual 38, 3) := by decide +kernel
theorem dX4_find_49 : decode cX4_find 49 = .ok (.aload_n 1, 1) := by decide +kernel
theorem dX4_find_50 : decode cX4_find 50 = .ok (.iconst 0, 1) := by decide +kernel
theorem dX4_find_51 : decode cX4_find 51 = .ok (.invokevirtual 38, 3) := by decide +kernel
theorem dX4_find_54 : decode cX4_find 54 = .ok (.isub, 1) := by decide +kernel
theorem dX4_find_55 : decode cX4_find 55 = .ok (.istore 4, 2) := by decide +kernel
theorem dX4_find_57 : decode cX4_find 57 = .ok (.aload_n 1, 1) := by decide +kernel
theorem dX4_find_58 : decode cX4_find 58 = .ok (.aload_n 1, 1) := by decide +kernel
theorem dX4_find_59 : decode cX4_find 59 = .ok (.getfield 35, 3) := by decide +kernel
theorem dX4_find_62 : decode cX4_find 62 = .ok (.iconst 1, 1) := by decide +kernel
theorem dX4_find_63 : decode cX4_find 63 = .ok (.isub, 1) := by decide +kernel
theorem dX4_find_64 : decode cX4_find 64 = .ok (.invokevirtual 41, 3) := by decide +kernel
theorem dX4_find_67 : decode cX4_find 67 = .ok (.aload_n 1, 1) := by decide +kernel
theorem dX4_find_68 : decode cX4_find 68 = .ok (.iconst 0, 1) := by decide +kernel
theorem dX4_find_69 : decode cX4_find 69 = .ok (.invokevirtual 41, 3) := by decide +kernel
theorem dX4_find_72 : decode cX4_find 72 = .ok (.isub, 1) := by decide +kernel
theorem dX4_find_73 : decode cX4_find 73 = .ok (.istore 5, 2) := by decide +kernel
theorem dX4_find_75 : decode cX4_find 75 = .ok (.iload_n 2, 1) := by decide +kernel
theorem dX4_find_76 : decode cX4_find 76 = .ok (.iload 5, 2) := by decide +kernel
theorem dX4_find_78 : decode cX4_find 78 = .ok (.imul, 1) := by decide +kernel
theorem dX4_find_79 : decode cX4_find 79 = .ok (.iload_n 3, 1) := by decide +kernel
theorem dX4_find_80 : decode cX4_find 80 = .ok (.iload 4, 2) := by decide +kernel
theorem dX4_find_82 : decode cX4_find 82 = .ok (.imul, 1) := by decide +kernel
theorem dX4_find_83 : decode cX4_find 83 = .ok (.isub, 1) := by decide +kernel
theorem dX4_find_84 : decode cX4_find 84 = .ok (.istore 6, 2) := by decide +kernel
theorem dX4_find_86 : decode cX4_find 86 = .ok (.iload 6, 2) := by decide +kernel
theorem dX4_find_88 : decode cX4_find 88 = .ok (.ifCond .ne 4, 3) := by decide +kernel
theorem dX4_find_91 : decode cX4_find 91 = .ok (.return_, 1) := by decide +kernel
theorem dX4_find_92 : decode cX4_find 92 = .ok (.iconst 0, 1) := by decide +kernel
theorem dX4_find_93 : decode cX4_find 93 = .ok (.istore 7, 2) := by decide +kernel
theorem dX4_find_95 : decode cX4_find 95 = .ok (.iload 7, 2) := by decide +kernel
theorem dX4_find_97 : decode cX4_find 97 = .ok (.aload_n 0, 1) := by decide +kernel
theorem dX4_find_98 : decode cX4_find 98 = .ok (.getfield 22, 3) := by decide +kernel
theorem dX4_find_101 : decode cX4_find 101 = .ok (.if_icmp .gt 86, 3) := by decide +kernel
theorem dX4_find_104 : decode cX4_find 104 = .ok (.aload_n 0, 1) := by decide +kernel
theorem dX4_find_105 : decode cX4_find 105 = .ok (.getfield 22, 3) := by decide +kernel
theorem dX4_find_108 : decode cX4_find 108 = .ok (.ineg, 1) := by decide +kernel
theorem dX4_find_109 : decode cX4_find 109 = .ok (.istore 8, 2) := by decide +kernel
theorem dX4_find_111 : decode cX4_find 111 = .ok (.iload 8, 2) := by decide +kernel
theorem dX4_find_113 : decode cX4_find 113 = .ok (.aload_n 0, 1) := by decide +kernel
theorem dX4_find_114 : decode cX4_find 114 = .ok (.getfield 22, 3) := by decide +kernel
theorem dX4_find_117 : decode cX4_find 117 = .ok (.if_icmp .gt 64, 3) := by decide +kernel
theorem dX4_find_120 : decode cX4_find 120 = .ok (.iload 7, 2) := by decide +kernel
theorem dX4_find_122 : decode cX4_find 122 = .ok (.iload 5, 2) := by decide +kernel
theorem dX4_find_124 : decode cX4_find 124 = .ok (.imul, 1) := by decide +kernel
theorem dX4_find_125 : decode cX4_find 125 = .ok (.iload 8, 2) := by decide +kernel
theorem dX4_find_127 : decode cX4_find 127 = .ok (.iload_n 3, 1) := by decide +kernel
theorem dX4_find_128 : decode cX4_find 128 = .ok (.imul, 1) := by decide +kernel
theorem dX4_find_129 : decode cX4_find 129 = .ok (.isub, 1) := by decide +kernel
theorem dX4_find_130 : decode cX4_find 130 = .ok (.istore 9, 2) := by decide +kernel
theorem dX4_find_132 : decode cX4_find 132 = .ok (.iload 8, 2) := by decide +kernel
theorem dX4_find_134 : decode cX4_find 134 = .ok (.iload_n 2, 1) := by decide +kernel
theorem dX4_find_135 : decode cX4_find 135 = .ok (.imul, 1) := by decide +kernel
theorem dX4_find_136 : decode cX4_find 136 = .ok (.iload 7, 2) := by decide +kernel
theorem dX4_find_138 : decode cX4_find 138 = .ok (.iload 4, 2) := by decide +kernel
theorem dX4_find_140 : decode cX4_find 140 = .ok (.imul, 1) := by decide +kernel
theorem dX4_find_141 : decode cX4_find 141 = .ok (.isub, 1) := by decide +kernel
theorem dX4_find_142 : decode cX4_find 142 = .ok (.istore 10, 2) := by decide +kernel
theorem dX4_find_144 : decode cX4_find 144 = .ok (.iload 9, 2) := by decide +kernel
theorem dX4_find_146 : decode cX4_find 146 = .ok (.iload 6, 2) := by decide +kernel
theorem dX4_find_148 : decode cX4_find 148 = .ok (.irem, 1) := by decide +kernel
theorem dX4_find_149 : decode cX4_find 149 = .ok (.ifCond .ne 26, 3) := by decide +kernel
theorem dX4_find_152 : decode cX4_find 152 = .ok (.iload 10, 2) := by decide +kernel
theorem dX4_find_154 : decode cX4_find 154 = .ok (.iload 6, 2) := by decide +kernel
theorem dX4_find_156 : decode cX4_find 156 = .ok (.irem, 1) := by decide +kernel
theorem dX4_find_157 : decode cX4_find 157 = .ok (.ifCond .ne 18, 3) := by decide +kernel
theorem dX4_find_160 : decode cX4_find 160 = .ok (.aload_n 0, 1) := by decide +kernel
theorem dX4_find_161 : decode cX4_find 161 = .ok (.aload_n 1, 1) := by decide +kernel
theorem dX4_find_162 : decode cX4_find 162 = .ok (.iload 9, 2) := by decide +kernel
theorem dX4_find_164 : decode cX4_find 164 = .ok (.iload 6, 2) := by decide +kernel
theorem dX4_find_166 : decode cX4_find 166 = .ok (.idiv, 1) := by decide +kernel
theorem dX4_find_167 : decode cX4_find 167 = .ok (.iload 10, 2) := by decide +kernel
theorem dX4_find_169 : decode cX4_find 169 = .ok (.iload 6, 2) := by decide +kernel
theorem dX4_find_171 : decode cX4_find 171 = .ok (.idiv, 1) := by decide +kernel
theorem dX4_find_172 : decode cX4_find 172 = .ok (.invokevirtual 24, 3) := by decide +kernel
theorem dX4_find_175 : decode cX4_find 175 = .ok (.iinc 8 1, 3) := by decide +kernel
theorem dX4_find_178 : decode cX4_find 178 = .ok (.goto (-67), 3) := by decide +kernel
theorem dX4_find_181 : decode cX4_find 181 = .ok (.iinc 7 1, 3) := by decide +kernel
theorem dX4_find_184 : decode cX4_find 184 = .ok (.goto (-89), 3) := by decide +kernel
theorem dX4_find_187 : decode cX4_find 187 = .ok (.return_, 1) := by decide +kernel
theorem dX4_weigh_0 : decode cX4_weigh 0 = .ok (.iload_n 2, 1) := by decide +kernel
theorem dX4_weigh_1 : decode cX4_weigh 1 = .ok (.ifCond .ne 8, 3) := by decide +kernel
theorem dX4_weigh_4 : decode cX4_weigh 4 = .ok (.iload_n 3, 1) := by decide +kernel
theorem dX4_weigh_5 : decode cX4_weigh 5 = .ok (.ifCond .ne 4, 3) := by decide +kernel
theorem dX4_weigh_8 : decode cX4_weigh 8 = .ok (.return_, 1) := by decide +kernel
theorem dX4_weigh_9 : decode cX4_weigh 9 = .ok (.iload_n 2, 1) := by decide +kernel
theorem dX4_weigh_10 : decode cX4_weigh 10 = .ok (.ifCond .gt 11, 3) := by decide +kernel
theorem dX4_weigh_13 : decode cX4_weigh 13 = .ok (.iload_n 2, 1) := by decide +kernel
theorem dX4_weigh_14 : decode cX4_weigh 14 = .ok (.ifCond .ne 11, 3) := by decide +kernel
theorem dX4_weigh_17 : decode cX4_weigh 17 = .ok (.iload_n 3, 1) := by decide +kernel
theorem dX4_weigh_18 : decode cX4_weigh 18 = .ok (.ifCond .le 7, 3) := by decide +kernel
theorem dX4_weigh_21 : decode cX4_weigh 21 = .ok (.iconst 1, 1) := by decide +kernel
theorem dX4_weigh_22 : decode cX4_weigh 22 = .ok (.goto 4, 3) := by decide +kernel
theorem dX4_weigh_25 : decode cX4_weigh 25 = .ok (.iconst 0, 1) := by decide +kernel
theorem dX4_weigh_26 : decode cX4_weigh 26 = .ok (.istore 4, 2) := by decide +kernel
theorem dX4_weigh_28 : decode cX4_weigh 28 = .ok (.iload 4, 2) := by decide +kernel
theorem dX4_weigh_30 : decode cX4_weigh 30 = .ok (.ifCond .eq 7, 3) := by decide +kernel
theorem dX4_weigh_33 : decode cX4_weigh 33 = .ok (.iload_n 2, 1) := by decide +kernel
theorem dX4_weigh_34 : decode cX4_weigh 34 = .ok (.goto 5, 3) := by decide +kernel
theorem dX4_weigh_37 : decode cX4_weigh 37 = .ok (.iload_n 2, 1) := by decide +kernel
theorem dX4_weigh_38 : decode cX4_weigh 38 = .ok (.ineg, 1) := by decide +kernel
theorem dX4_weigh_39 : decode cX4_weigh 39 = .ok (.istore 5, 2) := by decide +kernel
theorem dX4_weigh_41 : decode cX4_weigh 41 = .ok (.iload 4, 2) := by decide +kernel
theorem dX4_weigh_43 : decode cX4_weigh 43 = .ok (.ifCond .eq 7, 3) := by decide +kernel
theorem dX4_weigh_46 : decode cX4_weigh 46 = .ok (.iload_n 3, 1) := by decide +kernel
theorem dX4_weigh_47 : decode cX4_weigh 47 = .ok (.goto 5, 3) := by decide +kernel
theorem dX4_weigh_50 : decode cX4_weigh 50 = .ok (.iload_n 3, 1) := by decide +kernel
theorem dX4_weigh_51 : decode cX4_weigh 51 = .ok (.ineg, 1) := by decide +kernel
theorem dX4_weigh_52 : decode cX4_weigh 52 = .ok (.istore 6, 2) := by decide +kernel
theorem dX4_weigh_54 : decode cX4_weigh 54 = .ok (.aload_n 1, 1) := by decide +kernel
theorem dX4_weigh_55 : decode cX4_weigh 55 = .ok (.iload 5, 2) := by decide +kernel
theorem dX4_weigh_57 : decode cX4_weigh 57 = .ok (.iload 6, 2) := by decide +kernel
theorem dX4_weigh_59 : decode cX4_weigh 59 = .ok (.invokevirtual 16, 3) := by decide +kernel
theorem dX4_weigh_62 : decode cX4_weigh 62 = .ok (.istore 7, 2) := by decide +kernel
theorem dX4_weigh_64 : decode cX4_weigh 64 = .ok (.iload 7, 2) := by decide +kernel
theorem dX4_weigh_66 : decode cX4_weigh 66 = .ok (.aload_n 0, 1) := by decide +kernel
theorem dX4_weigh_67 : decode cX4_weigh 67 = .ok (.getfield 22, 3) := by decide +kernel
theorem dX4_weigh_70 : decode cX4_weigh 70 = .ok (.if_icmp .lt 39, 3) := by decide +kernel
theorem dX4_weigh_73 : decode cX4_weigh 73 = .ok (.iload 7, 2) := by decide +kernel
theorem dX4_weigh_75 : decode cX4_weigh 75 = .ok (.aload_n 0, 1) := by decide +kernel
theorem dX4_weigh_76 : decode cX4_weigh 76 = .ok (.getfield 22, 3) := by decide +kernel
theorem dX4_weigh_79 : decode cX4_weigh 79 = .ok (.if_icmp .ne 48, 3) := by decide +kernel
theorem dX4_weigh_82 : decode cX4_weigh 82 = .ok (.iload 5, 2) := by decide +kernel
theorem dX4_weigh_84 : decode cX4_weigh 84 = .ok (.aload_n 0, 1) := by decide +kernel
theorem dX4_weigh_85 : decode cX4_weigh 85 = .ok (.getfield 7, 3) := by decide +kernel
theorem dX4_weigh_88 : decode cX4_weigh 88 = .ok (.if_icmp .lt 21, 3) := by decide +kernel
theorem dX4_weigh_91 : decode cX4_weigh 91 = .ok (.iload 5, 2) := by decide +kernel
theorem dX4_weigh_93 : decode cX4_weigh 93 = .ok (.aload_n 0, 1) := by decide +kernel
theorem dX4_weigh_94 : decode cX4_weigh 94 = .ok (.getfield 7, 3) := by decide +kernel
theorem dX4_weigh_97 : decode cX4_weigh 97 = .ok (.if_icmp .ne 30, 3) := by decide +kernel
theorem dX4_weigh_100 : decode cX4_weigh 100 = .ok (.iload 6, 2) := by decide +kernel
theorem dX4_weigh_102 : decode cX4_weigh 102 = .ok (.aload_n 0, 1) := by decide +kernel
theorem dX4_weigh_103 : decode cX4_weigh 103 = .ok (.getfield 13, 3) := by decide +kernel
theorem dX4_weigh_106 : decode cX4_weigh 106 = .ok (.if_icmp .ge 21, 3) := by decide +kernel
theorem dX4_weigh_109 : decode cX4_weigh 109 = .ok (.aload_n 0, 1) := by decide +kernel
theorem dX4_weigh_110 : decode cX4_weigh 110 = .ok (.iload 7, 2) := by decide +kernel
theorem dX4_weigh_112 : decode cX4_weigh 112 = .ok (.putfield 22, 3) := by decide +kernel
theorem dX4_weigh_115 : decode cX4_weigh 115 = .ok (.aload_n 0, 1) := by decide +kernel
theorem dX4_weigh_116 : decode cX4_weigh 116 = .ok (.iload 5, 2) := by decide +kernel
theorem dX4_weigh_118 : decode cX4_weigh 118 = .ok (.putfield 7, 3) := by decide +kernel
theorem dX4_weigh_121 : decode cX4_weigh 121 = .ok (.aload_n 0, 1) := by decide +kernel
theorem dX4_weigh_122 : decode cX4_weigh 122 = .ok (.iload 6, 2) := by decide +kernel
theorem dX4_weigh_124 : decode cX4_weigh 124 = .ok (.putfield 13, 3) := by decide +kernel
theorem dX4_weigh_127 : decode cX4_weigh 127 = .ok (.return_, 1) := by decide +kernel
theorem dX5_init_0 : decode cX5_init 0 = .ok (.aload_n 0, 1) := by decide +kernel
theorem dX5_init_1 : decode cX5_init 1 = .ok (.invokespecial 5, 3) := by decide +kernel
theorem dX5_init_4 : decode cX5_init 4 = .ok (.aload_n 0, 1) := by decide +kernel
theorem dX5_init_5 : decode cX5_init 5 = .ok (.new 11, 3) := by decide +kernel
theorem dX5_init_8 : decode cX5_init 8 = .ok (.dup, 1) := by decide +kernel
theorem dX5_init_9 : decode cX5_init 9 = .ok (.bipush 12, 2) := by decide +kernel
theorem dX5_init_11 : decode cX5_init 11 = .ok (.invokespecial 13, 3) := by decide +kernel
theorem dX5_init_14 : decode cX5_init 14 = .ok (.putfield 16, 3) := by decide +kernel
theorem dX5_init_17 : decode cX5_init 17 = .ok (.aload_n 0, 1) := by decide +kernel
theorem dX5_init_18 : decode cX5_init 18 = .ok (.bipush 63, 2) := by decide +kernel
theorem dX5_init_20 : decode cX5_init 20 = .ok (.newarray .int, 2) := by decide +kernel
theorem dX5_init_22 : decode cX5_init 22 = .ok (.putfield 20, 3) := by decide +kernel
theorem dX5_init_25 : decode cX5_init 25 = .ok (.aload_n 0, 1) := by decide +kernel
theorem dX5_init_26 : decode cX5_init 26 = .ok (.bipush 63, 2) := by decide +kernel
theorem dX5_init_28 : decode cX5_init 28 = .ok (.newarray .int, 2) := by decide +kernel
theorem dX5_init_30 : decode cX5_init 30 = .ok (.putfield 24, 3) := by decide +kernel
theorem dX5_init_33 : decode cX5_init 33 = .ok (.aload_n 0, 1) := by decide +kernel
theorem dX5_init_34 : decode cX5_init 34 = .ok (.bipush 63, 2) := by decide +kernel
theorem dX5_init_36 : decode cX5_init 36 = .ok (.newarray .long, 2) := by decide +kernel
theorem dX5_init_38 : decode cX5_init 38 = .ok (.putfield 27, 3) := by decide +kernel
theorem dX5_init_41 : decode cX5_init 41 = .ok (.aload_n 0, 1) := by decide +kernel
theorem dX5_init_42 : decode cX5_init 42 = .ok (.sipush 144, 3) := by decide +kernel
theorem dX5_init_45 : decode cX5_init 45 = .ok (.newarray .int, 2) := by decide +kernel
theorem dX5_init_47 : decode cX5_init 47 = .ok (.putfield 31, 3) := by decide +kernel
theorem dX5_init_50 : decode cX5_init 50 = .ok (.aload_n 0, 1) := by decide +kernel
theorem dX5_init_51 : decode cX5_init 51 = .ok (.sipush 756, 3) := by decide +kernel
theorem dX5_init_54 : decode cX5_init 54 = .ok (.newarray .long, 2) := by decide +kernel
theorem dX5_init_56 : decode cX5_init 56 = .ok (.putfield 34, 3) := by decide +kernel
theorem dX5_init_59 : decode cX5_init 59 = .ok (.aload_n 0, 1) := by decide +kernel
theorem dX5_init_60 : decode cX5_init 60 = .ok (.sipush 756, 3) := by decide +kernel
theorem dX5_init_63 : decode cX5_init 63 = .ok (.newarray .long, 2) := by decide +kernel
theorem dX5_init_65 : decode cX5_init 65 = .ok (.putfield 37, 3) := by decide +kernel
theorem dX5_init_68 : decode cX5_init 68 = .ok (.return_, 1) := by decide +kernel
theorem dX5_build_0 : decode cX5_build 0 = .ok (.aload_n 0, 1) := by decide +kernel
theorem dX5_build_1 : decode cX5_build 1 = .ok (.getfield 16, 3) := by decide +kernel
theorem dX5_build_4 : decode cX5_build 4 = .ok (.aload_n 1, 1) := by decide +kernel
theorem dX5_build_5 : decode cX5_build 5 = .ok (.invokevirtual 40, 3) := by decide +kernel
theorem dX5_build_8 : decode cX5_build 8 = .ok (.aload_n 0, 1) := by decide +kernel
theorem dX5_build_9 : decode cX5_build 9 = .ok (.iconst 0, 1) := by decide +kernel
theorem dX5_build_10 : decode cX5_build 10 = .ok (.putfield 44, 3) := by decide +kernel
theorem dX5_build_13 : decode cX5_build 13 = .ok (.aload_n 0, 1) := by decide +kernel
theorem dX5_build_14 : decode cX5_build 14 = .ok (.iconst 0, 1) := by decide +kernel
theorem dX5_build_15 : decode cX5_build 15 = .ok (.putfield 48, 3) := by decide +kernel
theorem dX5_build_18 : decode cX5_build 18 = .ok (.aload_n 0, 1) := by decide +kernel
theorem dX5_build_19 : decode cX5_build 19 = .ok (.getfield 31, 3) := by decide +kernel
theorem dX5_build_22 : decode cX5_build 22 = .ok (.iconst (-1), 1) := by decide +kernel
theorem dX5_build_23 : decode cX5_build 23 = .ok (.invokestatic 51, 3) := by decide +kernel
theorem dX5_build_26 : decode cX5_build 26 = .ok (.iconst 0, 1) := by decide +kernel
theorem dX5_build_27 : decode cX5_build 27 = .ok (.istore_n 2, 1) := by decide +kernel
theorem dX5_build_28 : decode cX5_build 28 = .ok (.iload_n 2, 1) := by decide +kernel
theorem dX5_build_29 : decode cX5_build 29 = .ok (.aload_n 0, 1) := by decide +kernel
theorem dX5_build_30 : decode cX5_build 30 = .ok (.getfield 16, 3) := by decide +kernel
theorem dX5_build_33 : decode cX5_build 33 = .ok (.getfield 56, 3) := by decide +kernel
theorem dX5_build_36 : decode cX5_build 36 = .ok (.if_icmp .ge 77, 3) := by decide +kernel
theorem dX5_build_39 : decode cX5_build 39 = .ok (.iload_n 2, 1) := by decide +kernel
theorem dX5_build_40 : decode cX5_build 40 = .ok (.iconst 1, 1) := by decide +kernel
theorem dX5_build_41 : decode cX5_build 41 = .ok (.iadd, 1) := by decide +kernel
theorem dX5_build_42 : decode cX5_build 42 = .ok (.istore_n 3, 1) := by decide +kernel
theorem dX5_build_43 : decode cX5_build 43 = .ok (.iload_n 3, 1) := by decide +kernel
theorem dX5_build_44 : decode cX5_build 44 = .ok (.aload_n 0, 1) := by decide +kernel
theorem dX5_build_45 : decode cX5_build 45 = .ok (.getfield 16, 3) := by decide +kernel
theorem dX5_build_48 : decode cX5_build 48 = .ok (.getfield 56, 3) := by decide +kernel
theorem dX5_build_51 : decode cX5_build 51 = .ok (.if_icmp .ge 56, 3) := by decide +kernel
theorem dX5_build_54 : decode cX5_build 54 = .ok (.aload_n 0, 1) := by decide +kernel
theorem dX5_build_55 : decode cX5_build 55 = .ok (.getfield 16, 3) := by decide +kernel
theorem dX5_build_58 : decode cX5_build 58 = .ok (.iload_n 3, 1) := by decide +kernel
theorem dX5_build_59 : decode cX5_build 59 = .ok (.invokevirtual 57, 3) := by decide +kernel
theorem dX5_build_62 : decode cX5_build 62 = .ok (.aload_n 0, 1) := by decide +kernel
theorem dX5_build_63 : decode cX5_build 63 = .ok (.getfield 16, 3) := by decide +kernel
theorem dX5_build_66 : decode cX5_build 66 = .ok (.iload_n 2, 1) := by decide +kernel
theorem dX5_build_67 : decode cX5_build 67 = .ok (.invokevirtual 57, 3) := by decide +kernel
theorem dX5_build_70 : decode cX5_build 70 = .ok (.isub, 1) := by decide +kernel
theorem dX5_build_71 : decode cX5_build 71 = .ok (.aload_n 0, 1) := by decide +kernel
theorem dX5_build_72 : decode cX5_build 72 = .ok (.getfield 16, 3) := by decide +kernel
theorem dX5_build_75 : decode cX5_build 75 = .ok (.iload_n 3, 1) := by decide +kernel
theorem dX5_build_76 : decode cX5_build 76 = .ok (.invokevirtual 61, 3) := by decide +kernel
theorem dX5_build_79 : decode cX5_build 79 = .ok (.aload_n 0, 1) := by decide +kernel
theorem dX5_build_80 : decode cX5_build 80 = .ok (.getfield 16, 3) := by decide +kernel
theorem dX5_build_83 : decode cX5_build 83 = .ok (.iload_n 2, 1) := by decide +kernel
theorem dX5_build_84 : decode cX5_build 84 = .ok (.invokevirtual 61, 3) := by decide +kernel
theorem dX5_build_87 : decode cX5_build 87 = .ok (.isub, 1) := by decide +kernel
theorem dX5_build_88 : decode cX5_build 88 = .ok (.invokestatic 64, 3) := by decide +kernel
theorem dX5_build_91 : decode cX5_build 91 = .ok (.iconst 1, 1) := by decide +kernel
theorem dX5_build_92 : decode cX5_build 92 = .ok (.if_icmp .ne 9, 3) := by decide +kernel
theorem dX5_build_95 : decode cX5_build 95 = .ok (.aload_n 0, 1) := by decide +kernel
theorem dX5_build_96 : decode cX5_build 96 = .ok (.iload_n 2, 1) := by decide +kernel
theorem dX5_build_97 : decode cX5_build 97 = .ok (.iload_n 3, 1) := by decide +kernel
theorem dX5_build_98 : decode cX5_build 98 = .ok (.invokevirtual 68, 3) := by decide +kernel
theorem dX5_build_101 : decode cX5_build 101 = .ok (.iinc 3 1, 3) := by decide +kernel
theorem dX5_build_104 : decode cX5_build 104 = .ok (.goto (-61), 3) := by decide +kernel
theorem dX5_build_107 : decode cX5_build 107 = .ok (.iinc 2 1, 3) := by decide +kernel
theorem dX5_build_110 : decode cX5_build 110 = .ok (.goto (-82), 3) := by decide +kernel
theorem dX5_build_113 : decode cX5_build 113 = .ok (.iconst 0, 1) := by decide +kernel
theorem dX5_build_114 : decode cX5_build 114 = .ok (.istore_n 2, 1) := by decide +kernel
theorem dX5_build_115 : decode cX5_build 115 = .ok (.iload_n 2, 1) := by decide +kernel
theorem dX5_build_116 : decode cX5_build 116 = .ok (.aload_n 0, 1) := by decide +kernel
theorem dX5_build_117 : decode cX5_build 117 = .ok (.getfield 44, 3) := by decide +kernel
theorem dX5_build_120 : decode cX5_build 120 = .ok (.if_icmp .ge 19, 3) := by decide +kernel
theorem dX5_build_123 : decode cX5_build 123 = .ok (.aload_n 0, 1) := by decide +kernel
theorem dX5_build_124 : decode cX5_build 124 = .ok (.iload_n 2, 1) := by decide +kernel
theorem dX5_build_125 : decode cX5_build 125 = .ok (.invokevirtual 72, 3) := by decide +kernel
theorem dX5_build_128 : decode cX5_build 128 = .ok (.aload_n 0, 1) := by decide +kernel
theorem dX5_build_129 : decode cX5_build 129 = .ok (.iload_n 2, 1) := by decide +kernel
theorem dX5_build_130 : decode cX5_build 130 = .ok (.invokevirtual 75, 3) := by decide +kernel
theorem dX5_build_133 : decode cX5_build 133 = .ok (.iinc 2 1, 3) := by decide +kernel
theorem dX5_build_136 : decode cX5_build 136 = .ok (.goto (-21), 3) := by decide +kernel
theorem dX5_build_139 : decode cX5_build 139 = .ok (.return_, 1) := by decide +kernel
theorem dX5_firstCut_0 : decode cX5_firstCut 0 = .ok (.lconst 0, 1) := by decide +kernel
theorem dX5_firstCut_1 : decode cX5_firstCut 1 = .ok (.lstore_n 1, 1) := by decide +kernel
theorem dX5_firstCut_2 : decode cX5_firstCut 2 = .ok (.iconst 0, 1) := by decide +kernel
theorem dX5_firstCut_3 : decode cX5_firstCut 3 = .ok (.istore_n 3, 1) := by decide +kernel
theorem dX5_firstCut_4 : decode cX5_firstCut 4 = .ok (.iload_n 3, 1) := by decide +kernel
theorem dX5_firstCut_5 : decode cX5_firstCut 5 = .ok (.aload_n 0, 1) := by decide +kernel
theorem dX5_firstCut_6 : decode cX5_firstCut 6 = .ok (.getfield 44, 3) := by decide +kernel
theorem dX5_firstCut_9 : decode cX5_firstCut 9 = .ok (.if_icmp .ge 34, 3) := by decide +kernel
theorem dX5_firstCut_12 : decode cX5_firstCut 12 = .ok (.iload_n 3, 1) := by decide +kernel
theorem dX5_firstCut_13 : decode cX5_firstCut 13 = .ok (.bipush 63, 2) := by decide +kernel
theorem dX5_firstCut_15 : decode cX5_firstCut 15 = .ok (.if_icmp .ge 28, 3) := by decide +kernel
theorem dX5_firstCut_18 : decode cX5_firstCut 18 = .ok (.aload_n 0, 1) := by decide +kernel
theorem dX5_firstCut_19 : decode cX5_firstCut 19 = .ok (.getfield 27, 3) := by decide +kernel
theorem dX5_firstCut_22 : decode cX5_firstCut 22 = .ok (.iload_n 3, 1) := by decide +kernel
theorem dX5_firstCut_23 : decode cX5_firstCut 23 = .ok (.laload, 1) := by decide +kernel
theorem dX5_firstCut_24 : decode cX5_firstCut 24 = .ok (.lload_n 1, 1) := by decide +kernel
theorem dX5_firstCut_25 : decode cX5_firstCut 25 = .ok (.land, 1) := by decide +kernel
theorem dX5_firstCut_26 : decode cX5_firstCut 26 = .ok (.lconst 0, 1) := by decide +kernel
theorem dX5_firstCut_27 : decode cX5_firstCut 27 = .ok (.lcmp, 1) := by decide +kernel
theorem dX5_firstCut_28 : decode cX5_firstCut 28 = .ok (.ifCond .ne 9, 3) := by decide +kernel
theorem dX5_firstCut_31 : decode cX5_firstCut 31 = .ok (.lload_n 1, 1) := by decide +kernel
theorem dX5_firstCut_32 : decode cX5_firstCut 32 = .ok (.lconst 1, 1) := by decide +kernel
theorem dX5_firstCut_33 : decode cX5_firstCut 33 = .ok (.iload_n 3, 1) := by decide +kernel
theorem dX5_firstCut_34 : decode cX5_firstCut 34 = .ok (.lshl, 1) := by decide +kernel
theorem dX5_firstCut_35 : decode cX5_firstCut 35 = .ok (.lor, 1) := by decide +kernel
theorem dX5_firstCut_36 : decode cX5_firstCut 36 = .ok (.lstore_n 1, 1) := by decide +kernel
theorem dX5_firstCut_37 : decode cX5_firstCut 37 = .ok (.iinc 3 1, 3) := by decide +kernel
theorem dX5_firstCut_40 : decode cX5_firstCut 40 = .ok (.goto (-36), 3) := by decide +kernel
theorem dX5_firstCut_43 : decode cX5_firstCut 43 = .ok (.lload_n 1, 1) := by decide +kernel
theorem dX5_firstCut_44 : decode cX5_firstCut 44 = .ok (.lreturn, 1) := by decide +kernel
theorem dX5_flipped_0 : decode cX5_flipped 0 = .ok (.iload_n 3, 1) := by decide +kernel
theorem dX5_flipped_1 : decode cX5_flipped 1 = .ok (.ifCond .lt 28, 3) := by decide +kernel
theorem dX5_flipped_4 : decode cX5_flipped 4 = .ok (.iload_n 3, 1) := by decide +kernel
theorem dX5_flipped_5 : decode cX5_flipped 5 = .ok (.sipush 756, 3) := by decide +kernel
theorem dX5_flipped_8 : decode cX5_flipped 8 = .ok (.if_icmp .ge 21, 3) := by decide +kernel
theorem dX5_flipped_11 : decode cX5_flipped 11 = .ok (.lload_n 1, 1) := by decide +kernel
theorem dX5_flipped_12 : decode cX5_flipped 12 = .ok (.aload_n 0, 1) := by decide +kernel
theorem dX5_flipped_13 : decode cX5_flipped 13 = .ok (.getfield 34, 3) := by decide +kernel
theorem dX5_flipped_16 : decode cX5_flipped 16 = .ok (.iload_n 3, 1) := by decide +kernel
theorem dX5_flipped_17 : decode cX5_flipped 17 = .ok (.laload, 1) := by decide +kernel
theorem dX5_flipped_18 : decode cX5_flipped 18 = .ok (.land, 1) := by decide +kernel
theorem dX5_flipped_19 : decode cX5_flipped 19 = .ok (.aload_n 0, 1) := by decide +kernel
theorem dX5_flipped_20 : decode cX5_flipped 20 = .ok (.getfield 34, 3) := by decide +kernel
theorem dX5_flipped_23 : decode cX5_flipped 23 = .ok (.iload_n 3, 1) := by decide +kernel
theorem dX5_flipped_24 : decode cX5_flipped 24 = .ok (.laload, 1) := by decide +kernel
theorem dX5_flipped_25 : decode cX5_flipped 25 = .ok (.lcmp, 1) := by decide +kernel
theorem dX5_flipped_26 : decode cX5_flipped 26 = .ok (.ifCond .eq 5, 3) := by decide +kernel
theorem dX5_flipped_29 : decode cX5_flipped 29 = .ok (.lconst 0, 1) := by decide +kernel
theorem dX5_flipped_30 : decode cX5_flipped 30 = .ok (.lreturn, 1) := by decide +kernel
theorem dX5_flipped_31 : decode cX5_flipped 31 = .ok (.lload_n 1, 1) := by decide +kernel
theorem dX5_flipped_32 : decode cX5_flipped 32 = .ok (.aload_n 0, 1) := by decide +kernel
theorem dX5_flipped_33 : decode cX5_flipped 33 = .ok (.getfield 37, 3) := by decide +kernel
theorem dX5_flipped_36 : decode cX5_flipped 36 = .ok (.iload_n 3, 1) := by decide +kernel
theorem dX5_flipped_37 : decode cX5_flipped 37 = .ok (.laload, 1) := by decide +kernel
theorem dX5_flipped_38 : decode cX5_flipped 38 = .ok (.lxor, 1) := by decide +kernel
theorem dX5_flipped_39 : decode cX5_flipped 39 = .ok (.lreturn, 1) := by decide +kernel
theorem dX5_told_0 : decode cX5_told 0 = .ok (.iload_n 1, 1) := by decide +kernel
theorem dX5_told_1 : decode cX5_told 1 = .ok (.ifCond .lt 9, 3) := by decide +kernel
theorem dX5_told_4 : decode cX5_told 4 = .ok (.iload_n 1, 1) := by decide +kernel
theorem dX5_told_5 : decode cX5_told 5 = .ok (.bipush 63, 2) := by decide +kernel
theorem dX5_told_7 : decode cX5_told 7 = .ok (.if_icmp .lt 7, 3) := by decide +kernel
theorem dX5_told_10 : decode cX5_told 10 = .ok (.iconst (-1), 1) := by decide +kernel
theorem dX5_told_11 : decode cX5_told 11 = .ok (.goto 19, 3) := by decide +kernel
theorem dX5_told_14 : decode cX5_told 14 = .ok (.bipush 16, 2) := by decide +kernel
theorem dX5_told_16 : decode cX5_told 16 = .ok (.aload_n 0, 1) := by decide +kernel
theorem dX5_told_17 : decode cX5_told 17 = .ok (.getfield 20, 3) := by decide +kernel
theorem dX5_told_20 : decode cX5_told 20 = .ok (.iload_n 1, 1) := by decide +kernel
theorem dX5_told_21 : decode cX5_told 21 = .ok (.iaload, 1) := by decide +kernel
theorem dX5_told_22 : decode cX5_told 22 = .ok (.imul, 1) := by decide +kernel
theorem dX5_told_23 : decode cX5_told 23 = .ok (.aload_n 0, 1) := by decide +kernel
theorem dX5_told_24 : decode cX5_told 24 = .ok (.getfield 24, 3) := by decide +kernel
theorem dX5_told_27 : decode cX5_told 27 = .ok (.iload_n 1, 1) := by decide +kernel
theorem dX5_told_28 : decode cX5_told 28 = .ok (.iaload, 1) := by decide +kernel
theorem dX5_told_29 : decode cX5_told 29 = .ok (.iadd, 1) := by decide +kernel
theorem dX5_told_30 : decode cX5_told 30 = .ok (.ireturn, 1) := by decide +kernel
theorem dX5_appendSegment_0 : decode cX5_appendSegment 0 = .ok (.iload_n 1, 1) := by decide +kernel
theorem dX5_appendSegment_1 : decode cX5_appendSegment 1 = .ok (.bipush 12, 2) := by decide +kernel
theorem dX5_appendSegment_3 : decode cX5_appendSegment 3 = .ok (.imul, 1) := by decide +kernel
theorem dX5_appendSegment_4 : decode cX5_appendSegment 4 = .ok (.iload_n 2, 1) := by decide +kernel
theorem dX5_appendSegment_5 : decode cX5_appendSegment 5 = .ok (.iadd, 1) := by decide +kernel
theorem dX5_appendSegment_6 : decode cX5_appendSegment 6 = .ok (.istore_n 3, 1) := by decide +kernel
theorem dX5_appendSegment_7 : decode cX5_appendSegment 7 = .ok (.aload_n 0, 1) := by decide +kernel
theorem dX5_appendSegment_8 : decode cX5_appendSegment 8 = .ok (.getfield 44, 3) := by decide +kernel
theorem dX5_appendSegment_11 : decode cX5_appendSegment 11 = .ok (.bipush 63, 2) := by decide +kernel
theorem dX5_appendSegment_13 : decode cX5_appendSegment 13 = .ok (.if_icmp .ge 56, 3) := by decide +kernel
theorem dX5_appendSegment_16 : decode cX5_appendSegment 16 = .ok (.iload_n 3, 1) := by decide +kernel
theorem dX5_appendSegment_17 : decode cX5_appendSegment 17 = .ok (.ifCond .lt 52, 3) := by decide +kernel
theorem dX5_appendSegment_20 : decode cX5_appendSegment 20 = .ok (.iload_n 3, 1) := by decide +kernel
theorem dX5_appendSegment_21 : decode cX5_appendSegment 21 = .ok (.aload_n 0, 1) := by decide +kernel
theorem dX5_appendSegment_22 : decode cX5_appendSegment 22 = .ok (.getfield 31, 3) := by decide +kernel
theorem dX5_appendSegment_25 : decode cX5_appendSegment 25 = .ok (.arraylength, 1) := by decide +kernel
theorem dX5_appendSegment_26 : decode cX5_appendSegment 26 = .ok (.if_icmp .ge 43, 3) := by decide +kernel
theorem dX5_appendSegment_29 : decode cX5_appendSegment 29 = .ok (.aload_n 0, 1) := by decide +kernel
theorem dX5_appendSegment_30 : decode cX5_appendSegment 30 = .ok (.getfield 20, 3) := by decide +kernel
theorem dX5_appendSegment_33 : decode cX5_appendSegment 33 = .ok (.aload_n 0, 1) := by decide +kernel
theorem dX5_appendSegment_34 : decode cX5_appendSegment 34 = .ok (.getfield 44, 3) := by decide +kernel
theorem dX5_appendSegment_37 : decode cX5_appendSegment 37 = .ok (.iload_n 1, 1) := by decide +kernel
theorem dX5_appendSegment_38 : decode cX5_appendSegment 38 = .ok (.iastore, 1) := by decide +kernel
theorem dX5_appendSegment_39 : decode cX5_appendSegment 39 = .ok (.aload_n 0, 1) := by decide +kernel
theorem dX5_appendSegment_40 : decode cX5_appendSegment 40 = .ok (.getfield 24, 3) := by decide +kernel
theorem dX5_appendSegment_43 : decode cX5_appendSegment 43 = .ok (.aload_n 0, 1) := by decide +kernel
theorem dX5_appendSegment_44 : decode cX5_appendSegment 44 = .ok (.getfield 44, 3) := by decide +kernel
theorem dX5_appendSegment_47 : decode cX5_appendSegment 47 = .ok (.iload_n 2, 1) := by decide +kernel
theorem dX5_appendSegment_48 : decode cX5_appendSegment 48 = .ok (.iastore, 1) := by decide +kernel
theorem dX5_appendSegment_49 : decode cX5_appendSegment 49 = .ok (.aload_n 0, 1) := by decide +kernel
theorem dX5_appendSegment_50 : decode cX5_appendSegment 50 = .ok (.getfield 31, 3) := by decide +kernel
theorem dX5_appendSegment_53 : decode cX5_appendSegment 53 = .ok (.iload_n 3, 1) := by decide +kernel
theorem dX5_appendSegment_54 : decode cX5_appendSegment 54 = .ok (.aload_n 0, 1) := by decide +kernel
theorem dX5_appendSegment_55 : decode cX5_appendSegment 55 = .ok (.getfield 44, 3) := by decide +kernel
theorem dX5_appendSegment_58 : decode cX5_appendSegment 58 = .ok (.iastore, 1) := by decide +kernel
theorem dX5_appendSegment_59 : decode cX5_appendSegment 59 = .ok (.aload_n 0, 1) := by decide +kernel
theorem dX5_appendSegment_60 : decode cX5_appendSegment 60 = .ok (.dup, 1) := by decide +kernel
theorem dX5_appendSegment_61 : decode cX5_appendSegment 61 = .ok (.getfield 44, 3) := by decide +kernel
theorem dX5_appendSegment_64 : decode cX5_appendSegment 64 = .ok (.iconst 1, 1) := by decide +kernel
theorem dX5_appendSegment_65 : decode cX5_appendSegment 65 = .ok (.iadd, 1) := by decide +kernel
theorem dX5_appendSegment_66 : decode cX5_appendSegment 66 = .ok (.putfield 44, 3) := by decide +kernel
theorem dX5_appendSegment_69 : decode cX5_appendSegment 69 = .ok (.return_, 1) := by decide +kernel
theorem dX5_number_0 : decode cX5_number 0 = .ok (.iload_n 1, 1) := by decide +kernel
theorem dX5_number_1 : decode cX5_number 1 = .ok (.iload_n 2, 1) := by decide +kernel
theorem dX5_number_2 : decode cX5_number 2 = .ok (.invokestatic 78, 3) := by decide +kernel
theorem dX5_number_5 : decode cX5_number 5 = .ok (.bipush 12, 2) := by decide +kernel
theorem dX5_number_7 : decode cX5_number 7 = .ok (.imul, 1) := by decide +kernel
theorem dX5_number_8 : decode cX5_number 8 = .ok (.iload_n 1, 1) := by decide +kernel
theorem dX5_number_9 : decode cX5_number 9 = .ok (.iload_n 2, 1) := by decide +kernel
theorem dX5_number_10 : decode cX5_number 10 = .ok (.invokestatic 83, 3) := by decide +kernel
theorem dX5_number_13 : decode cX5_number 13 = .ok (.iadd, 1) := by decide +kernel
theorem dX5_number_14 : decode cX5_number 14 = .ok (.istore_n 3, 1) := by decide +kernel
theorem dX5_number_15 : decode cX5_number 15 = .ok (.iload_n 3, 1) := by decide +kernel
theorem dX5_number_16 : decode cX5_number 16 = .ok (.ifCond .lt 12, 3) := by decide +kernel
theorem dX5_number_19 : decode cX5_number 19 = .ok (.iload_n 3, 1) := by decide +kernel
theorem dX5_number_20 : decode cX5_number 20 = .ok (.aload_n 0, 1) := by decide +kernel
theorem dX5_number_21 : decode cX5_number 21 = .ok (.getfield 31, 3) := by decide +kernel
theorem dX5_number_24 : decode cX5_number 24 = .ok (.arraylength, 1) := by decide +kernel
theorem dX5_number_25 : decode cX5_number 25 = .ok (.if_icmp .lt 7, 3) := by decide +kernel
theorem dX5_number_28 : decode cX5_number 28 = .ok (.iconst (-1), 1) := by decide +kernel
theorem dX5_number_29 : decode cX5_number 29 = .ok (.goto 9, 3) := by decide +kernel
theorem dX5_number_32 : decode cX5_number 32 = .ok (.aload_n 0, 1) := by decide +kernel
theorem dX5_number_33 : decode cX5_number 33 = .ok (.getfield 31, 3) := by decide +kernel
theorem dX5_number_36 : decode cX5_number 36 = .ok (.iload_n 3, 1) := by decide +kernel
theorem dX5_number_37 : decode cX5_number 37 = .ok (.iaload, 1) := by decide +kernel
theorem dX5_number_38 : decode cX5_number 38 = .ok (.ireturn, 1) := by decide +kernel
theorem dX5_noteCrossed_0 : decode cX5_noteCrossed 0 = .ok (.iload_n 1, 1) := by decide +kernel
theorem dX5_noteCrossed_1 : decode cX5_noteCrossed 1 = .ok (.ifCond .lt 9, 3) := by decide +kernel
theorem dX5_noteCrossed_4 : decode cX5_noteCrossed 4 = .ok (.iload_n 1, 1) := by decide +kernel
theorem dX5_noteCrossed_5 : decode cX5_noteCrossed 5 = .ok (.bipush 63, 2) := by decide +kernel
theorem dX5_noteCrossed_7 : decode cX5_noteCrossed 7 = .ok (.if_icmp .lt 4, 3) := by decide +kernel
theorem dX5_noteCrossed_10 : decode cX5_noteCrossed 10 = .ok (.return_, 1) := by decide +kernel
theorem dX5_noteCrossed_11 : decode cX5_noteCrossed 11 = .ok (.aload_n 0, 1) := by decide +kernel
theorem dX5_noteCrossed_12 : decode cX5_noteCrossed 12 = .ok (.getfield 27, 3) := by decide +kernel
theorem dX5_noteCrossed_15 : decode cX5_noteCrossed 15 = .ok (.iload_n 1, 1) := by decide +kernel
theorem dX5_noteCrossed_16 : decode cX5_noteCrossed 16 = .ok (.lconst 0, 1) := by decide +kernel
theorem dX5_noteCrossed_17 : decode cX5_noteCrossed 17 = .ok (.lastore, 1) := by decide +kernel
theorem dX5_noteCrossed_18 : decode cX5_noteCrossed 18 = .ok (.iconst 0, 1) := by decide +kernel
theorem dX5_noteCrossed_19 : decode cX5_noteCrossed 19 = .ok (.istore_n 2, 1) := by decide +kernel
theorem dX5_noteCrossed_20 : decode cX5_noteCrossed 20 = .ok (.iload_n 2, 1) := by decide +kernel
theorem dX5_noteCrossed_21 : decode cX5_noteCrossed 21 = .ok (.aload_n 0, 1) := by decide +kernel
theorem dX5_noteCrossed_22 : decode cX5_noteCrossed 22 = .ok (.getfield 44, 3) := by decide +kernel
theorem dX5_noteCrossed_25 : decode cX5_noteCrossed 25 = .ok (.if_icmp .ge 58, 3) := by decide +kernel
theorem dX5_noteCrossed_28 : decode cX5_noteCrossed 28 = .ok (.iload_n 2, 1) := by decide +kernel
theorem dX5_noteCrossed_29 : decode cX5_noteCrossed 29 = .ok (.bipush 63, 2) := by decide +kernel
theorem dX5_noteCrossed_31 : decode cX5_noteCrossed 31 = .ok (.if_icmp .ge 52, 3) := by decide +kernel
theorem dX5_noteCrossed_34 : decode cX5_noteCrossed 34 = .ok (.aload_n 0, 1) := by decide +kernel
theorem dX5_noteCrossed_35 : decode cX5_noteCrossed 35 = .ok (.aload_n 0, 1) := by decide +kernel
theorem dX5_noteCrossed_36 : decode cX5_noteCrossed 36 = .ok (.getfield 20, 3) := by decide +kernel
theorem dX5_noteCrossed_39 : decode cX5_noteCrossed 39 = .ok (.iload_n 1, 1) := by decide +kernel
theorem dX5_noteCrossed_40 : decode cX5_noteCrossed 40 = .ok (.iaload, 1) := by decide +kernel
theorem dX5_noteCrossed_41 : decode cX5_noteCrossed 41 = .ok (.aload_n 0, 1) := by decide +kernel
theorem dX5_noteCrossed_42 : decode cX5_noteCrossed 42 = .ok (.getfield 24, 3) := by decide +kernel
theorem dX5_noteCrossed_45 : decode cX5_noteCrossed 45 = .ok (.iload_n 1, 1) := by decide +kernel
theorem dX5_noteCrossed_46 : decode cX5_noteCrossed 46 = .ok (.iaload, 1) := by decide +kernel
theorem dX5_noteCrossed_47 : decode cX5_noteCrossed 47 = .ok (.aload_n 0, 1) := by decide +kernel
theorem dX5_noteCrossed_48 : decode cX5_noteCrossed 48 = .ok (.getfield 20, 3) := by decide +kernel
theorem dX5_noteCrossed_51 : decode cX5_noteCrossed 51 = .ok (.iload_n 2, 1) := by decide +kernel
theorem dX5_noteCrossed_52 : decode cX5_noteCrossed 52 = .ok (.iaload, 1) := by decide +kernel
theorem dX5_noteCrossed_53 : decode cX5_noteCrossed 53 = .ok (.aload_n 0, 1) := by decide +kernel
theorem dX5_noteCrossed_54 : decode cX5_noteCrossed 54 = .ok (.getfield 24, 3) := by decide +kernel
theorem dX5_noteCrossed_57 : decode cX5_noteCrossed 57 = .ok (.iload_n 2, 1) := by decide +kernel
theorem dX5_noteCrossed_58 : decode cX5_noteCrossed 58 = .ok (.iaload, 1) := by decide +kernel
theorem dX5_noteCrossed_59 : decode cX5_noteCrossed 59 = .ok (.invokevirtual 86, 3) := by decide +kernel
theorem dX5_noteCrossed_62 : decode cX5_noteCrossed 62 = .ok (.ifCond .eq 15, 3) := by decide +kernel
theorem dX5_noteCrossed_65 : decode cX5_noteCrossed 65 = .ok (.aload_n 0, 1) := by decide +kernel
theorem dX5_noteCrossed_66 : decode cX5_noteCrossed 66 = .ok (.getfield 27, 3) := by decide +kernel
theorem dX5_noteCrossed_69 : decode cX5_noteCrossed 69 = .ok (.iload_n 1, 1) := by decide +kernel
theorem dX5_noteCrossed_70 : decode cX5_noteCrossed 70 = .ok (.dup2, 1) := by decide +kernel
theorem dX5_noteCrossed_71 : decode cX5_noteCrossed 71 = .ok (.laload, 1) := by decide +kernel
theorem dX5_noteCrossed_72 : decode cX5_noteCrossed 72 = .ok (.lconst 1, 1) := by decide +kernel
theorem dX5_noteCrossed_73 : decode cX5_noteCrossed 73 = .ok (.iload_n 2, 1) := by decide +kernel
theorem dX5_noteCrossed_74 : decode cX5_noteCrossed 74 = .ok (.lshl, 1) := by decide +kernel
theorem dX5_noteCrossed_75 : decode cX5_noteCrossed 75 = .ok (.lor, 1) := by decide +kernel
theorem dX5_noteCrossed_76 : decode cX5_noteCrossed 76 = .ok (.lastore, 1) := by decide +kernel
theorem dX5_noteCrossed_77 : decode cX5_noteCrossed 77 = .ok (.iinc 2 1, 3) := by decide +kernel
theorem dX5_noteCrossed_80 : decode cX5_noteCrossed 80 = .ok (.goto (-60), 3) := by decide +kernel
theorem dX5_noteCrossed_83 : decode cX5_noteCrossed 83 = .ok (.return_, 1) := by decide +kernel
theorem dX5_cross_0 : decode cX5_cross 0 = .ok (.aload_n 0, 1) := by decide +kernel
theorem dX5_cross_1 : decode cX5_cross 1 = .ok (.getfield 16, 3) := by decide +kernel
theorem dX5_cross_4 : decode cX5_cross 4 = .ok (.iload_n 1, 1) := by decide +kernel
theorem dX5_cross_5 : decode cX5_cross 5 = .ok (.iload_n 2, 1) := by decide +kernel
theorem dX5_cross_6 : decode cX5_cross 6 = .ok (.iload_n 3, 1) := by decide +kernel
theorem dX5_cross_7 : decode cX5_cross 7 = .ok (.invokevirtual 90, 3) := by decide +kernel
theorem dX5_cross_10 : decode cX5_cross 10 = .ok (.aload_n 0, 1) := by decide +kernel
theorem dX5_cross_11 : decode cX5_cross 11 = .ok (.getfield 16, 3) := by decide +kernel
theorem dX5_cross_14 : decode cX5_cross 14 = .ok (.iload_n 1, 1) := by decide +kernel
theorem dX5_cross_15 : decode cX5_cross 15 = .ok (.iload_n 2, 1) := by decide +kernel
theorem dX5_cross_16 : decode cX5_cross 16 = .ok (.iload 4, 2) := by decide +kernel
theorem dX5_cross_18 : decode cX5_cross 18 = .ok (.invokevirtual 90, 3) := by decide +kernel
theorem dX5_cross_21 : decode cX5_cross 21 = .ok (.imul, 1) := by decide +kernel
theorem dX5_cross_22 : decode cX5_cross 22 = .ok (.ifCond .ge 33, 3) := by decide +kernel
theorem dX5_cross_25 : decode cX5_cross 25 = .ok (.aload_n 0, 1) := by decide +kernel
theorem dX5_cross_26 : decode cX5_cross 26 = .ok (.getfield 16, 3) := by decide +kernel
theorem dX5_cross_29 : decode cX5_cross 29 = .ok (.iload_n 3, 1) := by decide +kernel
theorem dX5_cross_30 : decode cX5_cross 30 = .ok (.iload 4, 2) := by decide +kernel
theorem dX5_cross_32 : decode cX5_cross 32 = .ok (.iload_n 1, 1) := by decide +kernel
theorem dX5_cross_33 : decode cX5_cross 33 = .ok (.invokevirtual 90, 3) := by decide +kernel
theorem dX5_cross_36 : decode cX5_cross 36 = .ok (.aload_n 0, 1) := by decide +kernel
theorem dX5_cross_37 : decode cX5_cross 37 = .ok (.getfield 16, 3) := by decide +kernel
theorem dX5_cross_40 : decode cX5_cross 40 = .ok (.iload_n 3, 1) := by decide +kernel
theorem dX5_cross_41 : decode cX5_cross 41 = .ok (.iload 4, 2) := by decide +kernel
theorem dX5_cross_43 : decode cX5_cross 43 = .ok (.iload_n 2, 1) := by decide +kernel
theorem dX5_cross_44 : decode cX5_cross 44 = .ok (.invokevirtual 90, 3) := by decide +kernel
theorem dX5_cross_47 : decode cX5_cross 47 = .ok (.imul, 1) := by decide +kernel
theorem dX5_cross_48 : decode cX5_cross 48 = .ok (.ifCond .ge 7, 3) := by decide +kernel
theorem dX5_cross_51 : decode cX5_cross 51 = .ok (.iconst 1, 1) := by decide +kernel
theorem dX5_cross_52 : decode cX5_cross 52 = .ok (.goto 4, 3) := by decide +kernel
theorem dX5_cross_55 : decode cX5_cross 55 = .ok (.iconst 0, 1) := by decide +kernel
theorem dX5_cross_56 : decode cX5_cross 56 = .ok (.ireturn, 1) := by decide +kernel
theorem dX5_noteFlips_0 : decode cX5_noteFlips 0 = .ok (.iload_n 1, 1) := by decide +kernel
theorem dX5_noteFlips_1 : decode cX5_noteFlips 1 = .ok (.ifCond .lt 9, 3) := by decide +kernel
theorem dX5_noteFlips_4 : decode cX5_noteFlips 4 = .ok (.iload_n 1, 1) := by decide +kernel
theorem dX5_noteFlips_5 : decode cX5_noteFlips 5 = .ok (.bipush 63, 2) := by decide +kernel
theorem dX5_noteFlips_7 : decode cX5_noteFlips 7 = .ok (.if_icmp .lt 4, 3) := by decide +kernel
theorem dX5_noteFlips_10 : decode cX5_noteFlips 10 = .ok (.return_, 1) := by decide +kernel
theorem dX5_noteFlips_11 : decode cX5_noteFlips 11 = .ok (.aload_n 0, 1) := by decide +kernel
theorem dX5_noteFlips_12 : decode cX5_noteFlips 12 = .ok (.getfield 20, 3) := by decide +kernel
theorem dX5_noteFlips_15 : decode cX5_noteFlips 15 = .ok (.iload_n 1, 1) := by decide +kernel
theorem dX5_noteFlips_16 : decode cX5_noteFlips 16 = .ok (.iaload, 1) := by decide +kernel
theorem dX5_noteFlips_17 : decode cX5_noteFlips 17 = .ok (.istore_n 2, 1) := by decide +kernel
theorem dX5_noteFlips_18 : decode cX5_noteFlips 18 = .ok (.aload_n 0, 1) := by decide +kernel
theorem dX5_noteFlips_19 : decode cX5_noteFlips 19 = .ok (.getfield 24, 3) := by decide +kernel
theorem dX5_noteFlips_22 : decode cX5_noteFlips 22 = .ok (.iload_n 1, 1) := by decide +kernel
theorem dX5_noteFlips_23 : decode cX5_noteFlips 23 = .ok (.iaload, 1) := by decide +kernel
theorem dX5_noteFlips_24 : decode cX5_noteFlips 24 = .ok (.istore_n 3, 1) := by decide +kernel
theorem dX5_noteFlips_25 : decode cX5_noteFlips 25 = .ok (.iconst 0, 1) := by decide +kernel
theorem dX5_noteFlips_26 : decode cX5_noteFlips 26 = .ok (.istore 4, 2) := by decide +kernel
theorem dX5_noteFlips_28 : decode cX5_noteFlips 28 = .ok (.iload 4, 2) := by decide +kernel
theorem dX5_noteFlips_30 : decode cX5_noteFlips 30 = .ok (.aload_n 0, 1) := by decide +kernel
theorem dX5_noteFlips_31 : decode cX5_noteFlips 31 = .ok (.getfield 16, 3) := by decide +kernel
theorem dX5_noteFlips_34 : decode cX5_noteFlips 34 = .ok (.getfield 56, 3) := by decide +kernel
theorem dX5_noteFlips_37 : decode cX5_noteFlips 37 = .ok (.if_icmp .ge 102, 3) := by decide +kernel
theorem dX5_noteFlips_40 : decode cX5_noteFlips 40 = .ok (.aload_n 0, 1) := by decide +kernel
theorem dX5_noteFlips_41 : decode cX5_noteFlips 41 = .ok (.getfield 16, 3) := by decide +kernel
theorem dX5_noteFlips_44 : decode cX5_noteFlips 44 = .ok (.iload_n 2, 1) := by decide +kernel
theorem dX5_noteFlips_45 : decode cX5_noteFlips 45 = .ok (.iload_n 3, 1) := by decide +kernel
theorem dX5_noteFlips_46 : decode cX5_noteFlips 46 = .ok (.iload 4, 2) := by decide +kernel
theorem dX5_noteFlips_48 : decode cX5_noteFlips 48 = .ok (.invokevirtual 90, 3) := by decide +kernel
theorem dX5_noteFlips_51 : decode cX5_noteFlips 51 = .ok (.iconst 1, 1) := by decide +kernel
theorem dX5_noteFlips_52 : decode cX5_noteFlips 52 = .ok (.if_icmp .ne 81, 3) := by decide +kernel
theorem dX5_noteFlips_55 : decode cX5_noteFlips 55 = .ok (.aload_n 0, 1) := by decide +kernel
theorem dX5_noteFlips_56 : decode cX5_noteFlips 56 = .ok (.getfield 16, 3) := by decide +kernel
theorem dX5_noteFlips_59 : decode cX5_noteFlips 59 = .ok (.aload_n 0, 1) := by decide +kernel
theorem dX5_noteFlips_60 : decode cX5_noteFlips 60 = .ok (.getfield 16, 3) := by decide +kernel
theorem dX5_noteFlips_63 : decode cX5_noteFlips 63 = .ok (.iload_n 2, 1) := by decide +kernel
theorem dX5_noteFlips_64 : decode cX5_noteFlips 64 = .ok (.invokevirtual 57, 3) := by decide +kernel
theorem dX5_noteFlips_67 : decode cX5_noteFlips 67 = .ok (.aload_n 0, 1) := by decide +kernel
theorem dX5_noteFlips_68 : decode cX5_noteFlips 68 = .ok (.getfield 16, 3) := by decide +kernel
theorem dX5_noteFlips_71 : decode cX5_noteFlips 71 = .ok (.iload_n 3, 1) := by decide +kernel
theorem dX5_noteFlips_72 : decode cX5_noteFlips 72 = .ok (.invokevirtual 57, 3) := by decide +kernel
theorem dX5_noteFlips_75 : decode cX5_noteFlips 75 = .ok (.iadd, 1) := by decide +kernel
theorem dX5_noteFlips_76 : decode cX5_noteFlips 76 = .ok (.aload_n 0, 1) := by decide +kernel
theorem dX5_noteFlips_77 : decode cX5_noteFlips 77 = .ok (.getfield 16, 3) := by decide +kernel
theorem dX5_noteFlips_80 : decode cX5_noteFlips 80 = .ok (.iload 4, 2) := by decide +kernel
theorem dX5_noteFlips_82 : decode cX5_noteFlips 82 = .ok (.invokevirtual 57, 3) := by decide +kernel
theorem dX5_noteFlips_85 : decode cX5_noteFlips 85 = .ok (.isub, 1) := by decide +kernel
theorem dX5_noteFlips_86 : decode cX5_noteFlips 86 = .ok (.aload_n 0, 1) := by decide +kernel
theorem dX5_noteFlips_87 : decode cX5_noteFlips 87 = .ok (.getfield 16, 3) := by decide +kernel
theorem dX5_noteFlips_90 : decode cX5_noteFlips 90 = .ok (.iload_n 2, 1) := by decide +kernel
theorem dX5_noteFlips_91 : decode cX5_noteFlips 91 = .ok (.invokevirtual 61, 3) := by decide +kernel
theorem dX5_noteFlips_94 : decode cX5_noteFlips 94 = .ok (.aload_n 0, 1) := by decide +kernel
theorem dX5_noteFlips_95 : decode cX5_noteFlips 95 = .ok (.getfield 16, 3) := by decide +kernel
theorem dX5_noteFlips_98 : decode cX5_noteFlips 98 = .ok (.iload_n 3, 1) := by decide +kernel
theorem dX5_noteFlips_99 : decode cX5_noteFlips 99 = .ok (.invokevirtual 61, 3) := by decide +kernel
theorem dX5_noteFlips_102 : decode cX5_noteFlips 102 = .ok (.iadd, 1) := by decide +kernel
theorem dX5_noteFlips_103 : decode cX5_noteFlips 103 = .ok (.aload_n 0, 1) := by decide +kernel
theorem dX5_noteFlips_104 : decode cX5_noteFlips 104 = .ok (.getfield 16, 3) := by decide +kernel
theorem dX5_noteFlips_107 : decode cX5_noteFlips 107 = .ok (.iload 4, 2) := by decide +kernel
theorem dX5_noteFlips_109 : decode cX5_noteFlips 109 = .ok (.invokevirtual 61, 3) := by decide +kernel
theorem dX5_noteFlips_112 : decode cX5_noteFlips 112 = .ok (.isub, 1) := by decide +kernel
theorem dX5_noteFlips_113 : decode cX5_noteFlips 113 = .ok (.invokevirtual 94, 3) := by decide +kernel
theorem dX5_noteFlips_116 : decode cX5_noteFlips 116 = .ok (.istore 5, 2) := by decide +kernel
theorem dX5_noteFlips_118 : decode cX5_noteFlips 118 = .ok (.iload 5, 2) := by decide +kernel
theorem dX5_noteFlips_120 : decode cX5_noteFlips 120 = .ok (.ifCond .lt 13, 3) := by decide +kernel
theorem dX5_noteFlips_123 : decode cX5_noteFlips 123 = .ok (.aload_n 0, 1) := by decide +kernel
theorem dX5_noteFlips_124 : decode cX5_noteFlips 124 = .ok (.iload_n 2, 1) := by decide +kernel
theorem dX5_noteFlips_125 : decode cX5_noteFlips 125 = .ok (.iload_n 3, 1) := by decide +kernel
theorem dX5_noteFlips_126 : decode cX5_noteFlips 126 = .ok (.iload 4, 2) := by decide +kernel
theorem dX5_noteFlips_128 : decode cX5_noteFlips 128 = .ok (.iload 5, 2) := by decide +kernel
theorem dX5_noteFlips_130 : decode cX5_noteFlips 130 = .ok (.invokevirtual 97, 3) := by decide +kernel
theorem dX5_noteFlips_133 : decode cX5_noteFlips 133 = .ok (.iinc 4 1, 3) := by decide +kernel
theorem dX5_noteFlips_136 : decode cX5_noteFlips 136 = .ok (.goto (-108), 3) := by decide +kernel
theorem dX5_noteFlips_139 : decode cX5_noteFlips 139 = .ok (.return_, 1) := by decide +kernel
theorem dX5_noteFlip_0 : decode cX5_noteFlip 0 = .ok (.aload_n 0, 1) := by decide +kernel
theorem dX5_noteFlip_1 : decode cX5_noteFlip 1 = .ok (.iload_n 1, 1) := by decide +kernel
theorem dX5_noteFlip_2 : decode cX5_noteFlip 2 = .ok (.iload_n 2, 1) := by decide +kernel
theorem dX5_noteFlip_3 : decode cX5_noteFlip 3 = .ok (.invokevirtual 101, 3) := by decide +kernel
theorem dX5_noteFlip_6 : decode cX5_noteFlip 6 = .ok (.istore 5, 2) := by decide +kernel
theorem dX5_noteFlip_8 : decode cX5_noteFlip 8 = .ok (.aload_n 0, 1) := by decide +kernel
theorem dX5_noteFlip_9 : decode cX5_noteFlip 9 = .ok (.iload_n 3, 1) := by decide +kernel
theorem dX5_noteFlip_10 : decode cX5_noteFlip 10 = .ok (.iload 4, 2) := by decide +kernel
theorem dX5_noteFlip_12 : decode cX5_noteFlip 12 = .ok (.invokevirtual 101, 3) := by decide +kernel
theorem dX5_noteFlip_15 : decode cX5_noteFlip 15 = .ok (.istore 6, 2) := by decide +kernel
theorem dX5_noteFlip_17 : decode cX5_noteFlip 17 = .ok (.aload_n 0, 1) := by decide +kernel
theorem dX5_noteFlip_18 : decode cX5_noteFlip 18 = .ok (.iload_n 1, 1) := by decide +kernel
theorem dX5_noteFlip_19 : decode cX5_noteFlip 19 = .ok (.iload_n 3, 1) := by decide +kernel
theorem dX5_noteFlip_20 : decode cX5_noteFlip 20 = .ok (.invokevirtual 101, 3) := by decide +kernel
theorem dX5_noteFlip_23 : decode cX5_noteFlip 23 = .ok (.istore 7, 2) := by decide +kernel
theorem dX5_noteFlip_25 : decode cX5_noteFlip 25 = .ok (.aload_n 0, 1) := by decide +kernel
theorem dX5_noteFlip_26 : decode cX5_noteFlip 26 = .ok (.iload_n 2, 1) := by decide +kernel
theorem dX5_noteFlip_27 : decode cX5_noteFlip 27 = .ok (.iload_n 3, 1) := by decide +kernel
theorem dX5_noteFlip_28 : decode cX5_noteFlip 28 = .ok (.invokevirtual 101, 3) := by decide +kernel
theorem dX5_noteFlip_31 : decode cX5_noteFlip 31 = .ok (.istore 8, 2) := by decide +kernel
theorem dX5_noteFlip_33 : decode cX5_noteFlip 33 = .ok (.aload_n 0, 1) := by decide +kernel
theorem dX5_noteFlip_34 : decode cX5_noteFlip 34 = .ok (.iload_n 1, 1) := by decide +kernel
theorem dX5_noteFlip_35 : decode cX5_noteFlip 35 = .ok (.iload 4, 2) := by decide +kernel
theorem dX5_noteFlip_37 : decode cX5_noteFlip 37 = .ok (.invokevirtual 101, 3) := by decide +kernel
theorem dX5_noteFlip_40 : decode cX5_noteFlip 40 = .ok (.istore 9, 2) := by decide +kernel
theorem dX5_noteFlip_42 : decode cX5_noteFlip 42 = .ok (.aload_n 0, 1) := by decide +kernel
theorem dX5_noteFlip_43 : decode cX5_noteFlip 43 = .ok (.iload_n 2, 1) := by decide +kernel
theorem dX5_noteFlip_44 : decode cX5_noteFlip 44 = .ok (.iload 4, 2) := by decide +kernel
theorem dX5_noteFlip_46 : decode cX5_noteFlip 46 = .ok (.invokevirtual 101, 3) := by decide +kernel
theorem dX5_noteFlip_49 : decode cX5_noteFlip 49 = .ok (.istore 10, 2) := by decide +kernel
theorem dX5_noteFlip_51 : decode cX5_noteFlip 51 = .ok (.iload 5, 2) := by decide +kernel
theorem dX5_noteFlip_53 : decode cX5_noteFlip 53 = .ok (.ifCond .lt 38, 3) := by decide +kernel
theorem dX5_noteFlip_56 : decode cX5_noteFlip 56 = .ok (.iload 6, 2) := by decide +kernel
theorem dX5_noteFlip_58 : decode cX5_noteFlip 58 = .ok (.ifCond .lt 33, 3) := by decide +kernel
theorem dX5_noteFlip_61 : decode cX5_noteFlip 61 = .ok (.iload 7, 2) := by decide +kernel
theorem dX5_noteFlip_63 : decode cX5_noteFlip 63 = .ok (.ifCond .lt 28, 3) := by decide +kernel
theorem dX5_noteFlip_66 : decode cX5_noteFlip 66 = .ok (.iload 8, 2) := by decide +kernel
theorem dX5_noteFlip_68 : decode cX5_noteFlip 68 = .ok (.ifCond .lt 23, 3) := by decide +kernel
theorem dX5_noteFlip_71 : decode cX5_noteFlip 71 = .ok (.iload 9, 2) := by decide +kernel
theorem dX5_noteFlip_73 : decode cX5_noteFlip 73 = .ok (.ifCond .lt 18, 3) := by decide +kernel
theorem dX5_noteFlip_76 : decode cX5_noteFlip 76 = .ok (.iload 10, 2) := by decide +kernel
theorem dX5_noteFlip_78 : decode cX5_noteFlip 78 = .ok (.ifCond .lt 13, 3) := by decide +kernel
theorem dX5_noteFlip_81 : decode cX5_noteFlip 81 = .ok (.aload_n 0, 1) := by decide +kernel
theorem dX5_noteFlip_82 : decode cX5_noteFlip 82 = .ok (.getfield 48, 3) := by decide +kernel
theorem dX5_noteFlip_85 : decode cX5_noteFlip 85 = .ok (.sipush 756, 3) := by decide +kernel
theorem dX5_noteFlip_88 : decode cX5_noteFlip 88 = .ok (.if_icmp .lt 4, 3) := by decide +kernel
theorem dX5_noteFlip_91 : decode cX5_noteFlip 91 = .ok (.return_, 1) := by decide +kernel
theorem dX5_noteFlip_92 : decode cX5_noteFlip 92 = .ok (.aload_n 0, 1) := by decide +kernel
theorem dX5_noteFlip_93 : decode cX5_noteFlip 93 = .ok (.getfield 34, 3) := by decide +kernel
theorem dX5_noteFlip_96 : decode cX5_noteFlip 96 = .ok (.aload_n 0, 1) := by decide +kernel
theorem dX5_noteFlip_97 : decode cX5_noteFlip 97 = .ok (.getfield 48, 3) := by decide +kernel
theorem dX5_noteFlip_100 : decode cX5_noteFlip 100 = .ok (.lconst 1, 1) := by decide +kernel
theorem dX5_noteFlip_101 : decode cX5_noteFlip 101 = .ok (.iload 5, 2) := by decide +kernel
theorem dX5_noteFlip_103 : decode cX5_noteFlip 103 = .ok (.lshl, 1) := by decide +kernel
theorem dX5_noteFlip_104 : decode cX5_noteFlip 104 = .ok (.lconst 1, 1) := by decide +kernel
theorem dX5_noteFlip_105 : decode cX5_noteFlip 105 = .ok (.iload 7, 2) := by decide +kernel
theorem dX5_noteFlip_107 : decode cX5_noteFlip 107 = .ok (.lshl, 1) := by decide +kernel
theorem dX5_noteFlip_108 : decode cX5_noteFlip 108 = .ok (.lor, 1) := by decide +kernel
theorem dX5_noteFlip_109 : decode cX5_noteFlip 109 = .ok (.lconst 1, 1) := by decide +kernel
theorem dX5_noteFlip_110 : decode cX5_noteFlip 110 = .ok (.iload 8, 2) := by decide +kernel
theorem dX5_noteFlip_112 : decode cX5_noteFlip 112 = .ok (.lshl, 1) := by decide +kernel
theorem dX5_noteFlip_113 : decode cX5_noteFlip 113 = .ok (.lor, 1) := by decide +kernel
theorem dX5_noteFlip_114 : decode cX5_noteFlip 114 = .ok (.lconst 1, 1) := by decide +kernel
theorem dX5_noteFlip_115 : decode cX5_noteFlip 115 = .ok (.iload 9, 2) := by decide +kernel
theorem dX5_noteFlip_117 : decode cX5_noteFlip 117 = .ok (.lshl, 1) := by decide +kernel
theorem dX5_noteFlip_118 : decode cX5_noteFlip 118 = .ok (.lor, 1) := by decide +kernel
theorem dX5_noteFlip_119 : decode cX5_noteFlip 119 = .ok (.lconst 1, 1) := by decide +kernel
theorem dX5_noteFlip_120 : decode cX5_noteFlip 120 = .ok (.iload 10, 2) := by decide +kernel
theorem dX5_noteFlip_122 : decode cX5_noteFlip 122 = .ok (.lshl, 1) := by decide +kernel
theorem dX5_noteFlip_123 : decode cX5_noteFlip 123 = .ok (.lor, 1) := by decide +kernel
theorem dX5_noteFlip_124 : decode cX5_noteFlip 124 = .ok (.lastore, 1) := by decide +kernel
theorem dX5_noteFlip_125 : decode cX5_noteFlip 125 = .ok (.aload_n 0, 1) := by decide +kernel
theorem dX5_noteFlip_126 : decode cX5_noteFlip 126 = .ok (.getfield 37, 3) := by decide +kernel
theorem dX5_noteFlip_129 : decode cX5_noteFlip 129 = .ok (.aload_n 0, 1) := by decide +kernel
theorem dX5_noteFlip_130 : decode cX5_noteFlip 130 = .ok (.getfield 48, 3) := by decide +kernel
theorem dX5_noteFlip_133 : decode cX5_noteFlip 133 = .ok (.lconst 1, 1) := by decide +kernel
theorem dX5_noteFlip_134 : decode cX5_noteFlip 134 = .ok (.iload 5, 2) := by decide +kernel
theorem dX5_noteFlip_136 : decode cX5_noteFlip 136 = .ok (.lshl, 1) := by decide +kernel
theorem dX5_noteFlip_137 : decode cX5_noteFlip 137 = .ok (.lconst 1, 1) := by decide +kernel
theorem dX5_noteFlip_138 : decode cX5_noteFlip 138 = .ok (.iload 6, 2) := by decide +kernel
theorem dX5_noteFlip_140 : decode cX5_noteFlip 140 = .ok (.lshl, 1) := by decide +kernel
theorem dX5_noteFlip_141 : decode cX5_noteFlip 141 = .ok (.lor, 1) := by decide +kernel
theorem dX5_noteFlip_142 : decode cX5_noteFlip 142 = .ok (.lastore, 1) := by decide +kernel
theorem dX5_noteFlip_143 : decode cX5_noteFlip 143 = .ok (.aload_n 0, 1) := by decide +kernel
theorem dX5_noteFlip_144 : decode cX5_noteFlip 144 = .ok (.dup, 1) := by decide +kernel
theorem dX5_noteFlip_145 : decode cX5_noteFlip 145 = .ok (.getfield 48, 3) := by decide +kernel
theorem dX5_noteFlip_148 : decode cX5_noteFlip 148 = .ok (.iconst 1, 1) := by decide +kernel
theorem dX5_noteFlip_149 : decode cX5_noteFlip 149 = .ok (.iadd, 1) := by decide +kernel
theorem dX5_noteFlip_150 : decode cX5_noteFlip 150 = .ok (.putfield 48, 3) := by decide +kernel
theorem dX5_noteFlip_153 : decode cX5_noteFlip 153 = .ok (.return_, 1) := by decide +kernel
theorem dX6_init_0 : decode cX6_init 0 = .ok (.aload_n 0, 1) := by decide +kernel
theorem dX6_init_1 : decode cX6_init 1 = .ok (.iload_n 1, 1) := by decide +kernel
theorem dX6_init_2 : decode cX6_init 2 = .ok (.invokespecial 1, 3) := by decide +kernel
theorem dX6_init_5 : decode cX6_init 5 = .ok (.return_, 1) := by decide +kernel
theorem dX6_fill_0 : decode cX6_fill 0 = .ok (.aload_n 0, 1) := by decide +kernel
theorem dX6_fill_1 : decode cX6_fill 1 = .ok (.iconst 0, 1) := by decide +kernel
theorem dX6_fill_2 : decode cX6_fill 2 = .ok (.putfield 7, 3) := by decide +kernel
theorem dX6_fill_5 : decode cX6_fill 5 = .ok (.aload_n 1, 1) := by decide +kernel
theorem dX6_fill_6 : decode cX6_fill 6 = .ok (.invokevirtual 13, 3) := by decide +kernel
theorem dX6_fill_9 : decode cX6_fill 9 = .ok (.istore_n 2, 1) := by decide +kernel
theorem dX6_fill_10 : decode cX6_fill 10 = .ok (.iload_n 2, 1) := by decide +kernel
theorem dX6_fill_11 : decode cX6_fill 11 = .ok (.aload_n 1, 1) := by decide +kernel
theorem dX6_fill_12 : decode cX6_fill 12 = .ok (.invokevirtual 19, 3) := by decide +kernel
theorem dX6_fill_15 : decode cX6_fill 15 = .ok (.if_icmp .gt 41, 3) := by decide +kernel
theorem dX6_fill_18 : decode cX6_fill 18 = .ok (.aload_n 1, 1) := by decide +kernel
theorem dX6_fill_19 : decode cX6_fill 19 = .ok (.iload_n 2, 1) := by decide +kernel
theorem dX6_fill_20 : decode cX6_fill 20 = .ok (.invokevirtual 22, 3) := by decide +kernel
theorem dX6_fill_23 : decode cX6_fill 23 = .ok (.istore_n 3, 1) := by decide +kernel
theorem dX6_fill_24 : decode cX6_fill 24 = .ok (.aload_n 1, 1) := by decide +kernel
theorem dX6_fill_25 : decode cX6_fill 25 = .ok (.iload_n 2, 1) := by decide +kernel
theorem dX6_fill_26 : decode cX6_fill 26 = .ok (.invokevirtual 26, 3) := by decide +kernel
theorem dX6_fill_29 : decode cX6_fill 29 = .ok (.istore 4, 2) := by decide +kernel
theorem dX6_fill_31 : decode cX6_fill 31 = .ok (.iload 4, 2) := by decide +kernel
theorem dX6_fill_33 : decode cX6_fill 33 = .ok (.iload_n 3, 1) := by decide +kernel
theorem dX6_fill_34 : decode cX6_fill 34 = .ok (.if_icmp .gt 16, 3) := by decide +kernel
theorem dX6_fill_37 : decode cX6_fill 37 = .ok (.aload_n 0, 1) := by decide +kernel
theorem dX6_fill_38 : decode cX6_fill 38 = .ok (.iload_n 2, 1) := by decide +kernel
theorem dX6_fill_39 : decode cX6_fill 39 = .ok (.iload 4, 2) := by decide +kernel
theorem dX6_fill_41 : decode cX6_fill 41 = .ok (.invokevirtual 29, 3) := by decide +kernel
theorem dX6_fill_44 : decode cX6_fill 44 = .ok (.iinc 4 1, 3) := by decide +kernel
theorem dX6_fill_47 : decode cX6_fill 47 = .ok (.goto (-16), 3) := by decide +kernel
theorem dX6_fill_50 : decode cX6_fill 50 = .ok (.iinc 2 1, 3) := by decide +kernel
theorem dX6_fill_53 : decode cX6_fill 53 = .ok (.goto (-43), 3) := by decide +kernel
theorem dX6_fill_56 : decode cX6_fill 56 = .ok (.return_, 1) := by decide +kernel
theorem dX6_turn_0 : decode cX6_turn 0 = .ok (.aload_n 0, 1) := by decide +kernel
theorem dX6_turn_1 : decode cX6_turn 1 = .ok (.iload_n 2, 1) := by decide +kernel
theorem dX6_turn_2 : decode cX6_turn 2 = .ok (.invokevirtual 33, 3) := by decide +kernel
theorem dX6_turn_5 : decode cX6_turn 5 = .ok (.aload_n 0, 1) := by decide +kernel
theorem dX6_turn_6 : decode cX6_turn 6 = .ok (.iload_n 1, 1) := by decide +kernel
theorem dX6_turn_7 : decode cX6_turn 7 = .ok (.invokevirtual 33, 3) := by decide +kernel
theorem dX6_turn_10 : decode cX6_turn 10 = .ok (.isub, 1) := by decide +kernel
theorem dX6_turn_11 : decode cX6_turn 11 = .ok (.aload_n 0, 1) := by decide +kernel
theorem dX6_turn_12 : decode cX6_turn 12 = .ok (.iload_n 3, 1) := by decide +kernel
theorem dX6_turn_13 : decode cX6_turn 13 = .ok (.invokevirtual 36, 3) := by decide +kernel
theorem dX6_turn_16 : decode cX6_turn 16 = .ok (.aload_n 0, 1) := by decide +kernel
theorem dX6_turn_17 : decode cX6_turn 17 = .ok (.iload_n 1, 1) := by decide +kernel
theorem dX6_turn_18 : decode cX6_turn 18 = .ok (.invokevirtual 36, 3) := by decide +kernel
theorem dX6_turn_21 : decode cX6_turn 21 = .ok (.isub, 1) := by decide +kernel
theorem dX6_turn_22 : decode cX6_turn 22 = .ok (.imul, 1) := by decide +kernel
theorem dX6_turn_23 : decode cX6_turn 23 = .ok (.aload_n 0, 1) := by decide +kernel
theorem dX6_turn_24 : decode cX6_turn 24 = .ok (.iload_n 2, 1) := by decide +kernel
theorem dX6_turn_25 : decode cX6_turn 25 = .ok (.invokevirtual 36, 3) := by decide +kernel
theorem dX6_turn_28 : decode cX6_turn 28 = .ok (.aload_n 0, 1) := by decide +kernel
theorem dX6_turn_29 : decode cX6_turn 29 = .ok (.iload_n 1, 1) := by decide +kernel
theorem dX6_turn_30 : decode cX6_turn 30 = .ok (.invokevirtual 36, 3) := by decide +kernel
theorem dX6_turn_33 : decode cX6_turn 33 = .ok (.isub, 1) := by decide +kernel
theorem dX6_turn_34 : decode cX6_turn 34 = .ok (.aload_n 0, 1) := by decide +kernel
theorem dX6_turn_35 : decode cX6_turn 35 = .ok (.iload_n 3, 1) := by decide +kernel
theorem dX6_turn_36 : decode cX6_turn 36 = .ok (.invokevirtual 33, 3) := by decide +kernel
theorem dX6_turn_39 : decode cX6_turn 39 = .ok (.aload_n 0, 1) := by decide +kernel
theorem dX6_turn_40 : decode cX6_turn 40 = .ok (.iload_n 1, 1) := by decide +kernel
theorem dX6_turn_41 : decode cX6_turn 41 = .ok (.invokevirtual 33, 3) := by decide +kernel
theorem dX6_turn_44 : decode cX6_turn 44 = .ok (.isub, 1) := by decide +kernel
theorem dX6_turn_45 : decode cX6_turn 45 = .ok (.imul, 1) := by decide +kernel
theorem dX6_turn_46 : decode cX6_turn 46 = .ok (.isub, 1) := by decide +kernel
theorem dX6_turn_47 : decode cX6_turn 47 = .ok (.ireturn, 1) := by decide +kernel
theorem dX6_find_0 : decode cX6_find 0 = .ok (.iconst 0, 1) := by decide +kernel
theorem dX6_find_1 : decode cX6_find 1 = .ok (.istore_n 3, 1) := by decide +kernel
theorem dX6_find_2 : decode cX6_find 2 = .ok (.iload_n 3, 1) := by decide +kernel
theorem dX6_find_3 : decode cX6_find 3 = .ok (.aload_n 0, 1) := by decide +kernel
theorem dX6_find_4 : decode cX6_find 4 = .ok (.getfield 7, 3) := by decide +kernel
theorem dX6_find_7 : decode cX6_find 7 = .ok (.if_icmp .ge 29, 3) := by decide +kernel
theorem dX6_find_10 : decode cX6_find 10 = .ok (.aload_n 0, 1) := by decide +kernel
theorem dX6_find_11 : decode cX6_find 11 = .ok (.iload_n 3, 1) := by decide +kernel
theorem dX6_find_12 : decode cX6_find 12 = .ok (.invokevirtual 33, 3) := by decide +kernel
theorem dX6_find_15 : decode cX6_find 15 = .ok (.iload_n 1, 1) := by decide +kernel
theorem dX6_find_16 : decode cX6_find 16 = .ok (.if_icmp .ne 14, 3) := by decide +kernel
theorem dX6_find_19 : decode cX6_find 19 = .ok (.aload_n 0, 1) := by decide +kernel
theorem dX6_find_20 : decode cX6_find 20 = .ok (.iload_n 3, 1) := by decide +kernel
theorem dX6_find_21 : decode cX6_find 21 = .ok (.invokevirtual 36, 3) := by decide +kernel
theorem dX6_find_24 : decode cX6_find 24 = .ok (.iload_n 2, 1) := by decide +kernel
theorem dX6_find_25 : decode cX6_find 25 = .ok (.if_icmp .ne 5, 3) := by decide +kernel
theorem dX6_find_28 : decode cX6_find 28 = .ok (.iload_n 3, 1) := by decide +kernel
theorem dX6_find_29 : decode cX6_find 29 = .ok (.ireturn, 1) := by decide +kernel
theorem dX6_find_30 : decode cX6_find 30 = .ok (.iinc 3 1, 3) := by decide +kernel
theorem dX6_find_33 : decode cX6_find 33 = .ok (.goto (-31), 3) := by decide +kernel
theorem dX6_find_36 : decode cX6_find 36 = .ok (.iconst (-1), 1) := by decide +kernel
theorem dX6_find_37 : decode cX6_find 37 = .ok (.ireturn, 1) := by decide +kernel
theorem dX7_init_0 : decode cX7_init 0 = .ok (.aload_n 0, 1) := by decide +kernel
theorem dX7_init_1 : decode cX7_init 1 = .ok (.iload_n 1, 1) := by decide +kernel
theorem dX7_init_2 : decode cX7_init 2 = .ok (.invokespecial 3, 3) := by decide +kernel
theorem dX7_init_5 : decode cX7_init 5 = .ok (.return_, 1) := by decide +kernel
theorem dX7_isPolygon_0 : decode cX7_isPolygon 0 = .ok (.aload_n 0, 1) := by decide +kernel
theorem dX7_isPolygon_1 : decode cX7_isPolygon 1 = .ok (.getfield 9, 3) := by decide +kernel
theorem dX7_isPolygon_4 : decode cX7_isPolygon 4 = .ok (.iconst 3, 1) := by decide +kernel
theorem dX7_isPolygon_5 : decode cX7_isPolygon 5 = .ok (.if_icmp .lt 7, 3) := by decide +kernel
theorem dX7_isPolygon_8 : decode cX7_isPolygon 8 = .ok (.iconst 1, 1) := by decide +kernel
theorem dX7_isPolygon_9 : decode cX7_isPolygon 9 = .ok (.goto 4, 3) := by decide +kernel
theorem dX7_isPolygon_12 : decode cX7_isPolygon 12 = .ok (.iconst 0, 1) := by decide +kernel
theorem dX7_isPolygon_13 : decode cX7_isPolygon 13 = .ok (.ireturn, 1) := by decide +kernel
theorem dX7_isOnGrid_0 : decode cX7_isOnGrid 0 = .ok (.iconst 0, 1) := by decide +kernel
theorem dX7_isOnGrid_1 : decode cX7_isOnGrid 1 = .ok (.istore_n 1, 1) := by decide +kernel
theorem dX7_isOnGrid_2 : decode cX7_isOnGrid 2 = .ok (.iload_n 1, 1) := by decide +kernel
theorem dX7_isOnGrid_3 : decode cX7_isOnGrid 3 = .ok (.aload_n 0, 1) := by decide +kernel
theorem dX7_isOnGrid_4 : decode cX7_isOnGrid 4 = .ok (.getfield 9, 3) := by decide +kernel
theorem dX7_isOnGrid_7 : decode cX7_isOnGrid 7 = .ok (.if_icmp .ge 33, 3) := by decide +kernel
theorem dX7_isOnGrid_10 : decode cX7_isOnGrid 10 = .ok (.aload_n 0, 1) := by decide +kernel
theorem dX7_isOnGrid_11 : decode cX7_isOnGrid 11 = .ok (.iload_n 1, 1) := by decide +kernel
theorem dX7_isOnGrid_12 : decode cX7_isOnGrid 12 = .ok (.invokevirtual 15, 3) := by decide +kernel
theorem dX7_isOnGrid_15 : decode cX7_isOnGrid 15 = .ok (.invokestatic 19, 3) := by decide +kernel
theorem dX7_isOnGrid_18 : decode cX7_isOnGrid 18 = .ok (.ifCond .eq 14, 3) := by decide +kernel
theorem dX7_isOnGrid_21 : decode cX7_isOnGrid 21 = .ok (.aload_n 0, 1) := by decide +kernel
theorem dX7_isOnGrid_22 : decode cX7_isOnGrid 22 = .ok (.iload_n 1, 1) := by decide +kernel
theorem dX7_isOnGrid_23 : decode cX7_isOnGrid 23 = .ok (.invokevirtual 23, 3) := by decide +kernel
theorem dX7_isOnGrid_26 : decode cX7_isOnGrid 26 = .ok (.invokestatic 19, 3) := by decide +kernel
theorem dX7_isOnGrid_29 : decode cX7_isOnGrid 29 = .ok (.ifCond .ne 5, 3) := by decide +kernel
theorem dX7_isOnGrid_32 : decode cX7_isOnGrid 32 = .ok (.iconst 0, 1) := by decide +kernel
theorem dX7_isOnGrid_33 : decode cX7_isOnGrid 33 = .ok (.ireturn, 1) := by decide +kernel
theorem dX7_isOnGrid_34 : decode cX7_isOnGrid 34 = .ok (.iinc 1 1, 3) := by decide +kernel
theorem dX7_isOnGrid_37 : decode cX7_isOnGrid 37 = .ok (.goto (-35), 3) := by decide +kernel
theorem dX7_isOnGrid_40 : decode cX7_isOnGrid 40 = .ok (.iconst 1, 1) := by decide +kernel
theorem dX7_isOnGrid_41 : decode cX7_isOnGrid 41 = .ok (.ireturn, 1) := by decide +kernel
theorem dX7_around_0 : decode cX7_around 0 = .ok (.iload_n 1, 1) := by decide +kernel
theorem dX7_around_1 : decode cX7_around 1 = .ok (.iload_n 2, 1) := by decide +kernel
theorem dX7_around_2 : decode cX7_around 2 = .ok (.iadd, 1) := by decide +kernel
theorem dX7_around_3 : decode cX7_around 3 = .ok (.istore_n 3, 1) := by decide +kernel
theorem dX7_around_4 : decode cX7_around 4 = .ok (.iload_n 3, 1) := by decide +kernel
theorem dX7_around_5 : decode cX7_around 5 = .ok (.aload_n 0, 1) := by decide +kernel
theorem dX7_around_6 : decode cX7_around 6 = .ok (.getfield 9, 3) := by decide +kernel
theorem dX7_around_9 : decode cX7_around 9 = .ok (.if_icmp .lt 5, 3) := by decide +kernel
theorem dX7_around_12 : decode cX7_around 12 = .ok (.iconst 0, 1) := by decide +kernel
theorem dX7_around_13 : decode cX7_around 13 = .ok (.ireturn, 1) := by decide +kernel
theorem dX7_around_14 : decode cX7_around 14 = .ok (.iload_n 3, 1) := by decide +kernel
theorem dX7_around_15 : decode cX7_around 15 = .ok (.ifCond .ge 12, 3) := by decide +kernel
theorem dX7_around_18 : decode cX7_around 18 = .ok (.aload_n 0, 1) := by decide +kernel
theorem dX7_around_19 : decode cX7_around 19 = .ok (.getfield 9, 3) := by decide +kernel
theorem dX7_around_22 : decode cX7_around 22 = .ok (.iconst 1, 1) := by decide +kernel
theorem dX7_around_23 : decode cX7_around 23 = .ok (.isub, 1) := by decide +kernel
theorem dX7_around_24 : decode cX7_around 24 = .ok (.goto 4, 3) := by decide +kernel
theorem dX7_around_27 : decode cX7_around 27 = .ok (.iload_n 3, 1) := by decide +kernel
theorem dX7_around_28 : decode cX7_around 28 = .ok (.ireturn, 1) := by decide +kernel
theorem dX7_sideX_0 : decode cX7_sideX 0 = .ok (.aload_n 0, 1) := by decide +kernel
theorem dX7_sideX_1 : decode cX7_sideX 1 = .ok (.aload_n 0, 1) := by decide +kernel
theorem dX7_sideX_2 : decode cX7_sideX 2 = .ok (.iload_n 1, 1) := by decide +kernel
theorem dX7_sideX_3 : decode cX7_sideX 3 = .ok (.iconst 1, 1) := by decide +kernel
theorem dX7_sideX_4 : decode cX7_sideX 4 = .ok (.invokevirtual 26, 3) := by decide +kernel
theorem dX7_sideX_7 : decode cX7_sideX 7 = .ok (.invokevirtual 15, 3) := by decide +kernel
theorem dX7_sideX_10 : decode cX7_sideX 10 = .ok (.aload_n 0, 1) := by decide +kernel
theorem dX7_sideX_11 : decode cX7_sideX 11 = .ok (.iload_n 1, 1) := by decide +kernel
theorem dX7_sideX_12 : decode cX7_sideX 12 = .ok (.invokevirtual 15, 3) := by decide +kernel
theorem dX7_sideX_15 : decode cX7_sideX 15 = .ok (.isub, 1) := by decide +kernel
theorem dX7_sideX_16 : decode cX7_sideX 16 = .ok (.ireturn, 1) := by decide +kernel
theorem dX7_sideY_0 : decode cX7_sideY 0 = .ok (.aload_n 0, 1) := by decide +kernel
theorem dX7_sideY_1 : decode cX7_sideY 1 = .ok (.aload_n 0, 1) := by decide +kernel
theorem dX7_sideY_2 : decode cX7_sideY 2 = .ok (.iload_n 1, 1) := by decide +kernel
theorem dX7_sideY_3 : decode cX7_sideY 3 = .ok (.iconst 1, 1) := by decide +kernel
theorem dX7_sideY_4 : decode cX7_sideY 4 = .ok (.invokevirtual 26, 3) := by decide +kernel
theorem dX7_sideY_7 : decode cX7_sideY 7 = .ok (.invokevirtual 23, 3) := by decide +kernel
theorem dX7_sideY_10 : decode cX7_sideY 10 = .ok (.aload_n 0, 1) := by decide +kernel
theorem dX7_sideY_11 : decode cX7_sideY 11 = .ok (.iload_n 1, 1) := by decide +kernel
theorem dX7_sideY_12 : decode cX7_sideY 12 = .ok (.invokevirtual 23, 3) := by decide +kernel
theorem dX7_sideY_15 : decode cX7_sideY 15 = .ok (.isub, 1) := by decide +kernel
theorem dX7_sideY_16 : decode cX7_sideY 16 = .ok (.ireturn, 1) := by decide +kernel
theorem dX7_stepsOf_0 : decode cX7_stepsOf 0 = .ok (.aload_n 0, 1) := by decide +kernel
theorem dX7_stepsOf_1 : decode cX7_stepsOf 1 = .ok (.iload_n 1, 1) := by decide +kernel
theorem dX7_stepsOf_2 : decode cX7_stepsOf 2 = .ok (.invokevirtual 30, 3) := by decide +kernel
theorem dX7_stepsOf_5 : decode cX7_stepsOf 5 = .ok (.aload_n 0, 1) := by decide +kernel
theorem dX7_stepsOf_6 : decode cX7_stepsOf 6 = .ok (.iload_n 1, 1) := by decide +kernel
theorem dX7_stepsOf_7 : decode cX7_stepsOf 7 = .ok (.invokevirtual 33, 3) := by decide +kernel
theorem dX7_stepsOf_10 : decode cX7_stepsOf 10 = .ok (.invokestatic 36, 3) := by decide +kernel
theorem dX7_stepsOf_13 : decode cX7_stepsOf 13 = .ok (.ireturn, 1) := by decide +kernel
theorem dX7_area_0 : decode cX7_area 0 = .ok (.iconst 0, 1) := by decide +kernel
theorem dX7_area_1 : decode cX7_area 1 = .ok (.istore_n 1, 1) := by decide +kernel
theorem dX7_area_2 : decode cX7_area 2 = .ok (.iconst 0, 1) := by decide +kernel
theorem dX7_area_3 : decode cX7_area 3 = .ok (.istore_n 2, 1) := by decide +kernel
theorem dX7_area_4 : decode cX7_area 4 = .ok (.iload_n 2, 1) := by decide +kernel
theorem dX7_area_5 : decode cX7_area 5 = .ok (.aload_n 0, 1) := by decide +kernel
theorem dX7_area_6 : decode cX7_area 6 = .ok (.getfield 9, 3) := by decide +kernel
theorem dX7_area_9 : decode cX7_area 9 = .ok (.if_icmp .ge 35, 3) := by decide +kernel
theorem dX7_area_12 : decode cX7_area 12 = .ok (.iload_n 1, 1) := by decide +kernel
theorem dX7_area_13 : decode cX7_area 13 = .ok (.aload_n 0, 1) := by decide +kernel
theorem dX7_area_14 : decode cX7_area 14 = .ok (.iload_n 2, 1) := by decide +kernel
theorem dX7_area_15 : decode cX7_area 15 = .ok (.invokevirtual 15, 3) := by decide +kernel
theorem dX7_area_18 : decode cX7_area 18 = .ok (.aload_n 0, 1) := by decide +kernel
theorem dX7_area_19 : decode cX7_area 19 = .ok (.iload_n 2, 1) := by decide +kernel
theorem dX7_area_20 : decode cX7_area 20 = .ok (.invokevirtual 33, 3) := by decide +kernel
theorem dX7_area_23 : decode cX7_area 23 = .ok (.imul, 1) := by decide +kernel
theorem dX7_area_24 : decode cX7_area 24 = .ok (.aload_n 0, 1) := by decide +kernel
theorem dX7_area_25 : decode cX7_area 25 = .ok (.iload_n 2, 1) := by decide +kernel
theorem dX7_area_26 : decode cX7_area 26 = .ok (.invokevirtual 23, 3) := by decide +kernel
theorem dX7_area_29 : decode cX7_area 29 = .ok (.aload_n 0, 1) := by decide +kernel
theorem dX7_area_30 : decode cX7_area 30 = .ok (.iload_n 2, 1) := by decide +kernel
theorem dX7_area_31 : decode cX7_area 31 = .ok (.invokevirtual 30, 3) := by decide +kernel
theorem dX7_area_34 : decode cX7_area 34 = .ok (.imul, 1) := by decide +kernel
theorem dX7_area_35 : decode cX7_area 35 = .ok (.isub, 1) := by decide +kernel
theorem dX7_area_36 : decode cX7_area 36 = .ok (.iadd, 1) := by decide +kernel
theorem dX7_area_37 : decode cX7_area 37 = .ok (.istore_n 1, 1) := by decide +kernel
theorem dX7_area_38 : decode cX7_area 38 = .ok (.iinc 2 1, 3) := by decide +kernel
theorem dX7_area_41 : decode cX7_area 41 = .ok (.goto (-37), 3) := by decide +kernel
theorem dX7_area_44 : decode cX7_area 44 = .ok (.iload_n 1, 1) := by decide +kernel
theorem dX7_area_45 : decode cX7_area 45 = .ok (.ireturn, 1) := by decide +kernel
theorem dX7_onEdge_0 : decode cX7_onEdge 0 = .ok (.aload_n 0, 1) := by decide +kernel
theorem dX7_onEdge_1 : decode cX7_onEdge 1 = .ok (.getfield 9, 3) := by decide +kernel
theorem dX7_onEdge_4 : decode cX7_onEdge 4 = .ok (.iconst 3, 1) := by decide +kernel
theorem dX7_onEdge_5 : decode cX7_onEdge 5 = .ok (.if_icmp .ge 22, 3) := by decide +kernel
theorem dX7_onEdge_8 : decode cX7_onEdge 8 = .ok (.aload_n 0, 1) := by decide +kernel
theorem dX7_onEdge_9 : decode cX7_onEdge 9 = .ok (.getfield 9, 3) := by decide +kernel
theorem dX7_onEdge_12 : decode cX7_onEdge 12 = .ok (.ifCond .ne 7, 3) := by decide +kernel
theorem dX7_onEdge_15 : decode cX7_onEdge 15 = .ok (.iconst 0, 1) := by decide +kernel
theorem dX7_onEdge_16 : decode cX7_onEdge 16 = .ok (.goto 10, 3) := by decide +kernel
theorem dX7_onEdge_19 : decode cX7_onEdge 19 = .ok (.aload_n 0, 1) := by decide +kernel
theorem dX7_onEdge_20 : decode cX7_onEdge 20 = .ok (.iconst 0, 1) := by decide +kernel
theorem dX7_onEdge_21 : decode cX7_onEdge 21 = .ok (.invokevirtual 39, 3) := by decide +kernel
theorem dX7_onEdge_24 : decode cX7_onEdge 24 = .ok (.iconst 1, 1) := by decide +kernel
theorem dX7_onEdge_25 : decode cX7_onEdge 25 = .ok (.iadd, 1) := by decide +kernel
theorem dX7_onEdge_26 : decode cX7_onEdge 26 = .ok (.ireturn, 1) := by decide +kernel
theorem dX7_onEdge_27 : decode cX7_onEdge 27 = .ok (.iconst 0, 1) := by decide +kernel
theorem dX7_onEdge_28 : decode cX7_onEdge 28 = .ok (.istore_n 1, 1) := by decide +kernel
theorem dX7_onEdge_29 : decode cX7_onEdge 29 = .ok (.iconst 0, 1) := by decide +kernel
theorem dX7_onEdge_30 : decode cX7_onEdge 30 = .ok (.istore_n 2, 1) := by decide +kernel
theorem dX7_onEdge_31 : decode cX7_onEdge 31 = .ok (.iload_n 2, 1) := by decide +kernel
theorem dX7_onEdge_32 : decode cX7_onEdge 32 = .ok (.aload_n 0, 1) := by decide +kernel
theorem dX7_onEdge_33 : decode cX7_onEdge 33 = .ok (.getfield 9, 3) := by decide +kernel
theorem dX7_onEdge_36 : decode cX7_onEdge 36 = .ok (.if_icmp .ge 17, 3) := by decide +kernel
theorem dX7_onEdge_39 : decode cX7_onEdge 39 = .ok (.iload_n 1, 1) := by decide +kernel
theorem dX7_onEdge_40 : decode cX7_onEdge 40 = .ok (.aload_n 0, 1) := by decide +kernel
theorem dX7_onEdge_41 : decode cX7_onEdge 41 = .ok (.iload_n 2, 1) := by decide +kernel
theorem dX7_onEdge_42 : decode cX7_onEdge 42 = .ok (.invokevirtual 39, 3) := by decide +kernel
theorem dX7_onEdge_45 : decode cX7_onEdge 45 = .ok (.iadd, 1) := by decide +kernel
theorem dX7_onEdge_46 : decode cX7_onEdge 46 = .ok (.istore_n 1, 1) := by decide +kernel
theorem dX7_onEdge_47 : decode cX7_onEdge 47 = .ok (.iinc 2 1, 3) := by decide +kernel
theorem dX7_onEdge_50 : decode cX7_onEdge 50 = .ok (.goto (-19), 3) := by decide +kernel
theorem dX7_onEdge_53 : decode cX7_onEdge 53 = .ok (.iload_n 1, 1) := by decide +kernel
theorem dX7_onEdge_54 : decode cX7_onEdge 54 = .ok (.ireturn, 1) := by decide +kernel
theorem dX7_inside_0 : decode cX7_inside 0 = .ok (.aload_n 0, 1) := by decide +kernel
theorem dX7_inside_1 : decode cX7_inside 1 = .ok (.getfield 9, 3) := by decide +kernel
theorem dX7_inside_4 : decode cX7_inside 4 = .ok (.iconst 3, 1) := by decide +kernel
theorem dX7_inside_5 : decode cX7_inside 5 = .ok (.if_icmp .ge 7, 3) := by decide +kernel
theorem dX7_inside_8 : decode cX7_inside 8 = .ok (.iconst 0, 1) := by decide +kernel
theorem dX7_inside_9 : decode cX7_inside 9 = .ok (.goto 16, 3) := by decide +kernel
theorem dX7_inside_12 : decode cX7_inside 12 = .ok (.aload_n 0, 1) := by decide +kernel
theorem dX7_inside_13 : decode cX7_inside 13 = .ok (.invokevirtual 42, 3) := by decide +kernel
theorem dX7_inside_16 : decode cX7_inside 16 = .ok (.aload_n 0, 1) := by decide +kernel
theorem dX7_inside_17 : decode cX7_inside 17 = .ok (.invokevirtual 46, 3) := by decide +kernel
theorem dX7_inside_20 : decode cX7_inside 20 = .ok (.isub, 1) := by decide +kernel
theorem dX7_inside_21 : decode cX7_inside 21 = .ok (.iconst 2, 1) := by decide +kernel
theorem dX7_inside_22 : decode cX7_inside 22 = .ok (.idiv, 1) := by decide +kernel
theorem dX7_inside_23 : decode cX7_inside 23 = .ok (.iconst 1, 1) := by decide +kernel
theorem dX7_inside_24 : decode cX7_inside 24 = .ok (.iadd, 1) := by decide +kernel
theorem dX7_inside_25 : decode cX7_inside 25 = .ok (.ireturn, 1) := by decide +kernel
theorem dX7_all_0 : decode cX7_all 0 = .ok (.aload_n 0, 1) := by decide +kernel
theorem dX7_all_1 : decode cX7_all 1 = .ok (.invokevirtual 46, 3) := by decide +kernel
theorem dX7_all_4 : decode cX7_all 4 = .ok (.aload_n 0, 1) := by decide +kernel
theorem dX7_all_5 : decode cX7_all 5 = .ok (.invokevirtual 49, 3) := by decide +kernel
theorem dX7_all_8 : decode cX7_all 8 = .ok (.iadd, 1) := by decide +kernel
theorem dX7_all_9 : decode cX7_all 9 = .ok (.ireturn, 1) := by decide +kernel
theorem dX7_allTimes_0 : decode cX7_allTimes 0 = .ok (.aload_n 0, 1) := by decide +kernel
theorem dX7_allTimes_1 : decode cX7_allTimes 1 = .ok (.getfield 9, 3) := by decide +kernel
theorem dX7_allTimes_4 : decode cX7_allTimes 4 = .ok (.ifCond .ne 5, 3) := by decide +kernel
theorem dX7_allTimes_7 : decode cX7_allTimes 7 = .ok (.lconst 0, 1) := by decide +kernel
theorem dX7_allTimes_8 : decode cX7_allTimes 8 = .ok (.lreturn, 1) := by decide +kernel
theorem dX7_allTimes_9 : decode cX7_allTimes 9 = .ok (.aload_n 0, 1) := by decide +kernel
theorem dX7_allTimes_10 : decode cX7_allTimes 10 = .ok (.getfield 9, 3) := by decide +kernel
theorem dX7_allTimes_13 : decode cX7_allTimes 13 = .ok (.iconst 3, 1) := by decide +kernel
theorem dX7_allTimes_14 : decode cX7_allTimes 14 = .ok (.if_icmp .ge 16, 3) := by decide +kernel
theorem dX7_allTimes_17 : decode cX7_allTimes 17 = .ok (.iload_n 1, 1) := by decide +kernel
theorem dX7_allTimes_18 : decode cX7_allTimes 18 = .ok (.i2l, 1) := by decide +kernel
theorem dX7_allTimes_19 : decode cX7_allTimes 19 = .ok (.aload_n 0, 1) := by decide +kernel
theorem dX7_allTimes_20 : decode cX7_allTimes 20 = .ok (.invokevirtual 46, 3) := by decide +kernel
theorem dX7_allTimes_23 : decode cX7_allTimes 23 = .ok (.iconst 1, 1) := by decide +kernel
theorem dX7_allTimes_24 : decode cX7_allTimes 24 = .ok (.isub, 1) := by decide +kernel
theorem dX7_allTimes_25 : decode cX7_allTimes 25 = .ok (.i2l, 1) := by decide +kernel
theorem dX7_allTimes_26 : decode cX7_allTimes 26 = .ok (.lmul, 1) := by decide +kernel
theorem dX7_allTimes_27 : decode cX7_allTimes 27 = .ok (.lconst 1, 1) := by decide +kernel
theorem dX7_allTimes_28 : decode cX7_allTimes 28 = .ok (.ladd, 1) := by decide +kernel
theorem dX7_allTimes_29 : decode cX7_allTimes 29 = .ok (.lreturn, 1) := by decide +kernel
theorem dX7_allTimes_30 : decode cX7_allTimes 30 = .ok (.iload_n 1, 1) := by decide +kernel
theorem dX7_allTimes_31 : decode cX7_allTimes 31 = .ok (.i2l, 1) := by decide +kernel
theorem dX7_allTimes_32 : decode cX7_allTimes 32 = .ok (.iload_n 1, 1) := by decide +kernel
theorem dX7_allTimes_33 : decode cX7_allTimes 33 = .ok (.i2l, 1) := by decide +kernel
theorem dX7_allTimes_34 : decode cX7_allTimes 34 = .ok (.lmul, 1) := by decide +kernel
theorem dX7_allTimes_35 : decode cX7_allTimes 35 = .ok (.aload_n 0, 1) := by decide +kernel
theorem dX7_allTimes_36 : decode cX7_allTimes 36 = .ok (.invokevirtual 42, 3) := by decide +kernel
theorem dX7_allTimes_39 : decode cX7_allTimes 39 = .ok (.i2l, 1) := by decide +kernel
theorem dX7_allTimes_40 : decode cX7_allTimes 40 = .ok (.lmul, 1) := by decide +kernel
theorem dX7_allTimes_41 : decode cX7_allTimes 41 = .ok (.iload_n 1, 1) := by decide +kernel
theorem dX7_allTimes_42 : decode cX7_allTimes 42 = .ok (.i2l, 1) := by decide +kernel
theorem dX7_allTimes_43 : decode cX7_allTimes 43 = .ok (.aload_n 0, 1) := by decide +kernel
theorem dX7_allTimes_44 : decode cX7_allTimes 44 = .ok (.invokevirtual 46, 3) := by decide +kernel
theorem dX7_allTimes_47 : decode cX7_allTimes 47 = .ok (.i2l, 1) := by decide +kernel
theorem dX7_allTimes_48 : decode cX7_allTimes 48 = .ok (.lmul, 1) := by decide +kernel
theorem dX7_allTimes_49 : decode cX7_allTimes 49 = .ok (.ladd, 1) := by decide +kernel
theorem dX7_allTimes_50 : decode cX7_allTimes 50 = .ok (.ldc2_w 52, 3) := by decide +kernel
theorem dX7_allTimes_53 : decode cX7_allTimes 53 = .ok (.ldiv, 1) := by decide +kernel
theorem dX7_allTimes_54 : decode cX7_allTimes 54 = .ok (.lconst 1, 1) := by decide +kernel
theorem dX7_allTimes_55 : decode cX7_allTimes 55 = .ok (.ladd, 1) := by decide +kernel
theorem dX7_allTimes_56 : decode cX7_allTimes 56 = .ok (.lreturn, 1) := by decide +kernel
theorem dX7_insideTimes_0 : decode cX7_insideTimes 0 = .ok (.iload_n 1, 1) := by decide +kernel
theorem dX7_insideTimes_1 : decode cX7_insideTimes 1 = .ok (.ifCond .ne 7, 3) := by decide +kernel
theorem dX7_insideTimes_4 : decode cX7_insideTimes 4 = .ok (.lconst 0, 1) := by decide +kernel
theorem dX7_insideTimes_5 : decode cX7_insideTimes 5 = .ok (.goto 29, 3) := by decide +kernel
theorem dX7_insideTimes_8 : decode cX7_insideTimes 8 = .ok (.iload_n 1, 1) := by decide +kernel
theorem dX7_insideTimes_9 : decode cX7_insideTimes 9 = .ok (.i2l, 1) := by decide +kernel
theorem dX7_insideTimes_10 : decode cX7_insideTimes 10 = .ok (.iload_n 1, 1) := by decide +kernel
theorem dX7_insideTimes_11 : decode cX7_insideTimes 11 = .ok (.i2l, 1) := by decide +kernel
theorem dX7_insideTimes_12 : decode cX7_insideTimes 12 = .ok (.lmul, 1) := by decide +kernel
theorem dX7_insideTimes_13 : decode cX7_insideTimes 13 = .ok (.aload_n 0, 1) := by decide +kernel
theorem dX7_insideTimes_14 : decode cX7_insideTimes 14 = .ok (.invokevirtual 42, 3) := by decide +kernel
theorem dX7_insideTimes_17 : decode cX7_insideTimes 17 = .ok (.i2l, 1) := by decide +kernel
theorem dX7_insideTimes_18 : decode cX7_insideTimes 18 = .ok (.lmul, 1) := by decide +kernel
theorem dX7_insideTimes_19 : decode cX7_insideTimes 19 = .ok (.iload_n 1, 1) := by decide +kernel
theorem dX7_insideTimes_20 : decode cX7_insideTimes 20 = .ok (.i2l, 1) := by decide +kernel
theorem dX7_insideTimes_21 : decode cX7_insideTimes 21 = .ok (.aload_n 0, 1) := by decide +kernel
theorem dX7_insideTimes_22 : decode cX7_insideTimes 22 = .ok (.invokevirtual 46, 3) := by decide +kernel
theorem dX7_insideTimes_25 : decode cX7_insideTimes 25 = .ok (.i2l, 1) := by decide +kernel
theorem dX7_insideTimes_26 : decode cX7_insideTimes 26 = .ok (.lmul, 1) := by decide +kernel
theorem dX7_insideTimes_27 : decode cX7_insideTimes 27 = .ok (.lsub, 1) := by decide +kernel
theorem dX7_insideTimes_28 : decode cX7_insideTimes 28 = .ok (.ldc2_w 52, 3) := by decide +kernel
theorem dX7_insideTimes_31 : decode cX7_insideTimes 31 = .ok (.ldiv, 1) := by decide +kernel
theorem dX7_insideTimes_32 : decode cX7_insideTimes 32 = .ok (.lconst 1, 1) := by decide +kernel
theorem dX7_insideTimes_33 : decode cX7_insideTimes 33 = .ok (.ladd, 1) := by decide +kernel
theorem dX7_insideTimes_34 : decode cX7_insideTimes 34 = .ok (.lreturn, 1) := by decide +kernel
theorem dX7_leftmost_0 : decode cX7_leftmost 0 = .ok (.aload_n 0, 1) := by decide +kernel
theorem dX7_leftmost_1 : decode cX7_leftmost 1 = .ok (.iconst 0, 1) := by decide +kernel
theorem dX7_leftmost_2 : decode cX7_leftmost 2 = .ok (.invokevirtual 15, 3) := by decide +kernel
theorem dX7_leftmost_5 : decode cX7_leftmost 5 = .ok (.ireturn, 1) := by decide +kernel
theorem dX7_rightmost_0 : decode cX7_rightmost 0 = .ok (.aload_n 0, 1) := by decide +kernel
theorem dX7_rightmost_1 : decode cX7_rightmost 1 = .ok (.iconst 0, 1) := by decide +kernel
theorem dX7_rightmost_2 : decode cX7_rightmost 2 = .ok (.invokevirtual 15, 3) := by decide +kernel
theorem dX7_rightmost_5 : decode cX7_rightmost 5 = .ok (.istore_n 1, 1) := by decide +kernel
theorem dX7_rightmost_6 : decode cX7_rightmost 6 = .ok (.iconst 1, 1) := by decide +kernel
theorem dX7_rightmost_7 : decode cX7_rightmost 7 = .ok (.istore_n 2, 1) := by decide +kernel
theorem dX7_rightmost_8 : decode cX7_rightmost 8 = .ok (.iload_n 2, 1) := by decide +kernel
theorem dX7_rightmost_9 : decode cX7_rightmost 9 = .ok (.aload_n 0, 1) := by decide +kernel
theorem dX7_rightmost_10 : decode cX7_rightmost 10 = .ok (.getfield 9, 3) := by decide +kernel
theorem dX7_rightmost_13 : decode cX7_rightmost 13 = .ok (.if_icmp .ge 19, 3) := by decide +kernel
theorem dX7_rightmost_16 : decode cX7_rightmost 16 = .ok (.iload_n 1, 1) := by decide +kernel
theorem dX7_rightmost_17 : decode cX7_rightmost 17 = .ok (.aload_n 0, 1) := by decide +kernel
theorem dX7_rightmost_18 : decode cX7_rightmost 18 = .ok (.iload_n 2, 1) := by decide +kernel
theorem dX7_rightmost_19 : decode cX7_rightmost 19 = .ok (.invokevirtual 15, 3) := by decide +kernel
theorem dX7_rightmost_22 : decode cX7_rightmost 22 = .ok (.invokestatic 54, 3) := by decide +kernel
theorem dX7_rightmost_25 : decode cX7_rightmost 25 = .ok (.istore_n 1, 1) := by decide +kernel
theorem dX7_rightmost_26 : decode cX7_rightmost 26 = .ok (.iinc 2 1, 3) := by decide +kernel
theorem dX7_rightmost_29 : decode cX7_rightmost 29 = .ok (.goto (-21), 3) := by decide +kernel
theorem dX7_rightmost_32 : decode cX7_rightmost 32 = .ok (.iload_n 1, 1) := by decide +kernel
theorem dX7_rightmost_33 : decode cX7_rightmost 33 = .ok (.ireturn, 1) := by decide +kernel
theorem dX7_bottom_0 : decode cX7_bottom 0 = .ok (.aload_n 0, 1) := by decide +kernel
theorem dX7_bottom_1 : decode cX7_bottom 1 = .ok (.iconst 0, 1) := by decide +kernel
theorem dX7_bottom_2 : decode cX7_bottom 2 = .ok (.invokevirtual 23, 3) := by decide +kernel
theorem dX7_bottom_5 : decode cX7_bottom 5 = .ok (.istore_n 1, 1) := by decide +kernel
theorem dX7_bottom_6 : decode cX7_bottom 6 = .ok (.iconst 1, 1) := by decide +kernel
theorem dX7_bottom_7 : decode cX7_bottom 7 = .ok (.istore_n 2, 1) := by decide +kernel
theorem dX7_bottom_8 : decode cX7_bottom 8 = .ok (.iload_n 2, 1) := by decide +kernel
theorem dX7_bottom_9 : decode cX7_bottom 9 = .ok (.aload_n 0, 1) := by decide +kernel
theorem dX7_bottom_10 : decode cX7_bottom 10 = .ok (.getfield 9, 3) := by decide +kernel
theorem dX7_bottom_13 : decode cX7_bottom 13 = .ok (.if_icmp .ge 19, 3) := by decide +kernel
theorem dX7_bottom_16 : decode cX7_bottom 16 = .ok (.iload_n 1, 1) := by decide +kernel
theorem dX7_bottom_17 : decode cX7_bottom 17 = .ok (.aload_n 0, 1) := by decide +kernel
theorem dX7_bottom_18 : decode cX7_bottom 18 = .ok (.iload_n 2, 1) := by decide +kernel
theorem dX7_bottom_19 : decode cX7_bottom 19 = .ok (.invokevirtual 23, 3) := by decide +kernel
theorem dX7_bottom_22 : decode cX7_bottom 22 = .ok (.invokestatic 59, 3) := by decide +kernel
theorem dX7_bottom_25 : decode cX7_bottom 25 = .ok (.istore_n 1, 1) := by decide +kernel
theorem dX7_bottom_26 : decode cX7_bottom 26 = .ok (.iinc 2 1, 3) := by decide +kernel
theorem dX7_bottom_29 : decode cX7_bottom 29 = .ok (.goto (-21), 3) := by decide +kernel
theorem dX7_bottom_32 : decode cX7_bottom 32 = .ok (.iload_n 1, 1) := by decide +kernel
theorem dX7_bottom_33 : decode cX7_bottom 33 = .ok (.ireturn, 1) := by decide +kernel
theorem dX7_top_0 : decode cX7_top 0 = .ok (.aload_n 0, 1) := by decide +kernel
theorem dX7_top_1 : decode cX7_top 1 = .ok (.iconst 0, 1) := by decide +kernel
theorem dX7_top_2 : decode cX7_top 2 = .ok (.invokevirtual 23, 3) := by decide +kernel
theorem dX7_top_5 : decode cX7_top 5 = .ok (.istore_n 1, 1) := by decide +kernel
theorem dX7_top_6 : decode cX7_top 6 = .ok (.iconst 1, 1) := by decide +kernel
theorem dX7_top_7 : decode cX7_top 7 = .ok (.istore_n 2, 1) := by decide +kernel
theorem dX7_top_8 : decode cX7_top 8 = .ok (.iload_n 2, 1) := by decide +kernel
theorem dX7_top_9 : decode cX7_top 9 = .ok (.aload_n 0, 1) := by decide +kernel
theorem dX7_top_10 : decode cX7_top 10 = .ok (.getfield 9, 3) := by decide +kernel
theorem dX7_top_13 : decode cX7_top 13 = .ok (.if_icmp .ge 19, 3) := by decide +kernel
theorem dX7_top_16 : decode cX7_top 16 = .ok (.iload_n 1, 1) := by decide +kernel
theorem dX7_top_17 : decode cX7_top 17 = .ok (.aload_n 0, 1) := by decide +kernel
theorem dX7_top_18 : decode cX7_top 18 = .ok (.iload_n 2, 1) := by decide +kernel
theorem dX7_top_19 : decode cX7_top 19 = .ok (.invokevirtual 23, 3) := by decide +kernel
theorem dX7_top_22 : decode cX7_top 22 = .ok (.invokestatic 54, 3) := by decide +kernel
theorem dX7_top_25 : decode cX7_top 25 = .ok (.istore_n 1, 1) := by decide +kernel
theorem dX7_top_26 : decode cX7_top 26 = .ok (.iinc 2 1, 3) := by decide +kernel
theorem dX7_top_29 : decode cX7_top 29 = .ok (.goto (-21), 3) := by decide +kernel
theorem dX7_top_32 : decode cX7_top 32 = .ok (.iload_n 1, 1) := by decide +kernel
theorem dX7_top_33 : decode cX7_top 33 = .ok (.ireturn, 1) := by decide +kernel
theorem dX7_lowestAt_0 : decode cX7_lowestAt 0 = .ok (.aload_n 0, 1) := by decide +kernel
theorem dX7_lowestAt_1 : decode cX7_lowestAt 1 = .ok (.invokevirtual 62, 3) := by decide +kernel
theorem dX7_lowestAt_4 : decode cX7_lowestAt 4 = .ok (.istore_n 2, 1) := by decide +kernel
theorem dX7_lowestAt_5 : decode cX7_lowestAt 5 = .ok (.iconst 0, 1) := by decide +kernel
theorem dX7_lowestAt_6 : decode cX7_lowestAt 6 = .ok (.istore_n 3, 1) := by decide +kernel
theorem dX7_lowestAt_7 : decode cX7_lowestAt 7 = .ok (.iload_n 3, 1) := by decide +kernel
theorem dX7_lowestAt_8 : decode cX7_lowestAt 8 = .ok (.aload_n 0, 1) := by decide +kernel
theorem dX7_lowestAt_9 : decode cX7_lowestAt 9 = .ok (.getfield 9, 3) := by decide +kernel
theorem dX7_lowestAt_12 : decode cX7_lowestAt 12 = .ok (.if_icmp .ge 50, 3) := by decide +kernel
theorem dX7_lowestAt_15 : decode cX7_lowestAt 15 = .ok (.aload_n 0, 1) := by decide +kernel
theorem dX7_lowestAt_16 : decode cX7_lowestAt 16 = .ok (.iload_n 3, 1) := by decide +kernel
theorem dX7_lowestAt_17 : decode cX7_lowestAt 17 = .ok (.invokevirtual 30, 3) := by decide +kernel
theorem dX7_lowestAt_20 : decode cX7_lowestAt 20 = .ok (.istore 4, 2) := by decide +kernel
theorem dX7_lowestAt_22 : decode cX7_lowestAt 22 = .ok (.iload 4, 2) := by decide +kernel
theorem dX7_lowestAt_24 : decode cX7_lowestAt 24 = .ok (.ifCond .le 32, 3) := by decide +kernel
theorem dX7_lowestAt_27 : decode cX7_lowestAt 27 = .ok (.iload_n 2, 1) := by decide +kernel
theorem dX7_lowestAt_28 : decode cX7_lowestAt 28 = .ok (.aload_n 0, 1) := by decide +kernel
theorem dX7_lowestAt_29 : decode cX7_lowestAt 29 = .ok (.iload_n 3, 1) := by decide +kernel
theorem dX7_lowestAt_30 : decode cX7_lowestAt 30 = .ok (.invokevirtual 23, 3) := by decide +kernel
theorem dX7_lowestAt_33 : decode cX7_lowestAt 33 = .ok (.aload_n 0, 1) := by decide +kernel
theorem dX7_lowestAt_34 : decode cX7_lowestAt 34 = .ok (.iload_n 3, 1) := by decide +kernel
theorem dX7_lowestAt_35 : decode cX7_lowestAt 35 = .ok (.invokevirtual 15, 3) := by decide +kernel
theorem dX7_lowestAt_38 : decode cX7_lowestAt 38 = .ok (.iload_n 1, 1) := by decide +kernel
theorem dX7_lowestAt_39 : decode cX7_lowestAt 39 = .ok (.isub, 1) := by decide +kernel
theorem dX7_lowestAt_40 : decode cX7_lowestAt 40 = .ok (.aload_n 0, 1) := by decide +kernel
theorem dX7_lowestAt_41 : decode cX7_lowestAt 41 = .ok (.iload_n 3, 1) := by decide +kernel
theorem dX7_lowestAt_42 : decode cX7_lowestAt 42 = .ok (.invokevirtual 33, 3) := by decide +kernel
theorem dX7_lowestAt_45 : decode cX7_lowestAt 45 = .ok (.imul, 1) := by decide +kernel
theorem dX7_lowestAt_46 : decode cX7_lowestAt 46 = .ok (.iload 4, 2) := by decide +kernel
theorem dX7_lowestAt_48 : decode cX7_lowestAt 48 = .ok (.invokestatic 65, 3) := by decide +kernel
theorem dX7_lowestAt_51 : decode cX7_lowestAt 51 = .ok (.isub, 1) := by decide +kernel
theorem dX7_lowestAt_52 : decode cX7_lowestAt 52 = .ok (.invokestatic 54, 3) := by decide +kernel
theorem dX7_lowestAt_55 : decode cX7_lowestAt 55 = .ok (.istore_n 2, 1) := by decide +kernel
theorem dX7_lowestAt_56 : decode cX7_lowestAt 56 = .ok (.iinc 3 1, 3) := by decide +kernel
theorem dX7_lowestAt_59 : decode cX7_lowestAt 59 = .ok (.goto (-52), 3) := by decide +kernel
theorem dX7_lowestAt_62 : decode cX7_lowestAt 62 = .ok (.iload_n 2, 1) := by decide +kernel
theorem dX7_lowestAt_63 : decode cX7_lowestAt 63 = .ok (.ireturn, 1) := by decide +kernel
theorem dX7_highestAt_0 : decode cX7_highestAt 0 = .ok (.aload_n 0, 1) := by decide +kernel
theorem dX7_highestAt_1 : decode cX7_highestAt 1 = .ok (.invokevirtual 68, 3) := by decide +kernel
theorem dX7_highestAt_4 : decode cX7_highestAt 4 = .ok (.istore_n 2, 1) := by decide +kernel
theorem dX7_highestAt_5 : decode cX7_highestAt 5 = .ok (.iconst 0, 1) := by decide +kernel
theorem dX7_highestAt_6 : decode cX7_highestAt 6 = .ok (.istore_n 3, 1) := by decide +kernel
theorem dX7_highestAt_7 : decode cX7_highestAt 7 = .ok (.iload_n 3, 1) := by decide +kernel
theorem dX7_highestAt_8 : decode cX7_highestAt 8 = .ok (.aload_n 0, 1) := by decide +kernel
theorem dX7_highestAt_9 : decode cX7_highestAt 9 = .ok (.getfield 9, 3) := by decide +kernel
theorem dX7_highestAt_12 : decode cX7_highestAt 12 = .ok (.if_icmp .ge 51, 3) := by decide +kernel
theorem dX7_highestAt_15 : decode cX7_highestAt 15 = .ok (.aload_n 0, 1) := by decide +kernel
theorem dX7_highestAt_16 : decode cX7_highestAt 16 = .ok (.iload_n 3, 1) := by decide +kernel
theorem dX7_highestAt_17 : decode cX7_highestAt 17 = .ok (.invokevirtual 30, 3) := by decide +kernel
theorem dX7_highestAt_20 : decode cX7_highestAt 20 = .ok (.ineg, 1) := by decide +kernel
theorem dX7_highestAt_21 : decode cX7_highestAt 21 = .ok (.istore 4, 2) := by decide +kernel
theorem dX7_highestAt_23 : decode cX7_highestAt 23 = .ok (.iload 4, 2) := by decide +kernel
theorem dX7_highestAt_25 : decode cX7_highestAt 25 = .ok (.ifCond .le 32, 3) := by decide +kernel
theorem dX7_highestAt_28 : decode cX7_highestAt 28 = .ok (.iload_n 2, 1) := by decide +kernel
theorem dX7_highestAt_29 : decode cX7_highestAt 29 = .ok (.aload_n 0, 1) := by decide +kernel
theorem dX7_highestAt_30 : decode cX7_highestAt 30 = .ok (.iload_n 3, 1) := by decide +kernel
theorem dX7_highestAt_31 : decode cX7_highestAt 31 = .ok (.invokevirtual 23, 3) := by decide +kernel
theorem dX7_highestAt_34 : decode cX7_highestAt 34 = .ok (.aload_n 0, 1) := by decide +kernel
theorem dX7_highestAt_35 : decode cX7_highestAt 35 = .ok (.iload_n 3, 1) := by decide +kernel
theorem dX7_highestAt_36 : decode cX7_highestAt 36 = .ok (.invokevirtual 15, 3) := by decide +kernel
theorem dX7_highestAt_39 : decode cX7_highestAt 39 = .ok (.iload_n 1, 1) := by decide +kernel
theorem dX7_highestAt_40 : decode cX7_highestAt 40 = .ok (.isub, 1) := by decide +kernel
theorem dX7_highestAt_41 : decode cX7_highestAt 41 = .ok (.aload_n 0, 1) := by decide +kernel
theorem dX7_highestAt_42 : decode cX7_highestAt 42 = .ok (.iload_n 3, 1) := by decide +kernel
theorem dX7_highestAt_43 : decode cX7_highestAt 43 = .ok (.invokevirtual 33, 3) := by decide +kernel
theorem dX7_highestAt_46 : decode cX7_highestAt 46 = .ok (.imul, 1) := by decide +kernel
theorem dX7_highestAt_47 : decode cX7_highestAt 47 = .ok (.iload 4, 2) := by decide +kernel
theorem dX7_highestAt_49 : decode cX7_highestAt 49 = .ok (.invokestatic 65, 3) := by decide +kernel
theorem dX7_highestAt_52 : decode cX7_highestAt 52 = .ok (.iadd, 1) := by decide +kernel
theorem dX7_highestAt_53 : decode cX7_highestAt 53 = .ok (.invokestatic 59, 3) := by decide +kernel
theorem dX7_highestAt_56 : decode cX7_highestAt 56 = .ok (.istore_n 2, 1) := by decide +kernel
theorem dX7_highestAt_57 : decode cX7_highestAt 57 = .ok (.iinc 3 1, 3) := by decide +kernel
theorem dX7_highestAt_60 : decode cX7_highestAt 60 = .ok (.goto (-53), 3) := by decide +kernel
theorem dX7_highestAt_63 : decode cX7_highestAt 63 = .ok (.iload_n 2, 1) := by decide +kernel
theorem dX7_highestAt_64 : decode cX7_highestAt 64 = .ok (.ireturn, 1) := by decide +kernel
theorem dX7_standing_0 : decode cX7_standing 0 = .ok (.aload_n 0, 1) := by decide +kernel
theorem dX7_standing_1 : decode cX7_standing 1 = .ok (.getfield 9, 3) := by decide +kernel
theorem dX7_standing_4 : decode cX7_standing 4 = .ok (.ifCond .eq 37, 3) := by decide +kernel
theorem dX7_standing_7 : decode cX7_standing 7 = .ok (.iload_n 1, 1) := by decide +kernel
theorem dX7_standing_8 : decode cX7_standing 8 = .ok (.aload_n 0, 1) := by decide +kernel
theorem dX7_standing_9 : decode cX7_standing 9 = .ok (.invokevirtual 71, 3) := by decide +kernel
theorem dX7_standing_12 : decode cX7_standing 12 = .ok (.if_icmp .lt 29, 3) := by decide +kernel
theorem dX7_standing_15 : decode cX7_standing 15 = .ok (.iload_n 1, 1) := by decide +kernel
theorem dX7_standing_16 : decode cX7_standing 16 = .ok (.aload_n 0, 1) := by decide +kernel
