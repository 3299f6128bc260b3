def kwl_35 : List (Nat × Cond) := [(0, Cond.instanceMethod yX2_build), (1, Cond.selects RX2 yX2_build yX2_build), (3, Cond.methodLink RX2 42 ⟨"GridPolygons$Mesh", "build", "(LGridPolygons$Ring;)V"⟩), (4, Cond.instanceMethod yX5_build), (5, Cond.selects RX5 yX5_build yX5_build), (7, Cond.methodLink RX5 40 ⟨"GridPolygons$Points", "fill", "(LGridPolygons$Ring;)V"⟩), (8, Cond.instanceMethod yX6_fill), (9, Cond.selects RX6 yX6_fill yX6_fill), (11, Cond.methodLink RX6 13 ⟨"GridPolygons$Ring", "leftmost", "()I"⟩), (12, Cond.methodLink RX6 19 ⟨"GridPolygons$Ring", "rightmost", "()I"⟩), (13, Cond.methodLink RX6 22 ⟨"GridPolygons$Ring", "highestAt", "(I)I"⟩), (14, Cond.methodLink RX6 26 ⟨"GridPolygons$Ring", "lowestAt", "(I)I"⟩), (15, Cond.methodLink RX6 29 ⟨"GridPolygons$Points", "append", "(II)V"⟩), (16, Cond.sameMethod "GridPolygons$Points" "GridPolygons$Row" "append" "(II)V"), (17, Cond.selects "GridPolygons$Points" ⟨"GridPolygons$Points", "append", "(II)V"⟩ ⟨"GridPolygons$Row", "append", "(II)V"⟩), (18, Cond.methodLink RX5 51 ⟨"java/util/Arrays", "fill", "([II)V"⟩)]
theorem kwc_35 : kwchk (lw_tbl.drop 866) kwl_35 = true := by decide +kernel
theorem kw_866 : Cond.instanceMethod yX2_build ∈ lw_g := kw_of kwc_35 (.head _)
theorem kw_867 : Cond.selects RX2 yX2_build yX2_build ∈ lw_g := kw_of kwc_35 (.tail _ (.head _))
theorem kw_869 : Cond.methodLink RX2 42 ⟨"GridPolygons$Mesh", "build", "(LGridPolygons$Ring;)V"⟩ ∈ lw_g := kw_of kwc_35 (.tail _ (.tail _ (.head _)))
theorem kw_870 : Cond.instanceMethod yX5_build ∈ lw_g := kw_of kwc_35 (.tail _ (.tail _ (.tail _ (.head _))))
theorem kw_871 : Cond.selects RX5 yX5_build yX5_build ∈ lw_g := kw_of kwc_35 (.tail _ (.tail _ (.tail _ (.tail _ (.head _)))))
theorem kw_873 : Cond.methodLink RX5 40 ⟨"GridPolygons$Points", "fill", "(LGridPolygons$Ring;)V"⟩ ∈ lw_g := kw_of kwc_35 (.tail _ (.tail _ (.tail _ (.tail _ (.tail _ (.head _))))))
theorem kw_874 : Cond.instanceMethod yX6_fill ∈ lw_g := kw_of kwc_35 (.tail _ (.tail _ (.tail _ (.tail _ (.tail _ (.tail _ (.head _)))))))
theorem kw_875 : Cond.selects RX6 yX6_fill yX6_fill ∈ lw_g := kw_of kwc_35 (.tail _ (.tail _ (.tail _ (.tail _ (.tail _ (.tail _ (.tail _ (.head _))))))))
theorem kw_877 : Cond.methodLink RX6 13 ⟨"GridPolygons$Ring", "leftmost", "()I"⟩ ∈ lw_g := kw_of kwc_35 (.tail _ (.tail _ (.tail _ (.tail _ (.tail _ (.tail _ (.tail _ (.tail _ (.head _)))))))))
theorem kw_878 : Cond.methodLink RX6 19 ⟨"GridPolygons$Ring", "rightmost", "()I"⟩ ∈ lw_g := kw_of kwc_35 (.tail _ (.tail _ (.tail _ (.tail _ (.tail _ (.tail _ (.tail _ (.tail _ (.tail _ (.head _))))))))))
theorem kw_879 : Cond.methodLink RX6 22 ⟨"GridPolygons$Ring", "highestAt", "(I)I"⟩ ∈ lw_g := kw_of kwc_35 (.tail _ (.tail _ (.tail _ (.tail _ (.tail _ (.tail _ (.tail _ (.tail _ (.tail _ (.tail _ (.head _)))))))))))
theorem kw_880 : Cond.methodLink RX6 26 ⟨"GridPolygons$Ring", "lowestAt", "(I)I"⟩ ∈ lw_g := kw_of kwc_35 (.tail _ (.tail _ (.tail _ (.tail _ (.tail _ (.tail _ (.tail _ (.tail _ (.tail _ (.tail _ (.tail _ (.head _))))))))))))
theorem kw_881 : Cond.methodLink RX6 29 ⟨"GridPolygons$Points", "append", "(II)V"⟩ ∈ lw_g := kw_of kwc_35 (.tail _ (.tail _ (.tail _ (.tail _ (.tail _ (.tail _ (.tail _ (.tail _ (.tail _ (.tail _ (.tail _ (.tail _ (.head _)))))))))))))
theorem kw_882 : Cond.sameMethod "GridPolygons$Points" "GridPolygons$Row" "append" "(II)V" ∈ lw_g := kw_of kwc_35 (.tail _ (.tail _ (.tail _ (.tail _ (.tail _ (.tail _ (.tail _ (.tail _ (.tail _ (.tail _ (.tail _ (.tail _ (.tail _ (.head _))))))))))))))
theorem kw_883 : Cond.selects "GridPolygons$Points" ⟨"GridPolygons$Points", "append", "(II)V"⟩ ⟨"GridPolygons$Row", "append", "(II)V"⟩ ∈ lw_g := kw_of kwc_35 (.tail _ (.tail _ (.tail _ (.tail _ (.tail _ (.tail _ (.tail _ (.tail _ (.tail _ (.tail _ (.tail _ (.tail _ (.tail _ (.tail _ (.head _)))))))))))))))
theorem kw_884 : Cond.methodLink RX5 51 ⟨"java/util/Arrays", "fill", "([II)V"⟩ ∈ lw_g := kw_of kwc_35 (.tail _ (.tail _ (.tail _ (.tail _ (.tail _ (.tail _ (.tail _ (.tail _ (.tail _ (.tail _ (.tail _ (.tail _ (.tail _ (.tail _ (.tail _ (.head _))))))))))))))))
def kwl_36 : List (Nat × Cond) := [(0, Cond.methodLink RX5 57 ⟨"GridPolygons$Points", "x", "(I)I"⟩), (1, Cond.sameMethod "GridPolygons$Points" "GridPolygons$Row" "x" "(I)I"), (2, Cond.selects "GridPolygons$Points" ⟨"GridPolygons$Points", "x", "(I)I"⟩ ⟨"GridPolygons$Row", "x", "(I)I"⟩), (3, Cond.methodLink RX5 61 ⟨"GridPolygons$Points", "y", "(I)I"⟩), (4, Cond.sameMethod "GridPolygons$Points" "GridPolygons$Row" "y" "(I)I"), (5, Cond.selects "GridPolygons$Points" ⟨"GridPolygons$Points", "y", "(I)I"⟩ ⟨"GridPolygons$Row", "y", "(I)I"⟩), (7, Cond.methodLink RX5 68 ⟨"GridPolygons$Mesh", "appendSegment", "(II)V"⟩), (9, Cond.instanceMethod yX5_appendSegment), (11, Cond.methodLink RX5 72 ⟨"GridPolygons$Mesh", "noteCrossed", "(I)V"⟩), (13, Cond.instanceMethod yX5_noteCrossed), (15, Cond.methodLink RX5 86 ⟨"GridPolygons$Mesh", "cross", "(IIII)Z"⟩), (17, Cond.instanceMethod yX5_cross), (19, Cond.methodLink RX5 90 ⟨"GridPolygons$Points", "turn", "(III)I"⟩), (20, Cond.instanceMethod yX6_turn), (21, Cond.selects RX6 yX6_turn yX6_turn), (23, Cond.methodLink RX6 33 ⟨"GridPolygons$Points", "x", "(I)I"⟩)]
theorem kwc_36 : kwchk (lw_tbl.drop 885) kwl_36 = true := by decide +kernel
theorem kw_885 : Cond.methodLink RX5 57 ⟨"GridPolygons$Points", "x", "(I)I"⟩ ∈ lw_g := kw_of kwc_36 (.head _)
theorem kw_886 : Cond.sameMethod "GridPolygons$Points" "GridPolygons$Row" "x" "(I)I" ∈ lw_g := kw_of kwc_36 (.tail _ (.head _))
theorem kw_887 : Cond.selects "GridPolygons$Points" ⟨"GridPolygons$Points", "x", "(I)I"⟩ ⟨"GridPolygons$Row", "x", "(I)I"⟩ ∈ lw_g := kw_of kwc_36 (.tail _ (.tail _ (.head _)))
theorem kw_888 : Cond.methodLink RX5 61 ⟨"GridPolygons$Points", "y", "(I)I"⟩ ∈ lw_g := kw_of kwc_36 (.tail _ (.tail _ (.tail _ (.head _))))
theorem kw_889 : Cond.sameMethod "GridPolygons$Points" "GridPolygons$Row" "y" "(I)I" ∈ lw_g := kw_of kwc_36 (.tail _ (.tail _ (.tail _ (.tail _ (.head _)))))
theorem kw_890 : Cond.selects "GridPolygons$Points" ⟨"GridPolygons$Points", "y", "(I)I"⟩ ⟨"GridPolygons$Row", "y", "(I)I"⟩ ∈ lw_g := kw_of kwc_36 (.tail _ (.tail _ (.tail _ (.tail _ (.tail _ (.head _))))))
theorem kw_892 : Cond.methodLink RX5 68 ⟨"GridPolygons$Mesh", "appendSegment", "(II)V"⟩ ∈ lw_g := kw_of kwc_36 (.tail _ (.tail _ (.tail _ (.tail _ (.tail _ (.tail _ (.head _)))))))
theorem kw_894 : Cond.instanceMethod yX5_appendSegment ∈ lw_g := kw_of kwc_36 (.tail _ (.tail _ (.tail _ (.tail _ (.tail _ (.tail _ (.tail _ (.head _))))))))
theorem kw_896 : Cond.methodLink RX5 72 ⟨"GridPolygons$Mesh", "noteCrossed", "(I)V"⟩ ∈ lw_g := kw_of kwc_36 (.tail _ (.tail _ (.tail _ (.tail _ (.tail _ (.tail _ (.tail _ (.tail _ (.head _)))))))))
theorem kw_898 : Cond.instanceMethod yX5_noteCrossed ∈ lw_g := kw_of kwc_36 (.tail _ (.tail _ (.tail _ (.tail _ (.tail _ (.tail _ (.tail _ (.tail _ (.tail _ (.head _))))))))))
theorem kw_900 : Cond.methodLink RX5 86 ⟨"GridPolygons$Mesh", "cross", "(IIII)Z"⟩ ∈ lw_g := kw_of kwc_36 (.tail _ (.tail _ (.tail _ (.tail _ (.tail _ (.tail _ (.tail _ (.tail _ (.tail _ (.tail _ (.head _)))))))))))
theorem kw_902 : Cond.instanceMethod yX5_cross ∈ lw_g := kw_of kwc_36 (.tail _ (.tail _ (.tail _ (.tail _ (.tail _ (.tail _ (.tail _ (.tail _ (.tail _ (.tail _ (.tail _ (.head _))))))))))))
theorem kw_904 : Cond.methodLink RX5 90 ⟨"GridPolygons$Points", "turn", "(III)I"⟩ ∈ lw_g := kw_of kwc_36 (.tail _ (.tail _ (.tail _ (.tail _ (.tail _ (.tail _ (.tail _ (.tail _ (.tail _ (.tail _ (.tail _ (.tail _ (.head _)))))))))))))
theorem kw_905 : Cond.instanceMethod yX6_turn ∈ lw_g := kw_of kwc_36 (.tail _ (.tail _ (.tail _ (.tail _ (.tail _ (.tail _ (.tail _ (.tail _ (.tail _ (.tail _ (.tail _ (.tail _ (.tail _ (.head _))))))))))))))
theorem kw_906 : Cond.selects RX6 yX6_turn yX6_turn ∈ lw_g := kw_of kwc_36 (.tail _ (.tail _ (.tail _ (.tail _ (.tail _ (.tail _ (.tail _ (.tail _ (.tail _ (.tail _ (.tail _ (.tail _ (.tail _ (.tail _ (.head _)))))))))))))))
theorem kw_908 : Cond.methodLink RX6 33 ⟨"GridPolygons$Points", "x", "(I)I"⟩ ∈ lw_g := kw_of kwc_36 (.tail _ (.tail _ (.tail _ (.tail _ (.tail _ (.tail _ (.tail _ (.tail _ (.tail _ (.tail _ (.tail _ (.tail _ (.tail _ (.tail _ (.tail _ (.head _))))))))))))))))
def kwl_37 : List (Nat × Cond) := [(0, Cond.methodLink RX6 36 ⟨"GridPolygons$Points", "y", "(I)I"⟩), (1, Cond.methodLink RX5 75 ⟨"GridPolygons$Mesh", "noteFlips", "(I)V"⟩), (3, Cond.instanceMethod yX5_noteFlips), (5, Cond.methodLink RX5 94 ⟨"GridPolygons$Points", "find", "(II)I"⟩), (6, Cond.instanceMethod yX6_find), (7, Cond.selects RX6 yX6_find yX6_find), (9, Cond.methodLink RX5 97 ⟨"GridPolygons$Mesh", "noteFlip", "(IIII)V"⟩), (11, Cond.instanceMethod yX5_noteFlip), (13, Cond.methodLink RX5 101 ⟨"GridPolygons$Mesh", "number", "(II)I"⟩), (15, Cond.instanceMethod yX5_number), (17, Cond.methodLink RX5 78 ⟨"java/lang/Math", "min", "(II)I"⟩), (18, Cond.methodLink RX5 83 ⟨"java/lang/Math", "max", "(II)I"⟩), (19, Cond.methodLink RX2 46 ⟨"GridPolygons$Cuts", "search", "()V"⟩), (21, Cond.instanceMethod yX2_search), (23, Cond.methodLink RX2 75 ⟨"java/util/Arrays", "fill", "([II)V"⟩), (24, Cond.methodLink RX2 81 ⟨"GridPolygons$Mesh", "firstCut", "()J"⟩)]
theorem kwc_37 : kwchk (lw_tbl.drop 909) kwl_37 = true := by decide +kernel
theorem kw_909 : Cond.methodLink RX6 36 ⟨"GridPolygons$Points", "y", "(I)I"⟩ ∈ lw_g := kw_of kwc_37 (.head _)
theorem kw_910 : Cond.methodLink RX5 75 ⟨"GridPolygons$Mesh", "noteFlips", "(I)V"⟩ ∈ lw_g := kw_of kwc_37 (.tail _ (.head _))
theorem kw_912 : Cond.instanceMethod yX5_noteFlips ∈ lw_g := kw_of kwc_37 (.tail _ (.tail _ (.head _)))
theorem kw_914 : Cond.methodLink RX5 94 ⟨"GridPolygons$Points", "find", "(II)I"⟩ ∈ lw_g := kw_of kwc_37 (.tail _ (.tail _ (.tail _ (.head _))))
theorem kw_915 : Cond.instanceMethod yX6_find ∈ lw_g := kw_of kwc_37 (.tail _ (.tail _ (.tail _ (.tail _ (.head _)))))
theorem kw_916 : Cond.selects RX6 yX6_find yX6_find ∈ lw_g := kw_of kwc_37 (.tail _ (.tail _ (.tail _ (.tail _ (.tail _ (.head _))))))
theorem kw_918 : Cond.methodLink RX5 97 ⟨"GridPolygons$Mesh", "noteFlip", "(IIII)V"⟩ ∈ lw_g := kw_of kwc_37 (.tail _ (.tail _ (.tail _ (.tail _ (.tail _ (.tail _ (.head _)))))))
theorem kw_920 : Cond.instanceMethod yX5_noteFlip ∈ lw_g := kw_of kwc_37 (.tail _ (.tail _ (.tail _ (.tail _ (.tail _ (.tail _ (.tail _ (.head _))))))))
theorem kw_922 : Cond.methodLink RX5 101 ⟨"GridPolygons$Mesh", "number", "(II)I"⟩ ∈ lw_g := kw_of kwc_37 (.tail _ (.tail _ (.tail _ (.tail _ (.tail _ (.tail _ (.tail _ (.tail _ (.head _)))))))))
theorem kw_924 : Cond.instanceMethod yX5_number ∈ lw_g := kw_of kwc_37 (.tail _ (.tail _ (.tail _ (.tail _ (.tail _ (.tail _ (.tail _ (.tail _ (.tail _ (.head _))))))))))
theorem kw_926 : Cond.methodLink RX5 78 ⟨"java/lang/Math", "min", "(II)I"⟩ ∈ lw_g := kw_of kwc_37 (.tail _ (.tail _ (.tail _ (.tail _ (.tail _ (.tail _ (.tail _ (.tail _ (.tail _ (.tail _ (.head _)))))))))))
theorem kw_927 : Cond.methodLink RX5 83 ⟨"java/lang/Math", "max", "(II)I"⟩ ∈ lw_g := kw_of kwc_37 (.tail _ (.tail _ (.tail _ (.tail _ (.tail _ (.tail _ (.tail _ (.tail _ (.tail _ (.tail _ (.tail _ (.head _))))))))))))
theorem kw_928 : Cond.methodLink RX2 46 ⟨"GridPolygons$Cuts", "search", "()V"⟩ ∈ lw_g := kw_of kwc_37 (.tail _ (.tail _ (.tail _ (.tail _ (.tail _ (.tail _ (.tail _ (.tail _ (.tail _ (.tail _ (.tail _ (.tail _ (.head _)))))))))))))
theorem kw_930 : Cond.instanceMethod yX2_search ∈ lw_g := kw_of kwc_37 (.tail _ (.tail _ (.tail _ (.tail _ (.tail _ (.tail _ (.tail _ (.tail _ (.tail _ (.tail _ (.tail _ (.tail _ (.tail _ (.head _))))))))))))))
theorem kw_932 : Cond.methodLink RX2 75 ⟨"java/util/Arrays", "fill", "([II)V"⟩ ∈ lw_g := kw_of kwc_37 (.tail _ (.tail _ (.tail _ (.tail _ (.tail _ (.tail _ (.tail _ (.tail _ (.tail _ (.tail _ (.tail _ (.tail _ (.tail _ (.tail _ (.head _)))))))))))))))
theorem kw_933 : Cond.methodLink RX2 81 ⟨"GridPolygons$Mesh", "firstCut", "()J"⟩ ∈ lw_g := kw_of kwc_37 (.tail _ (.tail _ (.tail _ (.tail _ (.tail _ (.tail _ (.tail _ (.tail _ (.tail _ (.tail _ (.tail _ (.tail _ (.tail _ (.tail _ (.tail _ (.head _))))))))))))))))
def kwl_38 : List (Nat × Cond) := [(0, Cond.instanceMethod yX5_firstCut), (1, Cond.selects RX5 yX5_firstCut yX5_firstCut), (3, Cond.methodLink RX2 85 ⟨"GridPolygons$Cuts", "enter", "(JI)V"⟩), (5, Cond.instanceMethod yX2_enter), (7, Cond.constantLong RX2 89 (-7046029254386353131)), (8, Cond.methodLink RX2 63 ⟨"GridPolygons$Cuts", "setOf", "(I)J"⟩), (10, Cond.instanceMethod yX2_setOf), (12, Cond.methodLink RX2 67 ⟨"GridPolygons$Mesh", "flipped", "(JI)J"⟩), (13, Cond.instanceMethod yX5_flipped), (14, Cond.selects RX5 yX5_flipped yX5_flipped), (16, Cond.methodLink RX2 56 ⟨"GridPolygons$Cuts", "farOf", "(I)I"⟩), (17, Cond.instanceMethod yX2_farOf), (18, Cond.selects RX2 yX2_farOf yX2_farOf), (20, Cond.methodLink RX11 232 ⟨"GridPolygons$Cuts", "farthest", "()I"⟩), (21, Cond.instanceMethod yX2_farthest), (22, Cond.selects RX2 yX2_farthest yX2_farthest)]
theorem kwc_38 : kwchk (lw_tbl.drop 934) kwl_38 = true := by decide +kernel
theorem kw_934 : Cond.instanceMethod yX5_firstCut ∈ lw_g := kw_of kwc_38 (.head _)
theorem kw_935 : Cond.selects RX5 yX5_firstCut yX5_firstCut ∈ lw_g := kw_of kwc_38 (.tail _ (.head _))
theorem kw_937 : Cond.methodLink RX2 85 ⟨"GridPolygons$Cuts", "enter", "(JI)V"⟩ ∈ lw_g := kw_of kwc_38 (.tail _ (.tail _ (.head _)))
theorem kw_939 : Cond.instanceMethod yX2_enter ∈ lw_g := kw_of kwc_38 (.tail _ (.tail _ (.tail _ (.head _))))
theorem kw_941 : Cond.constantLong RX2 89 (-7046029254386353131) ∈ lw_g := kw_of kwc_38 (.tail _ (.tail _ (.tail _ (.tail _ (.head _)))))
theorem kw_942 : Cond.methodLink RX2 63 ⟨"GridPolygons$Cuts", "setOf", "(I)J"⟩ ∈ lw_g := kw_of kwc_38 (.tail _ (.tail _ (.tail _ (.tail _ (.tail _ (.head _))))))
theorem kw_944 : Cond.instanceMethod yX2_setOf ∈ lw_g := kw_of kwc_38 (.tail _ (.tail _ (.tail _ (.tail _ (.tail _ (.tail _ (.head _)))))))
theorem kw_946 : Cond.methodLink RX2 67 ⟨"GridPolygons$Mesh", "flipped", "(JI)J"⟩ ∈ lw_g := kw_of kwc_38 (.tail _ (.tail _ (.tail _ (.tail _ (.tail _ (.tail _ (.tail _ (.head _))))))))
theorem kw_947 : Cond.instanceMethod yX5_flipped ∈ lw_g := kw_of kwc_38 (.tail _ (.tail _ (.tail _ (.tail _ (.tail _ (.tail _ (.tail _ (.tail _ (.head _)))))))))
theorem kw_948 : Cond.selects RX5 yX5_flipped yX5_flipped ∈ lw_g := kw_of kwc_38 (.tail _ (.tail _ (.tail _ (.tail _ (.tail _ (.tail _ (.tail _ (.tail _ (.tail _ (.head _))))))))))
theorem kw_950 : Cond.methodLink RX2 56 ⟨"GridPolygons$Cuts", "farOf", "(I)I"⟩ ∈ lw_g := kw_of kwc_38 (.tail _ (.tail _ (.tail _ (.tail _ (.tail _ (.tail _ (.tail _ (.tail _ (.tail _ (.tail _ (.head _)))))))))))
theorem kw_951 : Cond.instanceMethod yX2_farOf ∈ lw_g := kw_of kwc_38 (.tail _ (.tail _ (.tail _ (.tail _ (.tail _ (.tail _ (.tail _ (.tail _ (.tail _ (.tail _ (.tail _ (.head _))))))))))))
theorem kw_952 : Cond.selects RX2 yX2_farOf yX2_farOf ∈ lw_g := kw_of kwc_38 (.tail _ (.tail _ (.tail _ (.tail _ (.tail _ (.tail _ (.tail _ (.tail _ (.tail _ (.tail _ (.tail _ (.tail _ (.head _)))))))))))))
theorem kw_954 : Cond.methodLink RX11 232 ⟨"GridPolygons$Cuts", "farthest", "()I"⟩ ∈ lw_g := kw_of kwc_38 (.tail _ (.tail _ (.tail _ (.tail _ (.tail _ (.tail _ (.tail _ (.tail _ (.tail _ (.tail _ (.tail _ (.tail _ (.tail _ (.head _))))))))))))))
theorem kw_955 : Cond.instanceMethod yX2_farthest ∈ lw_g := kw_of kwc_38 (.tail _ (.tail _ (.tail _ (.tail _ (.tail _ (.tail _ (.tail _ (.tail _ (.tail _ (.tail _ (.tail _ (.tail _ (.tail _ (.tail _ (.head _)))))))))))))))
theorem kw_956 : Cond.selects RX2 yX2_farthest yX2_farthest ∈ lw_g := kw_of kwc_38 (.tail _ (.tail _ (.tail _ (.tail _ (.tail _ (.tail _ (.tail _ (.tail _ (.tail _ (.tail _ (.tail _ (.tail _ (.tail _ (.tail _ (.tail _ (.head _))))))))))))))))
def kwl_39 : List (Nat × Cond) := [(0, Cond.instanceMethod yX11_cut), (1, Cond.selects RX11 yX11_cut yX11_cut), (3, Cond.methodLink RX11 235 ⟨"GridPolygons$Cuts", "farOf", "(I)I"⟩), (4, Cond.methodLink RX11 238 ⟨"GridPolygons$Cuts", "segmentAt", "(II)I"⟩), (5, Cond.instanceMethod yX2_segmentAt), (6, Cond.selects RX2 yX2_segmentAt yX2_segmentAt), (8, Cond.methodLink RX2 72 ⟨"GridPolygons$Mesh", "told", "(I)I"⟩), (9, Cond.instanceMethod yX5_told), (10, Cond.selects RX5 yX5_told yX5_told), (13, Cond.instanceMethod yX11_flips), (14, Cond.selects RX11 yX11_flips yX11_flips), (16, Cond.methodLink RX11 241 ⟨"GridPolygons$Cuts", "flipsOf", "(I)I"⟩), (17, Cond.instanceMethod yX2_flipsOf), (18, Cond.selects RX2 yX2_flipsOf yX2_flipsOf), (21, Cond.instanceMethod yX11_height), (22, Cond.selects RX11 yX11_height yX11_height)]
theorem kwc_39 : kwchk (lw_tbl.drop 959) kwl_39 = true := by decide +kernel
theorem kw_959 : Cond.instanceMethod yX11_cut ∈ lw_g := kw_of kwc_39 (.head _)
theorem kw_960 : Cond.selects RX11 yX11_cut yX11_cut ∈ lw_g := kw_of kwc_39 (.tail _ (.head _))
theorem kw_962 : Cond.methodLink RX11 235 ⟨"GridPolygons$Cuts", "farOf", "(I)I"⟩ ∈ lw_g := kw_of kwc_39 (.tail _ (.tail _ (.head _)))
theorem kw_963 : Cond.methodLink RX11 238 ⟨"GridPolygons$Cuts", "segmentAt", "(II)I"⟩ ∈ lw_g := kw_of kwc_39 (.tail _ (.tail _ (.tail _ (.head _))))
theorem kw_964 : Cond.instanceMethod yX2_segmentAt ∈ lw_g := kw_of kwc_39 (.tail _ (.tail _ (.tail _ (.tail _ (.head _)))))
theorem kw_965 : Cond.selects RX2 yX2_segmentAt yX2_segmentAt ∈ lw_g := kw_of kwc_39 (.tail _ (.tail _ (.tail _ (.tail _ (.tail _ (.head _))))))
theorem kw_967 : Cond.methodLink RX2 72 ⟨"GridPolygons$Mesh", "told", "(I)I"⟩ ∈ lw_g := kw_of kwc_39 (.tail _ (.tail _ (.tail _ (.tail _ (.tail _ (.tail _ (.head _)))))))
theorem kw_968 : Cond.instanceMethod yX5_told ∈ lw_g := kw_of kwc_39 (.tail _ (.tail _ (.tail _ (.tail _ (.tail _ (.tail _ (.tail _ (.head _))))))))
theorem kw_969 : Cond.selects RX5 yX5_told yX5_told ∈ lw_g := kw_of kwc_39 (.tail _ (.tail _ (.tail _ (.tail _ (.tail _ (.tail _ (.tail _ (.tail _ (.head _)))))))))
theorem kw_972 : Cond.instanceMethod yX11_flips ∈ lw_g := kw_of kwc_39 (.tail _ (.tail _ (.tail _ (.tail _ (.tail _ (.tail _ (.tail _ (.tail _ (.tail _ (.head _))))))))))
theorem kw_973 : Cond.selects RX11 yX11_flips yX11_flips ∈ lw_g := kw_of kwc_39 (.tail _ (.tail _ (.tail _ (.tail _ (.tail _ (.tail _ (.tail _ (.tail _ (.tail _ (.tail _ (.head _)))))))))))
theorem kw_975 : Cond.methodLink RX11 241 ⟨"GridPolygons$Cuts", "flipsOf", "(I)I"⟩ ∈ lw_g := kw_of kwc_39 (.tail _ (.tail _ (.tail _ (.tail _ (.tail _ (.tail _ (.tail _ (.tail _ (.tail _ (.tail _ (.tail _ (.head _))))))))))))
theorem kw_976 : Cond.instanceMethod yX2_flipsOf ∈ lw_g := kw_of kwc_39 (.tail _ (.tail _ (.tail _ (.tail _ (.tail _ (.tail _ (.tail _ (.tail _ (.tail _ (.tail _ (.tail _ (.tail _ (.head _)))))))))))))
theorem kw_977 : Cond.selects RX2 yX2_flipsOf yX2_flipsOf ∈ lw_g := kw_of kwc_39 (.tail _ (.tail _ (.tail _ (.tail _ (.tail _ (.tail _ (.tail _ (.tail _ (.tail _ (.tail _ (.tail _ (.tail _ (.tail _ (.head _))))))))))))))
theorem kw_980 : Cond.instanceMethod yX11_height ∈ lw_g := kw_of kwc_39 (.tail _ (.tail _ (.tail _ (.tail _ (.tail _ (.tail _ (.tail _ (.tail _ (.tail _ (.tail _ (.tail _ (.tail _ (.tail _ (.tail _ (.head _)))))))))))))))
theorem kw_981 : Cond.selects RX11 yX11_height yX11_height ∈ lw_g := kw_of kwc_39 (.tail _ (.tail _ (.tail _ (.tail _ (.tail _ (.tail _ (.tail _ (.tail _ (.tail _ (.tail _ (.tail _ (.tail _ (.tail _ (.tail _ (.tail _ (.head _))))))))))))))))
def kwl_40 : List (Nat × Cond) := [(0, Cond.instanceMethod yX11_pieces), (1, Cond.selects RX11 yX11_pieces yX11_pieces), (3, Cond.methodLink RX11 254 ⟨"GridPolygons$Coarse", "build", "(LGridPolygons$Shape;)V"⟩), (4, Cond.instanceMethod yX1_build), (5, Cond.selects RX1 yX1_build yX1_build), (7, Cond.methodLink RX1 37 ⟨"GridPolygons$Points", "fill", "(LGridPolygons$Ring;)V"⟩), (8, Cond.methodLink RX1 49 ⟨"GridPolygons$Coarse", "lowestLeft", "([III)I"⟩), (10, Cond.instanceMethod yX1_lowestLeft), (12, Cond.methodLink RX1 82 ⟨"GridPolygons$Points", "turn", "(III)I"⟩), (13, Cond.methodLink RX1 91 ⟨"GridPolygons$Coarse", "above", "([IIIII)I"⟩), (15, Cond.instanceMethod yX1_above), (17, Cond.methodLink RX1 95 ⟨"java/lang/Math", "max", "(II)I"⟩), (18, Cond.methodLink RX1 98 ⟨"java/lang/Math", "min", "(II)I"⟩), (19, Cond.methodLink RX1 53 ⟨"GridPolygons$Coarse", "planeOf", "([IIII)J"⟩), (21, Cond.instanceMethod yX1_planeOf), (23, Cond.methodLink RX1 71 ⟨"GridPolygons$Coarse", "bit", "(I)J"⟩)]
theorem kwc_40 : kwchk (lw_tbl.drop 984) kwl_40 = true := by decide +kernel
theorem kw_984 : Cond.instanceMethod yX11_pieces ∈ lw_g := kw_of kwc_40 (.head _)
theorem kw_985 : Cond.selects RX11 yX11_pieces yX11_pieces ∈ lw_g := kw_of kwc_40 (.tail _ (.head _))
theorem kw_987 : Cond.methodLink RX11 254 ⟨"GridPolygons$Coarse", "build", "(LGridPolygons$Shape;)V"⟩ ∈ lw_g := kw_of kwc_40 (.tail _ (.tail _ (.head _)))
theorem kw_988 : Cond.instanceMethod yX1_build ∈ lw_g := kw_of kwc_40 (.tail _ (.tail _ (.tail _ (.head _))))
theorem kw_989 : Cond.selects RX1 yX1_build yX1_build ∈ lw_g := kw_of kwc_40 (.tail _ (.tail _ (.tail _ (.tail _ (.head _)))))
theorem kw_991 : Cond.methodLink RX1 37 ⟨"GridPolygons$Points", "fill", "(LGridPolygons$Ring;)V"⟩ ∈ lw_g := kw_of kwc_40 (.tail _ (.tail _ (.tail _ (.tail _ (.tail _ (.head _))))))
theorem kw_992 : Cond.methodLink RX1 49 ⟨"GridPolygons$Coarse", "lowestLeft", "([III)I"⟩ ∈ lw_g := kw_of kwc_40 (.tail _ (.tail _ (.tail _ (.tail _ (.tail _ (.tail _ (.head _)))))))
theorem kw_994 : Cond.instanceMethod yX1_lowestLeft ∈ lw_g := kw_of kwc_40 (.tail _ (.tail _ (.tail _ (.tail _ (.tail _ (.tail _ (.tail _ (.head _))))))))
theorem kw_996 : Cond.methodLink RX1 82 ⟨"GridPolygons$Points", "turn", "(III)I"⟩ ∈ lw_g := kw_of kwc_40 (.tail _ (.tail _ (.tail _ (.tail _ (.tail _ (.tail _ (.tail _ (.tail _ (.head _)))))))))
theorem kw_997 : Cond.methodLink RX1 91 ⟨"GridPolygons$Coarse", "above", "([IIIII)I"⟩ ∈ lw_g := kw_of kwc_40 (.tail _ (.tail _ (.tail _ (.tail _ (.tail _ (.tail _ (.tail _ (.tail _ (.tail _ (.head _))))))))))
theorem kw_999 : Cond.instanceMethod yX1_above ∈ lw_g := kw_of kwc_40 (.tail _ (.tail _ (.tail _ (.tail _ (.tail _ (.tail _ (.tail _ (.tail _ (.tail _ (.tail _ (.head _)))))))))))
theorem kw_1001 : Cond.methodLink RX1 95 ⟨"java/lang/Math", "max", "(II)I"⟩ ∈ lw_g := kw_of kwc_40 (.tail _ (.tail _ (.tail _ (.tail _ (.tail _ (.tail _ (.tail _ (.tail _ (.tail _ (.tail _ (.tail _ (.head _))))))))))))
theorem kw_1002 : Cond.methodLink RX1 98 ⟨"java/lang/Math", "min", "(II)I"⟩ ∈ lw_g := kw_of kwc_40 (.tail _ (.tail _ (.tail _ (.tail _ (.tail _ (.tail _ (.tail _ (.tail _ (.tail _ (.tail _ (.tail _ (.tail _ (.head _)))))))))))))
theorem kw_1003 : Cond.methodLink RX1 53 ⟨"GridPolygons$Coarse", "planeOf", "([IIII)J"⟩ ∈ lw_g := kw_of kwc_40 (.tail _ (.tail _ (.tail _ (.tail _ (.tail _ (.tail _ (.tail _ (.tail _ (.tail _ (.tail _ (.tail _ (.tail _ (.tail _ (.head _))))))))))))))
theorem kw_1005 : Cond.instanceMethod yX1_planeOf ∈ lw_g := kw_of kwc_40 (.tail _ (.tail _ (.tail _ (.tail _ (.tail _ (.tail _ (.tail _ (.tail _ (.tail _ (.tail _ (.tail _ (.tail _ (.tail _ (.tail _ (.head _)))))))))))))))
theorem kw_1007 : Cond.methodLink RX1 71 ⟨"GridPolygons$Coarse", "bit", "(I)J"⟩ ∈ lw_g := kw_of kwc_40 (.tail _ (.tail _ (.tail _ (.tail _ (.tail _ (.tail _ (.tail _ (.tail _ (.tail _ (.tail _ (.tail _ (.tail _ (.tail _ (.tail _ (.tail _ (.head _))))))))))))))))
def kwl_41 : List (Nat × Cond) := [(0, Cond.static yX1_bit), (2, Cond.methodLink RX1 57 ⟨"GridPolygons$Coarse", "enter", "(J)V"⟩), (4, Cond.instanceMethod yX1_enter), (6, Cond.methodLink RX1 101 ⟨"GridPolygons$Coarse", "isKnown", "(J)Z"⟩), (8, Cond.instanceMethod yX1_isKnown), (10, Cond.methodLink RX1 61 ⟨"GridPolygons$Coarse", "setOf", "(I)J"⟩), (12, Cond.instanceMethod yX1_setOf), (14, Cond.methodLink RX11 257 ⟨"GridPolygons$Coarse", "seen", "()I"⟩), (15, Cond.instanceMethod yX1_seen), (16, Cond.selects RX1 yX1_seen yX1_seen), (18, Cond.methodLink RX1 65 ⟨"java/lang/Long", "bitCount", "(J)I"⟩), (19, Cond.static yJ13_bitCount_95d88), (24, Cond.methodLink RX11 260 ⟨"GridPolygons$Coarse", "unitTriangles", "()I"⟩), (25, Cond.instanceMethod yX1_unitTriangles), (26, Cond.selects RX1 yX1_unitTriangles yX1_unitTriangles), (28, Cond.methodLink RX1 74 ⟨"GridPolygons$Coarse", "sizeOf", "(I)I"⟩)]
theorem kwc_41 : kwchk (lw_tbl.drop 1008) kwl_41 = true := by decide +kernel
theorem kw_1008 : Cond.static yX1_bit ∈ lw_g := kw_of kwc_41 (.head _)
theorem kw_1010 : Cond.methodLink RX1 57 ⟨"GridPolygons$Coarse", "enter", "(J)V"⟩ ∈ lw_g := kw_of kwc_41 (.tail _ (.head _))
theorem kw_1012 : Cond.instanceMethod yX1_enter ∈ lw_g := kw_of kwc_41 (.tail _ (.tail _ (.head _)))
theorem kw_1014 : Cond.methodLink RX1 101 ⟨"GridPolygons$Coarse", "isKnown", "(J)Z"⟩ ∈ lw_g := kw_of kwc_41 (.tail _ (.tail _ (.tail _ (.head _))))
theorem kw_1016 : Cond.instanceMethod yX1_isKnown ∈ lw_g := kw_of kwc_41 (.tail _ (.tail _ (.tail _ (.tail _ (.head _)))))
theorem kw_1018 : Cond.methodLink RX1 61 ⟨"GridPolygons$Coarse", "setOf", "(I)J"⟩ ∈ lw_g := kw_of kwc_41 (.tail _ (.tail _ (.tail _ (.tail _ (.tail _ (.head _))))))
theorem kw_1020 : Cond.instanceMethod yX1_setOf ∈ lw_g := kw_of kwc_41 (.tail _ (.tail _ (.tail _ (.tail _ (.tail _ (.tail _ (.head _)))))))
theorem kw_1022 : Cond.methodLink RX11 257 ⟨"GridPolygons$Coarse", "seen", "()I"⟩ ∈ lw_g := kw_of kwc_41 (.tail _ (.tail _ (.tail _ (.tail _ (.tail _ (.tail _ (.tail _ (.head _))))))))
theorem kw_1023 : Cond.instanceMethod yX1_seen ∈ lw_g := kw_of kwc_41 (.tail _ (.tail _ (.tail _ (.tail _ (.tail _ (.tail _ (.tail _ (.tail _ (.head _)))))))))
theorem kw_1024 : Cond.selects RX1 yX1_seen yX1_seen ∈ lw_g := kw_of kwc_41 (.tail _ (.tail _ (.tail _ (.tail _ (.tail _ (.tail _ (.tail _ (.tail _ (.tail _ (.head _))))))))))
theorem kw_1026 : Cond.methodLink RX1 65 ⟨"java/lang/Long", "bitCount", "(J)I"⟩ ∈ lw_g := kw_of kwc_41 (.tail _ (.tail _ (.tail _ (.tail _ (.tail _ (.tail _ (.tail _ (.tail _ (.tail _ (.tail _ (.head _)))))))))))
theorem kw_1027 : Cond.static yJ13_bitCount_95d88 ∈ lw_g := kw_of kwc_41 (.tail _ (.tail _ (.tail _ (.tail _ (.tail _ (.tail _ (.tail _ (.tail _ (.tail _ (.tail _ (.tail _ (.head _))))))))))))
theorem kw_1032 : Cond.methodLink RX11 260 ⟨"GridPolygons$Coarse", "unitTriangles", "()I"⟩ ∈ lw_g := kw_of kwc_41 (.tail _ (.tail _ (.tail _ (.tail _ (.tail _ (.tail _ (.tail _ (.tail _ (.tail _ (.tail _ (.tail _ (.tail _ (.head _)))))))))))))
theorem kw_1033 : Cond.instanceMethod yX1_unitTriangles ∈ lw_g := kw_of kwc_41 (.tail _ (.tail _ (.tail _ (.tail _ (.tail _ (.tail _ (.tail _ (.tail _ (.tail _ (.tail _ (.tail _ (.tail _ (.tail _ (.head _))))))))))))))
theorem kw_1034 : Cond.selects RX1 yX1_unitTriangles yX1_unitTriangles ∈ lw_g := kw_of kwc_41 (.tail _ (.tail _ (.tail _ (.tail _ (.tail _ (.tail _ (.tail _ (.tail _ (.tail _ (.tail _ (.tail _ (.tail _ (.tail _ (.tail _ (.head _)))))))))))))))
theorem kw_1036 : Cond.methodLink RX1 74 ⟨"GridPolygons$Coarse", "sizeOf", "(I)I"⟩ ∈ lw_g := kw_of kwc_41 (.tail _ (.tail _ (.tail _ (.tail _ (.tail _ (.tail _ (.tail _ (.tail _ (.tail _ (.tail _ (.tail _ (.tail _ (.tail _ (.tail _ (.tail _ (.head _))))))))))))))))
def kwl_42 : List (Nat × Cond) := [(0, Cond.instanceMethod yX1_sizeOf), (1, Cond.selects RX1 yX1_sizeOf yX1_sizeOf), (3, Cond.methodLink RX1 78 ⟨"GridPolygons$Coarse", "memberOf", "(II)I"⟩), (4, Cond.instanceMethod yX1_memberOf), (5, Cond.selects RX1 yX1_memberOf yX1_memberOf), (7, Cond.methodLink RX1 86 ⟨"java/lang/Math", "abs", "(I)I"⟩), (9, Cond.instanceMethod yX11_piece), (10, Cond.selects RX11 yX11_piece yX11_piece), (12, Cond.methodLink RX11 263 ⟨"GridPolygons$Coarse", "sizeOf", "(I)I"⟩), (13, Cond.methodLink RX11 266 ⟨"GridPolygons$Coarse", "memberOf", "(II)I"⟩), (15, Cond.instantiable "GridPolygonsModel" 31), (17, Cond.instanceMethod yX12_init), (19, Cond.methodLink RX12 1 ⟨"java/lang/Object", "<init>", "()V"⟩), (20, Cond.constant RX12 47 (J (648025))), (21, Cond.fieldLink RX12 7 "GridPolygonsModel" "many" "[I"), (22, Cond.fieldLink RX12 13 "GridPolygonsModel" "cornerX" "[I")]
theorem kwc_42 : kwchk (lw_tbl.drop 1037) kwl_42 = true := by decide +kernel
theorem kw_1037 : Cond.instanceMethod yX1_sizeOf ∈ lw_g := kw_of kwc_42 (.head _)
theorem kw_1038 : Cond.selects RX1 yX1_sizeOf yX1_sizeOf ∈ lw_g := kw_of kwc_42 (.tail _ (.head _))
theorem kw_1040 : Cond.methodLink RX1 78 ⟨"GridPolygons$Coarse", "memberOf", "(II)I"⟩ ∈ lw_g := kw_of kwc_42 (.tail _ (.tail _ (.head _)))
theorem kw_1041 : Cond.instanceMethod yX1_memberOf ∈ lw_g := kw_of kwc_42 (.tail _ (.tail _ (.tail _ (.head _))))
theorem kw_1042 : Cond.selects RX1 yX1_memberOf yX1_memberOf ∈ lw_g := kw_of kwc_42 (.tail _ (.tail _ (.tail _ (.tail _ (.head _)))))
theorem kw_1044 : Cond.methodLink RX1 86 ⟨"java/lang/Math", "abs", "(I)I"⟩ ∈ lw_g := kw_of kwc_42 (.tail _ (.tail _ (.tail _ (.tail _ (.tail _ (.head _))))))
theorem kw_1046 : Cond.instanceMethod yX11_piece ∈ lw_g := kw_of kwc_42 (.tail _ (.tail _ (.tail _ (.tail _ (.tail _ (.tail _ (.head _)))))))
theorem kw_1047 : Cond.selects RX11 yX11_piece yX11_piece ∈ lw_g := kw_of kwc_42 (.tail _ (.tail _ (.tail _ (.tail _ (.tail _ (.tail _ (.tail _ (.head _))))))))
theorem kw_1049 : Cond.methodLink RX11 263 ⟨"GridPolygons$Coarse", "sizeOf", "(I)I"⟩ ∈ lw_g := kw_of kwc_42 (.tail _ (.tail _ (.tail _ (.tail _ (.tail _ (.tail _ (.tail _ (.tail _ (.head _)))))))))
theorem kw_1050 : Cond.methodLink RX11 266 ⟨"GridPolygons$Coarse", "memberOf", "(II)I"⟩ ∈ lw_g := kw_of kwc_42 (.tail _ (.tail _ (.tail _ (.tail _ (.tail _ (.tail _ (.tail _ (.tail _ (.tail _ (.head _))))))))))
theorem kw_1052 : Cond.instantiable "GridPolygonsModel" 31 ∈ lw_g := kw_of kwc_42 (.tail _ (.tail _ (.tail _ (.tail _ (.tail _ (.tail _ (.tail _ (.tail _ (.tail _ (.tail _ (.head _)))))))))))
theorem kw_1054 : Cond.instanceMethod yX12_init ∈ lw_g := kw_of kwc_42 (.tail _ (.tail _ (.tail _ (.tail _ (.tail _ (.tail _ (.tail _ (.tail _ (.tail _ (.tail _ (.tail _ (.head _))))))))))))
theorem kw_1056 : Cond.methodLink RX12 1 ⟨"java/lang/Object", "<init>", "()V"⟩ ∈ lw_g := kw_of kwc_42 (.tail _ (.tail _ (.tail _ (.tail _ (.tail _ (.tail _ (.tail _ (.tail _ (.tail _ (.tail _ (.tail _ (.tail _ (.head _)))))))))))))
theorem kw_1057 : Cond.constant RX12 47 (J (648025)) ∈ lw_g := kw_of kwc_42 (.tail _ (.tail _ (.tail _ (.tail _ (.tail _ (.tail _ (.tail _ (.tail _ (.tail _ (.tail _ (.tail _ (.tail _ (.tail _ (.head _))))))))))))))
theorem kw_1058 : Cond.fieldLink RX12 7 "GridPolygonsModel" "many" "[I" ∈ lw_g := kw_of kwc_42 (.tail _ (.tail _ (.tail _ (.tail _ (.tail _ (.tail _ (.tail _ (.tail _ (.tail _ (.tail _ (.tail _ (.tail _ (.tail _ (.tail _ (.head _)))))))))))))))
theorem kw_1059 : Cond.fieldLink RX12 13 "GridPolygonsModel" "cornerX" "[I" ∈ lw_g := kw_of kwc_42 (.tail _ (.tail _ (.tail _ (.tail _ (.tail _ (.tail _ (.tail _ (.tail _ (.tail _ (.tail _ (.tail _ (.tail _ (.tail _ (.tail _ (.tail _ (.head _))))))))))))))))
def kwl_43 : List (Nat × Cond) := [(0, Cond.fieldLink RX12 16 "GridPolygonsModel" "cornerY" "[I"), (1, Cond.fieldLink RX12 19 "GridPolygonsModel" "heights" "[I"), (2, Cond.fieldLink RX12 22 "GridPolygonsModel" "workX" "[I"), (3, Cond.fieldLink RX12 25 "GridPolygonsModel" "workY" "[I"), (4, Cond.fieldLink RX12 89 "GridPolygonsModel" "work" "I"), (5, Cond.fieldLink RX12 28 "GridPolygonsModel" "hullX" "[I"), (6, Cond.fieldLink RX12 31 "GridPolygonsModel" "hullY" "[I"), (7, Cond.fieldLink RX12 97 "GridPolygonsModel" "hull" "I"), (8, Cond.fieldLink RX12 34 "GridPolygonsModel" "allX" "[I"), (9, Cond.fieldLink RX12 37 "GridPolygonsModel" "allY" "[I"), (10, Cond.fieldLink RX12 168 "GridPolygonsModel" "all" "I"), (11, Cond.fieldLink RX12 40 "GridPolygonsModel" "now" "[J"), (12, Cond.fieldLink RX12 44 "GridPolygonsModel" "then" "[J"), (13, Cond.fieldLink RX12 48 "GridPolygonsModel" "back" "[I"), (14, Cond.fieldLink RX12 51 "GridPolygonsModel" "taken" "[I"), (15, Cond.fieldLink RX12 54 "GridPolygonsModel" "rayX" "[I")]
theorem kwc_43 : kwchk (lw_tbl.drop 1060) kwl_43 = true := by decide +kernel
theorem kw_1060 : Cond.fieldLink RX12 16 "GridPolygonsModel" "cornerY" "[I" ∈ lw_g := kw_of kwc_43 (.head _)
theorem kw_1061 : Cond.fieldLink RX12 19 "GridPolygonsModel" "heights" "[I" ∈ lw_g := kw_of kwc_43 (.tail _ (.head _))
theorem kw_1062 : Cond.fieldLink RX12 22 "GridPolygonsModel" "workX" "[I" ∈ lw_g := kw_of kwc_43 (.tail _ (.tail _ (.head _)))
theorem kw_1063 : Cond.fieldLink RX12 25 "GridPolygonsModel" "workY" "[I" ∈ lw_g := kw_of kwc_43 (.tail _ (.tail _ (.tail _ (.head _))))
theorem kw_1064 : Cond.fieldLink RX12 89 "GridPolygonsModel" "work" "I" ∈ lw_g := kw_of kwc_43 (.tail _ (.tail _ (.tail _ (.tail _ (.head _)))))
theorem kw_1065 : Cond.fieldLink RX12 28 "GridPolygonsModel" "hullX" "[I" ∈ lw_g := kw_of kwc_43 (.tail _ (.tail _ (.tail _ (.tail _ (.tail _ (.head _))))))
theorem kw_1066 : Cond.fieldLink RX12 31 "GridPolygonsModel" "hullY" "[I" ∈ lw_g := kw_of kwc_43 (.tail _ (.tail _ (.tail _ (.tail _ (.tail _ (.tail _ (.head _)))))))
theorem kw_1067 : Cond.fieldLink RX12 97 "GridPolygonsModel" "hull" "I" ∈ lw_g := kw_of kwc_43 (.tail _ (.tail _ (.tail _ (.tail _ (.tail _ (.tail _ (.tail _ (.head _))))))))
theorem kw_1068 : Cond.fieldLink RX12 34 "GridPolygonsModel" "allX" "[I" ∈ lw_g := kw_of kwc_43 (.tail _ (.tail _ (.tail _ (.tail _ (.tail _ (.tail _ (.tail _ (.tail _ (.head _)))))))))
theorem kw_1069 : Cond.fieldLink RX12 37 "GridPolygonsModel" "allY" "[I" ∈ lw_g := kw_of kwc_43 (.tail _ (.tail _ (.tail _ (.tail _ (.tail _ (.tail _ (.tail _ (.tail _ (.tail _ (.head _))))))))))
theorem kw_1070 : Cond.fieldLink RX12 168 "GridPolygonsModel" "all" "I" ∈ lw_g := kw_of kwc_43 (.tail _ (.tail _ (.tail _ (.tail _ (.tail _ (.tail _ (.tail _ (.tail _ (.tail _ (.tail _ (.head _)))))))))))
theorem kw_1071 : Cond.fieldLink RX12 40 "GridPolygonsModel" "now" "[J" ∈ lw_g := kw_of kwc_43 (.tail _ (.tail _ (.tail _ (.tail _ (.tail _ (.tail _ (.tail _ (.tail _ (.tail _ (.tail _ (.tail _ (.head _))))))))))))
theorem kw_1072 : Cond.fieldLink RX12 44 "GridPolygonsModel" "then" "[J" ∈ lw_g := kw_of kwc_43 (.tail _ (.tail _ (.tail _ (.tail _ (.tail _ (.tail _ (.tail _ (.tail _ (.tail _ (.tail _ (.tail _ (.tail _ (.head _)))))))))))))
theorem kw_1073 : Cond.fieldLink RX12 48 "GridPolygonsModel" "back" "[I" ∈ lw_g := kw_of kwc_43 (.tail _ (.tail _ (.tail _ (.tail _ (.tail _ (.tail _ (.tail _ (.tail _ (.tail _ (.tail _ (.tail _ (.tail _ (.tail _ (.head _))))))))))))))
theorem kw_1074 : Cond.fieldLink RX12 51 "GridPolygonsModel" "taken" "[I" ∈ lw_g := kw_of kwc_43 (.tail _ (.tail _ (.tail _ (.tail _ (.tail _ (.tail _ (.tail _ (.tail _ (.tail _ (.tail _ (.tail _ (.tail _ (.tail _ (.tail _ (.head _)))))))))))))))
theorem kw_1075 : Cond.fieldLink RX12 54 "GridPolygonsModel" "rayX" "[I" ∈ lw_g := kw_of kwc_43 (.tail _ (.tail _ (.tail _ (.tail _ (.tail _ (.tail _ (.tail _ (.tail _ (.tail _ (.tail _ (.tail _ (.tail _ (.tail _ (.tail _ (.tail _ (.head _))))))))))))))))
def kwl_44 : List (Nat × Cond) := [(0, Cond.fieldLink RX12 57 "GridPolygonsModel" "rayY" "[I"), (1, Cond.fieldLink RX12 226 "GridPolygonsModel" "rays" "I"), (2, Cond.fieldLink RX12 60 "GridPolygonsModel" "endA" "[I"), (3, Cond.fieldLink RX12 63 "GridPolygonsModel" "endB" "[I"), (4, Cond.fieldLink RX12 66 "GridPolygonsModel" "segmentOf" "[I"), (5, Cond.fieldLink RX12 241 "GridPolygonsModel" "segments" "I"), (6, Cond.fieldLink RX12 69 "GridPolygonsModel" "cutBits" "[J"), (7, Cond.fieldLink RX12 72 "GridPolygonsModel" "cutFar" "[I"), (8, Cond.fieldLink RX12 75 "GridPolygonsModel" "slot" "[I"), (9, Cond.fieldLink RX12 267 "GridPolygonsModel" "cuts" "I"), (10, Cond.fieldLink RX12 263 "GridPolygonsModel" "isSpent" "Z"), (11, Cond.fieldLink RX12 78 "GridPolygonsModel" "pieceBits" "[J"), (12, Cond.fieldLink RX12 294 "GridPolygonsModel" "pieces" "I"), (75, Cond.superclass "GridPolygonsModel" "java/lang/Object"), (77, Cond.instanceMethod yX12_clear), (78, Cond.selects RX12 yX12_clear yX12_clear)]
theorem kwc_44 : kwchk (lw_tbl.drop 1076) kwl_44 = true := by decide +kernel
theorem kw_1076 : Cond.fieldLink RX12 57 "GridPolygonsModel" "rayY" "[I" ∈ lw_g := kw_of kwc_44 (.head _)
theorem kw_1077 : Cond.fieldLink RX12 226 "GridPolygonsModel" "rays" "I" ∈ lw_g := kw_of kwc_44 (.tail _ (.head _))
theorem kw_1078 : Cond.fieldLink RX12 60 "GridPolygonsModel" "endA" "[I" ∈ lw_g := kw_of kwc_44 (.tail _ (.tail _ (.head _)))
theorem kw_1079 : Cond.fieldLink RX12 63 "GridPolygonsModel" "endB" "[I" ∈ lw_g := kw_of kwc_44 (.tail _ (.tail _ (.tail _ (.head _))))
theorem kw_1080 : Cond.fieldLink RX12 66 "GridPolygonsModel" "segmentOf" "[I" ∈ lw_g := kw_of kwc_44 (.tail _ (.tail _ (.tail _ (.tail _ (.head _)))))
theorem kw_1081 : Cond.fieldLink RX12 241 "GridPolygonsModel" "segments" "I" ∈ lw_g := kw_of kwc_44 (.tail _ (.tail _ (.tail _ (.tail _ (.tail _ (.head _))))))
theorem kw_1082 : Cond.fieldLink RX12 69 "GridPolygonsModel" "cutBits" "[J" ∈ lw_g := kw_of kwc_44 (.tail _ (.tail _ (.tail _ (.tail _ (.tail _ (.tail _ (.head _)))))))
theorem kw_1083 : Cond.fieldLink RX12 72 "GridPolygonsModel" "cutFar" "[I" ∈ lw_g := kw_of kwc_44 (.tail _ (.tail _ (.tail _ (.tail _ (.tail _ (.tail _ (.tail _ (.head _))))))))
theorem kw_1084 : Cond.fieldLink RX12 75 "GridPolygonsModel" "slot" "[I" ∈ lw_g := kw_of kwc_44 (.tail _ (.tail _ (.tail _ (.tail _ (.tail _ (.tail _ (.tail _ (.tail _ (.head _)))))))))
theorem kw_1085 : Cond.fieldLink RX12 267 "GridPolygonsModel" "cuts" "I" ∈ lw_g := kw_of kwc_44 (.tail _ (.tail _ (.tail _ (.tail _ (.tail _ (.tail _ (.tail _ (.tail _ (.tail _ (.head _))))))))))
theorem kw_1086 : Cond.fieldLink RX12 263 "GridPolygonsModel" "isSpent" "Z" ∈ lw_g := kw_of kwc_44 (.tail _ (.tail _ (.tail _ (.tail _ (.tail _ (.tail _ (.tail _ (.tail _ (.tail _ (.tail _ (.head _)))))))))))
theorem kw_1087 : Cond.fieldLink RX12 78 "GridPolygonsModel" "pieceBits" "[J" ∈ lw_g := kw_of kwc_44 (.tail _ (.tail _ (.tail _ (.tail _ (.tail _ (.tail _ (.tail _ (.tail _ (.tail _ (.tail _ (.tail _ (.head _))))))))))))
theorem kw_1088 : Cond.fieldLink RX12 294 "GridPolygonsModel" "pieces" "I" ∈ lw_g := kw_of kwc_44 (.tail _ (.tail _ (.tail _ (.tail _ (.tail _ (.tail _ (.tail _ (.tail _ (.tail _ (.tail _ (.tail _ (.tail _ (.head _)))))))))))))
theorem kw_1151 : Cond.superclass "GridPolygonsModel" "java/lang/Object" ∈ lw_g := kw_of kwc_44 (.tail _ (.tail _ (.tail _ (.tail _ (.tail _ (.tail _ (.tail _ (.tail _ (.tail _ (.tail _ (.tail _ (.tail _ (.tail _ (.head _))))))))))))))
theorem kw_1153 : Cond.instanceMethod yX12_clear ∈ lw_g := kw_of kwc_44 (.tail _ (.tail _ (.tail _ (.tail _ (.tail _ (.tail _ (.tail _ (.tail _ (.tail _ (.tail _ (.tail _ (.tail _ (.tail _ (.tail _ (.head _)))))))))))))))
theorem kw_1154 : Cond.selects RX12 yX12_clear yX12_clear ∈ lw_g := kw_of kwc_44 (.tail _ (.tail _ (.tail _ (.tail _ (.tail _ (.tail _ (.tail _ (.tail _ (.tail _ (.tail _ (.tail _ (.tail _ (.tail _ (.tail _ (.tail _ (.head _))))))))))))))))
def kwl_45 : List (Nat × Cond) := [(0, Cond.methodLink RX12 120 ⟨"GridPolygonsModel", "isShape", "(I)Z"⟩), (1, Cond.static yX12_isShape), (3, Cond.methodLink RX12 81 ⟨"GridPolygonsModel", "in", "(III)Z"⟩), (4, Cond.static yX12_in), (6, Cond.methodLink RX12 124 ⟨"GridPolygonsModel", "take", "(IZ)I"⟩), (8, Cond.instanceMethod yX12_take), (10, Cond.methodLink RX12 117 ⟨"GridPolygonsModel", "isPlace", "(II)Z"⟩), (11, Cond.static yX12_isPlace), (14, Cond.instanceMethod yX12_add), (15, Cond.selects RX12 yX12_add yX12_add), (17, Cond.methodLink RX12 128 ⟨"GridPolygonsModel", "putShape", "(I)V"⟩), (19, Cond.instanceMethod yX12_putShape), (21, Cond.methodLink RX12 107 ⟨"GridPolygonsModel", "x", "(II)I"⟩), (23, Cond.instanceMethod yX12_x), (25, Cond.methodLink RX12 111 ⟨"GridPolygonsModel", "y", "(II)I"⟩), (27, Cond.instanceMethod yX12_y)]
theorem kwc_45 : kwchk (lw_tbl.drop 1156) kwl_45 = true := by decide +kernel
theorem kw_1156 : Cond.methodLink RX12 120 ⟨"GridPolygonsModel", "isShape", "(I)Z"⟩ ∈ lw_g := kw_of kwc_45 (.head _)
theorem kw_1157 : Cond.static yX12_isShape ∈ lw_g := kw_of kwc_45 (.tail _ (.head _))
theorem kw_1159 : Cond.methodLink RX12 81 ⟨"GridPolygonsModel", "in", "(III)Z"⟩ ∈ lw_g := kw_of kwc_45 (.tail _ (.tail _ (.head _)))
theorem kw_1160 : Cond.static yX12_in ∈ lw_g := kw_of kwc_45 (.tail _ (.tail _ (.tail _ (.head _))))
theorem kw_1162 : Cond.methodLink RX12 124 ⟨"GridPolygonsModel", "take", "(IZ)I"⟩ ∈ lw_g := kw_of kwc_45 (.tail _ (.tail _ (.tail _ (.tail _ (.head _)))))
theorem kw_1164 : Cond.instanceMethod yX12_take ∈ lw_g := kw_of kwc_45 (.tail _ (.tail _ (.tail _ (.tail _ (.tail _ (.head _))))))
theorem kw_1166 : Cond.methodLink RX12 117 ⟨"GridPolygonsModel", "isPlace", "(II)Z"⟩ ∈ lw_g := kw_of kwc_45 (.tail _ (.tail _ (.tail _ (.tail _ (.tail _ (.tail _ (.head _)))))))
theorem kw_1167 : Cond.static yX12_isPlace ∈ lw_g := kw_of kwc_45 (.tail _ (.tail _ (.tail _ (.tail _ (.tail _ (.tail _ (.tail _ (.head _))))))))
theorem kw_1170 : Cond.instanceMethod yX12_add ∈ lw_g := kw_of kwc_45 (.tail _ (.tail _ (.tail _ (.tail _ (.tail _ (.tail _ (.tail _ (.tail _ (.head _)))))))))
theorem kw_1171 : Cond.selects RX12 yX12_add yX12_add ∈ lw_g := kw_of kwc_45 (.tail _ (.tail _ (.tail _ (.tail _ (.tail _ (.tail _ (.tail _ (.tail _ (.tail _ (.head _))))))))))
theorem kw_1173 : Cond.methodLink RX12 128 ⟨"GridPolygonsModel", "putShape", "(I)V"⟩ ∈ lw_g := kw_of kwc_45 (.tail _ (.tail _ (.tail _ (.tail _ (.tail _ (.tail _ (.tail _ (.tail _ (.tail _ (.tail _ (.head _)))))))))))
theorem kw_1175 : Cond.instanceMethod yX12_putShape ∈ lw_g := kw_of kwc_45 (.tail _ (.tail _ (.tail _ (.tail _ (.tail _ (.tail _ (.tail _ (.tail _ (.tail _ (.tail _ (.tail _ (.head _))))))))))))
theorem kw_1177 : Cond.methodLink RX12 107 ⟨"GridPolygonsModel", "x", "(II)I"⟩ ∈ lw_g := kw_of kwc_45 (.tail _ (.tail _ (.tail _ (.tail _ (.tail _ (.tail _ (.tail _ (.tail _ (.tail _ (.tail _ (.tail _ (.tail _ (.head _)))))))))))))
theorem kw_1179 : Cond.instanceMethod yX12_x ∈ lw_g := kw_of kwc_45 (.tail _ (.tail _ (.tail _ (.tail _ (.tail _ (.tail _ (.tail _ (.tail _ (.tail _ (.tail _ (.tail _ (.tail _ (.tail _ (.head _))))))))))))))
theorem kw_1181 : Cond.methodLink RX12 111 ⟨"GridPolygonsModel", "y", "(II)I"⟩ ∈ lw_g := kw_of kwc_45 (.tail _ (.tail _ (.tail _ (.tail _ (.tail _ (.tail _ (.tail _ (.tail _ (.tail _ (.tail _ (.tail _ (.tail _ (.tail _ (.tail _ (.head _)))))))))))))))
theorem kw_1183 : Cond.instanceMethod yX12_y ∈ lw_g := kw_of kwc_45 (.tail _ (.tail _ (.tail _ (.tail _ (.tail _ (.tail _ (.tail _ (.tail _ (.tail _ (.tail _ (.tail _ (.tail _ (.tail _ (.tail _ (.tail _ (.head _))))))))))))))))
def kwl_46 : List (Nat × Cond) := [(0, Cond.methodLink RX12 114 ⟨"GridPolygonsModel", "put", "(II)V"⟩), (2, Cond.instanceMethod yX12_put), (4, Cond.methodLink RX12 132 ⟨"GridPolygonsModel", "findHull", "()V"⟩), (6, Cond.instanceMethod yX12_findHull), (8, Cond.methodLink RX12 100 ⟨"GridPolygonsModel", "order", "()V"⟩), (10, Cond.instanceMethod yX12_order), (12, Cond.methodLink RX12 93 ⟨"GridPolygonsModel", "isAfter", "(II)Z"⟩), (14, Cond.instanceMethod yX12_isAfter), (16, Cond.methodLink RX12 103 ⟨"GridPolygonsModel", "goOn", "(II)V"⟩), (18, Cond.instanceMethod yX12_goOn), (21, Cond.instanceMethod yX12_corners), (22, Cond.selects RX12 yX12_corners yX12_corners), (25, Cond.instanceMethod yX12_corner), (26, Cond.selects RX12 yX12_corner yX12_corner), (28, Cond.constant RX12 135 (J (-1000000))), (30, Cond.instanceMethod yX12_points)]
theorem kwc_46 : kwchk (lw_tbl.drop 1185) kwl_46 = true := by decide +kernel
theorem kw_1185 : Cond.methodLink RX12 114 ⟨"GridPolygonsModel", "put", "(II)V"⟩ ∈ lw_g := kw_of kwc_46 (.head _)
theorem kw_1187 : Cond.instanceMethod yX12_put ∈ lw_g := kw_of kwc_46 (.tail _ (.head _))
theorem kw_1189 : Cond.methodLink RX12 132 ⟨"GridPolygonsModel", "findHull", "()V"⟩ ∈ lw_g := kw_of kwc_46 (.tail _ (.tail _ (.head _)))
theorem kw_1191 : Cond.instanceMethod yX12_findHull ∈ lw_g := kw_of kwc_46 (.tail _ (.tail _ (.tail _ (.head _))))
theorem kw_1193 : Cond.methodLink RX12 100 ⟨"GridPolygonsModel", "order", "()V"⟩ ∈ lw_g := kw_of kwc_46 (.tail _ (.tail _ (.tail _ (.tail _ (.head _)))))
theorem kw_1195 : Cond.instanceMethod yX12_order ∈ lw_g := kw_of kwc_46 (.tail _ (.tail _ (.tail _ (.tail _ (.tail _ (.head _))))))
theorem kw_1197 : Cond.methodLink RX12 93 ⟨"GridPolygonsModel", "isAfter", "(II)Z"⟩ ∈ lw_g := kw_of kwc_46 (.tail _ (.tail _ (.tail _ (.tail _ (.tail _ (.tail _ (.head _)))))))
theorem kw_1199 : Cond.instanceMethod yX12_isAfter ∈ lw_g := kw_of kwc_46 (.tail _ (.tail _ (.tail _ (.tail _ (.tail _ (.tail _ (.tail _ (.head _))))))))
theorem kw_1201 : Cond.methodLink RX12 103 ⟨"GridPolygonsModel", "goOn", "(II)V"⟩ ∈ lw_g := kw_of kwc_46 (.tail _ (.tail _ (.tail _ (.tail _ (.tail _ (.tail _ (.tail _ (.tail _ (.head _)))))))))
theorem kw_1203 : Cond.instanceMethod yX12_goOn ∈ lw_g := kw_of kwc_46 (.tail _ (.tail _ (.tail _ (.tail _ (.tail _ (.tail _ (.tail _ (.tail _ (.tail _ (.head _))))))))))
theorem kw_1206 : Cond.instanceMethod yX12_corners ∈ lw_g := kw_of kwc_46 (.tail _ (.tail _ (.tail _ (.tail _ (.tail _ (.tail _ (.tail _ (.tail _ (.tail _ (.tail _ (.head _)))))))))))
theorem kw_1207 : Cond.selects RX12 yX12_corners yX12_corners ∈ lw_g := kw_of kwc_46 (.tail _ (.tail _ (.tail _ (.tail _ (.tail _ (.tail _ (.tail _ (.tail _ (.tail _ (.tail _ (.tail _ (.head _))))))))))))
theorem kw_1210 : Cond.instanceMethod yX12_corner ∈ lw_g := kw_of kwc_46 (.tail _ (.tail _ (.tail _ (.tail _ (.tail _ (.tail _ (.tail _ (.tail _ (.tail _ (.tail _ (.tail _ (.tail _ (.head _)))))))))))))
theorem kw_1211 : Cond.selects RX12 yX12_corner yX12_corner ∈ lw_g := kw_of kwc_46 (.tail _ (.tail _ (.tail _ (.tail _ (.tail _ (.tail _ (.tail _ (.tail _ (.tail _ (.tail _ (.tail _ (.tail _ (.tail _ (.head _))))))))))))))
theorem kw_1213 : Cond.constant RX12 135 (J (-1000000)) ∈ lw_g := kw_of kwc_46 (.tail _ (.tail _ (.tail _ (.tail _ (.tail _ (.tail _ (.tail _ (.tail _ (.tail _ (.tail _ (.tail _ (.tail _ (.tail _ (.tail _ (.head _)))))))))))))))
theorem kw_1215 : Cond.instanceMethod yX12_points ∈ lw_g := kw_of kwc_46 (.tail _ (.tail _ (.tail _ (.tail _ (.tail _ (.tail _ (.tail _ (.tail _ (.tail _ (.tail _ (.tail _ (.tail _ (.tail _ (.tail _ (.tail _ (.head _))))))))))))))))
def kwl_47 : List (Nat × Cond) := [(0, Cond.selects RX12 yX12_points yX12_points), (2, Cond.methodLink RX12 145 ⟨"GridPolygonsModel", "areaOf", "(I)I"⟩), (4, Cond.instanceMethod yX12_areaOf), (6, Cond.methodLink RX12 148 ⟨"GridPolygonsModel", "edgeOf", "(I)I"⟩), (8, Cond.instanceMethod yX12_edgeOf), (10, Cond.methodLink RX12 139 ⟨"GridPolygonsModel", "stepsOf", "(II)I"⟩), (12, Cond.instanceMethod yX12_stepsOf), (14, Cond.methodLink RX12 136 ⟨"GridPolygonsModel", "common", "(II)I"⟩), (15, Cond.static yX12_common), (17, Cond.methodLink RX12 85 ⟨"GridPolygonsModel", "size", "(I)I"⟩), (18, Cond.static yX12_size), (20, Cond.methodLink RX12 151 ⟨"GridPolygonsModel", "insideOf", "(I)I"⟩), (22, Cond.instanceMethod yX12_insideOf), (24, Cond.methodLink RX12 142 ⟨"GridPolygonsModel", "isPolygon", "(I)Z"⟩), (26, Cond.instanceMethod yX12_isPolygon), (29, Cond.instanceMethod yX12_times)]
theorem kwc_47 : kwchk (lw_tbl.drop 1216) kwl_47 = true := by decide +kernel
theorem kw_1216 : Cond.selects RX12 yX12_points yX12_points ∈ lw_g := kw_of kwc_47 (.head _)
theorem kw_1218 : Cond.methodLink RX12 145 ⟨"GridPolygonsModel", "areaOf", "(I)I"⟩ ∈ lw_g := kw_of kwc_47 (.tail _ (.head _))
theorem kw_1220 : Cond.instanceMethod yX12_areaOf ∈ lw_g := kw_of kwc_47 (.tail _ (.tail _ (.head _)))
theorem kw_1222 : Cond.methodLink RX12 148 ⟨"GridPolygonsModel", "edgeOf", "(I)I"⟩ ∈ lw_g := kw_of kwc_47 (.tail _ (.tail _ (.tail _ (.head _))))
theorem kw_1224 : Cond.instanceMethod yX12_edgeOf ∈ lw_g := kw_of kwc_47 (.tail _ (.tail _ (.tail _ (.tail _ (.head _)))))
theorem kw_1226 : Cond.methodLink RX12 139 ⟨"GridPolygonsModel", "stepsOf", "(II)I"⟩ ∈ lw_g := kw_of kwc_47 (.tail _ (.tail _ (.tail _ (.tail _ (.tail _ (.head _))))))
theorem kw_1228 : Cond.instanceMethod yX12_stepsOf ∈ lw_g := kw_of kwc_47 (.tail _ (.tail _ (.tail _ (.tail _ (.tail _ (.tail _ (.head _)))))))
theorem kw_1230 : Cond.methodLink RX12 136 ⟨"GridPolygonsModel", "common", "(II)I"⟩ ∈ lw_g := kw_of kwc_47 (.tail _ (.tail _ (.tail _ (.tail _ (.tail _ (.tail _ (.tail _ (.head _))))))))
theorem kw_1231 : Cond.static yX12_common ∈ lw_g := kw_of kwc_47 (.tail _ (.tail _ (.tail _ (.tail _ (.tail _ (.tail _ (.tail _ (.tail _ (.head _)))))))))
theorem kw_1233 : Cond.methodLink RX12 85 ⟨"GridPolygonsModel", "size", "(I)I"⟩ ∈ lw_g := kw_of kwc_47 (.tail _ (.tail _ (.tail _ (.tail _ (.tail _ (.tail _ (.tail _ (.tail _ (.tail _ (.head _))))))))))
theorem kw_1234 : Cond.static yX12_size ∈ lw_g := kw_of kwc_47 (.tail _ (.tail _ (.tail _ (.tail _ (.tail _ (.tail _ (.tail _ (.tail _ (.tail _ (.tail _ (.head _)))))))))))
theorem kw_1236 : Cond.methodLink RX12 151 ⟨"GridPolygonsModel", "insideOf", "(I)I"⟩ ∈ lw_g := kw_of kwc_47 (.tail _ (.tail _ (.tail _ (.tail _ (.tail _ (.tail _ (.tail _ (.tail _ (.tail _ (.tail _ (.tail _ (.head _))))))))))))
theorem kw_1238 : Cond.instanceMethod yX12_insideOf ∈ lw_g := kw_of kwc_47 (.tail _ (.tail _ (.tail _ (.tail _ (.tail _ (.tail _ (.tail _ (.tail _ (.tail _ (.tail _ (.tail _ (.tail _ (.head _)))))))))))))
theorem kw_1240 : Cond.methodLink RX12 142 ⟨"GridPolygonsModel", "isPolygon", "(I)Z"⟩ ∈ lw_g := kw_of kwc_47 (.tail _ (.tail _ (.tail _ (.tail _ (.tail _ (.tail _ (.tail _ (.tail _ (.tail _ (.tail _ (.tail _ (.tail _ (.tail _ (.head _))))))))))))))
theorem kw_1242 : Cond.instanceMethod yX12_isPolygon ∈ lw_g := kw_of kwc_47 (.tail _ (.tail _ (.tail _ (.tail _ (.tail _ (.tail _ (.tail _ (.tail _ (.tail _ (.tail _ (.tail _ (.tail _ (.tail _ (.tail _ (.head _)))))))))))))))
theorem kw_1245 : Cond.instanceMethod yX12_times ∈ lw_g := kw_of kwc_47 (.tail _ (.tail _ (.tail _ (.tail _ (.tail _ (.tail _ (.tail _ (.tail _ (.tail _ (.tail _ (.tail _ (.tail _ (.tail _ (.tail _ (.tail _ (.head _))))))))))))))))
def kwl_48 : List (Nat × Cond) := [(0, Cond.selects RX12 yX12_times yX12_times), (2, Cond.constantLong RX12 154 (-1)), (3, Cond.constantLong RX12 156 (-2)), (4, Cond.constantLong RX12 158 (2)), (6, Cond.instanceMethod yX12_where), (7, Cond.selects RX12 yX12_where yX12_where), (9, Cond.methodLink RX12 164 ⟨"GridPolygonsModel", "whereOf", "(III)I"⟩), (11, Cond.instanceMethod yX12_whereOf), (13, Cond.methodLink RX12 160 ⟨"GridPolygonsModel", "cross", "(IIII)I"⟩), (14, Cond.static yX12_cross), (17, Cond.instanceMethod yX12_point), (18, Cond.selects RX12 yX12_point yX12_point), (20, Cond.methodLink RX12 171 ⟨"GridPolygonsModel", "findAll", "(I)V"⟩), (22, Cond.instanceMethod yX12_findAll), (25, Cond.instanceMethod yX12_width), (26, Cond.selects RX12 yX12_width yX12_width)]
theorem kwc_48 : kwchk (lw_tbl.drop 1246) kwl_48 = true := by decide +kernel
theorem kw_1246 : Cond.selects RX12 yX12_times yX12_times ∈ lw_g := kw_of kwc_48 (.head _)
theorem kw_1248 : Cond.constantLong RX12 154 (-1) ∈ lw_g := kw_of kwc_48 (.tail _ (.head _))
theorem kw_1249 : Cond.constantLong RX12 156 (-2) ∈ lw_g := kw_of kwc_48 (.tail _ (.tail _ (.head _)))
theorem kw_1250 : Cond.constantLong RX12 158 (2) ∈ lw_g := kw_of kwc_48 (.tail _ (.tail _ (.tail _ (.head _))))
theorem kw_1252 : Cond.instanceMethod yX12_where ∈ lw_g := kw_of kwc_48 (.tail _ (.tail _ (.tail _ (.tail _ (.head _)))))
theorem kw_1253 : Cond.selects RX12 yX12_where yX12_where ∈ lw_g := kw_of kwc_48 (.tail _ (.tail _ (.tail _ (.tail _ (.tail _ (.head _))))))
theorem kw_1255 : Cond.methodLink RX12 164 ⟨"GridPolygonsModel", "whereOf", "(III)I"⟩ ∈ lw_g := kw_of kwc_48 (.tail _ (.tail _ (.tail _ (.tail _ (.tail _ (.tail _ (.head _)))))))
theorem kw_1257 : Cond.instanceMethod yX12_whereOf ∈ lw_g := kw_of kwc_48 (.tail _ (.tail _ (.tail _ (.tail _ (.tail _ (.tail _ (.tail _ (.head _))))))))
theorem kw_1259 : Cond.methodLink RX12 160 ⟨"GridPolygonsModel", "cross", "(IIII)I"⟩ ∈ lw_g := kw_of kwc_48 (.tail _ (.tail _ (.tail _ (.tail _ (.tail _ (.tail _ (.tail _ (.tail _ (.head _)))))))))
theorem kw_1260 : Cond.static yX12_cross ∈ lw_g := kw_of kwc_48 (.tail _ (.tail _ (.tail _ (.tail _ (.tail _ (.tail _ (.tail _ (.tail _ (.tail _ (.head _))))))))))
theorem kw_1263 : Cond.instanceMethod yX12_point ∈ lw_g := kw_of kwc_48 (.tail _ (.tail _ (.tail _ (.tail _ (.tail _ (.tail _ (.tail _ (.tail _ (.tail _ (.tail _ (.head _)))))))))))
theorem kw_1264 : Cond.selects RX12 yX12_point yX12_point ∈ lw_g := kw_of kwc_48 (.tail _ (.tail _ (.tail _ (.tail _ (.tail _ (.tail _ (.tail _ (.tail _ (.tail _ (.tail _ (.tail _ (.head _))))))))))))
theorem kw_1266 : Cond.methodLink RX12 171 ⟨"GridPolygonsModel", "findAll", "(I)V"⟩ ∈ lw_g := kw_of kwc_48 (.tail _ (.tail _ (.tail _ (.tail _ (.tail _ (.tail _ (.tail _ (.tail _ (.tail _ (.tail _ (.tail _ (.tail _ (.head _)))))))))))))
theorem kw_1268 : Cond.instanceMethod yX12_findAll ∈ lw_g := kw_of kwc_48 (.tail _ (.tail _ (.tail _ (.tail _ (.tail _ (.tail _ (.tail _ (.tail _ (.tail _ (.tail _ (.tail _ (.tail _ (.tail _ (.head _))))))))))))))
theorem kw_1271 : Cond.instanceMethod yX12_width ∈ lw_g := kw_of kwc_48 (.tail _ (.tail _ (.tail _ (.tail _ (.tail _ (.tail _ (.tail _ (.tail _ (.tail _ (.tail _ (.tail _ (.tail _ (.tail _ (.tail _ (.head _)))))))))))))))
theorem kw_1272 : Cond.selects RX12 yX12_width yX12_width ∈ lw_g := kw_of kwc_48 (.tail _ (.tail _ (.tail _ (.tail _ (.tail _ (.tail _ (.tail _ (.tail _ (.tail _ (.tail _ (.tail _ (.tail _ (.tail _ (.tail _ (.tail _ (.head _))))))))))))))))
def kwl_49 : List (Nat × Cond) := [(0, Cond.methodLink RX12 174 ⟨"GridPolygonsModel", "isWay", "(II)Z"⟩), (1, Cond.static yX12_isWay), (3, Cond.methodLink RX12 177 ⟨"GridPolygonsModel", "widthOf", "(III)I"⟩), (5, Cond.instanceMethod yX12_widthOf), (8, Cond.instanceMethod yX12_least), (9, Cond.selects RX12 yX12_least yX12_least), (12, Cond.instanceMethod yX12_map), (13, Cond.selects RX12 yX12_map yX12_map), (16, Cond.instanceMethod yX12_maps), (17, Cond.selects RX12 yX12_maps yX12_maps), (19, Cond.methodLink RX12 184 ⟨"GridPolygonsModel", "mapsOf", "(II)I"⟩), (21, Cond.instanceMethod yX12_mapsOf), (23, Cond.methodLink RX12 180 ⟨"GridPolygonsModel", "isMap", "(IIII)Z"⟩), (25, Cond.instanceMethod yX12_isMap), (28, Cond.instanceMethod yX12_alike), (29, Cond.selects RX12 yX12_alike yX12_alike)]
theorem kwc_49 : kwchk (lw_tbl.drop 1274) kwl_49 = true := by decide +kernel
theorem kw_1274 : Cond.methodLink RX12 174 ⟨"GridPolygonsModel", "isWay", "(II)Z"⟩ ∈ lw_g := kw_of kwc_49 (.head _)
theorem kw_1275 : Cond.static yX12_isWay ∈ lw_g := kw_of kwc_49 (.tail _ (.head _))
theorem kw_1277 : Cond.methodLink RX12 177 ⟨"GridPolygonsModel", "widthOf", "(III)I"⟩ ∈ lw_g := kw_of kwc_49 (.tail _ (.tail _ (.head _)))
theorem kw_1279 : Cond.instanceMethod yX12_widthOf ∈ lw_g := kw_of kwc_49 (.tail _ (.tail _ (.tail _ (.head _))))
theorem kw_1282 : Cond.instanceMethod yX12_least ∈ lw_g := kw_of kwc_49 (.tail _ (.tail _ (.tail _ (.tail _ (.head _)))))
theorem kw_1283 : Cond.selects RX12 yX12_least yX12_least ∈ lw_g := kw_of kwc_49 (.tail _ (.tail _ (.tail _ (.tail _ (.tail _ (.head _))))))
theorem kw_1286 : Cond.instanceMethod yX12_map ∈ lw_g := kw_of kwc_49 (.tail _ (.tail _ (.tail _ (.tail _ (.tail _ (.tail _ (.head _)))))))
theorem kw_1287 : Cond.selects RX12 yX12_map yX12_map ∈ lw_g := kw_of kwc_49 (.tail _ (.tail _ (.tail _ (.tail _ (.tail _ (.tail _ (.tail _ (.head _))))))))
theorem kw_1290 : Cond.instanceMethod yX12_maps ∈ lw_g := kw_of kwc_49 (.tail _ (.tail _ (.tail _ (.tail _ (.tail _ (.tail _ (.tail _ (.tail _ (.head _)))))))))
theorem kw_1291 : Cond.selects RX12 yX12_maps yX12_maps ∈ lw_g := kw_of kwc_49 (.tail _ (.tail _ (.tail _ (.tail _ (.tail _ (.tail _ (.tail _ (.tail _ (.tail _ (.head _))))))))))
theorem kw_1293 : Cond.methodLink RX12 184 ⟨"GridPolygonsModel", "mapsOf", "(II)I"⟩ ∈ lw_g := kw_of kwc_49 (.tail _ (.tail _ (.tail _ (.tail _ (.tail _ (.tail _ (.tail _ (.tail _ (.tail _ (.tail _ (.head _)))))))))))
theorem kw_1295 : Cond.instanceMethod yX12_mapsOf ∈ lw_g := kw_of kwc_49 (.tail _ (.tail _ (.tail _ (.tail _ (.tail _ (.tail _ (.tail _ (.tail _ (.tail _ (.tail _ (.tail _ (.head _))))))))))))
theorem kw_1297 : Cond.methodLink RX12 180 ⟨"GridPolygonsModel", "isMap", "(IIII)Z"⟩ ∈ lw_g := kw_of kwc_49 (.tail _ (.tail _ (.tail _ (.tail _ (.tail _ (.tail _ (.tail _ (.tail _ (.tail _ (.tail _ (.tail _ (.tail _ (.head _)))))))))))))
theorem kw_1299 : Cond.instanceMethod yX12_isMap ∈ lw_g := kw_of kwc_49 (.tail _ (.tail _ (.tail _ (.tail _ (.tail _ (.tail _ (.tail _ (.tail _ (.tail _ (.tail _ (.tail _ (.tail _ (.tail _ (.head _))))))))))))))
theorem kw_1302 : Cond.instanceMethod yX12_alike ∈ lw_g := kw_of kwc_49 (.tail _ (.tail _ (.tail _ (.tail _ (.tail _ (.tail _ (.tail _ (.tail _ (.tail _ (.tail _ (.tail _ (.tail _ (.tail _ (.tail _ (.head _)))))))))))))))
theorem kw_1303 : Cond.selects RX12 yX12_alike yX12_alike ∈ lw_g := kw_of kwc_49 (.tail _ (.tail _ (.tail _ (.tail _ (.tail _ (.tail _ (.tail _ (.tail _ (.tail _ (.tail _ (.tail _ (.tail _ (.tail _ (.tail _ (.tail _ (.head _))))))))))))))))
def kwl_50 : List (Nat × Cond) := [(0, Cond.methodLink RX12 187 ⟨"GridPolygonsModel", "isAlike", "(II)Z"⟩), (2, Cond.instanceMethod yX12_isAlike), (5, Cond.instanceMethod yX12_heaps), (6, Cond.selects RX12 yX12_heaps yX12_heaps), (9, Cond.instanceMethod yX12_sum), (10, Cond.selects RX12 yX12_sum yX12_sum), (12, Cond.methodLink RX12 190 ⟨"GridPolygonsModel", "findSum", "(II)V"⟩), (14, Cond.instanceMethod yX12_findSum), (17, Cond.instanceMethod yX12_mixed), (18, Cond.selects RX12 yX12_mixed yX12_mixed), (21, Cond.instanceMethod yX12_parts), (22, Cond.selects RX12 yX12_parts yX12_parts), (24, Cond.methodLink RX12 193 ⟨"GridPolygonsModel", "spot", "(II)I"⟩), (25, Cond.static yX12_spot), (27, Cond.methodLink RX12 196 ⟨"GridPolygonsModel", "stepX", "(II)I"⟩), (29, Cond.instanceMethod yX12_stepX)]
theorem kwc_50 : kwchk (lw_tbl.drop 1305) kwl_50 = true := by decide +kernel
theorem kw_1305 : Cond.methodLink RX12 187 ⟨"GridPolygonsModel", "isAlike", "(II)Z"⟩ ∈ lw_g := kw_of kwc_50 (.head _)
theorem kw_1307 : Cond.instanceMethod yX12_isAlike ∈ lw_g := kw_of kwc_50 (.tail _ (.head _))
theorem kw_1310 : Cond.instanceMethod yX12_heaps ∈ lw_g := kw_of kwc_50 (.tail _ (.tail _ (.head _)))
theorem kw_1311 : Cond.selects RX12 yX12_heaps yX12_heaps ∈ lw_g := kw_of kwc_50 (.tail _ (.tail _ (.tail _ (.head _))))
theorem kw_1314 : Cond.instanceMethod yX12_sum ∈ lw_g := kw_of kwc_50 (.tail _ (.tail _ (.tail _ (.tail _ (.head _)))))
theorem kw_1315 : Cond.selects RX12 yX12_sum yX12_sum ∈ lw_g := kw_of kwc_50 (.tail _ (.tail _ (.tail _ (.tail _ (.tail _ (.head _))))))
theorem kw_1317 : Cond.methodLink RX12 190 ⟨"GridPolygonsModel", "findSum", "(II)V"⟩ ∈ lw_g := kw_of kwc_50 (.tail _ (.tail _ (.tail _ (.tail _ (.tail _ (.tail _ (.head _)))))))
theorem kw_1319 : Cond.instanceMethod yX12_findSum ∈ lw_g := kw_of kwc_50 (.tail _ (.tail _ (.tail _ (.tail _ (.tail _ (.tail _ (.tail _ (.head _))))))))
theorem kw_1322 : Cond.instanceMethod yX12_mixed ∈ lw_g := kw_of kwc_50 (.tail _ (.tail _ (.tail _ (.tail _ (.tail _ (.tail _ (.tail _ (.tail _ (.head _)))))))))
theorem kw_1323 : Cond.selects RX12 yX12_mixed yX12_mixed ∈ lw_g := kw_of kwc_50 (.tail _ (.tail _ (.tail _ (.tail _ (.tail _ (.tail _ (.tail _ (.tail _ (.tail _ (.head _))))))))))
theorem kw_1326 : Cond.instanceMethod yX12_parts ∈ lw_g := kw_of kwc_50 (.tail _ (.tail _ (.tail _ (.tail _ (.tail _ (.tail _ (.tail _ (.tail _ (.tail _ (.tail _ (.head _)))))))))))
theorem kw_1327 : Cond.selects RX12 yX12_parts yX12_parts ∈ lw_g := kw_of kwc_50 (.tail _ (.tail _ (.tail _ (.tail _ (.tail _ (.tail _ (.tail _ (.tail _ (.tail _ (.tail _ (.tail _ (.head _))))))))))))
theorem kw_1329 : Cond.methodLink RX12 193 ⟨"GridPolygonsModel", "spot", "(II)I"⟩ ∈ lw_g := kw_of kwc_50 (.tail _ (.tail _ (.tail _ (.tail _ (.tail _ (.tail _ (.tail _ (.tail _ (.tail _ (.tail _ (.tail _ (.tail _ (.head _)))))))))))))
theorem kw_1330 : Cond.static yX12_spot ∈ lw_g := kw_of kwc_50 (.tail _ (.tail _ (.tail _ (.tail _ (.tail _ (.tail _ (.tail _ (.tail _ (.tail _ (.tail _ (.tail _ (.tail _ (.tail _ (.head _))))))))))))))
theorem kw_1332 : Cond.methodLink RX12 196 ⟨"GridPolygonsModel", "stepX", "(II)I"⟩ ∈ lw_g := kw_of kwc_50 (.tail _ (.tail _ (.tail _ (.tail _ (.tail _ (.tail _ (.tail _ (.tail _ (.tail _ (.tail _ (.tail _ (.tail _ (.tail _ (.tail _ (.head _)))))))))))))))
theorem kw_1334 : Cond.instanceMethod yX12_stepX ∈ lw_g := kw_of kwc_50 (.tail _ (.tail _ (.tail _ (.tail _ (.tail _ (.tail _ (.tail _ (.tail _ (.tail _ (.tail _ (.tail _ (.tail _ (.tail _ (.tail _ (.tail _ (.head _))))))))))))))))
def kwl_51 : List (Nat × Cond) := [(0, Cond.methodLink RX12 199 ⟨"GridPolygonsModel", "stepY", "(II)I"⟩), (2, Cond.instanceMethod yX12_stepY), (5, Cond.instanceMethod yX12_part), (6, Cond.selects RX12 yX12_part yX12_part), (8, Cond.methodLink RX12 208 ⟨"GridPolygonsModel", "leastPart", "(I)I"⟩), (10, Cond.instanceMethod yX12_leastPart), (12, Cond.methodLink RX12 205 ⟨"GridPolygonsModel", "findBack", "(I)V"⟩), (14, Cond.instanceMethod yX12_findBack), (16, Cond.methodLink RX12 202 ⟨"GridPolygonsModel", "backAt", "(III)I"⟩), (18, Cond.instanceMethod yX12_backAt), (21, Cond.instanceMethod yX12_normal), (22, Cond.selects RX12 yX12_normal yX12_normal), (24, Cond.methodLink RX12 217 ⟨"GridPolygonsModel", "isRound", "(I)Z"⟩), (26, Cond.instanceMethod yX12_isRound), (28, Cond.methodLink RX12 211 ⟨"GridPolygonsModel", "normalX", "(II)I"⟩), (30, Cond.instanceMethod yX12_normalX)]
theorem kwc_51 : kwchk (lw_tbl.drop 1336) kwl_51 = true := by decide +kernel
theorem kw_1336 : Cond.methodLink RX12 199 ⟨"GridPolygonsModel", "stepY", "(II)I"⟩ ∈ lw_g := kw_of kwc_51 (.head _)
theorem kw_1338 : Cond.instanceMethod yX12_stepY ∈ lw_g := kw_of kwc_51 (.tail _ (.head _))
theorem kw_1341 : Cond.instanceMethod yX12_part ∈ lw_g := kw_of kwc_51 (.tail _ (.tail _ (.head _)))
theorem kw_1342 : Cond.selects RX12 yX12_part yX12_part ∈ lw_g := kw_of kwc_51 (.tail _ (.tail _ (.tail _ (.head _))))
theorem kw_1344 : Cond.methodLink RX12 208 ⟨"GridPolygonsModel", "leastPart", "(I)I"⟩ ∈ lw_g := kw_of kwc_51 (.tail _ (.tail _ (.tail _ (.tail _ (.head _)))))
theorem kw_1346 : Cond.instanceMethod yX12_leastPart ∈ lw_g := kw_of kwc_51 (.tail _ (.tail _ (.tail _ (.tail _ (.tail _ (.head _))))))
theorem kw_1348 : Cond.methodLink RX12 205 ⟨"GridPolygonsModel", "findBack", "(I)V"⟩ ∈ lw_g := kw_of kwc_51 (.tail _ (.tail _ (.tail _ (.tail _ (.tail _ (.tail _ (.head _)))))))
theorem kw_1350 : Cond.instanceMethod yX12_findBack ∈ lw_g := kw_of kwc_51 (.tail _ (.tail _ (.tail _ (.tail _ (.tail _ (.tail _ (.tail _ (.head _))))))))
theorem kw_1352 : Cond.methodLink RX12 202 ⟨"GridPolygonsModel", "backAt", "(III)I"⟩ ∈ lw_g := kw_of kwc_51 (.tail _ (.tail _ (.tail _ (.tail _ (.tail _ (.tail _ (.tail _ (.tail _ (.head _)))))))))
theorem kw_1354 : Cond.instanceMethod yX12_backAt ∈ lw_g := kw_of kwc_51 (.tail _ (.tail _ (.tail _ (.tail _ (.tail _ (.tail _ (.tail _ (.tail _ (.tail _ (.head _))))))))))
theorem kw_1357 : Cond.instanceMethod yX12_normal ∈ lw_g := kw_of kwc_51 (.tail _ (.tail _ (.tail _ (.tail _ (.tail _ (.tail _ (.tail _ (.tail _ (.tail _ (.tail _ (.head _)))))))))))
theorem kw_1358 : Cond.selects RX12 yX12_normal yX12_normal ∈ lw_g := kw_of kwc_51 (.tail _ (.tail _ (.tail _ (.tail _ (.tail _ (.tail _ (.tail _ (.tail _ (.tail _ (.tail _ (.tail _ (.head _))))))))))))
theorem kw_1360 : Cond.methodLink RX12 217 ⟨"GridPolygonsModel", "isRound", "(I)Z"⟩ ∈ lw_g := kw_of kwc_51 (.tail _ (.tail _ (.tail _ (.tail _ (.tail _ (.tail _ (.tail _ (.tail _ (.tail _ (.tail _ (.tail _ (.tail _ (.head _)))))))))))))
theorem kw_1362 : Cond.instanceMethod yX12_isRound ∈ lw_g := kw_of kwc_51 (.tail _ (.tail _ (.tail _ (.tail _ (.tail _ (.tail _ (.tail _ (.tail _ (.tail _ (.tail _ (.tail _ (.tail _ (.tail _ (.head _))))))))))))))
theorem kw_1364 : Cond.methodLink RX12 211 ⟨"GridPolygonsModel", "normalX", "(II)I"⟩ ∈ lw_g := kw_of kwc_51 (.tail _ (.tail _ (.tail _ (.tail _ (.tail _ (.tail _ (.tail _ (.tail _ (.tail _ (.tail _ (.tail _ (.tail _ (.tail _ (.tail _ (.head _)))))))))))))))
theorem kw_1366 : Cond.instanceMethod yX12_normalX ∈ lw_g := kw_of kwc_51 (.tail _ (.tail _ (.tail _ (.tail _ (.tail _ (.tail _ (.tail _ (.tail _ (.tail _ (.tail _ (.tail _ (.tail _ (.tail _ (.tail _ (.tail _ (.head _))))))))))))))))
def kwl_52 : List (Nat × Cond) := [(0, Cond.methodLink RX12 214 ⟨"GridPolygonsModel", "normalY", "(II)I"⟩), (2, Cond.instanceMethod yX12_normalY), (4, Cond.methodLink RX12 220 ⟨"GridPolygonsModel", "farOf", "(II)I"⟩), (6, Cond.instanceMethod yX12_farOf), (9, Cond.instanceMethod yX12_reflexive), (10, Cond.selects RX12 yX12_reflexive yX12_reflexive), (12, Cond.methodLink RX12 223 ⟨"GridPolygonsModel", "isReflexive", "(I)Z"⟩), (14, Cond.instanceMethod yX12_isReflexive), (17, Cond.instanceMethod yX12_dual), (18, Cond.selects RX12 yX12_dual yX12_dual), (21, Cond.instanceMethod yX12_between), (22, Cond.selects RX12 yX12_between yX12_between), (24, Cond.methodLink RX12 232 ⟨"GridPolygonsModel", "findRays", "(IIII)Z"⟩), (26, Cond.instanceMethod yX12_findRays), (28, Cond.methodLink RX12 229 ⟨"GridPolygonsModel", "beside", "(II)V"⟩), (30, Cond.instanceMethod yX12_beside)]
theorem kwc_52 : kwchk (lw_tbl.drop 1368) kwl_52 = true := by decide +kernel
theorem kw_1368 : Cond.methodLink RX12 214 ⟨"GridPolygonsModel", "normalY", "(II)I"⟩ ∈ lw_g := kw_of kwc_52 (.head _)
theorem kw_1370 : Cond.instanceMethod yX12_normalY ∈ lw_g := kw_of kwc_52 (.tail _ (.head _))
theorem kw_1372 : Cond.methodLink RX12 220 ⟨"GridPolygonsModel", "farOf", "(II)I"⟩ ∈ lw_g := kw_of kwc_52 (.tail _ (.tail _ (.head _)))
theorem kw_1374 : Cond.instanceMethod yX12_farOf ∈ lw_g := kw_of kwc_52 (.tail _ (.tail _ (.tail _ (.head _))))
theorem kw_1377 : Cond.instanceMethod yX12_reflexive ∈ lw_g := kw_of kwc_52 (.tail _ (.tail _ (.tail _ (.tail _ (.head _)))))
theorem kw_1378 : Cond.selects RX12 yX12_reflexive yX12_reflexive ∈ lw_g := kw_of kwc_52 (.tail _ (.tail _ (.tail _ (.tail _ (.tail _ (.head _))))))
theorem kw_1380 : Cond.methodLink RX12 223 ⟨"GridPolygonsModel", "isReflexive", "(I)Z"⟩ ∈ lw_g := kw_of kwc_52 (.tail _ (.tail _ (.tail _ (.tail _ (.tail _ (.tail _ (.head _)))))))
theorem kw_1382 : Cond.instanceMethod yX12_isReflexive ∈ lw_g := kw_of kwc_52 (.tail _ (.tail _ (.tail _ (.tail _ (.tail _ (.tail _ (.tail _ (.head _))))))))
theorem kw_1385 : Cond.instanceMethod yX12_dual ∈ lw_g := kw_of kwc_52 (.tail _ (.tail _ (.tail _ (.tail _ (.tail _ (.tail _ (.tail _ (.tail _ (.head _)))))))))
theorem kw_1386 : Cond.selects RX12 yX12_dual yX12_dual ∈ lw_g := kw_of kwc_52 (.tail _ (.tail _ (.tail _ (.tail _ (.tail _ (.tail _ (.tail _ (.tail _ (.tail _ (.head _))))))))))
theorem kw_1389 : Cond.instanceMethod yX12_between ∈ lw_g := kw_of kwc_52 (.tail _ (.tail _ (.tail _ (.tail _ (.tail _ (.tail _ (.tail _ (.tail _ (.tail _ (.tail _ (.head _)))))))))))
theorem kw_1390 : Cond.selects RX12 yX12_between yX12_between ∈ lw_g := kw_of kwc_52 (.tail _ (.tail _ (.tail _ (.tail _ (.tail _ (.tail _ (.tail _ (.tail _ (.tail _ (.tail _ (.tail _ (.head _))))))))))))
theorem kw_1392 : Cond.methodLink RX12 232 ⟨"GridPolygonsModel", "findRays", "(IIII)Z"⟩ ∈ lw_g := kw_of kwc_52 (.tail _ (.tail _ (.tail _ (.tail _ (.tail _ (.tail _ (.tail _ (.tail _ (.tail _ (.tail _ (.tail _ (.tail _ (.head _)))))))))))))
theorem kw_1394 : Cond.instanceMethod yX12_findRays ∈ lw_g := kw_of kwc_52 (.tail _ (.tail _ (.tail _ (.tail _ (.tail _ (.tail _ (.tail _ (.tail _ (.tail _ (.tail _ (.tail _ (.tail _ (.tail _ (.head _))))))))))))))
theorem kw_1396 : Cond.methodLink RX12 229 ⟨"GridPolygonsModel", "beside", "(II)V"⟩ ∈ lw_g := kw_of kwc_52 (.tail _ (.tail _ (.tail _ (.tail _ (.tail _ (.tail _ (.tail _ (.tail _ (.tail _ (.tail _ (.tail _ (.tail _ (.tail _ (.tail _ (.head _)))))))))))))))
theorem kw_1398 : Cond.instanceMethod yX12_beside ∈ lw_g := kw_of kwc_52 (.tail _ (.tail _ (.tail _ (.tail _ (.tail _ (.tail _ (.tail _ (.tail _ (.tail _ (.tail _ (.tail _ (.tail _ (.tail _ (.tail _ (.tail _ (.head _))))))))))))))))
def kwl_53 : List (Nat × Cond) := [(0, Cond.instanceMethod yX12_ray), (1, Cond.selects RX12 yX12_ray yX12_ray), (4, Cond.instanceMethod yX12_cuts), (5, Cond.selects RX12 yX12_cuts yX12_cuts), (7, Cond.methodLink RX12 282 ⟨"GridPolygonsModel", "isCuttable", "(I)Z"⟩), (9, Cond.instanceMethod yX12_isCuttable), (11, Cond.methodLink RX12 260 ⟨"GridPolygonsModel", "findSegments", "()V"⟩), (13, Cond.instanceMethod yX12_findSegments), (15, Cond.methodLink RX12 270 ⟨"GridPolygonsModel", "firstCut", "()J"⟩), (17, Cond.instanceMethod yX12_firstCut), (19, Cond.methodLink RX12 244 ⟨"GridPolygonsModel", "has", "(JI)Z"⟩), (20, Cond.static yX12_has), (22, Cond.methodLink RX12 248 ⟨"GridPolygonsModel", "doCross", "(II)Z"⟩), (24, Cond.instanceMethod yX12_doCross), (26, Cond.methodLink RX12 235 ⟨"GridPolygonsModel", "turn", "(III)I"⟩), (28, Cond.instanceMethod yX12_turn)]
theorem kwc_53 : kwchk (lw_tbl.drop 1401) kwl_53 = true := by decide +kernel
theorem kw_1401 : Cond.instanceMethod yX12_ray ∈ lw_g := kw_of kwc_53 (.head _)
theorem kw_1402 : Cond.selects RX12 yX12_ray yX12_ray ∈ lw_g := kw_of kwc_53 (.tail _ (.head _))
theorem kw_1405 : Cond.instanceMethod yX12_cuts ∈ lw_g := kw_of kwc_53 (.tail _ (.tail _ (.head _)))
theorem kw_1406 : Cond.selects RX12 yX12_cuts yX12_cuts ∈ lw_g := kw_of kwc_53 (.tail _ (.tail _ (.tail _ (.head _))))
theorem kw_1408 : Cond.methodLink RX12 282 ⟨"GridPolygonsModel", "isCuttable", "(I)Z"⟩ ∈ lw_g := kw_of kwc_53 (.tail _ (.tail _ (.tail _ (.tail _ (.head _)))))
theorem kw_1410 : Cond.instanceMethod yX12_isCuttable ∈ lw_g := kw_of kwc_53 (.tail _ (.tail _ (.tail _ (.tail _ (.tail _ (.head _))))))
theorem kw_1412 : Cond.methodLink RX12 260 ⟨"GridPolygonsModel", "findSegments", "()V"⟩ ∈ lw_g := kw_of kwc_53 (.tail _ (.tail _ (.tail _ (.tail _ (.tail _ (.tail _ (.head _)))))))
theorem kw_1414 : Cond.instanceMethod yX12_findSegments ∈ lw_g := kw_of kwc_53 (.tail _ (.tail _ (.tail _ (.tail _ (.tail _ (.tail _ (.tail _ (.head _))))))))
theorem kw_1416 : Cond.methodLink RX12 270 ⟨"GridPolygonsModel", "firstCut", "()J"⟩ ∈ lw_g := kw_of kwc_53 (.tail _ (.tail _ (.tail _ (.tail _ (.tail _ (.tail _ (.tail _ (.tail _ (.head _)))))))))
theorem kw_1418 : Cond.instanceMethod yX12_firstCut ∈ lw_g := kw_of kwc_53 (.tail _ (.tail _ (.tail _ (.tail _ (.tail _ (.tail _ (.tail _ (.tail _ (.tail _ (.head _))))))))))
theorem kw_1420 : Cond.methodLink RX12 244 ⟨"GridPolygonsModel", "has", "(JI)Z"⟩ ∈ lw_g := kw_of kwc_53 (.tail _ (.tail _ (.tail _ (.tail _ (.tail _ (.tail _ (.tail _ (.tail _ (.tail _ (.tail _ (.head _)))))))))))
theorem kw_1421 : Cond.static yX12_has ∈ lw_g := kw_of kwc_53 (.tail _ (.tail _ (.tail _ (.tail _ (.tail _ (.tail _ (.tail _ (.tail _ (.tail _ (.tail _ (.tail _ (.head _))))))))))))
theorem kw_1423 : Cond.methodLink RX12 248 ⟨"GridPolygonsModel", "doCross", "(II)Z"⟩ ∈ lw_g := kw_of kwc_53 (.tail _ (.tail _ (.tail _ (.tail _ (.tail _ (.tail _ (.tail _ (.tail _ (.tail _ (.tail _ (.tail _ (.tail _ (.head _)))))))))))))
theorem kw_1425 : Cond.instanceMethod yX12_doCross ∈ lw_g := kw_of kwc_53 (.tail _ (.tail _ (.tail _ (.tail _ (.tail _ (.tail _ (.tail _ (.tail _ (.tail _ (.tail _ (.tail _ (.tail _ (.tail _ (.head _))))))))))))))
theorem kw_1427 : Cond.methodLink RX12 235 ⟨"GridPolygonsModel", "turn", "(III)I"⟩ ∈ lw_g := kw_of kwc_53 (.tail _ (.tail _ (.tail _ (.tail _ (.tail _ (.tail _ (.tail _ (.tail _ (.tail _ (.tail _ (.tail _ (.tail _ (.tail _ (.tail _ (.head _)))))))))))))))
theorem kw_1429 : Cond.instanceMethod yX12_turn ∈ lw_g := kw_of kwc_53 (.tail _ (.tail _ (.tail _ (.tail _ (.tail _ (.tail _ (.tail _ (.tail _ (.tail _ (.tail _ (.tail _ (.tail _ (.tail _ (.tail _ (.tail _ (.head _))))))))))))))))
def kwl_54 : List (Nat × Cond) := [(0, Cond.methodLink RX12 238 ⟨"GridPolygonsModel", "signOf", "(I)I"⟩), (1, Cond.static yX12_signOf), (3, Cond.methodLink RX12 285 ⟨"GridPolygonsModel", "sizeOf", "(J)I"⟩), (5, Cond.instanceMethod yX12_sizeOf), (7, Cond.methodLink RX12 288 ⟨"GridPolygonsModel", "findCuts", "(I)V"⟩), (9, Cond.instanceMethod yX12_findCuts), (11, Cond.methodLink RX12 274 ⟨"GridPolygonsModel", "slotOf", "(J)I"⟩), (13, Cond.instanceMethod yX12_slotOf), (15, Cond.constantLong RX12 258 (4095)), (16, Cond.methodLink RX12 278 ⟨"GridPolygonsModel", "flipped", "(JI)J"⟩), (18, Cond.instanceMethod yX12_flipped), (20, Cond.methodLink RX12 254 ⟨"GridPolygonsModel", "third", "(JII)I"⟩), (22, Cond.instanceMethod yX12_third), (24, Cond.methodLink RX12 251 ⟨"GridPolygonsModel", "between1", "(II)I"⟩), (26, Cond.instanceMethod yX12_between1), (29, Cond.instanceMethod yX12_cut)]
theorem kwc_54 : kwchk (lw_tbl.drop 1431) kwl_54 = true := by decide +kernel
theorem kw_1431 : Cond.methodLink RX12 238 ⟨"GridPolygonsModel", "signOf", "(I)I"⟩ ∈ lw_g := kw_of kwc_54 (.head _)
theorem kw_1432 : Cond.static yX12_signOf ∈ lw_g := kw_of kwc_54 (.tail _ (.head _))
theorem kw_1434 : Cond.methodLink RX12 285 ⟨"GridPolygonsModel", "sizeOf", "(J)I"⟩ ∈ lw_g := kw_of kwc_54 (.tail _ (.tail _ (.head _)))
theorem kw_1436 : Cond.instanceMethod yX12_sizeOf ∈ lw_g := kw_of kwc_54 (.tail _ (.tail _ (.tail _ (.head _))))
theorem kw_1438 : Cond.methodLink RX12 288 ⟨"GridPolygonsModel", "findCuts", "(I)V"⟩ ∈ lw_g := kw_of kwc_54 (.tail _ (.tail _ (.tail _ (.tail _ (.head _)))))
theorem kw_1440 : Cond.instanceMethod yX12_findCuts ∈ lw_g := kw_of kwc_54 (.tail _ (.tail _ (.tail _ (.tail _ (.tail _ (.head _))))))
theorem kw_1442 : Cond.methodLink RX12 274 ⟨"GridPolygonsModel", "slotOf", "(J)I"⟩ ∈ lw_g := kw_of kwc_54 (.tail _ (.tail _ (.tail _ (.tail _ (.tail _ (.tail _ (.head _)))))))
theorem kw_1444 : Cond.instanceMethod yX12_slotOf ∈ lw_g := kw_of kwc_54 (.tail _ (.tail _ (.tail _ (.tail _ (.tail _ (.tail _ (.tail _ (.head _))))))))
theorem kw_1446 : Cond.constantLong RX12 258 (4095) ∈ lw_g := kw_of kwc_54 (.tail _ (.tail _ (.tail _ (.tail _ (.tail _ (.tail _ (.tail _ (.tail _ (.head _)))))))))
theorem kw_1447 : Cond.methodLink RX12 278 ⟨"GridPolygonsModel", "flipped", "(JI)J"⟩ ∈ lw_g := kw_of kwc_54 (.tail _ (.tail _ (.tail _ (.tail _ (.tail _ (.tail _ (.tail _ (.tail _ (.tail _ (.head _))))))))))
theorem kw_1449 : Cond.instanceMethod yX12_flipped ∈ lw_g := kw_of kwc_54 (.tail _ (.tail _ (.tail _ (.tail _ (.tail _ (.tail _ (.tail _ (.tail _ (.tail _ (.tail _ (.head _)))))))))))
theorem kw_1451 : Cond.methodLink RX12 254 ⟨"GridPolygonsModel", "third", "(JII)I"⟩ ∈ lw_g := kw_of kwc_54 (.tail _ (.tail _ (.tail _ (.tail _ (.tail _ (.tail _ (.tail _ (.tail _ (.tail _ (.tail _ (.tail _ (.head _))))))))))))
theorem kw_1453 : Cond.instanceMethod yX12_third ∈ lw_g := kw_of kwc_54 (.tail _ (.tail _ (.tail _ (.tail _ (.tail _ (.tail _ (.tail _ (.tail _ (.tail _ (.tail _ (.tail _ (.tail _ (.head _)))))))))))))
theorem kw_1455 : Cond.methodLink RX12 251 ⟨"GridPolygonsModel", "between1", "(II)I"⟩ ∈ lw_g := kw_of kwc_54 (.tail _ (.tail _ (.tail _ (.tail _ (.tail _ (.tail _ (.tail _ (.tail _ (.tail _ (.tail _ (.tail _ (.tail _ (.tail _ (.head _))))))))))))))
theorem kw_1457 : Cond.instanceMethod yX12_between1 ∈ lw_g := kw_of kwc_54 (.tail _ (.tail _ (.tail _ (.tail _ (.tail _ (.tail _ (.tail _ (.tail _ (.tail _ (.tail _ (.tail _ (.tail _ (.tail _ (.tail _ (.head _)))))))))))))))
theorem kw_1460 : Cond.instanceMethod yX12_cut ∈ lw_g := kw_of kwc_54 (.tail _ (.tail _ (.tail _ (.tail _ (.tail _ (.tail _ (.tail _ (.tail _ (.tail _ (.tail _ (.tail _ (.tail _ (.tail _ (.tail _ (.tail _ (.head _))))))))))))))))
def kwl_55 : List (Nat × Cond) := [(0, Cond.selects RX12 yX12_cut yX12_cut), (3, Cond.instanceMethod yX12_flips), (4, Cond.selects RX12 yX12_flips yX12_flips), (7, Cond.instanceMethod yX12_height), (8, Cond.selects RX12 yX12_height yX12_height), (10, Cond.methodLink RX12 291 ⟨"GridPolygonsModel", "isLifted", "(I)Z"⟩), (12, Cond.instanceMethod yX12_isLifted), (15, Cond.instanceMethod yX12_pieces), (16, Cond.selects RX12 yX12_pieces yX12_pieces), (18, Cond.methodLink RX12 305 ⟨"GridPolygonsModel", "findPieces", "(I)V"⟩), (20, Cond.instanceMethod yX12_findPieces), (22, Cond.methodLink RX12 297 ⟨"GridPolygonsModel", "planeOf", "(IIII)J"⟩), (24, Cond.instanceMethod yX12_planeOf), (26, Cond.methodLink RX12 301 ⟨"GridPolygonsModel", "isAhead", "(JJ)Z"⟩), (27, Cond.static yX12_isAhead), (29, Cond.methodLink RX12 308 ⟨"GridPolygonsModel", "bitsIn", "(J)I"⟩)]
theorem kwc_55 : kwchk (lw_tbl.drop 1461) kwl_55 = true := by decide +kernel
theorem kw_1461 : Cond.selects RX12 yX12_cut yX12_cut ∈ lw_g := kw_of kwc_55 (.head _)
theorem kw_1464 : Cond.instanceMethod yX12_flips ∈ lw_g := kw_of kwc_55 (.tail _ (.head _))
theorem kw_1465 : Cond.selects RX12 yX12_flips yX12_flips ∈ lw_g := kw_of kwc_55 (.tail _ (.tail _ (.head _)))
theorem kw_1468 : Cond.instanceMethod yX12_height ∈ lw_g := kw_of kwc_55 (.tail _ (.tail _ (.tail _ (.head _))))
theorem kw_1469 : Cond.selects RX12 yX12_height yX12_height ∈ lw_g := kw_of kwc_55 (.tail _ (.tail _ (.tail _ (.tail _ (.head _)))))
theorem kw_1471 : Cond.methodLink RX12 291 ⟨"GridPolygonsModel", "isLifted", "(I)Z"⟩ ∈ lw_g := kw_of kwc_55 (.tail _ (.tail _ (.tail _ (.tail _ (.tail _ (.head _))))))
theorem kw_1473 : Cond.instanceMethod yX12_isLifted ∈ lw_g := kw_of kwc_55 (.tail _ (.tail _ (.tail _ (.tail _ (.tail _ (.tail _ (.head _)))))))
theorem kw_1476 : Cond.instanceMethod yX12_pieces ∈ lw_g := kw_of kwc_55 (.tail _ (.tail _ (.tail _ (.tail _ (.tail _ (.tail _ (.tail _ (.head _))))))))
theorem kw_1477 : Cond.selects RX12 yX12_pieces yX12_pieces ∈ lw_g := kw_of kwc_55 (.tail _ (.tail _ (.tail _ (.tail _ (.tail _ (.tail _ (.tail _ (.tail _ (.head _)))))))))
theorem kw_1479 : Cond.methodLink RX12 305 ⟨"GridPolygonsModel", "findPieces", "(I)V"⟩ ∈ lw_g := kw_of kwc_55 (.tail _ (.tail _ (.tail _ (.tail _ (.tail _ (.tail _ (.tail _ (.tail _ (.tail _ (.head _))))))))))
theorem kw_1481 : Cond.instanceMethod yX12_findPieces ∈ lw_g := kw_of kwc_55 (.tail _ (.tail _ (.tail _ (.tail _ (.tail _ (.tail _ (.tail _ (.tail _ (.tail _ (.tail _ (.head _)))))))))))
theorem kw_1483 : Cond.methodLink RX12 297 ⟨"GridPolygonsModel", "planeOf", "(IIII)J"⟩ ∈ lw_g := kw_of kwc_55 (.tail _ (.tail _ (.tail _ (.tail _ (.tail _ (.tail _ (.tail _ (.tail _ (.tail _ (.tail _ (.tail _ (.head _))))))))))))
theorem kw_1485 : Cond.instanceMethod yX12_planeOf ∈ lw_g := kw_of kwc_55 (.tail _ (.tail _ (.tail _ (.tail _ (.tail _ (.tail _ (.tail _ (.tail _ (.tail _ (.tail _ (.tail _ (.tail _ (.head _)))))))))))))
theorem kw_1487 : Cond.methodLink RX12 301 ⟨"GridPolygonsModel", "isAhead", "(JJ)Z"⟩ ∈ lw_g := kw_of kwc_55 (.tail _ (.tail _ (.tail _ (.tail _ (.tail _ (.tail _ (.tail _ (.tail _ (.tail _ (.tail _ (.tail _ (.tail _ (.tail _ (.head _))))))))))))))
theorem kw_1488 : Cond.static yX12_isAhead ∈ lw_g := kw_of kwc_55 (.tail _ (.tail _ (.tail _ (.tail _ (.tail _ (.tail _ (.tail _ (.tail _ (.tail _ (.tail _ (.tail _ (.tail _ (.tail _ (.tail _ (.head _)))))))))))))))
theorem kw_1490 : Cond.methodLink RX12 308 ⟨"GridPolygonsModel", "bitsIn", "(J)I"⟩ ∈ lw_g := kw_of kwc_55 (.tail _ (.tail _ (.tail _ (.tail _ (.tail _ (.tail _ (.tail _ (.tail _ (.tail _ (.tail _ (.tail _ (.tail _ (.tail _ (.tail _ (.tail _ (.head _))))))))))))))))
def kwl_56 : List (Nat × Cond) := [(0, Cond.static yX12_bitsIn), (2, Cond.methodLink RX12 311 ⟨"GridPolygonsModel", "bitAt", "(JI)I"⟩), (3, Cond.static yX12_bitAt), (6, Cond.instanceMethod yX12_piece), (7, Cond.selects RX12 yX12_piece yX12_piece)]
theorem kwc_56 : kwchk (lw_tbl.drop 1491) kwl_56 = true := by decide +kernel
theorem kw_1491 : Cond.static yX12_bitsIn ∈ lw_g := kw_of kwc_56 (.head _)
theorem kw_1493 : Cond.methodLink RX12 311 ⟨"GridPolygonsModel", "bitAt", "(JI)I"⟩ ∈ lw_g := kw_of kwc_56 (.tail _ (.head _))
theorem kw_1494 : Cond.static yX12_bitAt ∈ lw_g := kw_of kwc_56 (.tail _ (.tail _ (.head _)))
theorem kw_1497 : Cond.instanceMethod yX12_piece ∈ lw_g := kw_of kwc_56 (.tail _ (.tail _ (.tail _ (.head _))))
theorem kw_1498 : Cond.selects RX12 yX12_piece yX12_piece ∈ lw_g := kw_of kwc_56 (.tail _ (.tail _ (.tail _ (.tail _ (.head _)))))
set_option maxRecDepth 100000 in
theorem kw_109 : Cond.code yX11_init cX11_init 2 none ∈ lw_g := lw_gin 109 rfl (by decide +kernel)
set_option maxRecDepth 100000 in
theorem kw_118 : Cond.code yX10_init cX10_init 1 none ∈ lw_g := lw_gin 118 rfl (by decide +kernel)
set_option maxRecDepth 100000 in
theorem kw_124 : Cond.code yX7_init cX7_init 2 none ∈ lw_g := lw_gin 124 rfl (by decide +kernel)
set_option maxRecDepth 100000 in
theorem kw_127 : Cond.code yX8_init cX8_init 2 none ∈ lw_g := lw_gin 127 rfl (by decide +kernel)
set_option maxRecDepth 100000 in
theorem kw_173 : Cond.code yX3_init cX3_init 1 none ∈ lw_g := lw_gin 173 rfl (by decide +kernel)
set_option maxRecDepth 100000 in
theorem kw_192 : Cond.code yX4_init cX4_init 1 none ∈ lw_g := lw_gin 192 rfl (by decide +kernel)
set_option maxRecDepth 100000 in
theorem kw_211 : Cond.code yX9_init cX9_init 1 none ∈ lw_g := lw_gin 211 rfl (by decide +kernel)
set_option maxRecDepth 100000 in
theorem kw_240 : Cond.code yX0_init cX0_init 1 none ∈ lw_g := lw_gin 240 rfl (by decide +kernel)
set_option maxRecDepth 100000 in
theorem kw_292 : Cond.code yX2_init cX2_init 1 none ∈ lw_g := lw_gin 292 rfl (by decide +kernel)
set_option maxRecDepth 100000 in
theorem kw_298 : Cond.code yX5_init cX5_init 1 none ∈ lw_g := lw_gin 298 rfl (by decide +kernel)
set_option maxRecDepth 100000 in
theorem kw_304 : Cond.code yX6_init cX6_init 2 none ∈ lw_g := lw_gin 304 rfl (by decide +kernel)
set_option maxRecDepth 100000 in
theorem kw_367 : Cond.code yX1_init cX1_init 1 none ∈ lw_g := lw_gin 367 rfl (by decide +kernel)
set_option maxRecDepth 100000 in
theorem kw_413 : Cond.code yX11_clear cX11_clear 4 (some .int) ∈ lw_g := lw_gin 413 rfl (by decide +kernel)
set_option maxRecDepth 100000 in
theorem kw_417 : Cond.code yX11_shapeAt cX11_shapeAt 2 (some (.object "GridPolygons$Shape")) ∈ lw_g := lw_gin 417 rfl (by decide +kernel)
set_option maxRecDepth 100000 in
theorem kw_421 : Cond.code yX3_begin cX3_begin 1 none ∈ lw_g := lw_gin 421 rfl (by decide +kernel)
set_option maxRecDepth 100000 in
theorem kw_424 : Cond.code yJ7_fill_53178 cJ7_fill_53178 4 none ∈ lw_g := lw_gin 424 rfl (by decide +kernel)
set_option maxRecDepth 100000 in
theorem kw_428 : Cond.code yX3_close cX3_close 3 none ∈ lw_g := lw_gin 428 rfl (by decide +kernel)
set_option maxRecDepth 100000 in
theorem kw_432 : Cond.code yX3_push cX3_push 4 none ∈ lw_g := lw_gin 432 rfl (by decide +kernel)
set_option maxRecDepth 100000 in
theorem kw_436 : Cond.code yX3_isLast cX3_isLast 3 (some .boolean) ∈ lw_g := lw_gin 436 rfl (by decide +kernel)
set_option maxRecDepth 100000 in
theorem kw_442 : Cond.code yX8_x cX8_x 2 (some .int) ∈ lw_g := lw_gin 442 rfl (by decide +kernel)
set_option maxRecDepth 100000 in
theorem kw_448 : Cond.code yX8_y cX8_y 2 (some .int) ∈ lw_g := lw_gin 448 rfl (by decide +kernel)
set_option maxRecDepth 100000 in
theorem kw_452 : Cond.code yX3_turnsLeft cX3_turnsLeft 6 (some .boolean) ∈ lw_g := lw_gin 452 rfl (by decide +kernel)
set_option maxRecDepth 100000 in
theorem kw_458 : Cond.code yX8_append cX8_append 3 none ∈ lw_g := lw_gin 458 rfl (by decide +kernel)
set_option maxRecDepth 100000 in
theorem kw_462 : Cond.code yX11_remake cX11_remake 3 none ∈ lw_g := lw_gin 462 rfl (by decide +kernel)
set_option maxRecDepth 100000 in
theorem kw_470 : Cond.code yX11_newStamp cX11_newStamp 1 (some .int) ∈ lw_g := lw_gin 470 rfl (by decide +kernel)
set_option maxRecDepth 100000 in
theorem kw_474 : Cond.code yX11_add cX11_add 5 (some .int) ∈ lw_g := lw_gin 474 rfl (by decide +kernel)
set_option maxRecDepth 100000 in
theorem kw_477 : Cond.code yX11_onGrid cX11_onGrid 1 (some .boolean) ∈ lw_g := lw_gin 477 rfl (by decide +kernel)
set_option maxRecDepth 100000 in
theorem kw_481 : Cond.code yX3_takeRing cX3_takeRing 3 none ∈ lw_g := lw_gin 481 rfl (by decide +kernel)
set_option maxRecDepth 100000 in
theorem kw_485 : Cond.code yX3_take cX3_take 4 none ∈ lw_g := lw_gin 485 rfl (by decide +kernel)
set_option maxRecDepth 100000 in
theorem kw_488 : Cond.code yJ9_min_7cf53 cJ9_min_7cf53 2 (some .int) ∈ lw_g := lw_gin 488 rfl (by decide +kernel)
set_option maxRecDepth 100000 in
theorem kw_491 : Cond.code yJ9_max_7cf53 cJ9_max_7cf53 2 (some .int) ∈ lw_g := lw_gin 491 rfl (by decide +kernel)
set_option maxRecDepth 100000 in
theorem kw_496 : Cond.code yX11_remakeIfFits cX11_remakeIfFits 2 (some .int) ∈ lw_g := lw_gin 496 rfl (by decide +kernel)
set_option maxRecDepth 100000 in
theorem kw_500 : Cond.code yX7_isOnGrid cX7_isOnGrid 2 (some .boolean) ∈ lw_g := lw_gin 500 rfl (by decide +kernel)
set_option maxRecDepth 100000 in
theorem kw_507 : Cond.code yX11_corners cX11_corners 3 (some .int) ∈ lw_g := lw_gin 507 rfl (by decide +kernel)
set_option maxRecDepth 100000 in
theorem kw_511 : Cond.code yX11_corner cX11_corner 5 (some .int) ∈ lw_g := lw_gin 511 rfl (by decide +kernel)
set_option maxRecDepth 100000 in
theorem kw_516 : Cond.code yX11_points cX11_points 4 (some .int) ∈ lw_g := lw_gin 516 rfl (by decide +kernel)
set_option maxRecDepth 100000 in
theorem kw_520 : Cond.code yX7_area cX7_area 3 (some .int) ∈ lw_g := lw_gin 520 rfl (by decide +kernel)
set_option maxRecDepth 100000 in
theorem kw_524 : Cond.code yX7_sideY cX7_sideY 2 (some .int) ∈ lw_g := lw_gin 524 rfl (by decide +kernel)
set_option maxRecDepth 100000 in
theorem kw_528 : Cond.code yX7_around cX7_around 4 (some .int) ∈ lw_g := lw_gin 528 rfl (by decide +kernel)
set_option maxRecDepth 100000 in
theorem kw_532 : Cond.code yX7_sideX cX7_sideX 2 (some .int) ∈ lw_g := lw_gin 532 rfl (by decide +kernel)
set_option maxRecDepth 100000 in
theorem kw_536 : Cond.code yX7_onEdge cX7_onEdge 3 (some .int) ∈ lw_g := lw_gin 536 rfl (by decide +kernel)
set_option maxRecDepth 100000 in
theorem kw_540 : Cond.code yX7_stepsOf cX7_stepsOf 2 (some .int) ∈ lw_g := lw_gin 540 rfl (by decide +kernel)
set_option maxRecDepth 100000 in
theorem kw_543 : Cond.code yX11_gcd cX11_gcd 6 (some .int) ∈ lw_g := lw_gin 543 rfl (by decide +kernel)
set_option maxRecDepth 100000 in
theorem kw_546 : Cond.code yJ9_abs_0f7a4 cJ9_abs_0f7a4 1 (some .int) ∈ lw_g := lw_gin 546 rfl (by decide +kernel)
set_option maxRecDepth 100000 in
theorem kw_550 : Cond.code yX7_inside cX7_inside 1 (some .int) ∈ lw_g := lw_gin 550 rfl (by decide +kernel)
set_option maxRecDepth 100000 in
theorem kw_556 : Cond.code yX7_all cX7_all 1 (some .int) ∈ lw_g := lw_gin 556 rfl (by decide +kernel)
set_option maxRecDepth 100000 in
theorem kw_561 : Cond.code yX11_times cX11_times 5 (some .long) ∈ lw_g := lw_gin 561 rfl (by decide +kernel)
set_option maxRecDepth 100000 in
theorem kw_566 : Cond.code yX7_allTimes cX7_allTimes 2 (some .long) ∈ lw_g := lw_gin 566 rfl (by decide +kernel)
set_option maxRecDepth 100000 in
theorem kw_571 : Cond.code yX7_isPolygon cX7_isPolygon 1 (some .boolean) ∈ lw_g := lw_gin 571 rfl (by decide +kernel)
set_option maxRecDepth 100000 in
theorem kw_575 : Cond.code yX7_insideTimes cX7_insideTimes 2 (some .long) ∈ lw_g := lw_gin 575 rfl (by decide +kernel)
set_option maxRecDepth 100000 in
theorem kw_580 : Cond.code yX11_where cX11_where 5 (some .int) ∈ lw_g := lw_gin 580 rfl (by decide +kernel)
set_option maxRecDepth 100000 in
theorem kw_584 : Cond.code yX7_standing cX7_standing 4 (some .int) ∈ lw_g := lw_gin 584 rfl (by decide +kernel)
set_option maxRecDepth 100000 in
theorem kw_588 : Cond.code yX7_leftmost cX7_leftmost 1 (some .int) ∈ lw_g := lw_gin 588 rfl (by decide +kernel)
set_option maxRecDepth 100000 in
theorem kw_592 : Cond.code yX7_rightmost cX7_rightmost 3 (some .int) ∈ lw_g := lw_gin 592 rfl (by decide +kernel)
set_option maxRecDepth 100000 in
theorem kw_597 : Cond.code yX7_lowestAt cX7_lowestAt 5 (some .int) ∈ lw_g := lw_gin 597 rfl (by decide +kernel)
set_option maxRecDepth 100000 in
theorem kw_601 : Cond.code yX7_bottom cX7_bottom 3 (some .int) ∈ lw_g := lw_gin 601 rfl (by decide +kernel)
set_option maxRecDepth 100000 in
theorem kw_605 : Cond.code yJ9_floorDiv_7cf53 cJ9_floorDiv_7cf53 3 (some .int) ∈ lw_g := lw_gin 605 rfl (by decide +kernel)
set_option maxRecDepth 100000 in
theorem kw_609 : Cond.code yX7_highestAt cX7_highestAt 5 (some .int) ∈ lw_g := lw_gin 609 rfl (by decide +kernel)
set_option maxRecDepth 100000 in
theorem kw_613 : Cond.code yX7_top cX7_top 3 (some .int) ∈ lw_g := lw_gin 613 rfl (by decide +kernel)
set_option maxRecDepth 100000 in
theorem kw_617 : Cond.code yX11_point cX11_point 5 (some .int) ∈ lw_g := lw_gin 617 rfl (by decide +kernel)
set_option maxRecDepth 100000 in
theorem kw_621 : Cond.code yX7_coordinate cX7_coordinate 7 (some .int) ∈ lw_g := lw_gin 621 rfl (by decide +kernel)
set_option maxRecDepth 100000 in
theorem kw_626 : Cond.code yX11_width cX11_width 5 (some .int) ∈ lw_g := lw_gin 626 rfl (by decide +kernel)
set_option maxRecDepth 100000 in
theorem kw_629 : Cond.code yX11_isWay cX11_isWay 2 (some .boolean) ∈ lw_g := lw_gin 629 rfl (by decide +kernel)
set_option maxRecDepth 100000 in
theorem kw_634 : Cond.code yX7_across cX7_across 7 (some .int) ∈ lw_g := lw_gin 634 rfl (by decide +kernel)
set_option maxRecDepth 100000 in
theorem kw_638 : Cond.code yX11_least cX11_least 4 (some .int) ∈ lw_g := lw_gin 638 rfl (by decide +kernel)
set_option maxRecDepth 100000 in
theorem kw_642 : Cond.code yX4_find cX4_find 11 none ∈ lw_g := lw_gin 642 rfl (by decide +kernel)
set_option maxRecDepth 100000 in
theorem kw_647 : Cond.code yX4_weigh cX4_weigh 8 none ∈ lw_g := lw_gin 647 rfl (by decide +kernel)
set_option maxRecDepth 100000 in
theorem kw_655 : Cond.code yX11_map cX11_map 16 (some .int) ∈ lw_g := lw_gin 655 rfl (by decide +kernel)
set_option maxRecDepth 100000 in
theorem kw_659 : Cond.code yX11_maps cX11_maps 5 (some .int) ∈ lw_g := lw_gin 659 rfl (by decide +kernel)
set_option maxRecDepth 100000 in
theorem kw_662 : Cond.code yX11_mapsBetween cX11_mapsBetween 4 (some .int) ∈ lw_g := lw_gin 662 rfl (by decide +kernel)
set_option maxRecDepth 100000 in
theorem kw_665 : Cond.code yX11_mapFits cX11_mapFits 24 (some .boolean) ∈ lw_g := lw_gin 665 rfl (by decide +kernel)
set_option maxRecDepth 100000 in
theorem kw_670 : Cond.code yX11_alike cX11_alike 5 (some .int) ∈ lw_g := lw_gin 670 rfl (by decide +kernel)
set_option maxRecDepth 100000 in
theorem kw_673 : Cond.code yX11_areAlike cX11_areAlike 2 (some .boolean) ∈ lw_g := lw_gin 673 rfl (by decide +kernel)
set_option maxRecDepth 100000 in
theorem kw_677 : Cond.code yX11_heaps cX11_heaps 3 (some .int) ∈ lw_g := lw_gin 677 rfl (by decide +kernel)
set_option maxRecDepth 100000 in
theorem kw_681 : Cond.code yX11_isNewHeap cX11_isNewHeap 5 (some .boolean) ∈ lw_g := lw_gin 681 rfl (by decide +kernel)
set_option maxRecDepth 100000 in
theorem kw_685 : Cond.code yX11_sum cX11_sum 7 (some .int) ∈ lw_g := lw_gin 685 rfl (by decide +kernel)
set_option maxRecDepth 100000 in
theorem kw_689 : Cond.code yX3_closeSum cX3_closeSum 5 none ∈ lw_g := lw_gin 689 rfl (by decide +kernel)
set_option maxRecDepth 100000 in
theorem kw_695 : Cond.code yX11_mixed cX11_mixed 5 (some .int) ∈ lw_g := lw_gin 695 rfl (by decide +kernel)
set_option maxRecDepth 100000 in
theorem kw_699 : Cond.code yX11_parts cX11_parts 3 (some .long) ∈ lw_g := lw_gin 699 rfl (by decide +kernel)
set_option maxRecDepth 100000 in
theorem kw_703 : Cond.code yX0_howMany cX0_howMany 4 (some .long) ∈ lw_g := lw_gin 703 rfl (by decide +kernel)
set_option maxRecDepth 100000 in
theorem kw_707 : Cond.code yX0_frame cX0_frame 2 none ∈ lw_g := lw_gin 707 rfl (by decide +kernel)
set_option maxRecDepth 100000 in
theorem kw_714 : Cond.code yJ7_fill_d0a16 cJ7_fill_d0a16 5 none ∈ lw_g := lw_gin 714 rfl (by decide +kernel)
set_option maxRecDepth 100000 in
theorem kw_720 : Cond.code yX0_cell cX0_cell 6 (some .int) ∈ lw_g := lw_gin 720 rfl (by decide +kernel)
set_option maxRecDepth 100000 in
theorem kw_724 : Cond.code yX0_takeSide cX0_takeSide 3 none ∈ lw_g := lw_gin 724 rfl (by decide +kernel)
set_option maxRecDepth 100000 in
theorem kw_731 : Cond.code yX0_spread cX0_spread 7 none ∈ lw_g := lw_gin 731 rfl (by decide +kernel)
set_option maxRecDepth 100000 in
theorem kw_735 : Cond.code yX0_waysTo cX0_waysTo 5 (some .long) ∈ lw_g := lw_gin 735 rfl (by decide +kernel)
set_option maxRecDepth 100000 in
theorem kw_742 : Cond.code yX11_part cX11_part 4 (some .int) ∈ lw_g := lw_gin 742 rfl (by decide +kernel)
set_option maxRecDepth 100000 in
theorem kw_746 : Cond.code yX0_findLeast cX0_findLeast 4 none ∈ lw_g := lw_gin 746 rfl (by decide +kernel)
set_option maxRecDepth 100000 in
theorem kw_752 : Cond.code yX0_lastRow cX0_lastRow 4 none ∈ lw_g := lw_gin 752 rfl (by decide +kernel)
set_option maxRecDepth 100000 in
theorem kw_756 : Cond.code yX0_setFewest cX0_setFewest 6 none ∈ lw_g := lw_gin 756 rfl (by decide +kernel)
set_option maxRecDepth 100000 in
theorem kw_760 : Cond.code yX0_beginAt cX0_beginAt 5 none ∈ lw_g := lw_gin 760 rfl (by decide +kernel)
set_option maxRecDepth 100000 in
theorem kw_764 : Cond.code yX0_fewestFrom cX0_fewestFrom 4 (some .int) ∈ lw_g := lw_gin 764 rfl (by decide +kernel)
set_option maxRecDepth 100000 in
theorem kw_768 : Cond.code yX0_fewestAt cX0_fewestAt 3 (some .int) ∈ lw_g := lw_gin 768 rfl (by decide +kernel)
set_option maxRecDepth 100000 in
theorem kw_772 : Cond.code yX0_fillRow cX0_fillRow 4 none ∈ lw_g := lw_gin 772 rfl (by decide +kernel)
set_option maxRecDepth 100000 in
theorem kw_776 : Cond.code yX0_bestFrom cX0_bestFrom 7 (some .int) ∈ lw_g := lw_gin 776 rfl (by decide +kernel)
set_option maxRecDepth 100000 in
theorem kw_781 : Cond.code yX0_goOn cX0_goOn 5 none ∈ lw_g := lw_gin 781 rfl (by decide +kernel)
set_option maxRecDepth 100000 in
theorem kw_785 : Cond.code yX0_firstBest cX0_firstBest 6 (some .int) ∈ lw_g := lw_gin 785 rfl (by decide +kernel)
set_option maxRecDepth 100000 in
theorem kw_789 : Cond.code yX0_takenOf cX0_takenOf 2 (some .int) ∈ lw_g := lw_gin 789 rfl (by decide +kernel)
set_option maxRecDepth 100000 in
theorem kw_793 : Cond.code yX11_normal cX11_normal 5 (some .int) ∈ lw_g := lw_gin 793 rfl (by decide +kernel)
set_option maxRecDepth 100000 in
theorem kw_797 : Cond.code yX7_isRound cX7_isRound 1 (some .boolean) ∈ lw_g := lw_gin 797 rfl (by decide +kernel)
set_option maxRecDepth 100000 in
theorem kw_803 : Cond.code yX7_normalA cX7_normalA 3 (some .int) ∈ lw_g := lw_gin 803 rfl (by decide +kernel)
set_option maxRecDepth 100000 in
theorem kw_807 : Cond.code yX7_normalB cX7_normalB 3 (some .int) ∈ lw_g := lw_gin 807 rfl (by decide +kernel)
set_option maxRecDepth 100000 in
theorem kw_811 : Cond.code yX7_far cX7_far 2 (some .int) ∈ lw_g := lw_gin 811 rfl (by decide +kernel)
set_option maxRecDepth 100000 in
theorem kw_817 : Cond.code yX11_reflexive cX11_reflexive 3 (some .int) ∈ lw_g := lw_gin 817 rfl (by decide +kernel)
set_option maxRecDepth 100000 in
theorem kw_821 : Cond.code yX7_isReflexive cX7_isReflexive 2 (some .boolean) ∈ lw_g := lw_gin 821 rfl (by decide +kernel)
set_option maxRecDepth 100000 in
theorem kw_827 : Cond.code yX11_dual cX11_dual 6 (some .int) ∈ lw_g := lw_gin 827 rfl (by decide +kernel)
set_option maxRecDepth 100000 in
theorem kw_831 : Cond.code yX11_between cX11_between 5 (some .int) ∈ lw_g := lw_gin 831 rfl (by decide +kernel)
set_option maxRecDepth 100000 in
theorem kw_834 : Cond.code yX11_isAngle cX11_isAngle 4 (some .boolean) ∈ lw_g := lw_gin 834 rfl (by decide +kernel)
set_option maxRecDepth 100000 in
theorem kw_838 : Cond.code yX9_walk cX9_walk 20 none ∈ lw_g := lw_gin 838 rfl (by decide +kernel)
set_option maxRecDepth 100000 in
theorem kw_844 : Cond.code yX9_keep cX9_keep 5 none ∈ lw_g := lw_gin 844 rfl (by decide +kernel)
set_option maxRecDepth 100000 in
theorem kw_848 : Cond.code yX9_findSecond cX9_findSecond 9 none ∈ lw_g := lw_gin 848 rfl (by decide +kernel)
set_option maxRecDepth 100000 in
theorem kw_854 : Cond.code yX11_ray cX11_ray 7 (some .int) ∈ lw_g := lw_gin 854 rfl (by decide +kernel)
set_option maxRecDepth 100000 in
theorem kw_858 : Cond.code yX11_cuts cX11_cuts 4 (some .int) ∈ lw_g := lw_gin 858 rfl (by decide +kernel)
set_option maxRecDepth 100000 in
theorem kw_861 : Cond.code yX11_hasAtMost cX11_hasAtMost 2 (some .boolean) ∈ lw_g := lw_gin 861 rfl (by decide +kernel)
set_option maxRecDepth 100000 in
theorem kw_864 : Cond.code yX11_segmentsOf cX11_segmentsOf 1 (some .int) ∈ lw_g := lw_gin 864 rfl (by decide +kernel)
set_option maxRecDepth 100000 in
theorem kw_868 : Cond.code yX2_build cX2_build 2 (some .boolean) ∈ lw_g := lw_gin 868 rfl (by decide +kernel)
set_option maxRecDepth 100000 in
theorem kw_872 : Cond.code yX5_build cX5_build 4 none ∈ lw_g := lw_gin 872 rfl (by decide +kernel)
set_option maxRecDepth 100000 in
theorem kw_876 : Cond.code yX6_fill cX6_fill 5 none ∈ lw_g := lw_gin 876 rfl (by decide +kernel)
set_option maxRecDepth 100000 in
theorem kw_895 : Cond.code yX5_appendSegment cX5_appendSegment 4 none ∈ lw_g := lw_gin 895 rfl (by decide +kernel)
set_option maxRecDepth 100000 in
theorem kw_899 : Cond.code yX5_noteCrossed cX5_noteCrossed 3 none ∈ lw_g := lw_gin 899 rfl (by decide +kernel)
set_option maxRecDepth 100000 in
theorem kw_903 : Cond.code yX5_cross cX5_cross 5 (some .boolean) ∈ lw_g := lw_gin 903 rfl (by decide +kernel)
set_option maxRecDepth 100000 in
theorem kw_907 : Cond.code yX6_turn cX6_turn 4 (some .int) ∈ lw_g := lw_gin 907 rfl (by decide +kernel)
set_option maxRecDepth 100000 in
theorem kw_913 : Cond.code yX5_noteFlips cX5_noteFlips 6 none ∈ lw_g := lw_gin 913 rfl (by decide +kernel)
set_option maxRecDepth 100000 in
theorem kw_917 : Cond.code yX6_find cX6_find 4 (some .int) ∈ lw_g := lw_gin 917 rfl (by decide +kernel)
set_option maxRecDepth 100000 in
theorem kw_921 : Cond.code yX5_noteFlip cX5_noteFlip 11 none ∈ lw_g := lw_gin 921 rfl (by decide +kernel)
set_option maxRecDepth 100000 in
theorem kw_925 : Cond.code yX5_number cX5_number 4 (some .int) ∈ lw_g := lw_gin 925 rfl (by decide +kernel)
set_option maxRecDepth 100000 in
theorem kw_931 : Cond.code yX2_search cX2_search 5 none ∈ lw_g := lw_gin 931 rfl (by decide +kernel)
set_option maxRecDepth 100000 in
theorem kw_936 : Cond.code yX5_firstCut cX5_firstCut 4 (some .long) ∈ lw_g := lw_gin 936 rfl (by decide +kernel)
set_option maxRecDepth 100000 in
theorem kw_940 : Cond.code yX2_enter cX2_enter 6 none ∈ lw_g := lw_gin 940 rfl (by decide +kernel)
set_option maxRecDepth 100000 in
theorem kw_945 : Cond.code yX2_setOf cX2_setOf 2 (some .long) ∈ lw_g := lw_gin 945 rfl (by decide +kernel)
set_option maxRecDepth 100000 in
theorem kw_949 : Cond.code yX5_flipped cX5_flipped 4 (some .long) ∈ lw_g := lw_gin 949 rfl (by decide +kernel)
set_option maxRecDepth 100000 in
theorem kw_953 : Cond.code yX2_farOf cX2_farOf 2 (some .int) ∈ lw_g := lw_gin 953 rfl (by decide +kernel)
set_option maxRecDepth 100000 in
theorem kw_957 : Cond.code yX2_farthest cX2_farthest 1 (some .int) ∈ lw_g := lw_gin 957 rfl (by decide +kernel)
set_option maxRecDepth 100000 in
theorem kw_961 : Cond.code yX11_cut cX11_cut 5 (some .int) ∈ lw_g := lw_gin 961 rfl (by decide +kernel)
set_option maxRecDepth 100000 in
theorem kw_966 : Cond.code yX2_segmentAt cX2_segmentAt 5 (some .int) ∈ lw_g := lw_gin 966 rfl (by decide +kernel)
set_option maxRecDepth 100000 in
theorem kw_970 : Cond.code yX5_told cX5_told 2 (some .int) ∈ lw_g := lw_gin 970 rfl (by decide +kernel)
set_option maxRecDepth 100000 in
theorem kw_974 : Cond.code yX11_flips cX11_flips 4 (some .int) ∈ lw_g := lw_gin 974 rfl (by decide +kernel)
set_option maxRecDepth 100000 in
theorem kw_978 : Cond.code yX2_flipsOf cX2_flipsOf 4 (some .int) ∈ lw_g := lw_gin 978 rfl (by decide +kernel)
set_option maxRecDepth 100000 in
theorem kw_982 : Cond.code yX11_height cX11_height 6 (some .int) ∈ lw_g := lw_gin 982 rfl (by decide +kernel)
set_option maxRecDepth 100000 in
theorem kw_986 : Cond.code yX11_pieces cX11_pieces 4 (some .int) ∈ lw_g := lw_gin 986 rfl (by decide +kernel)
set_option maxRecDepth 100000 in
theorem kw_990 : Cond.code yX1_build cX1_build 4 none ∈ lw_g := lw_gin 990 rfl (by decide +kernel)
set_option maxRecDepth 100000 in
theorem kw_995 : Cond.code yX1_lowestLeft cX1_lowestLeft 6 (some .int) ∈ lw_g := lw_gin 995 rfl (by decide +kernel)
set_option maxRecDepth 100000 in
theorem kw_1000 : Cond.code yX1_above cX1_above 8 (some .int) ∈ lw_g := lw_gin 1000 rfl (by decide +kernel)
set_option maxRecDepth 100000 in
theorem kw_1006 : Cond.code yX1_planeOf cX1_planeOf 9 (some .long) ∈ lw_g := lw_gin 1006 rfl (by decide +kernel)
set_option maxRecDepth 100000 in
theorem kw_1009 : Cond.code yX1_bit cX1_bit 1 (some .long) ∈ lw_g := lw_gin 1009 rfl (by decide +kernel)
set_option maxRecDepth 100000 in
theorem kw_1013 : Cond.code yX1_enter cX1_enter 4 none ∈ lw_g := lw_gin 1013 rfl (by decide +kernel)
set_option maxRecDepth 100000 in
theorem kw_1017 : Cond.code yX1_isKnown cX1_isKnown 4 (some .boolean) ∈ lw_g := lw_gin 1017 rfl (by decide +kernel)
set_option maxRecDepth 100000 in
theorem kw_1021 : Cond.code yX1_setOf cX1_setOf 2 (some .long) ∈ lw_g := lw_gin 1021 rfl (by decide +kernel)
set_option maxRecDepth 100000 in
theorem kw_1025 : Cond.code yX1_seen cX1_seen 4 (some .int) ∈ lw_g := lw_gin 1025 rfl (by decide +kernel)
set_option maxRecDepth 100000 in
theorem kw_1028 : Cond.code yJ13_bitCount_95d88 cJ13_bitCount_95d88 2 (some .int) ∈ lw_g := lw_gin 1028 rfl (by decide +kernel)
set_option maxRecDepth 100000 in
theorem kw_1035 : Cond.code yX1_unitTriangles cX1_unitTriangles 3 (some .int) ∈ lw_g := lw_gin 1035 rfl (by decide +kernel)
set_option maxRecDepth 100000 in
theorem kw_1039 : Cond.code yX1_sizeOf cX1_sizeOf 2 (some .int) ∈ lw_g := lw_gin 1039 rfl (by decide +kernel)
set_option maxRecDepth 100000 in
theorem kw_1043 : Cond.code yX1_memberOf cX1_memberOf 5 (some .int) ∈ lw_g := lw_gin 1043 rfl (by decide +kernel)
set_option maxRecDepth 100000 in
theorem kw_1048 : Cond.code yX11_piece cX11_piece 5 (some .int) ∈ lw_g := lw_gin 1048 rfl (by decide +kernel)
set_option maxRecDepth 100000 in
theorem kw_1055 : Cond.code yX12_init cX12_init 1 none ∈ lw_g := lw_gin 1055 rfl (by decide +kernel)
set_option maxRecDepth 100000 in
theorem kw_1155 : Cond.code yX12_clear cX12_clear 4 (some .int) ∈ lw_g := lw_gin 1155 rfl (by decide +kernel)
set_option maxRecDepth 100000 in
theorem kw_1158 : Cond.code yX12_isShape cX12_isShape 1 (some .boolean) ∈ lw_g := lw_gin 1158 rfl (by decide +kernel)
set_option maxRecDepth 100000 in
theorem kw_1161 : Cond.code yX12_in cX12_in 3 (some .boolean) ∈ lw_g := lw_gin 1161 rfl (by decide +kernel)
set_option maxRecDepth 100000 in
theorem kw_1165 : Cond.code yX12_take cX12_take 5 (some .int) ∈ lw_g := lw_gin 1165 rfl (by decide +kernel)
set_option maxRecDepth 100000 in
theorem kw_1168 : Cond.code yX12_isPlace cX12_isPlace 2 (some .boolean) ∈ lw_g := lw_gin 1168 rfl (by decide +kernel)
set_option maxRecDepth 100000 in
theorem kw_1172 : Cond.code yX12_add cX12_add 4 (some .int) ∈ lw_g := lw_gin 1172 rfl (by decide +kernel)
set_option maxRecDepth 100000 in
theorem kw_1176 : Cond.code yX12_putShape cX12_putShape 3 none ∈ lw_g := lw_gin 1176 rfl (by decide +kernel)
set_option maxRecDepth 100000 in
theorem kw_1180 : Cond.code yX12_x cX12_x 3 (some .int) ∈ lw_g := lw_gin 1180 rfl (by decide +kernel)
set_option maxRecDepth 100000 in
theorem kw_1184 : Cond.code yX12_y cX12_y 3 (some .int) ∈ lw_g := lw_gin 1184 rfl (by decide +kernel)
set_option maxRecDepth 100000 in
theorem kw_1188 : Cond.code yX12_put cX12_put 3 none ∈ lw_g := lw_gin 1188 rfl (by decide +kernel)
set_option maxRecDepth 100000 in
theorem kw_1192 : Cond.code yX12_findHull cX12_findHull 3 none ∈ lw_g := lw_gin 1192 rfl (by decide +kernel)
set_option maxRecDepth 100000 in
theorem kw_1196 : Cond.code yX12_order cX12_order 5 none ∈ lw_g := lw_gin 1196 rfl (by decide +kernel)
set_option maxRecDepth 100000 in
theorem kw_1200 : Cond.code yX12_isAfter cX12_isAfter 3 (some .boolean) ∈ lw_g := lw_gin 1200 rfl (by decide +kernel)
set_option maxRecDepth 100000 in
theorem kw_1204 : Cond.code yX12_goOn cX12_goOn 8 none ∈ lw_g := lw_gin 1204 rfl (by decide +kernel)
set_option maxRecDepth 100000 in
theorem kw_1208 : Cond.code yX12_corners cX12_corners 2 (some .int) ∈ lw_g := lw_gin 1208 rfl (by decide +kernel)
set_option maxRecDepth 100000 in
theorem kw_1212 : Cond.code yX12_corner cX12_corner 4 (some .int) ∈ lw_g := lw_gin 1212 rfl (by decide +kernel)
set_option maxRecDepth 100000 in
theorem kw_1217 : Cond.code yX12_points cX12_points 3 (some .int) ∈ lw_g := lw_gin 1217 rfl (by decide +kernel)
set_option maxRecDepth 100000 in
theorem kw_1221 : Cond.code yX12_areaOf cX12_areaOf 4 (some .int) ∈ lw_g := lw_gin 1221 rfl (by decide +kernel)
set_option maxRecDepth 100000 in
theorem kw_1225 : Cond.code yX12_edgeOf cX12_edgeOf 4 (some .int) ∈ lw_g := lw_gin 1225 rfl (by decide +kernel)
set_option maxRecDepth 100000 in
theorem kw_1229 : Cond.code yX12_stepsOf cX12_stepsOf 3 (some .int) ∈ lw_g := lw_gin 1229 rfl (by decide +kernel)
set_option maxRecDepth 100000 in
theorem kw_1232 : Cond.code yX12_common cX12_common 5 (some .int) ∈ lw_g := lw_gin 1232 rfl (by decide +kernel)
set_option maxRecDepth 100000 in
theorem kw_1235 : Cond.code yX12_size cX12_size 1 (some .int) ∈ lw_g := lw_gin 1235 rfl (by decide +kernel)
set_option maxRecDepth 100000 in
theorem kw_1239 : Cond.code yX12_insideOf cX12_insideOf 2 (some .int) ∈ lw_g := lw_gin 1239 rfl (by decide +kernel)
set_option maxRecDepth 100000 in
theorem kw_1243 : Cond.code yX12_isPolygon cX12_isPolygon 2 (some .boolean) ∈ lw_g := lw_gin 1243 rfl (by decide +kernel)
set_option maxRecDepth 100000 in
theorem kw_1247 : Cond.code yX12_times cX12_times 8 (some .long) ∈ lw_g := lw_gin 1247 rfl (by decide +kernel)
set_option maxRecDepth 100000 in
theorem kw_1254 : Cond.code yX12_where cX12_where 4 (some .int) ∈ lw_g := lw_gin 1254 rfl (by decide +kernel)
set_option maxRecDepth 100000 in
theorem kw_1258 : Cond.code yX12_whereOf cX12_whereOf 9 (some .int) ∈ lw_g := lw_gin 1258 rfl (by decide +kernel)
set_option maxRecDepth 100000 in
theorem kw_1261 : Cond.code yX12_cross cX12_cross 4 (some .int) ∈ lw_g := lw_gin 1261 rfl (by decide +kernel)
set_option maxRecDepth 100000 in
theorem kw_1265 : Cond.code yX12_point cX12_point 4 (some .int) ∈ lw_g := lw_gin 1265 rfl (by decide +kernel)
set_option maxRecDepth 100000 in
theorem kw_1269 : Cond.code yX12_findAll cX12_findAll 8 none ∈ lw_g := lw_gin 1269 rfl (by decide +kernel)
set_option maxRecDepth 100000 in
theorem kw_1273 : Cond.code yX12_width cX12_width 4 (some .int) ∈ lw_g := lw_gin 1273 rfl (by decide +kernel)
set_option maxRecDepth 100000 in
theorem kw_1276 : Cond.code yX12_isWay cX12_isWay 2 (some .boolean) ∈ lw_g := lw_gin 1276 rfl (by decide +kernel)
set_option maxRecDepth 100000 in
theorem kw_1280 : Cond.code yX12_widthOf cX12_widthOf 8 (some .int) ∈ lw_g := lw_gin 1280 rfl (by decide +kernel)
set_option maxRecDepth 100000 in
theorem kw_1284 : Cond.code yX12_least cX12_least 22 (some .int) ∈ lw_g := lw_gin 1284 rfl (by decide +kernel)
set_option maxRecDepth 100000 in
theorem kw_1288 : Cond.code yX12_map cX12_map 10 (some .int) ∈ lw_g := lw_gin 1288 rfl (by decide +kernel)
set_option maxRecDepth 100000 in
theorem kw_1292 : Cond.code yX12_maps cX12_maps 3 (some .int) ∈ lw_g := lw_gin 1292 rfl (by decide +kernel)
set_option maxRecDepth 100000 in
theorem kw_1296 : Cond.code yX12_mapsOf cX12_mapsOf 5 (some .int) ∈ lw_g := lw_gin 1296 rfl (by decide +kernel)
set_option maxRecDepth 100000 in
theorem kw_1300 : Cond.code yX12_isMap cX12_isMap 26 (some .boolean) ∈ lw_g := lw_gin 1300 rfl (by decide +kernel)
set_option maxRecDepth 100000 in
theorem kw_1304 : Cond.code yX12_alike cX12_alike 3 (some .int) ∈ lw_g := lw_gin 1304 rfl (by decide +kernel)
set_option maxRecDepth 100000 in
theorem kw_1308 : Cond.code yX12_isAlike cX12_isAlike 3 (some .boolean) ∈ lw_g := lw_gin 1308 rfl (by decide +kernel)
set_option maxRecDepth 100000 in
theorem kw_1312 : Cond.code yX12_heaps cX12_heaps 5 (some .int) ∈ lw_g := lw_gin 1312 rfl (by decide +kernel)
set_option maxRecDepth 100000 in
theorem kw_1316 : Cond.code yX12_sum cX12_sum 4 (some .int) ∈ lw_g := lw_gin 1316 rfl (by decide +kernel)
set_option maxRecDepth 100000 in
theorem kw_1320 : Cond.code yX12_findSum cX12_findSum 5 none ∈ lw_g := lw_gin 1320 rfl (by decide +kernel)
set_option maxRecDepth 100000 in
theorem kw_1324 : Cond.code yX12_mixed cX12_mixed 6 (some .int) ∈ lw_g := lw_gin 1324 rfl (by decide +kernel)
set_option maxRecDepth 100000 in
theorem kw_1328 : Cond.code yX12_parts cX12_parts 9 (some .long) ∈ lw_g := lw_gin 1328 rfl (by decide +kernel)
set_option maxRecDepth 100000 in
theorem kw_1331 : Cond.code yX12_spot cX12_spot 2 (some .int) ∈ lw_g := lw_gin 1331 rfl (by decide +kernel)
set_option maxRecDepth 100000 in
theorem kw_1335 : Cond.code yX12_stepX cX12_stepX 3 (some .int) ∈ lw_g := lw_gin 1335 rfl (by decide +kernel)
set_option maxRecDepth 100000 in
theorem kw_1339 : Cond.code yX12_stepY cX12_stepY 3 (some .int) ∈ lw_g := lw_gin 1339 rfl (by decide +kernel)
set_option maxRecDepth 100000 in
theorem kw_1343 : Cond.code yX12_part cX12_part 4 (some .int) ∈ lw_g := lw_gin 1343 rfl (by decide +kernel)
set_option maxRecDepth 100000 in
theorem kw_1347 : Cond.code yX12_leastPart cX12_leastPart 10 (some .int) ∈ lw_g := lw_gin 1347 rfl (by decide +kernel)
set_option maxRecDepth 100000 in
theorem kw_1351 : Cond.code yX12_findBack cX12_findBack 11 none ∈ lw_g := lw_gin 1351 rfl (by decide +kernel)
set_option maxRecDepth 100000 in
theorem kw_1355 : Cond.code yX12_backAt cX12_backAt 5 (some .int) ∈ lw_g := lw_gin 1355 rfl (by decide +kernel)
set_option maxRecDepth 100000 in
theorem kw_1359 : Cond.code yX12_normal cX12_normal 4 (some .int) ∈ lw_g := lw_gin 1359 rfl (by decide +kernel)
set_option maxRecDepth 100000 in
theorem kw_1363 : Cond.code yX12_isRound cX12_isRound 2 (some .boolean) ∈ lw_g := lw_gin 1363 rfl (by decide +kernel)
set_option maxRecDepth 100000 in
theorem kw_1367 : Cond.code yX12_normalX cX12_normalX 3 (some .int) ∈ lw_g := lw_gin 1367 rfl (by decide +kernel)
set_option maxRecDepth 100000 in
theorem kw_1371 : Cond.code yX12_normalY cX12_normalY 3 (some .int) ∈ lw_g := lw_gin 1371 rfl (by decide +kernel)
set_option maxRecDepth 100000 in
theorem kw_1375 : Cond.code yX12_farOf cX12_farOf 3 (some .int) ∈ lw_g := lw_gin 1375 rfl (by decide +kernel)
set_option maxRecDepth 100000 in
theorem kw_1379 : Cond.code yX12_reflexive cX12_reflexive 2 (some .int) ∈ lw_g := lw_gin 1379 rfl (by decide +kernel)
set_option maxRecDepth 100000 in
theorem kw_1383 : Cond.code yX12_isReflexive cX12_isReflexive 4 (some .boolean) ∈ lw_g := lw_gin 1383 rfl (by decide +kernel)
set_option maxRecDepth 100000 in
theorem kw_1387 : Cond.code yX12_dual cX12_dual 4 (some .int) ∈ lw_g := lw_gin 1387 rfl (by decide +kernel)
set_option maxRecDepth 100000 in
theorem kw_1391 : Cond.code yX12_between cX12_between 5 (some .int) ∈ lw_g := lw_gin 1391 rfl (by decide +kernel)
set_option maxRecDepth 100000 in
theorem kw_1395 : Cond.code yX12_findRays cX12_findRays 14 (some .boolean) ∈ lw_g := lw_gin 1395 rfl (by decide +kernel)
set_option maxRecDepth 100000 in
theorem kw_1399 : Cond.code yX12_beside cX12_beside 11 none ∈ lw_g := lw_gin 1399 rfl (by decide +kernel)
set_option maxRecDepth 100000 in
theorem kw_1403 : Cond.code yX12_ray cX12_ray 7 (some .int) ∈ lw_g := lw_gin 1403 rfl (by decide +kernel)
set_option maxRecDepth 100000 in
theorem kw_1407 : Cond.code yX12_cuts cX12_cuts 3 (some .int) ∈ lw_g := lw_gin 1407 rfl (by decide +kernel)
set_option maxRecDepth 100000 in
theorem kw_1411 : Cond.code yX12_isCuttable cX12_isCuttable 2 (some .boolean) ∈ lw_g := lw_gin 1411 rfl (by decide +kernel)
set_option maxRecDepth 100000 in
theorem kw_1415 : Cond.code yX12_findSegments cX12_findSegments 3 none ∈ lw_g := lw_gin 1415 rfl (by decide +kernel)
set_option maxRecDepth 100000 in
theorem kw_1419 : Cond.code yX12_firstCut cX12_firstCut 6 (some .long) ∈ lw_g := lw_gin 1419 rfl (by decide +kernel)
set_option maxRecDepth 100000 in
theorem kw_1422 : Cond.code yX12_has cX12_has 3 (some .boolean) ∈ lw_g := lw_gin 1422 rfl (by decide +kernel)
set_option maxRecDepth 100000 in
theorem kw_1426 : Cond.code yX12_doCross cX12_doCross 7 (some .boolean) ∈ lw_g := lw_gin 1426 rfl (by decide +kernel)
set_option maxRecDepth 100000 in
theorem kw_1430 : Cond.code yX12_turn cX12_turn 4 (some .int) ∈ lw_g := lw_gin 1430 rfl (by decide +kernel)
set_option maxRecDepth 100000 in
theorem kw_1433 : Cond.code yX12_signOf cX12_signOf 1 (some .int) ∈ lw_g := lw_gin 1433 rfl (by decide +kernel)
set_option maxRecDepth 100000 in
theorem kw_1437 : Cond.code yX12_sizeOf cX12_sizeOf 5 (some .int) ∈ lw_g := lw_gin 1437 rfl (by decide +kernel)
set_option maxRecDepth 100000 in
theorem kw_1441 : Cond.code yX12_findCuts cX12_findCuts 7 none ∈ lw_g := lw_gin 1441 rfl (by decide +kernel)
set_option maxRecDepth 100000 in
theorem kw_1445 : Cond.code yX12_slotOf cX12_slotOf 4 (some .int) ∈ lw_g := lw_gin 1445 rfl (by decide +kernel)
set_option maxRecDepth 100000 in
theorem kw_1450 : Cond.code yX12_flipped cX12_flipped 7 (some .long) ∈ lw_g := lw_gin 1450 rfl (by decide +kernel)
set_option maxRecDepth 100000 in
theorem kw_1454 : Cond.code yX12_third cX12_third 6 (some .int) ∈ lw_g := lw_gin 1454 rfl (by decide +kernel)
set_option maxRecDepth 100000 in
theorem kw_1458 : Cond.code yX12_between1 cX12_between1 3 (some .int) ∈ lw_g := lw_gin 1458 rfl (by decide +kernel)
set_option maxRecDepth 100000 in
theorem kw_1462 : Cond.code yX12_cut cX12_cut 6 (some .int) ∈ lw_g := lw_gin 1462 rfl (by decide +kernel)
set_option maxRecDepth 100000 in
theorem kw_1466 : Cond.code yX12_flips cX12_flips 5 (some .int) ∈ lw_g := lw_gin 1466 rfl (by decide +kernel)
set_option maxRecDepth 100000 in
theorem kw_1470 : Cond.code yX12_height cX12_height 5 (some .int) ∈ lw_g := lw_gin 1470 rfl (by decide +kernel)
set_option maxRecDepth 100000 in
theorem kw_1474 : Cond.code yX12_isLifted cX12_isLifted 2 (some .boolean) ∈ lw_g := lw_gin 1474 rfl (by decide +kernel)
set_option maxRecDepth 100000 in
theorem kw_1478 : Cond.code yX12_pieces cX12_pieces 9 (some .int) ∈ lw_g := lw_gin 1478 rfl (by decide +kernel)
set_option maxRecDepth 100000 in
theorem kw_1482 : Cond.code yX12_findPieces cX12_findPieces 9 none ∈ lw_g := lw_gin 1482 rfl (by decide +kernel)
set_option maxRecDepth 100000 in
theorem kw_1486 : Cond.code yX12_planeOf cX12_planeOf 24 (some .long) ∈ lw_g := lw_gin 1486 rfl (by decide +kernel)
set_option maxRecDepth 100000 in
theorem kw_1489 : Cond.code yX12_isAhead cX12_isAhead 6 (some .boolean) ∈ lw_g := lw_gin 1489 rfl (by decide +kernel)
set_option maxRecDepth 100000 in
theorem kw_1492 : Cond.code yX12_bitsIn cX12_bitsIn 4 (some .int) ∈ lw_g := lw_gin 1492 rfl (by decide +kernel)
set_option maxRecDepth 100000 in
theorem kw_1495 : Cond.code yX12_bitAt cX12_bitAt 5 (some .int) ∈ lw_g := lw_gin 1495 rfl (by decide +kernel)
set_option maxRecDepth 100000 in
theorem kw_1499 : Cond.code yX12_piece cX12_piece 5 (some .int) ∈ lw_g := lw_gin 1499 rfl (by decide +kernel)
theorem mf_X0_howMany : jmV yX0_howMany cX0_howMany 4 (some .long) 1 := ⟨kw_703, kw_95, kw_701, kw_702, ⟨by decide +kernel, by decide +kernel, by decide +kernel⟩⟩
theorem mf_X0_findLeast : jmV yX0_findLeast cX0_findLeast 4 none 1 := ⟨kw_746, kw_95, kw_744, kw_745, ⟨by decide +kernel, by decide +kernel, by decide +kernel⟩⟩
theorem mf_X0_takenOf : jmV yX0_takenOf cX0_takenOf 2 (some .int) 1 := ⟨kw_789, kw_95, kw_787, kw_788, ⟨by decide +kernel, by decide +kernel, by decide +kernel⟩⟩
theorem mf_X0_takeSide : jmV yX0_takeSide cX0_takeSide 3 none 2 := ⟨kw_724, kw_95, kw_723, kw_11, ⟨by decide +kernel, by decide +kernel, by decide +kernel⟩⟩
theorem mf_X0_frame : jmV yX0_frame cX0_frame 2 none 1 := ⟨kw_707, kw_95, kw_706, kw_9, ⟨by decide +kernel, by decide +kernel, by decide +kernel⟩⟩
theorem mf_X0_cell : jmV yX0_cell cX0_cell 6 (some .int) 2 := ⟨kw_720, kw_95, kw_719, kw_10, ⟨by decide +kernel, by decide +kernel, by decide +kernel⟩⟩
theorem mf_X0_waysTo : jmV yX0_waysTo cX0_waysTo 5 (some .long) 3 := ⟨kw_735, kw_95, kw_734, kw_13, ⟨by decide +kernel, by decide +kernel, by decide +kernel⟩⟩
theorem mf_X0_spread : jmV yX0_spread cX0_spread 7 none 0 := ⟨kw_731, kw_95, kw_730, kw_12, ⟨by decide +kernel, by decide +kernel, by decide +kernel⟩⟩
theorem mf_X0_fewestFrom : jmV yX0_fewestFrom cX0_fewestFrom 4 (some .int) 3 := ⟨kw_764, kw_95, kw_763, kw_17, ⟨by decide +kernel, by decide +kernel, by decide +kernel⟩⟩
theorem mf_X0_fewestAt : jmV yX0_fewestAt cX0_fewestAt 3 (some .int) 2 := ⟨kw_768, kw_95, kw_767, kw_18, ⟨by decide +kernel, by decide +kernel, by decide +kernel⟩⟩
theorem mf_X0_setFewest : jmV yX0_setFewest cX0_setFewest 6 none 4 := ⟨kw_756, kw_95, kw_755, kw_15, ⟨by decide +kernel, by decide +kernel, by decide +kernel⟩⟩
theorem mf_X0_lastRow : jmV yX0_lastRow cX0_lastRow 4 none 1 := ⟨kw_752, kw_95, kw_751, kw_14, ⟨by decide +kernel, by decide +kernel, by decide +kernel⟩⟩
theorem mf_X0_fillRow : jmV yX0_fillRow cX0_fillRow 4 none 1 := ⟨kw_772, kw_95, kw_771, kw_19, ⟨by decide +kernel, by decide +kernel, by decide +kernel⟩⟩
theorem mf_X0_bestFrom : jmV yX0_bestFrom cX0_bestFrom 7 (some .int) 3 := ⟨kw_776, kw_95, kw_775, kw_20, ⟨by decide +kernel, by decide +kernel, by decide +kernel⟩⟩
theorem mf_X0_beginAt : jmV yX0_beginAt cX0_beginAt 5 none 2 := ⟨kw_760, kw_95, kw_759, kw_16, ⟨by decide +kernel, by decide +kernel, by decide +kernel⟩⟩
theorem mf_X0_goOn : jmV yX0_goOn cX0_goOn 5 none 1 := ⟨kw_781, kw_95, kw_780, kw_21, ⟨by decide +kernel, by decide +kernel, by decide +kernel⟩⟩
theorem mf_X0_firstBest : jmV yX0_firstBest cX0_firstBest 6 (some .int) 3 := ⟨kw_785, kw_95, kw_784, kw_22, ⟨by decide +kernel, by decide +kernel, by decide +kernel⟩⟩
theorem mf_X1_build : jmV yX1_build cX1_build 4 none 1 := ⟨kw_990, kw_99, kw_988, kw_989, ⟨by decide +kernel, by decide +kernel, by decide +kernel⟩⟩
theorem mf_X1_sizeOf : jmV yX1_sizeOf cX1_sizeOf 2 (some .int) 1 := ⟨kw_1039, kw_99, kw_1037, kw_1038, ⟨by decide +kernel, by decide +kernel, by decide +kernel⟩⟩
theorem mf_X1_memberOf : jmV yX1_memberOf cX1_memberOf 5 (some .int) 2 := ⟨kw_1043, kw_99, kw_1041, kw_1042, ⟨by decide +kernel, by decide +kernel, by decide +kernel⟩⟩
theorem mf_X1_seen : jmV yX1_seen cX1_seen 4 (some .int) 0 := ⟨kw_1025, kw_99, kw_1023, kw_1024, ⟨by decide +kernel, by decide +kernel, by decide +kernel⟩⟩
theorem mf_X1_unitTriangles : jmV yX1_unitTriangles cX1_unitTriangles 3 (some .int) 0 := ⟨kw_1035, kw_99, kw_1033, kw_1034, ⟨by decide +kernel, by decide +kernel, by decide +kernel⟩⟩
theorem mf_X1_bit : jmS yX1_bit cX1_bit 1 (some .long) 1 := ⟨kw_1009, kw_99, kw_1008, ⟨by decide +kernel, by decide +kernel, by decide +kernel⟩⟩
theorem mf_X1_setOf : jmV yX1_setOf cX1_setOf 2 (some .long) 1 := ⟨kw_1021, kw_99, kw_1020, kw_39, ⟨by decide +kernel, by decide +kernel, by decide +kernel⟩⟩
theorem mf_X1_lowestLeft : jmV yX1_lowestLeft cX1_lowestLeft 6 (some .int) 3 := ⟨kw_995, kw_99, kw_994, kw_34, ⟨by decide +kernel, by decide +kernel, by decide +kernel⟩⟩
theorem mf_X1_above : jmV yX1_above cX1_above 8 (some .int) 5 := ⟨kw_1000, kw_99, kw_999, kw_35, ⟨by decide +kernel, by decide +kernel, by decide +kernel⟩⟩
theorem mf_X1_planeOf : jmV yX1_planeOf cX1_planeOf 9 (some .long) 4 := ⟨kw_1006, kw_99, kw_1005, kw_36, ⟨by decide +kernel, by decide +kernel, by decide +kernel⟩⟩
theorem mf_X1_isKnown : jmV yX1_isKnown cX1_isKnown 4 (some .boolean) 1 := ⟨kw_1017, kw_99, kw_1016, kw_38, ⟨by decide +kernel, by decide +kernel, by decide +kernel⟩⟩
theorem mf_X1_enter : jmV yX1_enter cX1_enter 4 none 1 := ⟨kw_1013, kw_99, kw_1012, kw_37, ⟨by decide +kernel, by decide +kernel, by decide +kernel⟩⟩
theorem mf_X2_build : jmV yX2_build cX2_build 2 (some .boolean) 1 := ⟨kw_868, kw_96, kw_866, kw_867, ⟨by decide +kernel, by decide +kernel, by decide +kernel⟩⟩
theorem mf_X2_farthest : jmV yX2_farthest cX2_farthest 1 (some .int) 0 := ⟨kw_957, kw_96, kw_955, kw_956, ⟨by decide +kernel, by decide +kernel, by decide +kernel⟩⟩
theorem mf_X2_farOf : jmV yX2_farOf cX2_farOf 2 (some .int) 1 := ⟨kw_953, kw_96, kw_951, kw_952, ⟨by decide +kernel, by decide +kernel, by decide +kernel⟩⟩
theorem mf_X2_flipsOf : jmV yX2_flipsOf cX2_flipsOf 4 (some .int) 1 := ⟨kw_978, kw_96, kw_976, kw_977, ⟨by decide +kernel, by decide +kernel, by decide +kernel⟩⟩
theorem mf_X2_segmentAt : jmV yX2_segmentAt cX2_segmentAt 5 (some .int) 2 := ⟨kw_966, kw_96, kw_964, kw_965, ⟨by decide +kernel, by decide +kernel, by decide +kernel⟩⟩
theorem mf_X2_setOf : jmV yX2_setOf cX2_setOf 2 (some .long) 1 := ⟨kw_945, kw_96, kw_944, kw_33, ⟨by decide +kernel, by decide +kernel, by decide +kernel⟩⟩
theorem mf_X2_search : jmV yX2_search cX2_search 5 none 0 := ⟨kw_931, kw_96, kw_930, kw_31, ⟨by decide +kernel, by decide +kernel, by decide +kernel⟩⟩
theorem mf_X2_enter : jmV yX2_enter cX2_enter 6 none 2 := ⟨kw_940, kw_96, kw_939, kw_32, ⟨by decide +kernel, by decide +kernel, by decide +kernel⟩⟩
theorem mf_X3_begin : jmV yX3_begin cX3_begin 1 none 0 := ⟨kw_421, kw_92, kw_419, kw_420, ⟨by decide +kernel, by decide +kernel, by decide +kernel⟩⟩
theorem mf_X3_take : jmV yX3_take cX3_take 4 none 2 := ⟨kw_485, kw_92, kw_483, kw_484, ⟨by decide +kernel, by decide +kernel, by decide +kernel⟩⟩
theorem mf_X3_takeRing : jmV yX3_takeRing cX3_takeRing 3 none 1 := ⟨kw_481, kw_92, kw_479, kw_480, ⟨by decide +kernel, by decide +kernel, by decide +kernel⟩⟩
theorem mf_X3_close : jmV yX3_close cX3_close 3 none 0 := ⟨kw_428, kw_92, kw_426, kw_427, ⟨by decide +kernel, by decide +kernel, by decide +kernel⟩⟩
theorem mf_X3_closeSum : jmV yX3_closeSum cX3_closeSum 5 none 2 := ⟨kw_689, kw_92, kw_687, kw_688, ⟨by decide +kernel, by decide +kernel, by decide +kernel⟩⟩
theorem mf_X3_isLast : jmV yX3_isLast cX3_isLast 3 (some .boolean) 2 := ⟨kw_436, kw_92, kw_435, kw_2, ⟨by decide +kernel, by decide +kernel, by decide +kernel⟩⟩
theorem mf_X3_push : jmV yX3_push cX3_push 4 none 3 := ⟨kw_432, kw_92, kw_431, kw_1, ⟨by decide +kernel, by decide +kernel, by decide +kernel⟩⟩
theorem mf_X3_turnsLeft : jmV yX3_turnsLeft cX3_turnsLeft 6 (some .boolean) 2 := ⟨kw_452, kw_92, kw_451, kw_3, ⟨by decide +kernel, by decide +kernel, by decide +kernel⟩⟩
theorem mf_X4_find : jmV yX4_find cX4_find 11 none 1 := ⟨kw_642, kw_93, kw_640, kw_641, ⟨by decide +kernel, by decide +kernel, by decide +kernel⟩⟩
theorem mf_X4_weigh : jmV yX4_weigh cX4_weigh 8 none 3 := ⟨kw_647, kw_93, kw_646, kw_7, ⟨by decide +kernel, by decide +kernel, by decide +kernel⟩⟩
theorem mf_X5_build : jmV yX5_build cX5_build 4 none 1 := ⟨kw_872, kw_97, kw_870, kw_871, ⟨by decide +kernel, by decide +kernel, by decide +kernel⟩⟩
theorem mf_X5_firstCut : jmV yX5_firstCut cX5_firstCut 4 (some .long) 0 := ⟨kw_936, kw_97, kw_934, kw_935, ⟨by decide +kernel, by decide +kernel, by decide +kernel⟩⟩
theorem mf_X5_flipped : jmV yX5_flipped cX5_flipped 4 (some .long) 2 := ⟨kw_949, kw_97, kw_947, kw_948, ⟨by decide +kernel, by decide +kernel, by decide +kernel⟩⟩
theorem mf_X5_told : jmV yX5_told cX5_told 2 (some .int) 1 := ⟨kw_970, kw_97, kw_968, kw_969, ⟨by decide +kernel, by decide +kernel, by decide +kernel⟩⟩
theorem mf_X5_appendSegment : jmV yX5_appendSegment cX5_appendSegment 4 none 2 := ⟨kw_895, kw_97, kw_894, kw_25, ⟨by decide +kernel, by decide +kernel, by decide +kernel⟩⟩
theorem mf_X5_number : jmV yX5_number cX5_number 4 (some .int) 2 := ⟨kw_925, kw_97, kw_924, kw_30, ⟨by decide +kernel, by decide +kernel, by decide +kernel⟩⟩
theorem mf_X5_noteCrossed : jmV yX5_noteCrossed cX5_noteCrossed 3 none 1 := ⟨kw_899, kw_97, kw_898, kw_26, ⟨by decide +kernel, by decide +kernel, by decide +kernel⟩⟩
theorem mf_X5_cross : jmV yX5_cross cX5_cross 5 (some .boolean) 4 := ⟨kw_903, kw_97, kw_902, kw_27, ⟨by decide +kernel, by decide +kernel, by decide +kernel⟩⟩
theorem mf_X5_noteFlips : jmV yX5_noteFlips cX5_noteFlips 6 none 1 := ⟨kw_913, kw_97, kw_912, kw_28, ⟨by decide +kernel, by decide +kernel, by decide +kernel⟩⟩
theorem mf_X5_noteFlip : jmV yX5_noteFlip cX5_noteFlip 11 none 4 := ⟨kw_921, kw_97, kw_920, kw_29, ⟨by decide +kernel, by decide +kernel, by decide +kernel⟩⟩
theorem mf_X6_fill : jmV yX6_fill cX6_fill 5 none 1 := ⟨kw_876, kw_98, kw_874, kw_875, ⟨by decide +kernel, by decide +kernel, by decide +kernel⟩⟩
theorem mf_X6_turn : jmV yX6_turn cX6_turn 4 (some .int) 3 := ⟨kw_907, kw_98, kw_905, kw_906, ⟨by decide +kernel, by decide +kernel, by decide +kernel⟩⟩
theorem mf_X6_find : jmV yX6_find cX6_find 4 (some .int) 2 := ⟨kw_917, kw_98, kw_915, kw_916, ⟨by decide +kernel, by decide +kernel, by decide +kernel⟩⟩
theorem mf_X7_isPolygon : jmV yX7_isPolygon cX7_isPolygon 1 (some .boolean) 0 := ⟨kw_571, kw_91, kw_569, kw_570, ⟨by decide +kernel, by decide +kernel, by decide +kernel⟩⟩
theorem mf_X7_isOnGrid : jmV yX7_isOnGrid cX7_isOnGrid 2 (some .boolean) 0 := ⟨kw_500, kw_91, kw_498, kw_499, ⟨by decide +kernel, by decide +kernel, by decide +kernel⟩⟩
theorem mf_X7_around : jmV yX7_around cX7_around 4 (some .int) 2 := ⟨kw_528, kw_91, kw_526, kw_527, ⟨by decide +kernel, by decide +kernel, by decide +kernel⟩⟩
theorem mf_X7_sideX : jmV yX7_sideX cX7_sideX 2 (some .int) 1 := ⟨kw_532, kw_91, kw_530, kw_531, ⟨by decide +kernel, by decide +kernel, by decide +kernel⟩⟩
theorem mf_X7_sideY : jmV yX7_sideY cX7_sideY 2 (some .int) 1 := ⟨kw_524, kw_91, kw_522, kw_523, ⟨by decide +kernel, by decide +kernel, by decide +kernel⟩⟩
theorem mf_X7_stepsOf : jmV yX7_stepsOf cX7_stepsOf 2 (some .int) 1 := ⟨kw_540, kw_91, kw_538, kw_539, ⟨by decide +kernel, by decide +kernel, by decide +kernel⟩⟩
theorem mf_X7_area : jmV yX7_area cX7_area 3 (some .int) 0 := ⟨kw_520, kw_91, kw_518, kw_519, ⟨by decide +kernel, by decide +kernel, by decide +kernel⟩⟩
theorem mf_X7_onEdge : jmV yX7_onEdge cX7_onEdge 3 (some .int) 0 := ⟨kw_536, kw_91, kw_534, kw_535, ⟨by decide +kernel, by decide +kernel, by decide +kernel⟩⟩
theorem mf_X7_inside : jmV yX7_inside cX7_inside 1 (some .int) 0 := ⟨kw_550, kw_91, kw_548, kw_549, ⟨by decide +kernel, by decide +kernel, by decide +kernel⟩⟩
theorem mf_X7_all : jmV yX7_all cX7_all 1 (some .int) 0 := ⟨kw_556, kw_91, kw_554, kw_555, ⟨by decide +kernel, by decide +kernel, by decide +kernel⟩⟩
theorem mf_X7_allTimes : jmV yX7_allTimes cX7_allTimes 2 (some .long) 1 := ⟨kw_566, kw_91, kw_564, kw_565, ⟨by decide +kernel, by decide +kernel, by decide +kernel⟩⟩
theorem mf_X7_insideTimes : jmV yX7_insideTimes cX7_insideTimes 2 (some .long) 1 := ⟨kw_575, kw_91, kw_573, kw_574, ⟨by decide +kernel, by decide +kernel, by decide +kernel⟩⟩
theorem mf_X7_leftmost : jmV yX7_leftmost cX7_leftmost 1 (some .int) 0 := ⟨kw_588, kw_91, kw_586, kw_587, ⟨by decide +kernel, by decide +kernel, by decide +kernel⟩⟩
theorem mf_X7_rightmost : jmV yX7_rightmost cX7_rightmost 3 (some .int) 0 := ⟨kw_592, kw_91, kw_590, kw_591, ⟨by decide +kernel, by decide +kernel, by decide +kernel⟩⟩
theorem mf_X7_bottom : jmV yX7_bottom cX7_bottom 3 (some .int) 0 := ⟨kw_601, kw_91, kw_599, kw_600, ⟨by decide +kernel, by decide +kernel, by decide +kernel⟩⟩
theorem mf_X7_top : jmV yX7_top cX7_top 3 (some .int) 0 := ⟨kw_613, kw_91, kw_611, kw_612, ⟨by decide +kernel, by decide +kernel, by decide +kernel⟩⟩
theorem mf_X7_lowestAt : jmV yX7_lowestAt cX7_lowestAt 5 (some .int) 1 := ⟨kw_597, kw_91, kw_595, kw_596, ⟨by decide +kernel, by decide +kernel, by decide +kernel⟩⟩
theorem mf_X7_highestAt : jmV yX7_highestAt cX7_highestAt 5 (some .int) 1 := ⟨kw_609, kw_91, kw_607, kw_608, ⟨by decide +kernel, by decide +kernel, by decide +kernel⟩⟩
theorem mf_X7_standing : jmV yX7_standing cX7_standing 4 (some .int) 2 := ⟨kw_584, kw_91, kw_582, kw_583, ⟨by decide +kernel, by decide +kernel, by decide +kernel⟩⟩
theorem mf_X7_coordinate : jmV yX7_coordinate cX7_coordinate 7 (some .int) 2 := ⟨kw_621, kw_91, kw_619, kw_620, ⟨by decide +kernel, by decide +kernel, by decide +kernel⟩⟩
theorem mf_X7_across : jmV yX7_across cX7_across 7 (some .int) 2 := ⟨kw_634, kw_91, kw_632, kw_633, ⟨by decide +kernel, by decide +kernel, by decide +kernel⟩⟩
theorem mf_X7_isRound : jmV yX7_isRound cX7_isRound 1 (some .boolean) 0 := ⟨kw_797, kw_91, kw_795, kw_796, ⟨by decide +kernel, by decide +kernel, by decide +kernel⟩⟩
theorem mf_X7_normalA : jmV yX7_normalA cX7_normalA 3 (some .int) 1 := ⟨kw_803, kw_91, kw_801, kw_802, ⟨by decide +kernel, by decide +kernel, by decide +kernel⟩⟩
theorem mf_X7_normalB : jmV yX7_normalB cX7_normalB 3 (some .int) 1 := ⟨kw_807, kw_91, kw_805, kw_806, ⟨by decide +kernel, by decide +kernel, by decide +kernel⟩⟩
theorem mf_X7_far : jmV yX7_far cX7_far 2 (some .int) 1 := ⟨kw_811, kw_91, kw_809, kw_810, ⟨by decide +kernel, by decide +kernel, by decide +kernel⟩⟩
theorem mf_X7_isReflexive : jmV yX7_isReflexive cX7_isReflexive 2 (some .boolean) 0 := ⟨kw_821, kw_91, kw_819, kw_820, ⟨by decide +kernel, by decide +kernel, by decide +kernel⟩⟩
theorem mf_X9_walk : jmV yX9_walk cX9_walk 20 none 5 := ⟨kw_838, kw_94, kw_836, kw_837, ⟨by decide +kernel, by decide +kernel, by decide +kernel⟩⟩
theorem mf_X9_findSecond : jmV yX9_findSecond cX9_findSecond 9 none 4 := ⟨kw_848, kw_94, kw_847, kw_24, ⟨by decide +kernel, by decide +kernel, by decide +kernel⟩⟩
theorem mf_X9_keep : jmV yX9_keep cX9_keep 5 none 4 := ⟨kw_844, kw_94, kw_843, kw_23, ⟨by decide +kernel, by decide +kernel, by decide +kernel⟩⟩
theorem mf_X11_clear : jmV yX11_clear cX11_clear 4 (some .int) 1 := ⟨kw_413, kw_88, kw_411, kw_412, ⟨by decide +kernel, by decide +kernel, by decide +kernel⟩⟩
theorem mf_X11_add : jmV yX11_add cX11_add 5 (some .int) 3 := ⟨kw_474, kw_88, kw_472, kw_473, ⟨by decide +kernel, by decide +kernel, by decide +kernel⟩⟩
theorem mf_X11_corners : jmV yX11_corners cX11_corners 3 (some .int) 1 := ⟨kw_507, kw_88, kw_505, kw_506, ⟨by decide +kernel, by decide +kernel, by decide +kernel⟩⟩
theorem mf_X11_corner : jmV yX11_corner cX11_corner 5 (some .int) 3 := ⟨kw_511, kw_88, kw_509, kw_510, ⟨by decide +kernel, by decide +kernel, by decide +kernel⟩⟩
theorem mf_X11_points : jmV yX11_points cX11_points 4 (some .int) 2 := ⟨kw_516, kw_88, kw_514, kw_515, ⟨by decide +kernel, by decide +kernel, by decide +kernel⟩⟩
theorem mf_X11_times : jmV yX11_times cX11_times 5 (some .long) 3 := ⟨kw_561, kw_88, kw_559, kw_560, ⟨by decide +kernel, by decide +kernel, by decide +kernel⟩⟩
theorem mf_X11_where : jmV yX11_where cX11_where 5 (some .int) 3 := ⟨kw_580, kw_88, kw_578, kw_579, ⟨by decide +kernel, by decide +kernel, by decide +kernel⟩⟩
theorem mf_X11_point : jmV yX11_point cX11_point 5 (some .int) 3 := ⟨kw_617, kw_88, kw_615, kw_616, ⟨by decide +kernel, by decide +kernel, by decide +kernel⟩⟩
theorem mf_X11_width : jmV yX11_width cX11_width 5 (some .int) 3 := ⟨kw_626, kw_88, kw_624, kw_625, ⟨by decide +kernel, by decide +kernel, by decide +kernel⟩⟩
theorem mf_X11_least : jmV yX11_least cX11_least 4 (some .int) 2 := ⟨kw_638, kw_88, kw_636, kw_637, ⟨by decide +kernel, by decide +kernel, by decide +kernel⟩⟩
theorem mf_X11_map : jmV yX11_map cX11_map 16 (some .int) 8 := ⟨kw_655, kw_88, kw_653, kw_654, ⟨by decide +kernel, by decide +kernel, by decide +kernel⟩⟩
theorem mf_X11_maps : jmV yX11_maps cX11_maps 5 (some .int) 2 := ⟨kw_659, kw_88, kw_657, kw_658, ⟨by decide +kernel, by decide +kernel, by decide +kernel⟩⟩
theorem mf_X11_alike : jmV yX11_alike cX11_alike 5 (some .int) 2 := ⟨kw_670, kw_88, kw_668, kw_669, ⟨by decide +kernel, by decide +kernel, by decide +kernel⟩⟩
theorem mf_X11_heaps : jmV yX11_heaps cX11_heaps 3 (some .int) 0 := ⟨kw_677, kw_88, kw_675, kw_676, ⟨by decide +kernel, by decide +kernel, by decide +kernel⟩⟩
theorem mf_X11_sum : jmV yX11_sum cX11_sum 7 (some .int) 3 := ⟨kw_685, kw_88, kw_683, kw_684, ⟨by decide +kernel, by decide +kernel, by decide +kernel⟩⟩
theorem mf_X11_mixed : jmV yX11_mixed cX11_mixed 5 (some .int) 2 := ⟨kw_695, kw_88, kw_693, kw_694, ⟨by decide +kernel, by decide +kernel, by decide +kernel⟩⟩
theorem mf_X11_parts : jmV yX11_parts cX11_parts 3 (some .long) 1 := ⟨kw_699, kw_88, kw_697, kw_698, ⟨by decide +kernel, by decide +kernel, by decide +kernel⟩⟩
theorem mf_X11_part : jmV yX11_part cX11_part 4 (some .int) 2 := ⟨kw_742, kw_88, kw_740, kw_741, ⟨by decide +kernel, by decide +kernel, by decide +kernel⟩⟩
theorem mf_X11_normal : jmV yX11_normal cX11_normal 5 (some .int) 3 := ⟨kw_793, kw_88, kw_791, kw_792, ⟨by decide +kernel, by decide +kernel, by decide +kernel⟩⟩
theorem mf_X11_reflexive : jmV yX11_reflexive cX11_reflexive 3 (some .int) 1 := ⟨kw_817, kw_88, kw_815, kw_816, ⟨by decide +kernel, by decide +kernel, by decide +kernel⟩⟩
theorem mf_X11_dual : jmV yX11_dual cX11_dual 6 (some .int) 2 := ⟨kw_827, kw_88, kw_825, kw_826, ⟨by decide +kernel, by decide +kernel, by decide +kernel⟩⟩
theorem mf_X11_between : jmV yX11_between cX11_between 5 (some .int) 4 := ⟨kw_831, kw_88, kw_829, kw_830, ⟨by decide +kernel, by decide +kernel, by decide +kernel⟩⟩
theorem mf_X11_ray : jmV yX11_ray cX11_ray 7 (some .int) 6 := ⟨kw_854, kw_88, kw_852, kw_853, ⟨by decide +kernel, by decide +kernel, by decide +kernel⟩⟩
theorem mf_X11_cuts : jmV yX11_cuts cX11_cuts 4 (some .int) 2 := ⟨kw_858, kw_88, kw_856, kw_857, ⟨by decide +kernel, by decide +kernel, by decide +kernel⟩⟩
theorem mf_X11_cut : jmV yX11_cut cX11_cut 5 (some .int) 3 := ⟨kw_961, kw_88, kw_959, kw_960, ⟨by decide +kernel, by decide +kernel, by decide +kernel⟩⟩
theorem mf_X11_flips : jmV yX11_flips cX11_flips 4 (some .int) 2 := ⟨kw_974, kw_88, kw_972, kw_973, ⟨by decide +kernel, by decide +kernel, by decide +kernel⟩⟩
theorem mf_X11_height : jmV yX11_height cX11_height 6 (some .int) 3 := ⟨kw_982, kw_88, kw_980, kw_981, ⟨by decide +kernel, by decide +kernel, by decide +kernel⟩⟩
theorem mf_X11_pieces : jmV yX11_pieces cX11_pieces 4 (some .int) 2 := ⟨kw_986, kw_88, kw_984, kw_985, ⟨by decide +kernel, by decide +kernel, by decide +kernel⟩⟩
theorem mf_X11_piece : jmV yX11_piece cX11_piece 5 (some .int) 3 := ⟨kw_1048, kw_88, kw_1046, kw_1047, ⟨by decide +kernel, by decide +kernel, by decide +kernel⟩⟩
theorem mf_X11_shapeAt : jmV yX11_shapeAt cX11_shapeAt 2 (some (.object "GridPolygons$Shape")) 1 := ⟨kw_417, kw_88, kw_416, kw_0, ⟨by decide +kernel, by decide +kernel, by decide +kernel⟩⟩
theorem mf_X11_newStamp : jmV yX11_newStamp cX11_newStamp 1 (some .int) 0 := ⟨kw_470, kw_88, kw_469, kw_5, ⟨by decide +kernel, by decide +kernel, by decide +kernel⟩⟩
theorem mf_X11_remakeIfFits : jmV yX11_remakeIfFits cX11_remakeIfFits 2 (some .int) 1 := ⟨kw_496, kw_88, kw_495, kw_6, ⟨by decide +kernel, by decide +kernel, by decide +kernel⟩⟩
theorem mf_X11_remake : jmV yX11_remake cX11_remake 3 none 1 := ⟨kw_462, kw_88, kw_461, kw_4, ⟨by decide +kernel, by decide +kernel, by decide +kernel⟩⟩
theorem mf_X11_isNewHeap : jmV yX11_isNewHeap cX11_isNewHeap 5 (some .boolean) 1 := ⟨kw_681, kw_88, kw_680, kw_8, ⟨by decide +kernel, by decide +kernel, by decide +kernel⟩⟩
theorem mf_X11_onGrid : jmS yX11_onGrid cX11_onGrid 1 (some .boolean) 1 := ⟨kw_477, kw_88, kw_476, ⟨by decide +kernel, by decide +kernel, by decide +kernel⟩⟩
theorem mf_X11_isWay : jmS yX11_isWay cX11_isWay 2 (some .boolean) 2 := ⟨kw_629, kw_88, kw_628, ⟨by decide +kernel, by decide +kernel, by decide +kernel⟩⟩
theorem mf_X11_isAngle : jmS yX11_isAngle cX11_isAngle 4 (some .boolean) 4 := ⟨kw_834, kw_88, kw_833, ⟨by decide +kernel, by decide +kernel, by decide +kernel⟩⟩
theorem mf_X11_hasAtMost : jmS yX11_hasAtMost cX11_hasAtMost 2 (some .boolean) 2 := ⟨kw_861, kw_88, kw_860, ⟨by decide +kernel, by decide +kernel, by decide +kernel⟩⟩
theorem mf_X11_segmentsOf : jmS yX11_segmentsOf cX11_segmentsOf 1 (some .int) 1 := ⟨kw_864, kw_88, kw_863, ⟨by decide +kernel, by decide +kernel, by decide +kernel⟩⟩
theorem mf_X11_gcd : jmS yX11_gcd cX11_gcd 6 (some .int) 2 := ⟨kw_543, kw_88, kw_542, ⟨by decide +kernel, by decide +kernel, by decide +kernel⟩⟩
theorem mf_X11_areAlike : jmS yX11_areAlike cX11_areAlike 2 (some .boolean) 2 := ⟨kw_673, kw_88, kw_672, ⟨by decide +kernel, by decide +kernel, by decide +kernel⟩⟩
theorem mf_X11_mapsBetween : jmS yX11_mapsBetween cX11_mapsBetween 4 (some .int) 2 := ⟨kw_662, kw_88, kw_661, ⟨by decide +kernel, by decide +kernel, by decide +kernel⟩⟩
theorem mf_X11_mapFits : jmS yX11_mapFits cX11_mapFits 24 (some .boolean) 4 := ⟨kw_665, kw_88, kw_664, ⟨by decide +kernel, by decide +kernel, by decide +kernel⟩⟩
theorem mf_X12_in : jmS yX12_in cX12_in 3 (some .boolean) 3 := ⟨kw_1161, kw_100, kw_1160, ⟨by decide +kernel, by decide +kernel, by decide +kernel⟩⟩
theorem mf_X12_isShape : jmS yX12_isShape cX12_isShape 1 (some .boolean) 1 := ⟨kw_1158, kw_100, kw_1157, ⟨by decide +kernel, by decide +kernel, by decide +kernel⟩⟩
theorem mf_X12_isPlace : jmS yX12_isPlace cX12_isPlace 2 (some .boolean) 2 := ⟨kw_1168, kw_100, kw_1167, ⟨by decide +kernel, by decide +kernel, by decide +kernel⟩⟩
theorem mf_X12_size : jmS yX12_size cX12_size 1 (some .int) 1 := ⟨kw_1235, kw_100, kw_1234, ⟨by decide +kernel, by decide +kernel, by decide +kernel⟩⟩
theorem mf_X12_common : jmS yX12_common cX12_common 5 (some .int) 2 := ⟨kw_1232, kw_100, kw_1231, ⟨by decide +kernel, by decide +kernel, by decide +kernel⟩⟩
theorem mf_X12_isAfter : jmV yX12_isAfter cX12_isAfter 3 (some .boolean) 2 := ⟨kw_1200, kw_100, kw_1199, kw_47, ⟨by decide +kernel, by decide +kernel, by decide +kernel⟩⟩
theorem mf_X12_order : jmV yX12_order cX12_order 5 none 0 := ⟨kw_1196, kw_100, kw_1195, kw_46, ⟨by decide +kernel, by decide +kernel, by decide +kernel⟩⟩
theorem mf_X12_goOn : jmV yX12_goOn cX12_goOn 8 none 2 := ⟨kw_1204, kw_100, kw_1203, kw_48, ⟨by decide +kernel, by decide +kernel, by decide +kernel⟩⟩
theorem mf_X12_findHull : jmV yX12_findHull cX12_findHull 3 none 0 := ⟨kw_1192, kw_100, kw_1191, kw_45, ⟨by decide +kernel, by decide +kernel, by decide +kernel⟩⟩
theorem mf_X12_x : jmV yX12_x cX12_x 3 (some .int) 2 := ⟨kw_1180, kw_100, kw_1179, kw_42, ⟨by decide +kernel, by decide +kernel, by decide +kernel⟩⟩
theorem mf_X12_y : jmV yX12_y cX12_y 3 (some .int) 2 := ⟨kw_1184, kw_100, kw_1183, kw_43, ⟨by decide +kernel, by decide +kernel, by decide +kernel⟩⟩
theorem mf_X12_put : jmV yX12_put cX12_put 3 none 2 := ⟨kw_1188, kw_100, kw_1187, kw_44, ⟨by decide +kernel, by decide +kernel, by decide +kernel⟩⟩
theorem mf_X12_putShape : jmV yX12_putShape cX12_putShape 3 none 1 := ⟨kw_1176, kw_100, kw_1175, kw_41, ⟨by decide +kernel, by decide +kernel, by decide +kernel⟩⟩
theorem mf_X12_take : jmV yX12_take cX12_take 5 (some .int) 2 := ⟨kw_1165, kw_100, kw_1164, kw_40, ⟨by decide +kernel, by decide +kernel, by decide +kernel⟩⟩
theorem mf_X12_clear : jmV yX12_clear cX12_clear 4 (some .int) 1 := ⟨kw_1155, kw_100, kw_1153, kw_1154, ⟨by decide +kernel, by decide +kernel, by decide +kernel⟩⟩
theorem mf_X12_add : jmV yX12_add cX12_add 4 (some .int) 3 := ⟨kw_1172, kw_100, kw_1170, kw_1171, ⟨by decide +kernel, by decide +kernel, by decide +kernel⟩⟩
theorem mf_X12_corners : jmV yX12_corners cX12_corners 2 (some .int) 1 := ⟨kw_1208, kw_100, kw_1206, kw_1207, ⟨by decide +kernel, by decide +kernel, by decide +kernel⟩⟩
theorem mf_X12_corner : jmV yX12_corner cX12_corner 4 (some .int) 3 := ⟨kw_1212, kw_100, kw_1210, kw_1211, ⟨by decide +kernel, by decide +kernel, by decide +kernel⟩⟩
theorem mf_X12_isPolygon : jmV yX12_isPolygon cX12_isPolygon 2 (some .boolean) 1 := ⟨kw_1243, kw_100, kw_1242, kw_53, ⟨by decide +kernel, by decide +kernel, by decide +kernel⟩⟩
theorem mf_X12_areaOf : jmV yX12_areaOf cX12_areaOf 4 (some .int) 1 := ⟨kw_1221, kw_100, kw_1220, kw_49, ⟨by decide +kernel, by decide +kernel, by decide +kernel⟩⟩
theorem mf_X12_stepsOf : jmV yX12_stepsOf cX12_stepsOf 3 (some .int) 2 := ⟨kw_1229, kw_100, kw_1228, kw_51, ⟨by decide +kernel, by decide +kernel, by decide +kernel⟩⟩
theorem mf_X12_edgeOf : jmV yX12_edgeOf cX12_edgeOf 4 (some .int) 1 := ⟨kw_1225, kw_100, kw_1224, kw_50, ⟨by decide +kernel, by decide +kernel, by decide +kernel⟩⟩
theorem mf_X12_insideOf : jmV yX12_insideOf cX12_insideOf 2 (some .int) 1 := ⟨kw_1239, kw_100, kw_1238, kw_52, ⟨by decide +kernel, by decide +kernel, by decide +kernel⟩⟩
theorem mf_X12_points : jmV yX12_points cX12_points 3 (some .int) 2 := ⟨kw_1217, kw_100, kw_1215, kw_1216, ⟨by decide +kernel, by decide +kernel, by decide +kernel⟩⟩
theorem mf_X12_times : jmV yX12_times cX12_times 8 (some .long) 3 := ⟨kw_1247, kw_100, kw_1245, kw_1246, ⟨by decide +kernel, by decide +kernel, by decide +kernel⟩⟩
theorem mf_X12_cross : jmS yX12_cross cX12_cross 4 (some .int) 4 := ⟨kw_1261, kw_100, kw_1260, ⟨by decide +kernel, by decide +kernel, by decide +kernel⟩⟩
theorem mf_X12_whereOf : jmV yX12_whereOf cX12_whereOf 9 (some .int) 3 := ⟨kw_1258, kw_100, kw_1257, kw_54, ⟨by decide +kernel, by decide +kernel, by decide +kernel⟩⟩
theorem mf_X12_where : jmV yX12_where cX12_where 4 (some .int) 3 := ⟨kw_1254, kw_100, kw_1252, kw_1253, ⟨by decide +kernel, by decide +kernel, by decide +kernel⟩⟩
theorem mf_X12_findAll : jmV yX12_findAll cX12_findAll 8 none 1 := ⟨kw_1269, kw_100, kw_1268, kw_55, ⟨by decide +kernel, by decide +kernel, by decide +kernel⟩⟩
theorem mf_X12_point : jmV yX12_point cX12_point 4 (some .int) 3 := ⟨kw_1265, kw_100, kw_1263, kw_1264, ⟨by decide +kernel, by decide +kernel, by decide +kernel⟩⟩
theorem mf_X12_isWay : jmS yX12_isWay cX12_isWay 2 (some .boolean) 2 := ⟨kw_1276, kw_100, kw_1275, ⟨by decide +kernel, by decide +kernel, by decide +kernel⟩⟩
theorem mf_X12_widthOf : jmV yX12_widthOf cX12_widthOf 8 (some .int) 3 := ⟨kw_1280, kw_100, kw_1279, kw_56, ⟨by decide +kernel, by decide +kernel, by decide +kernel⟩⟩
theorem mf_X12_width : jmV yX12_width cX12_width 4 (some .int) 3 := ⟨kw_1273, kw_100, kw_1271, kw_1272, ⟨by decide +kernel, by decide +kernel, by decide +kernel⟩⟩
theorem mf_X12_least : jmV yX12_least cX12_least 22 (some .int) 2 := ⟨kw_1284, kw_100, kw_1282, kw_1283, ⟨by decide +kernel, by decide +kernel, by decide +kernel⟩⟩
theorem mf_X12_map : jmV yX12_map cX12_map 10 (some .int) 8 := ⟨kw_1288, kw_100, kw_1286, kw_1287, ⟨by decide +kernel, by decide +kernel, by decide +kernel⟩⟩
theorem mf_X12_isMap : jmV yX12_isMap cX12_isMap 26 (some .boolean) 4 := ⟨kw_1300, kw_100, kw_1299, kw_58, ⟨by decide +kernel, by decide +kernel, by decide +kernel⟩⟩
theorem mf_X12_mapsOf : jmV yX12_mapsOf cX12_mapsOf 5 (some .int) 2 := ⟨kw_1296, kw_100, kw_1295, kw_57, ⟨by decide +kernel, by decide +kernel, by decide +kernel⟩⟩
theorem mf_X12_maps : jmV yX12_maps cX12_maps 3 (some .int) 2 := ⟨kw_1292, kw_100, kw_1290, kw_1291, ⟨by decide +kernel, by decide +kernel, by decide +kernel⟩⟩
theorem mf_X12_isAlike : jmV yX12_isAlike cX12_isAlike 3 (some .boolean) 2 := ⟨kw_1308, kw_100, kw_1307, kw_59, ⟨by decide +kernel, by decide +kernel, by decide +kernel⟩⟩
theorem mf_X12_alike : jmV yX12_alike cX12_alike 3 (some .int) 2 := ⟨kw_1304, kw_100, kw_1302, kw_1303, ⟨by decide +kernel, by decide +kernel, by decide +kernel⟩⟩
theorem mf_X12_heaps : jmV yX12_heaps cX12_heaps 5 (some .int) 0 := ⟨kw_1312, kw_100, kw_1310, kw_1311, ⟨by decide +kernel, by decide +kernel, by decide +kernel⟩⟩
theorem mf_X12_findSum : jmV yX12_findSum cX12_findSum 5 none 2 := ⟨kw_1320, kw_100, kw_1319, kw_60, ⟨by decide +kernel, by decide +kernel, by decide +kernel⟩⟩
theorem mf_X12_sum : jmV yX12_sum cX12_sum 4 (some .int) 3 := ⟨kw_1316, kw_100, kw_1314, kw_1315, ⟨by decide +kernel, by decide +kernel, by decide +kernel⟩⟩
theorem mf_X12_mixed : jmV yX12_mixed cX12_mixed 6 (some .int) 2 := ⟨kw_1324, kw_100, kw_1322, kw_1323, ⟨by decide +kernel, by decide +kernel, by decide +kernel⟩⟩
theorem mf_X12_spot : jmS yX12_spot cX12_spot 2 (some .int) 2 := ⟨kw_1331, kw_100, kw_1330, ⟨by decide +kernel, by decide +kernel, by decide +kernel⟩⟩
theorem mf_X12_stepX : jmV yX12_stepX cX12_stepX 3 (some .int) 2 := ⟨kw_1335, kw_100, kw_1334, kw_61, ⟨by decide +kernel, by decide +kernel, by decide +kernel⟩⟩
theorem mf_X12_stepY : jmV yX12_stepY cX12_stepY 3 (some .int) 2 := ⟨kw_1339, kw_100, kw_1338, kw_62, ⟨by decide +kernel, by decide +kernel, by decide +kernel⟩⟩
theorem mf_X12_parts : jmV yX12_parts cX12_parts 9 (some .long) 1 := ⟨kw_1328, kw_100, kw_1326, kw_1327, ⟨by decide +kernel, by decide +kernel, by decide +kernel⟩⟩
theorem mf_X12_backAt : jmV yX12_backAt cX12_backAt 5 (some .int) 3 := ⟨kw_1355, kw_100, kw_1354, kw_65, ⟨by decide +kernel, by decide +kernel, by decide +kernel⟩⟩
theorem mf_X12_findBack : jmV yX12_findBack cX12_findBack 11 none 1 := ⟨kw_1351, kw_100, kw_1350, kw_64, ⟨by decide +kernel, by decide +kernel, by decide +kernel⟩⟩
theorem mf_X12_leastPart : jmV yX12_leastPart cX12_leastPart 10 (some .int) 1 := ⟨kw_1347, kw_100, kw_1346, kw_63, ⟨by decide +kernel, by decide +kernel, by decide +kernel⟩⟩
theorem mf_X12_part : jmV yX12_part cX12_part 4 (some .int) 2 := ⟨kw_1343, kw_100, kw_1341, kw_1342, ⟨by decide +kernel, by decide +kernel, by decide +kernel⟩⟩
theorem mf_X12_normalX : jmV yX12_normalX cX12_normalX 3 (some .int) 2 := ⟨kw_1367, kw_100, kw_1366, kw_67, ⟨by decide +kernel, by decide +kernel, by decide +kernel⟩⟩
theorem mf_X12_normalY : jmV yX12_normalY cX12_normalY 3 (some .int) 2 := ⟨kw_1371, kw_100, kw_1370, kw_68, ⟨by decide +kernel, by decide +kernel, by decide +kernel⟩⟩
theorem mf_X12_farOf : jmV yX12_farOf cX12_farOf 3 (some .int) 2 := ⟨kw_1375, kw_100, kw_1374, kw_69, ⟨by decide +kernel, by decide +kernel, by decide +kernel⟩⟩
theorem mf_X12_isRound : jmV yX12_isRound cX12_isRound 2 (some .boolean) 1 := ⟨kw_1363, kw_100, kw_1362, kw_66, ⟨by decide +kernel, by decide +kernel, by decide +kernel⟩⟩
theorem mf_X12_normal : jmV yX12_normal cX12_normal 4 (some .int) 3 := ⟨kw_1359, kw_100, kw_1357, kw_1358, ⟨by decide +kernel, by decide +kernel, by decide +kernel⟩⟩
theorem mf_X12_isReflexive : jmV yX12_isReflexive cX12_isReflexive 4 (some .boolean) 1 := ⟨kw_1383, kw_100, kw_1382, kw_70, ⟨by decide +kernel, by decide +kernel, by decide +kernel⟩⟩
theorem mf_X12_reflexive : jmV yX12_reflexive cX12_reflexive 2 (some .int) 1 := ⟨kw_1379, kw_100, kw_1377, kw_1378, ⟨by decide +kernel, by decide +kernel, by decide +kernel⟩⟩
theorem mf_X12_dual : jmV yX12_dual cX12_dual 4 (some .int) 2 := ⟨kw_1387, kw_100, kw_1385, kw_1386, ⟨by decide +kernel, by decide +kernel, by decide +kernel⟩⟩
theorem mf_X12_beside : jmV yX12_beside cX12_beside 11 none 2 := ⟨kw_1399, kw_100, kw_1398, kw_72, ⟨by decide +kernel, by decide +kernel, by decide +kernel⟩⟩
theorem mf_X12_findRays : jmV yX12_findRays cX12_findRays 14 (some .boolean) 4 := ⟨kw_1395, kw_100, kw_1394, kw_71, ⟨by decide +kernel, by decide +kernel, by decide +kernel⟩⟩
theorem mf_X12_between : jmV yX12_between cX12_between 5 (some .int) 4 := ⟨kw_1391, kw_100, kw_1389, kw_1390, ⟨by decide +kernel, by decide +kernel, by decide +kernel⟩⟩
theorem mf_X12_ray : jmV yX12_ray cX12_ray 7 (some .int) 6 := ⟨kw_1403, kw_100, kw_1401, kw_1402, ⟨by decide +kernel, by decide +kernel, by decide +kernel⟩⟩
theorem mf_X12_turn : jmV yX12_turn cX12_turn 4 (some .int) 3 := ⟨kw_1430, kw_100, kw_1429, kw_77, ⟨by decide +kernel, by decide +kernel, by decide +kernel⟩⟩
theorem mf_X12_signOf : jmS yX12_signOf cX12_signOf 1 (some .int) 1 := ⟨kw_1433, kw_100, kw_1432, ⟨by decide +kernel, by decide +kernel, by decide +kernel⟩⟩
theorem mf_X12_doCross : jmV yX12_doCross cX12_doCross 7 (some .boolean) 2 := ⟨kw_1426, kw_100, kw_1425, kw_76, ⟨by decide +kernel, by decide +kernel, by decide +kernel⟩⟩
theorem mf_X12_findSegments : jmV yX12_findSegments cX12_findSegments 3 none 0 := ⟨kw_1415, kw_100, kw_1414, kw_74, ⟨by decide +kernel, by decide +kernel, by decide +kernel⟩⟩
theorem mf_X12_between1 : jmV yX12_between1 cX12_between1 3 (some .int) 2 := ⟨kw_1458, kw_100, kw_1457, kw_83, ⟨by decide +kernel, by decide +kernel, by decide +kernel⟩⟩
theorem mf_X12_has : jmS yX12_has cX12_has 3 (some .boolean) 2 := ⟨kw_1422, kw_100, kw_1421, ⟨by decide +kernel, by decide +kernel, by decide +kernel⟩⟩
theorem mf_X12_firstCut : jmV yX12_firstCut cX12_firstCut 6 (some .long) 0 := ⟨kw_1419, kw_100, kw_1418, kw_75, ⟨by decide +kernel, by decide +kernel, by decide +kernel⟩⟩
theorem mf_X12_third : jmV yX12_third cX12_third 6 (some .int) 3 := ⟨kw_1454, kw_100, kw_1453, kw_82, ⟨by decide +kernel, by decide +kernel, by decide +kernel⟩⟩
theorem mf_X12_flipped : jmV yX12_flipped cX12_flipped 7 (some .long) 2 := ⟨kw_1450, kw_100, kw_1449, kw_81, ⟨by decide +kernel, by decide +kernel, by decide +kernel⟩⟩
theorem mf_X12_slotOf : jmV yX12_slotOf cX12_slotOf 4 (some .int) 1 := ⟨kw_1445, kw_100, kw_1444, kw_80, ⟨by decide +kernel, by decide +kernel, by decide +kernel⟩⟩
theorem mf_X12_findCuts : jmV yX12_findCuts cX12_findCuts 7 none 1 := ⟨kw_1441, kw_100, kw_1440, kw_79, ⟨by decide +kernel, by decide +kernel, by decide +kernel⟩⟩
theorem mf_X12_isCuttable : jmV yX12_isCuttable cX12_isCuttable 2 (some .boolean) 1 := ⟨kw_1411, kw_100, kw_1410, kw_73, ⟨by decide +kernel, by decide +kernel, by decide +kernel⟩⟩
theorem mf_X12_sizeOf : jmV yX12_sizeOf cX12_sizeOf 5 (some .int) 1 := ⟨kw_1437, kw_100, kw_1436, kw_78, ⟨by decide +kernel, by decide +kernel, by decide +kernel⟩⟩
theorem mf_X12_cuts : jmV yX12_cuts cX12_cuts 3 (some .int) 2 := ⟨kw_1407, kw_100, kw_1405, kw_1406, ⟨by decide +kernel, by decide +kernel, by decide +kernel⟩⟩
theorem mf_X12_cut : jmV yX12_cut cX12_cut 6 (some .int) 3 := ⟨kw_1462, kw_100, kw_1460, kw_1461, ⟨by decide +kernel, by decide +kernel, by decide +kernel⟩⟩
theorem mf_X12_flips : jmV yX12_flips cX12_flips 5 (some .int) 2 := ⟨kw_1466, kw_100, kw_1464, kw_1465, ⟨by decide +kernel, by decide +kernel, by decide +kernel⟩⟩
theorem mf_X12_isLifted : jmV yX12_isLifted cX12_isLifted 2 (some .boolean) 1 := ⟨kw_1474, kw_100, kw_1473, kw_84, ⟨by decide +kernel, by decide +kernel, by decide +kernel⟩⟩
theorem mf_X12_height : jmV yX12_height cX12_height 5 (some .int) 3 := ⟨kw_1470, kw_100, kw_1468, kw_1469, ⟨by decide +kernel, by decide +kernel, by decide +kernel⟩⟩
theorem mf_X12_planeOf : jmV yX12_planeOf cX12_planeOf 24 (some .long) 4 := ⟨kw_1486, kw_100, kw_1485, kw_86, ⟨by decide +kernel, by decide +kernel, by decide +kernel⟩⟩
theorem mf_X12_isAhead : jmS yX12_isAhead cX12_isAhead 6 (some .boolean) 2 := ⟨kw_1489, kw_100, kw_1488, ⟨by decide +kernel, by decide +kernel, by decide +kernel⟩⟩
theorem mf_X12_findPieces : jmV yX12_findPieces cX12_findPieces 9 none 1 := ⟨kw_1482, kw_100, kw_1481, kw_85, ⟨by decide +kernel, by decide +kernel, by decide +kernel⟩⟩
theorem mf_X12_bitsIn : jmS yX12_bitsIn cX12_bitsIn 4 (some .int) 1 := ⟨kw_1492, kw_100, kw_1491, ⟨by decide +kernel, by decide +kernel, by decide +kernel⟩⟩
theorem mf_X12_bitAt : jmS yX12_bitAt cX12_bitAt 5 (some .int) 2 := ⟨kw_1495, kw_100, kw_1494, ⟨by decide +kernel, by decide +kernel, by decide +kernel⟩⟩
theorem mf_X12_pieces : jmV yX12_pieces cX12_pieces 9 (some .int) 2 := ⟨kw_1478, kw_100, kw_1476, kw_1477, ⟨by decide +kernel, by decide +kernel, by decide +kernel⟩⟩
theorem mf_X12_piece : jmV yX12_piece cX12_piece 5 (some .int) 3 := ⟨kw_1499, kw_100, kw_1497, kw_1498, ⟨by decide +kernel, by decide +kernel, by decide +kernel⟩⟩
theorem mf_J13_bitCount_95d88 : jmS yJ13_bitCount_95d88 cJ13_bitCount_95d88 2 (some .int) 1 := ⟨kw_1028, kw_104, kw_1027, ⟨by decide +kernel, by decide +kernel, by decide +kernel⟩⟩
theorem mf_J9_floorDiv_7cf53 : jmS yJ9_floorDiv_7cf53 cJ9_floorDiv_7cf53 3 (some .int) 2 := ⟨kw_605, kw_102, kw_604, ⟨by decide +kernel, by decide +kernel, by decide +kernel⟩⟩
theorem mf_J9_abs_0f7a4 : jmS yJ9_abs_0f7a4 cJ9_abs_0f7a4 1 (some .int) 1 := ⟨kw_546, kw_102, kw_545, ⟨by decide +kernel, by decide +kernel, by decide +kernel⟩⟩
theorem mf_J9_max_7cf53 : jmS yJ9_max_7cf53 cJ9_max_7cf53 2 (some .int) 2 := ⟨kw_491, kw_102, kw_490, ⟨by decide +kernel, by decide +kernel, by decide +kernel⟩⟩
theorem mf_J9_min_7cf53 : jmS yJ9_min_7cf53 cJ9_min_7cf53 2 (some .int) 2 := ⟨kw_488, kw_102, kw_487, ⟨by decide +kernel, by decide +kernel, by decide +kernel⟩⟩
theorem mf_J7_fill_d0a16 : jmS yJ7_fill_d0a16 cJ7_fill_d0a16 5 none 2 := ⟨kw_714, kw_101, kw_713, ⟨by decide +kernel, by decide +kernel, by decide +kernel⟩⟩
theorem mf_J7_fill_53178 : jmS yJ7_fill_53178 cJ7_fill_53178 4 none 2 := ⟨kw_424, kw_101, kw_423, ⟨by decide +kernel, by decide +kernel, by decide +kernel⟩⟩
