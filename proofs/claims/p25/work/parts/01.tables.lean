-- ===== PART A: goes FIRST, ahead of the names: the tables' words, and 'selects' of the private methods out of them =====
/-- a private method of a class that the tables say can be made, by its rows of tables_1 -/
def lw_okq (q : MethodName × Nat) : Prop := (q.1.cls ≠ "java/lang/invoke/MethodHandle" ∧ q.1.cls ≠ "java/lang/invoke/VarHandle") ∧ Cond.instantiable q.1.cls q.2 ∈ tables_1 ∧ Cond.privateMethod q.1 ∈ tables_1 ∧ Cond.instanceMethod q.1 ∈ tables_1
theorem lw_p0 : lw_okq (⟨"GridPolygons", "shapeAt", "(I)LGridPolygons$Shape;"⟩, 8) := ⟨⟨by decide +kernel, by decide +kernel⟩, List.mem_of_getElem? (i := 19) (by decide +kernel), List.mem_of_getElem? (i := 328) (by decide +kernel), List.mem_of_getElem? (i := 329) (by decide +kernel)⟩
theorem lw_p1 : lw_okq (⟨"GridPolygons$Hull", "push", "(III)V"⟩, 3) := ⟨⟨by decide +kernel, by decide +kernel⟩, List.mem_of_getElem? (i := 83) (by decide +kernel), List.mem_of_getElem? (i := 343) (by decide +kernel), List.mem_of_getElem? (i := 344) (by decide +kernel)⟩
theorem lw_p2 : lw_okq (⟨"GridPolygons$Hull", "isLast", "(II)Z"⟩, 3) := ⟨⟨by decide +kernel, by decide +kernel⟩, List.mem_of_getElem? (i := 83) (by decide +kernel), List.mem_of_getElem? (i := 347) (by decide +kernel), List.mem_of_getElem? (i := 348) (by decide +kernel)⟩
theorem lw_p3 : lw_okq (⟨"GridPolygons$Hull", "turnsLeft", "(II)Z"⟩, 3) := ⟨⟨by decide +kernel, by decide +kernel⟩, List.mem_of_getElem? (i := 83) (by decide +kernel), List.mem_of_getElem? (i := 363) (by decide +kernel), List.mem_of_getElem? (i := 364) (by decide +kernel)⟩
theorem lw_p4 : lw_okq (⟨"GridPolygons", "remake", "(LGridPolygons$Shape;)V"⟩, 8) := ⟨⟨by decide +kernel, by decide +kernel⟩, List.mem_of_getElem? (i := 19) (by decide +kernel), List.mem_of_getElem? (i := 373) (by decide +kernel), List.mem_of_getElem? (i := 374) (by decide +kernel)⟩
theorem lw_p5 : lw_okq (⟨"GridPolygons", "newStamp", "()I"⟩, 8) := ⟨⟨by decide +kernel, by decide +kernel⟩, List.mem_of_getElem? (i := 19) (by decide +kernel), List.mem_of_getElem? (i := 381) (by decide +kernel), List.mem_of_getElem? (i := 382) (by decide +kernel)⟩
theorem lw_p6 : lw_okq (⟨"GridPolygons", "remakeIfFits", "(LGridPolygons$Shape;)I"⟩, 8) := ⟨⟨by decide +kernel, by decide +kernel⟩, List.mem_of_getElem? (i := 19) (by decide +kernel), List.mem_of_getElem? (i := 407) (by decide +kernel), List.mem_of_getElem? (i := 408) (by decide +kernel)⟩
theorem lw_p7 : lw_okq (⟨"GridPolygons$LeastWidth", "weigh", "(LGridPolygons$Ring;II)V"⟩, 3) := ⟨⟨by decide +kernel, by decide +kernel⟩, List.mem_of_getElem? (i := 102) (by decide +kernel), List.mem_of_getElem? (i := 558) (by decide +kernel), List.mem_of_getElem? (i := 559) (by decide +kernel)⟩
theorem lw_p8 : lw_okq (⟨"GridPolygons", "isNewHeap", "(I)Z"⟩, 8) := ⟨⟨by decide +kernel, by decide +kernel⟩, List.mem_of_getElem? (i := 19) (by decide +kernel), List.mem_of_getElem? (i := 592) (by decide +kernel), List.mem_of_getElem? (i := 593) (by decide +kernel)⟩
theorem lw_p9 : lw_okq (⟨"GridPolygons$Choices", "frame", "(LGridPolygons$Ring;)V"⟩, 14) := ⟨⟨by decide +kernel, by decide +kernel⟩, List.mem_of_getElem? (i := 150) (by decide +kernel), List.mem_of_getElem? (i := 618) (by decide +kernel), List.mem_of_getElem? (i := 619) (by decide +kernel)⟩
theorem lw_p10 : lw_okq (⟨"GridPolygons$Choices", "cell", "(II)I"⟩, 14) := ⟨⟨by decide +kernel, by decide +kernel⟩, List.mem_of_getElem? (i := 150) (by decide +kernel), List.mem_of_getElem? (i := 631) (by decide +kernel), List.mem_of_getElem? (i := 632) (by decide +kernel)⟩
theorem lw_p11 : lw_okq (⟨"GridPolygons$Choices", "takeSide", "(LGridPolygons$Ring;I)V"⟩, 14) := ⟨⟨by decide +kernel, by decide +kernel⟩, List.mem_of_getElem? (i := 150) (by decide +kernel), List.mem_of_getElem? (i := 635) (by decide +kernel), List.mem_of_getElem? (i := 636) (by decide +kernel)⟩
theorem lw_p12 : lw_okq (⟨"GridPolygons$Choices", "spread", "()V"⟩, 14) := ⟨⟨by decide +kernel, by decide +kernel⟩, List.mem_of_getElem? (i := 150) (by decide +kernel), List.mem_of_getElem? (i := 642) (by decide +kernel), List.mem_of_getElem? (i := 643) (by decide +kernel)⟩
theorem lw_p13 : lw_okq (⟨"GridPolygons$Choices", "waysTo", "([JII)J"⟩, 14) := ⟨⟨by decide +kernel, by decide +kernel⟩, List.mem_of_getElem? (i := 150) (by decide +kernel), List.mem_of_getElem? (i := 646) (by decide +kernel), List.mem_of_getElem? (i := 647) (by decide +kernel)⟩
theorem lw_p14 : lw_okq (⟨"GridPolygons$Choices", "lastRow", "(LGridPolygons$Ring;)V"⟩, 14) := ⟨⟨by decide +kernel, by decide +kernel⟩, List.mem_of_getElem? (i := 150) (by decide +kernel), List.mem_of_getElem? (i := 663) (by decide +kernel), List.mem_of_getElem? (i := 664) (by decide +kernel)⟩
theorem lw_p15 : lw_okq (⟨"GridPolygons$Choices", "setFewest", "(IIII)V"⟩, 14) := ⟨⟨by decide +kernel, by decide +kernel⟩, List.mem_of_getElem? (i := 150) (by decide +kernel), List.mem_of_getElem? (i := 667) (by decide +kernel), List.mem_of_getElem? (i := 668) (by decide +kernel)⟩
def lw_privs_1 : List (MethodName × Nat) := [(⟨"GridPolygons", "shapeAt", "(I)LGridPolygons$Shape;"⟩, 8), (⟨"GridPolygons$Hull", "push", "(III)V"⟩, 3), (⟨"GridPolygons$Hull", "isLast", "(II)Z"⟩, 3), (⟨"GridPolygons$Hull", "turnsLeft", "(II)Z"⟩, 3), (⟨"GridPolygons", "remake", "(LGridPolygons$Shape;)V"⟩, 8), (⟨"GridPolygons", "newStamp", "()I"⟩, 8), (⟨"GridPolygons", "remakeIfFits", "(LGridPolygons$Shape;)I"⟩, 8), (⟨"GridPolygons$LeastWidth", "weigh", "(LGridPolygons$Ring;II)V"⟩, 3), (⟨"GridPolygons", "isNewHeap", "(I)Z"⟩, 8), (⟨"GridPolygons$Choices", "frame", "(LGridPolygons$Ring;)V"⟩, 14), (⟨"GridPolygons$Choices", "cell", "(II)I"⟩, 14), (⟨"GridPolygons$Choices", "takeSide", "(LGridPolygons$Ring;I)V"⟩, 14), (⟨"GridPolygons$Choices", "spread", "()V"⟩, 14), (⟨"GridPolygons$Choices", "waysTo", "([JII)J"⟩, 14), (⟨"GridPolygons$Choices", "lastRow", "(LGridPolygons$Ring;)V"⟩, 14), (⟨"GridPolygons$Choices", "setFewest", "(IIII)V"⟩, 14)]
theorem lw_r1 : ∀ q ∈ lw_privs_1, lw_okq q := List.forall_mem_cons.mpr ⟨lw_p0, List.forall_mem_cons.mpr ⟨lw_p1, List.forall_mem_cons.mpr ⟨lw_p2, List.forall_mem_cons.mpr ⟨lw_p3, List.forall_mem_cons.mpr ⟨lw_p4, List.forall_mem_cons.mpr ⟨lw_p5, List.forall_mem_cons.mpr ⟨lw_p6, List.forall_mem_cons.mpr ⟨lw_p7, List.forall_mem_cons.mpr ⟨lw_p8, List.forall_mem_cons.mpr ⟨lw_p9, List.forall_mem_cons.mpr ⟨lw_p10, List.forall_mem_cons.mpr ⟨lw_p11, List.forall_mem_cons.mpr ⟨lw_p12, List.forall_mem_cons.mpr ⟨lw_p13, List.forall_mem_cons.mpr ⟨lw_p14, List.forall_mem_cons.mpr ⟨lw_p15, fun _ h => absurd h List.not_mem_nil⟩⟩⟩⟩⟩⟩⟩⟩⟩⟩⟩⟩⟩⟩⟩⟩
theorem lw_p16 : lw_okq (⟨"GridPolygons$Choices", "beginAt", "(LGridPolygons$Ring;I)V"⟩, 14) := ⟨⟨by decide +kernel, by decide +kernel⟩, List.mem_of_getElem? (i := 150) (by decide +kernel), List.mem_of_getElem? (i := 671) (by decide +kernel), List.mem_of_getElem? (i := 672) (by decide +kernel)⟩
theorem lw_p17 : lw_okq (⟨"GridPolygons$Choices", "fewestFrom", "(III)I"⟩, 14) := ⟨⟨by decide +kernel, by decide +kernel⟩, List.mem_of_getElem? (i := 150) (by decide +kernel), List.mem_of_getElem? (i := 675) (by decide +kernel), List.mem_of_getElem? (i := 676) (by decide +kernel)⟩
theorem lw_p18 : lw_okq (⟨"GridPolygons$Choices", "fewestAt", "(II)I"⟩, 14) := ⟨⟨by decide +kernel, by decide +kernel⟩, List.mem_of_getElem? (i := 150) (by decide +kernel), List.mem_of_getElem? (i := 679) (by decide +kernel), List.mem_of_getElem? (i := 680) (by decide +kernel)⟩
theorem lw_p19 : lw_okq (⟨"GridPolygons$Choices", "fillRow", "(I)V"⟩, 14) := ⟨⟨by decide +kernel, by decide +kernel⟩, List.mem_of_getElem? (i := 150) (by decide +kernel), List.mem_of_getElem? (i := 683) (by decide +kernel), List.mem_of_getElem? (i := 684) (by decide +kernel)⟩
theorem lw_p20 : lw_okq (⟨"GridPolygons$Choices", "bestFrom", "(III)I"⟩, 14) := ⟨⟨by decide +kernel, by decide +kernel⟩, List.mem_of_getElem? (i := 150) (by decide +kernel), List.mem_of_getElem? (i := 687) (by decide +kernel), List.mem_of_getElem? (i := 688) (by decide +kernel)⟩
theorem lw_p21 : lw_okq (⟨"GridPolygons$Choices", "goOn", "(LGridPolygons$Ring;)V"⟩, 14) := ⟨⟨by decide +kernel, by decide +kernel⟩, List.mem_of_getElem? (i := 150) (by decide +kernel), List.mem_of_getElem? (i := 692) (by decide +kernel), List.mem_of_getElem? (i := 693) (by decide +kernel)⟩
theorem lw_p22 : lw_okq (⟨"GridPolygons$Choices", "firstBest", "(III)I"⟩, 14) := ⟨⟨by decide +kernel, by decide +kernel⟩, List.mem_of_getElem? (i := 150) (by decide +kernel), List.mem_of_getElem? (i := 696) (by decide +kernel), List.mem_of_getElem? (i := 697) (by decide +kernel)⟩
theorem lw_p23 : lw_okq (⟨"GridPolygons$Sail", "keep", "(IIII)V"⟩, 6) := ⟨⟨by decide +kernel, by decide +kernel⟩, List.mem_of_getElem? (i := 121) (by decide +kernel), List.mem_of_getElem? (i := 755) (by decide +kernel), List.mem_of_getElem? (i := 756) (by decide +kernel)⟩
theorem lw_p24 : lw_okq (⟨"GridPolygons$Sail", "findSecond", "(IIII)V"⟩, 6) := ⟨⟨by decide +kernel, by decide +kernel⟩, List.mem_of_getElem? (i := 121) (by decide +kernel), List.mem_of_getElem? (i := 759) (by decide +kernel), List.mem_of_getElem? (i := 760) (by decide +kernel)⟩
theorem lw_p25 : lw_okq (⟨"GridPolygons$Mesh", "appendSegment", "(II)V"⟩, 9) := ⟨⟨by decide +kernel, by decide +kernel⟩, List.mem_of_getElem? (i := 208) (by decide +kernel), List.mem_of_getElem? (i := 806) (by decide +kernel), List.mem_of_getElem? (i := 807) (by decide +kernel)⟩
theorem lw_p26 : lw_okq (⟨"GridPolygons$Mesh", "noteCrossed", "(I)V"⟩, 9) := ⟨⟨by decide +kernel, by decide +kernel⟩, List.mem_of_getElem? (i := 208) (by decide +kernel), List.mem_of_getElem? (i := 810) (by decide +kernel), List.mem_of_getElem? (i := 811) (by decide +kernel)⟩
theorem lw_p27 : lw_okq (⟨"GridPolygons$Mesh", "cross", "(IIII)Z"⟩, 9) := ⟨⟨by decide +kernel, by decide +kernel⟩, List.mem_of_getElem? (i := 208) (by decide +kernel), List.mem_of_getElem? (i := 814) (by decide +kernel), List.mem_of_getElem? (i := 815) (by decide +kernel)⟩
theorem lw_p28 : lw_okq (⟨"GridPolygons$Mesh", "noteFlips", "(I)V"⟩, 9) := ⟨⟨by decide +kernel, by decide +kernel⟩, List.mem_of_getElem? (i := 208) (by decide +kernel), List.mem_of_getElem? (i := 824) (by decide +kernel), List.mem_of_getElem? (i := 825) (by decide +kernel)⟩
theorem lw_p29 : lw_okq (⟨"GridPolygons$Mesh", "noteFlip", "(IIII)V"⟩, 9) := ⟨⟨by decide +kernel, by decide +kernel⟩, List.mem_of_getElem? (i := 208) (by decide +kernel), List.mem_of_getElem? (i := 832) (by decide +kernel), List.mem_of_getElem? (i := 833) (by decide +kernel)⟩
theorem lw_p30 : lw_okq (⟨"GridPolygons$Mesh", "number", "(II)I"⟩, 9) := ⟨⟨by decide +kernel, by decide +kernel⟩, List.mem_of_getElem? (i := 208) (by decide +kernel), List.mem_of_getElem? (i := 836) (by decide +kernel), List.mem_of_getElem? (i := 837) (by decide +kernel)⟩
theorem lw_p31 : lw_okq (⟨"GridPolygons$Cuts", "search", "()V"⟩, 7) := ⟨⟨by decide +kernel, by decide +kernel⟩, List.mem_of_getElem? (i := 202) (by decide +kernel), List.mem_of_getElem? (i := 842) (by decide +kernel), List.mem_of_getElem? (i := 843) (by decide +kernel)⟩
def lw_privs_2 : List (MethodName × Nat) := [(⟨"GridPolygons$Choices", "beginAt", "(LGridPolygons$Ring;I)V"⟩, 14), (⟨"GridPolygons$Choices", "fewestFrom", "(III)I"⟩, 14), (⟨"GridPolygons$Choices", "fewestAt", "(II)I"⟩, 14), (⟨"GridPolygons$Choices", "fillRow", "(I)V"⟩, 14), (⟨"GridPolygons$Choices", "bestFrom", "(III)I"⟩, 14), (⟨"GridPolygons$Choices", "goOn", "(LGridPolygons$Ring;)V"⟩, 14), (⟨"GridPolygons$Choices", "firstBest", "(III)I"⟩, 14), (⟨"GridPolygons$Sail", "keep", "(IIII)V"⟩, 6), (⟨"GridPolygons$Sail", "findSecond", "(IIII)V"⟩, 6), (⟨"GridPolygons$Mesh", "appendSegment", "(II)V"⟩, 9), (⟨"GridPolygons$Mesh", "noteCrossed", "(I)V"⟩, 9), (⟨"GridPolygons$Mesh", "cross", "(IIII)Z"⟩, 9), (⟨"GridPolygons$Mesh", "noteFlips", "(I)V"⟩, 9), (⟨"GridPolygons$Mesh", "noteFlip", "(IIII)V"⟩, 9), (⟨"GridPolygons$Mesh", "number", "(II)I"⟩, 9), (⟨"GridPolygons$Cuts", "search", "()V"⟩, 7)]
theorem lw_r2 : ∀ q ∈ lw_privs_2, lw_okq q := List.forall_mem_cons.mpr ⟨lw_p16, List.forall_mem_cons.mpr ⟨lw_p17, List.forall_mem_cons.mpr ⟨lw_p18, List.forall_mem_cons.mpr ⟨lw_p19, List.forall_mem_cons.mpr ⟨lw_p20, List.forall_mem_cons.mpr ⟨lw_p21, List.forall_mem_cons.mpr ⟨lw_p22, List.forall_mem_cons.mpr ⟨lw_p23, List.forall_mem_cons.mpr ⟨lw_p24, List.forall_mem_cons.mpr ⟨lw_p25, List.forall_mem_cons.mpr ⟨lw_p26, List.forall_mem_cons.mpr ⟨lw_p27, List.forall_mem_cons.mpr ⟨lw_p28, List.forall_mem_cons.mpr ⟨lw_p29, List.forall_mem_cons.mpr ⟨lw_p30, List.forall_mem_cons.mpr ⟨lw_p31, fun _ h => absurd h List.not_mem_nil⟩⟩⟩⟩⟩⟩⟩⟩⟩⟩⟩⟩⟩⟩⟩⟩
theorem lw_p32 : lw_okq (⟨"GridPolygons$Cuts", "enter", "(JI)V"⟩, 7) := ⟨⟨by decide +kernel, by decide +kernel⟩, List.mem_of_getElem? (i := 202) (by decide +kernel), List.mem_of_getElem? (i := 851) (by decide +kernel), List.mem_of_getElem? (i := 852) (by decide +kernel)⟩
theorem lw_p33 : lw_okq (⟨"GridPolygons$Cuts", "setOf", "(I)J"⟩, 7) := ⟨⟨by decide +kernel, by decide +kernel⟩, List.mem_of_getElem? (i := 202) (by decide +kernel), List.mem_of_getElem? (i := 856) (by decide +kernel), List.mem_of_getElem? (i := 857) (by decide +kernel)⟩
theorem lw_p34 : lw_okq (⟨"GridPolygons$Coarse", "lowestLeft", "([III)I"⟩, 4) := ⟨⟨by decide +kernel, by decide +kernel⟩, List.mem_of_getElem? (i := 277) (by decide +kernel), List.mem_of_getElem? (i := 906) (by decide +kernel), List.mem_of_getElem? (i := 907) (by decide +kernel)⟩
theorem lw_p35 : lw_okq (⟨"GridPolygons$Coarse", "above", "([IIIII)I"⟩, 4) := ⟨⟨by decide +kernel, by decide +kernel⟩, List.mem_of_getElem? (i := 277) (by decide +kernel), List.mem_of_getElem? (i := 911) (by decide +kernel), List.mem_of_getElem? (i := 912) (by decide +kernel)⟩
theorem lw_p36 : lw_okq (⟨"GridPolygons$Coarse", "planeOf", "([IIII)J"⟩, 4) := ⟨⟨by decide +kernel, by decide +kernel⟩, List.mem_of_getElem? (i := 277) (by decide +kernel), List.mem_of_getElem? (i := 917) (by decide +kernel), List.mem_of_getElem? (i := 918) (by decide +kernel)⟩
theorem lw_p37 : lw_okq (⟨"GridPolygons$Coarse", "enter", "(J)V"⟩, 4) := ⟨⟨by decide +kernel, by decide +kernel⟩, List.mem_of_getElem? (i := 277) (by decide +kernel), List.mem_of_getElem? (i := 924) (by decide +kernel), List.mem_of_getElem? (i := 925) (by decide +kernel)⟩
theorem lw_p38 : lw_okq (⟨"GridPolygons$Coarse", "isKnown", "(J)Z"⟩, 4) := ⟨⟨by decide +kernel, by decide +kernel⟩, List.mem_of_getElem? (i := 277) (by decide +kernel), List.mem_of_getElem? (i := 928) (by decide +kernel), List.mem_of_getElem? (i := 929) (by decide +kernel)⟩
theorem lw_p39 : lw_okq (⟨"GridPolygons$Coarse", "setOf", "(I)J"⟩, 4) := ⟨⟨by decide +kernel, by decide +kernel⟩, List.mem_of_getElem? (i := 277) (by decide +kernel), List.mem_of_getElem? (i := 932) (by decide +kernel), List.mem_of_getElem? (i := 933) (by decide +kernel)⟩
theorem lw_p40 : lw_okq (⟨"GridPolygonsModel", "take", "(IZ)I"⟩, 31) := ⟨⟨by decide +kernel, by decide +kernel⟩, List.mem_of_getElem? (i := 965) (by decide +kernel), List.mem_of_getElem? (i := 1076) (by decide +kernel), List.mem_of_getElem? (i := 1077) (by decide +kernel)⟩
theorem lw_p41 : lw_okq (⟨"GridPolygonsModel", "putShape", "(I)V"⟩, 31) := ⟨⟨by decide +kernel, by decide +kernel⟩, List.mem_of_getElem? (i := 965) (by decide +kernel), List.mem_of_getElem? (i := 1087) (by decide +kernel), List.mem_of_getElem? (i := 1088) (by decide +kernel)⟩
theorem lw_p42 : lw_okq (⟨"GridPolygonsModel", "x", "(II)I"⟩, 31) := ⟨⟨by decide +kernel, by decide +kernel⟩, List.mem_of_getElem? (i := 965) (by decide +kernel), List.mem_of_getElem? (i := 1091) (by decide +kernel), List.mem_of_getElem? (i := 1092) (by decide +kernel)⟩
theorem lw_p43 : lw_okq (⟨"GridPolygonsModel", "y", "(II)I"⟩, 31) := ⟨⟨by decide +kernel, by decide +kernel⟩, List.mem_of_getElem? (i := 965) (by decide +kernel), List.mem_of_getElem? (i := 1095) (by decide +kernel), List.mem_of_getElem? (i := 1096) (by decide +kernel)⟩
theorem lw_p44 : lw_okq (⟨"GridPolygonsModel", "put", "(II)V"⟩, 31) := ⟨⟨by decide +kernel, by decide +kernel⟩, List.mem_of_getElem? (i := 965) (by decide +kernel), List.mem_of_getElem? (i := 1099) (by decide +kernel), List.mem_of_getElem? (i := 1100) (by decide +kernel)⟩
theorem lw_p45 : lw_okq (⟨"GridPolygonsModel", "findHull", "()V"⟩, 31) := ⟨⟨by decide +kernel, by decide +kernel⟩, List.mem_of_getElem? (i := 965) (by decide +kernel), List.mem_of_getElem? (i := 1103) (by decide +kernel), List.mem_of_getElem? (i := 1104) (by decide +kernel)⟩
theorem lw_p46 : lw_okq (⟨"GridPolygonsModel", "order", "()V"⟩, 31) := ⟨⟨by decide +kernel, by decide +kernel⟩, List.mem_of_getElem? (i := 965) (by decide +kernel), List.mem_of_getElem? (i := 1107) (by decide +kernel), List.mem_of_getElem? (i := 1108) (by decide +kernel)⟩
theorem lw_p47 : lw_okq (⟨"GridPolygonsModel", "isAfter", "(II)Z"⟩, 31) := ⟨⟨by decide +kernel, by decide +kernel⟩, List.mem_of_getElem? (i := 965) (by decide +kernel), List.mem_of_getElem? (i := 1111) (by decide +kernel), List.mem_of_getElem? (i := 1112) (by decide +kernel)⟩
def lw_privs_3 : List (MethodName × Nat) := [(⟨"GridPolygons$Cuts", "enter", "(JI)V"⟩, 7), (⟨"GridPolygons$Cuts", "setOf", "(I)J"⟩, 7), (⟨"GridPolygons$Coarse", "lowestLeft", "([III)I"⟩, 4), (⟨"GridPolygons$Coarse", "above", "([IIIII)I"⟩, 4), (⟨"GridPolygons$Coarse", "planeOf", "([IIII)J"⟩, 4), (⟨"GridPolygons$Coarse", "enter", "(J)V"⟩, 4), (⟨"GridPolygons$Coarse", "isKnown", "(J)Z"⟩, 4), (⟨"GridPolygons$Coarse", "setOf", "(I)J"⟩, 4), (⟨"GridPolygonsModel", "take", "(IZ)I"⟩, 31), (⟨"GridPolygonsModel", "putShape", "(I)V"⟩, 31), (⟨"GridPolygonsModel", "x", "(II)I"⟩, 31), (⟨"GridPolygonsModel", "y", "(II)I"⟩, 31), (⟨"GridPolygonsModel", "put", "(II)V"⟩, 31), (⟨"GridPolygonsModel", "findHull", "()V"⟩, 31), (⟨"GridPolygonsModel", "order", "()V"⟩, 31), (⟨"GridPolygonsModel", "isAfter", "(II)Z"⟩, 31)]
theorem lw_r3 : ∀ q ∈ lw_privs_3, lw_okq q := List.forall_mem_cons.mpr ⟨lw_p32, List.forall_mem_cons.mpr ⟨lw_p33, List.forall_mem_cons.mpr ⟨lw_p34, List.forall_mem_cons.mpr ⟨lw_p35, List.forall_mem_cons.mpr ⟨lw_p36, List.forall_mem_cons.mpr ⟨lw_p37, List.forall_mem_cons.mpr ⟨lw_p38, List.forall_mem_cons.mpr ⟨lw_p39, List.forall_mem_cons.mpr ⟨lw_p40, List.forall_mem_cons.mpr ⟨lw_p41, List.forall_mem_cons.mpr ⟨lw_p42, List.forall_mem_cons.mpr ⟨lw_p43, List.forall_mem_cons.mpr ⟨lw_p44, List.forall_mem_cons.mpr ⟨lw_p45, List.forall_mem_cons.mpr ⟨lw_p46, List.forall_mem_cons.mpr ⟨lw_p47, fun _ h => absurd h List.not_mem_nil⟩⟩⟩⟩⟩⟩⟩⟩⟩⟩⟩⟩⟩⟩⟩⟩
theorem lw_p48 : lw_okq (⟨"GridPolygonsModel", "goOn", "(II)V"⟩, 31) := ⟨⟨by decide +kernel, by decide +kernel⟩, List.mem_of_getElem? (i := 965) (by decide +kernel), List.mem_of_getElem? (i := 1115) (by decide +kernel), List.mem_of_getElem? (i := 1116) (by decide +kernel)⟩
theorem lw_p49 : lw_okq (⟨"GridPolygonsModel", "areaOf", "(I)I"⟩, 31) := ⟨⟨by decide +kernel, by decide +kernel⟩, List.mem_of_getElem? (i := 965) (by decide +kernel), List.mem_of_getElem? (i := 1132) (by decide +kernel), List.mem_of_getElem? (i := 1133) (by decide +kernel)⟩
theorem lw_p50 : lw_okq (⟨"GridPolygonsModel", "edgeOf", "(I)I"⟩, 31) := ⟨⟨by decide +kernel, by decide +kernel⟩, List.mem_of_getElem? (i := 965) (by decide +kernel), List.mem_of_getElem? (i := 1136) (by decide +kernel), List.mem_of_getElem? (i := 1137) (by decide +kernel)⟩
theorem lw_p51 : lw_okq (⟨"GridPolygonsModel", "stepsOf", "(II)I"⟩, 31) := ⟨⟨by decide +kernel, by decide +kernel⟩, List.mem_of_getElem? (i := 965) (by decide +kernel), List.mem_of_getElem? (i := 1140) (by decide +kernel), List.mem_of_getElem? (i := 1141) (by decide +kernel)⟩
theorem lw_p52 : lw_okq (⟨"GridPolygonsModel", "insideOf", "(I)I"⟩, 31) := ⟨⟨by decide +kernel, by decide +kernel⟩, List.mem_of_getElem? (i := 965) (by decide +kernel), List.mem_of_getElem? (i := 1150) (by decide +kernel), List.mem_of_getElem? (i := 1151) (by decide +kernel)⟩
theorem lw_p53 : lw_okq (⟨"GridPolygonsModel", "isPolygon", "(I)Z"⟩, 31) := ⟨⟨by decide +kernel, by decide +kernel⟩, List.mem_of_getElem? (i := 965) (by decide +kernel), List.mem_of_getElem? (i := 1154) (by decide +kernel), List.mem_of_getElem? (i := 1155) (by decide +kernel)⟩
theorem lw_p54 : lw_okq (⟨"GridPolygonsModel", "whereOf", "(III)I"⟩, 31) := ⟨⟨by decide +kernel, by decide +kernel⟩, List.mem_of_getElem? (i := 965) (by decide +kernel), List.mem_of_getElem? (i := 1169) (by decide +kernel), List.mem_of_getElem? (i := 1170) (by decide +kernel)⟩
theorem lw_p55 : lw_okq (⟨"GridPolygonsModel", "findAll", "(I)V"⟩, 31) := ⟨⟨by decide +kernel, by decide +kernel⟩, List.mem_of_getElem? (i := 965) (by decide +kernel), List.mem_of_getElem? (i := 1180) (by decide +kernel), List.mem_of_getElem? (i := 1181) (by decide +kernel)⟩
theorem lw_p56 : lw_okq (⟨"GridPolygonsModel", "widthOf", "(III)I"⟩, 31) := ⟨⟨by decide +kernel, by decide +kernel⟩, List.mem_of_getElem? (i := 965) (by decide +kernel), List.mem_of_getElem? (i := 1191) (by decide +kernel), List.mem_of_getElem? (i := 1192) (by decide +kernel)⟩
theorem lw_p57 : lw_okq (⟨"GridPolygonsModel", "mapsOf", "(II)I"⟩, 31) := ⟨⟨by decide +kernel, by decide +kernel⟩, List.mem_of_getElem? (i := 965) (by decide +kernel), List.mem_of_getElem? (i := 1207) (by decide +kernel), List.mem_of_getElem? (i := 1208) (by decide +kernel)⟩
theorem lw_p58 : lw_okq (⟨"GridPolygonsModel", "isMap", "(IIII)Z"⟩, 31) := ⟨⟨by decide +kernel, by decide +kernel⟩, List.mem_of_getElem? (i := 965) (by decide +kernel), List.mem_of_getElem? (i := 1211) (by decide +kernel), List.mem_of_getElem? (i := 1212) (by decide +kernel)⟩
theorem lw_p59 : lw_okq (⟨"GridPolygonsModel", "isAlike", "(II)Z"⟩, 31) := ⟨⟨by decide +kernel, by decide +kernel⟩, List.mem_of_getElem? (i := 965) (by decide +kernel), List.mem_of_getElem? (i := 1219) (by decide +kernel), List.mem_of_getElem? (i := 1220) (by decide +kernel)⟩
theorem lw_p60 : lw_okq (⟨"GridPolygonsModel", "findSum", "(II)V"⟩, 31) := ⟨⟨by decide +kernel, by decide +kernel⟩, List.mem_of_getElem? (i := 965) (by decide +kernel), List.mem_of_getElem? (i := 1231) (by decide +kernel), List.mem_of_getElem? (i := 1232) (by decide +kernel)⟩
theorem lw_p61 : lw_okq (⟨"GridPolygonsModel", "stepX", "(II)I"⟩, 31) := ⟨⟨by decide +kernel, by decide +kernel⟩, List.mem_of_getElem? (i := 965) (by decide +kernel), List.mem_of_getElem? (i := 1246) (by decide +kernel), List.mem_of_getElem? (i := 1247) (by decide +kernel)⟩
theorem lw_p62 : lw_okq (⟨"GridPolygonsModel", "stepY", "(II)I"⟩, 31) := ⟨⟨by decide +kernel, by decide +kernel⟩, List.mem_of_getElem? (i := 965) (by decide +kernel), List.mem_of_getElem? (i := 1250) (by decide +kernel), List.mem_of_getElem? (i := 1251) (by decide +kernel)⟩
theorem lw_p63 : lw_okq (⟨"GridPolygonsModel", "leastPart", "(I)I"⟩, 31) := ⟨⟨by decide +kernel, by decide +kernel⟩, List.mem_of_getElem? (i := 965) (by decide +kernel), List.mem_of_getElem? (i := 1258) (by decide +kernel), List.mem_of_getElem? (i := 1259) (by decide +kernel)⟩
def lw_privs_4 : List (MethodName × Nat) := [(⟨"GridPolygonsModel", "goOn", "(II)V"⟩, 31), (⟨"GridPolygonsModel", "areaOf", "(I)I"⟩, 31), (⟨"GridPolygonsModel", "edgeOf", "(I)I"⟩, 31), (⟨"GridPolygonsModel", "stepsOf", "(II)I"⟩, 31), (⟨"GridPolygonsModel", "insideOf", "(I)I"⟩, 31), (⟨"GridPolygonsModel", "isPolygon", "(I)Z"⟩, 31), (⟨"GridPolygonsModel", "whereOf", "(III)I"⟩, 31), (⟨"GridPolygonsModel", "findAll", "(I)V"⟩, 31), (⟨"GridPolygonsModel", "widthOf", "(III)I"⟩, 31), (⟨"GridPolygonsModel", "mapsOf", "(II)I"⟩, 31), (⟨"GridPolygonsModel", "isMap", "(IIII)Z"⟩, 31), (⟨"GridPolygonsModel", "isAlike", "(II)Z"⟩, 31), (⟨"GridPolygonsModel", "findSum", "(II)V"⟩, 31), (⟨"GridPolygonsModel", "stepX", "(II)I"⟩, 31), (⟨"GridPolygonsModel", "stepY", "(II)I"⟩, 31), (⟨"GridPolygonsModel", "leastPart", "(I)I"⟩, 31)]
theorem lw_r4 : ∀ q ∈ lw_privs_4, lw_okq q := List.forall_mem_cons.mpr ⟨lw_p48, List.forall_mem_cons.mpr ⟨lw_p49, List.forall_mem_cons.mpr ⟨lw_p50, List.forall_mem_cons.mpr ⟨lw_p51, List.forall_mem_cons.mpr ⟨lw_p52, List.forall_mem_cons.mpr ⟨lw_p53, List.forall_mem_cons.mpr ⟨lw_p54, List.forall_mem_cons.mpr ⟨lw_p55, List.forall_mem_cons.mpr ⟨lw_p56, List.forall_mem_cons.mpr ⟨lw_p57, List.forall_mem_cons.mpr ⟨lw_p58, List.forall_mem_cons.mpr ⟨lw_p59, List.forall_mem_cons.mpr ⟨lw_p60, List.forall_mem_cons.mpr ⟨lw_p61, List.forall_mem_cons.mpr ⟨lw_p62, List.forall_mem_cons.mpr ⟨lw_p63, fun _ h => absurd h List.not_mem_nil⟩⟩⟩⟩⟩⟩⟩⟩⟩⟩⟩⟩⟩⟩⟩⟩
theorem lw_p64 : lw_okq (⟨"GridPolygonsModel", "findBack", "(I)V"⟩, 31) := ⟨⟨by decide +kernel, by decide +kernel⟩, List.mem_of_getElem? (i := 965) (by decide +kernel), List.mem_of_getElem? (i := 1262) (by decide +kernel), List.mem_of_getElem? (i := 1263) (by decide +kernel)⟩
theorem lw_p65 : lw_okq (⟨"GridPolygonsModel", "backAt", "(III)I"⟩, 31) := ⟨⟨by decide +kernel, by decide +kernel⟩, List.mem_of_getElem? (i := 965) (by decide +kernel), List.mem_of_getElem? (i := 1266) (by decide +kernel), List.mem_of_getElem? (i := 1267) (by decide +kernel)⟩
theorem lw_p66 : lw_okq (⟨"GridPolygonsModel", "isRound", "(I)Z"⟩, 31) := ⟨⟨by decide +kernel, by decide +kernel⟩, List.mem_of_getElem? (i := 965) (by decide +kernel), List.mem_of_getElem? (i := 1274) (by decide +kernel), List.mem_of_getElem? (i := 1275) (by decide +kernel)⟩
theorem lw_p67 : lw_okq (⟨"GridPolygonsModel", "normalX", "(II)I"⟩, 31) := ⟨⟨by decide +kernel, by decide +kernel⟩, List.mem_of_getElem? (i := 965) (by decide +kernel), List.mem_of_getElem? (i := 1278) (by decide +kernel), List.mem_of_getElem? (i := 1279) (by decide +kernel)⟩
theorem lw_p68 : lw_okq (⟨"GridPolygonsModel", "normalY", "(II)I"⟩, 31) := ⟨⟨by decide +kernel, by decide +kernel⟩, List.mem_of_getElem? (i := 965) (by decide +kernel), List.mem_of_getElem? (i := 1282) (by decide +kernel), List.mem_of_getElem? (i := 1283) (by decide +kernel)⟩
theorem lw_p69 : lw_okq (⟨"GridPolygonsModel", "farOf", "(II)I"⟩, 31) := ⟨⟨by decide +kernel, by decide +kernel⟩, List.mem_of_getElem? (i := 965) (by decide +kernel), List.mem_of_getElem? (i := 1286) (by decide +kernel), List.mem_of_getElem? (i := 1287) (by decide +kernel)⟩
theorem lw_p70 : lw_okq (⟨"GridPolygonsModel", "isReflexive", "(I)Z"⟩, 31) := ⟨⟨by decide +kernel, by decide +kernel⟩, List.mem_of_getElem? (i := 965) (by decide +kernel), List.mem_of_getElem? (i := 1294) (by decide +kernel), List.mem_of_getElem? (i := 1295) (by decide +kernel)⟩
theorem lw_p71 : lw_okq (⟨"GridPolygonsModel", "findRays", "(IIII)Z"⟩, 31) := ⟨⟨by decide +kernel, by decide +kernel⟩, List.mem_of_getElem? (i := 965) (by decide +kernel), List.mem_of_getElem? (i := 1306) (by decide +kernel), List.mem_of_getElem? (i := 1307) (by decide +kernel)⟩
theorem lw_p72 : lw_okq (⟨"GridPolygonsModel", "beside", "(II)V"⟩, 31) := ⟨⟨by decide +kernel, by decide +kernel⟩, List.mem_of_getElem? (i := 965) (by decide +kernel), List.mem_of_getElem? (i := 1310) (by decide +kernel), List.mem_of_getElem? (i := 1311) (by decide +kernel)⟩
theorem lw_p73 : lw_okq (⟨"GridPolygonsModel", "isCuttable", "(I)Z"⟩, 31) := ⟨⟨by decide +kernel, by decide +kernel⟩, List.mem_of_getElem? (i := 965) (by decide +kernel), List.mem_of_getElem? (i := 1322) (by decide +kernel), List.mem_of_getElem? (i := 1323) (by decide +kernel)⟩
theorem lw_p74 : lw_okq (⟨"GridPolygonsModel", "findSegments", "()V"⟩, 31) := ⟨⟨by decide +kernel, by decide +kernel⟩, List.mem_of_getElem? (i := 965) (by decide +kernel), List.mem_of_getElem? (i := 1326) (by decide +kernel), List.mem_of_getElem? (i := 1327) (by decide +kernel)⟩
theorem lw_p75 : lw_okq (⟨"GridPolygonsModel", "firstCut", "()J"⟩, 31) := ⟨⟨by decide +kernel, by decide +kernel⟩, List.mem_of_getElem? (i := 965) (by decide +kernel), List.mem_of_getElem? (i := 1330) (by decide +kernel), List.mem_of_getElem? (i := 1331) (by decide +kernel)⟩
theorem lw_p76 : lw_okq (⟨"GridPolygonsModel", "doCross", "(II)Z"⟩, 31) := ⟨⟨by decide +kernel, by decide +kernel⟩, List.mem_of_getElem? (i := 965) (by decide +kernel), List.mem_of_getElem? (i := 1337) (by decide +kernel), List.mem_of_getElem? (i := 1338) (by decide +kernel)⟩
theorem lw_p77 : lw_okq (⟨"GridPolygonsModel", "turn", "(III)I"⟩, 31) := ⟨⟨by decide +kernel, by decide +kernel⟩, List.mem_of_getElem? (i := 965) (by decide +kernel), List.mem_of_getElem? (i := 1341) (by decide +kernel), List.mem_of_getElem? (i := 1342) (by decide +kernel)⟩
theorem lw_p78 : lw_okq (⟨"GridPolygonsModel", "sizeOf", "(J)I"⟩, 31) := ⟨⟨by decide +kernel, by decide +kernel⟩, List.mem_of_getElem? (i := 965) (by decide +kernel), List.mem_of_getElem? (i := 1348) (by decide +kernel), List.mem_of_getElem? (i := 1349) (by decide +kernel)⟩
theorem lw_p79 : lw_okq (⟨"GridPolygonsModel", "findCuts", "(I)V"⟩, 31) := ⟨⟨by decide +kernel, by decide +kernel⟩, List.mem_of_getElem? (i := 965) (by decide +kernel), List.mem_of_getElem? (i := 1352) (by decide +kernel), List.mem_of_getElem? (i := 1353) (by decide +kernel)⟩
def lw_privs_5 : List (MethodName × Nat) := [(⟨"GridPolygonsModel", "findBack", "(I)V"⟩, 31), (⟨"GridPolygonsModel", "backAt", "(III)I"⟩, 31), (⟨"GridPolygonsModel", "isRound", "(I)Z"⟩, 31), (⟨"GridPolygonsModel", "normalX", "(II)I"⟩, 31), (⟨"GridPolygonsModel", "normalY", "(II)I"⟩, 31), (⟨"GridPolygonsModel", "farOf", "(II)I"⟩, 31), (⟨"GridPolygonsModel", "isReflexive", "(I)Z"⟩, 31), (⟨"GridPolygonsModel", "findRays", "(IIII)Z"⟩, 31), (⟨"GridPolygonsModel", "beside", "(II)V"⟩, 31), (⟨"GridPolygonsModel", "isCuttable", "(I)Z"⟩, 31), (⟨"GridPolygonsModel", "findSegments", "()V"⟩, 31), (⟨"GridPolygonsModel", "firstCut", "()J"⟩, 31), (⟨"GridPolygonsModel", "doCross", "(II)Z"⟩, 31), (⟨"GridPolygonsModel", "turn", "(III)I"⟩, 31), (⟨"GridPolygonsModel", "sizeOf", "(J)I"⟩, 31), (⟨"GridPolygonsModel", "findCuts", "(I)V"⟩, 31)]
theorem lw_r5 : ∀ q ∈ lw_privs_5, lw_okq q := List.forall_mem_cons.mpr ⟨lw_p64, List.forall_mem_cons.mpr ⟨lw_p65, List.forall_mem_cons.mpr ⟨lw_p66, List.forall_mem_cons.mpr ⟨lw_p67, List.forall_mem_cons.mpr ⟨lw_p68, List.forall_mem_cons.mpr ⟨lw_p69, List.forall_mem_cons.mpr ⟨lw_p70, List.forall_mem_cons.mpr ⟨lw_p71, List.forall_mem_cons.mpr ⟨lw_p72, List.forall_mem_cons.mpr ⟨lw_p73, List.forall_mem_cons.mpr ⟨lw_p74, List.forall_mem_cons.mpr ⟨lw_p75, List.forall_mem_cons.mpr ⟨lw_p76, List.forall_mem_cons.mpr ⟨lw_p77, List.forall_mem_cons.mpr ⟨lw_p78, List.forall_mem_cons.mpr ⟨lw_p79, fun _ h => absurd h List.not_mem_nil⟩⟩⟩⟩⟩⟩⟩⟩⟩⟩⟩⟩⟩⟩⟩⟩
theorem lw_p80 : lw_okq (⟨"GridPolygonsModel", "slotOf", "(J)I"⟩, 31) := ⟨⟨by decide +kernel, by decide +kernel⟩, List.mem_of_getElem? (i := 965) (by decide +kernel), List.mem_of_getElem? (i := 1356) (by decide +kernel), List.mem_of_getElem? (i := 1357) (by decide +kernel)⟩
theorem lw_p81 : lw_okq (⟨"GridPolygonsModel", "flipped", "(JI)J"⟩, 31) := ⟨⟨by decide +kernel, by decide +kernel⟩, List.mem_of_getElem? (i := 965) (by decide +kernel), List.mem_of_getElem? (i := 1361) (by decide +kernel), List.mem_of_getElem? (i := 1362) (by decide +kernel)⟩
theorem lw_p82 : lw_okq (⟨"GridPolygonsModel", "third", "(JII)I"⟩, 31) := ⟨⟨by decide +kernel, by decide +kernel⟩, List.mem_of_getElem? (i := 965) (by decide +kernel), List.mem_of_getElem? (i := 1365) (by decide +kernel), List.mem_of_getElem? (i := 1366) (by decide +kernel)⟩
theorem lw_p83 : lw_okq (⟨"GridPolygonsModel", "between1", "(II)I"⟩, 31) := ⟨⟨by decide +kernel, by decide +kernel⟩, List.mem_of_getElem? (i := 965) (by decide +kernel), List.mem_of_getElem? (i := 1369) (by decide +kernel), List.mem_of_getElem? (i := 1370) (by decide +kernel)⟩
theorem lw_p84 : lw_okq (⟨"GridPolygonsModel", "isLifted", "(I)Z"⟩, 31) := ⟨⟨by decide +kernel, by decide +kernel⟩, List.mem_of_getElem? (i := 965) (by decide +kernel), List.mem_of_getElem? (i := 1385) (by decide +kernel), List.mem_of_getElem? (i := 1386) (by decide +kernel)⟩
theorem lw_p85 : lw_okq (⟨"GridPolygonsModel", "findPieces", "(I)V"⟩, 31) := ⟨⟨by decide +kernel, by decide +kernel⟩, List.mem_of_getElem? (i := 965) (by decide +kernel), List.mem_of_getElem? (i := 1393) (by decide +kernel), List.mem_of_getElem? (i := 1394) (by decide +kernel)⟩
theorem lw_p86 : lw_okq (⟨"GridPolygonsModel", "planeOf", "(IIII)J"⟩, 31) := ⟨⟨by decide +kernel, by decide +kernel⟩, List.mem_of_getElem? (i := 965) (by decide +kernel), List.mem_of_getElem? (i := 1397) (by decide +kernel), List.mem_of_getElem? (i := 1398) (by decide +kernel)⟩
def lw_privs_6 : List (MethodName × Nat) := [(⟨"GridPolygonsModel", "slotOf", "(J)I"⟩, 31), (⟨"GridPolygonsModel", "flipped", "(JI)J"⟩, 31), (⟨"GridPolygonsModel", "third", "(JII)I"⟩, 31), (⟨"GridPolygonsModel", "between1", "(II)I"⟩, 31), (⟨"GridPolygonsModel", "isLifted", "(I)Z"⟩, 31), (⟨"GridPolygonsModel", "findPieces", "(I)V"⟩, 31), (⟨"GridPolygonsModel", "planeOf", "(IIII)J"⟩, 31)]
theorem lw_r6 : ∀ q ∈ lw_privs_6, lw_okq q := List.forall_mem_cons.mpr ⟨lw_p80, List.forall_mem_cons.mpr ⟨lw_p81, List.forall_mem_cons.mpr ⟨lw_p82, List.forall_mem_cons.mpr ⟨lw_p83, List.forall_mem_cons.mpr ⟨lw_p84, List.forall_mem_cons.mpr ⟨lw_p85, List.forall_mem_cons.mpr ⟨lw_p86, fun _ h => absurd h List.not_mem_nil⟩⟩⟩⟩⟩⟩⟩
def lw_privs : List (MethodName × Nat) := lw_privs_1 ++ (lw_privs_2 ++ (lw_privs_3 ++ (lw_privs_4 ++ (lw_privs_5 ++ (lw_privs_6)))))
def lw_tbl : List Cond := k2_sels lw_privs ++ tables_1
theorem lw_privs_ok : ∀ q ∈ lw_privs, lw_okq q := by
  show ∀ q ∈ lw_privs_1 ++ (lw_privs_2 ++ (lw_privs_3 ++ (lw_privs_4 ++ (lw_privs_5 ++ (lw_privs_6))))), lw_okq q
  exact List.forall_mem_append.mpr ⟨lw_r1, List.forall_mem_append.mpr ⟨lw_r2, List.forall_mem_append.mpr ⟨lw_r3, List.forall_mem_append.mpr ⟨lw_r4, List.forall_mem_append.mpr ⟨lw_r5, lw_r6⟩⟩⟩⟩⟩
def RX0 : String := "GridPolygons$Choices"
def TX0 : u_T := fun k => match k with
  | 0 => ("GridPolygons$Choices", "ways", "[J", true)
  | 1 => ("GridPolygons$Choices", "nextWays", "[J", true)
  | 2 => ("GridPolygons$Choices", "fewest", "[I", true)
  | 3 => ("GridPolygons$Choices", "taken", "[I", true)
  | 4 => ("GridPolygons$Choices", "total", "I", false)
  | 5 => ("GridPolygons$Choices", "first", "I", false)
  | 6 => ("GridPolygons$Choices", "built", "I", false)
  | 7 => ("GridPolygons$Choices", "left", "I", false)
  | 8 => ("GridPolygons$Choices", "bottom", "I", false)
  | 9 => ("GridPolygons$Choices", "wide", "I", false)
  | 10 => ("GridPolygons$Choices", "tall", "I", false)
  | 11 => ("GridPolygons$Choices", "steps", "I", false)
  | 12 => ("GridPolygons$Choices", "dx", "I", false)
  | _ => ("GridPolygons$Choices", "dy", "I", false)
def tyX0 : Nat → FieldType := fun k => match k with
  | 0 => .array .long
  | 1 => .array .long
  | 2 => .array .int
  | 3 => .array .int
  | 4 => .int
  | 5 => .int
  | 6 => .int
  | 7 => .int
  | 8 => .int
  | 9 => .int
  | 10 => .int
  | 11 => .int
  | 12 => .int
  | _ => .int
abbrev wsX00 : List Cond := u_ws RX0 TX0 14
theorem nmX0 : ∀ a, a < 14 → ∀ b, b < 14 → a ≠ b → (TX0 a).2.1 ≠ (TX0 b).2.1 := by decide +kernel
theorem tyX0_ok : ∀ k, k < 14 → parseFieldDescriptor (TX0 k).2.2.1 = some (tyX0 k) := by decide +kernel
abbrev cX0_init : ByteArray := prog_2_method_1_code
def yX0_init : MethodName := ⟨RX0, "<init>", "()V"⟩
abbrev cX0_howMany : ByteArray := prog_2_method_2_code
def yX0_howMany : MethodName := ⟨RX0, "howMany", "(LGridPolygons$Ring;)J"⟩
abbrev cX0_findLeast : ByteArray := prog_2_method_3_code
def yX0_findLeast : MethodName := ⟨RX0, "findLeast", "(LGridPolygons$Shape;)V"⟩
abbrev cX0_takenOf : ByteArray := prog_2_method_4_code
def yX0_takenOf : MethodName := ⟨RX0, "takenOf", "(I)I"⟩
abbrev cX0_takeSide : ByteArray := prog_2_method_5_code
def yX0_takeSide : MethodName := ⟨RX0, "takeSide", "(LGridPolygons$Ring;I)V"⟩
abbrev cX0_frame : ByteArray := prog_2_method_6_code
def yX0_frame : MethodName := ⟨RX0, "frame", "(LGridPolygons$Ring;)V"⟩
abbrev cX0_cell : ByteArray := prog_2_method_7_code
def yX0_cell : MethodName := ⟨RX0, "cell", "(II)I"⟩
abbrev cX0_waysTo : ByteArray := prog_2_method_8_code
def yX0_waysTo : MethodName := ⟨RX0, "waysTo", "([JII)J"⟩
abbrev cX0_spread : ByteArray := prog_2_method_9_code
def yX0_spread : MethodName := ⟨RX0, "spread", "()V"⟩
abbrev cX0_fewestFrom : ByteArray := prog_2_method_10_code
def yX0_fewestFrom : MethodName := ⟨RX0, "fewestFrom", "(III)I"⟩
abbrev cX0_fewestAt : ByteArray := prog_2_method_11_code
def yX0_fewestAt : MethodName := ⟨RX0, "fewestAt", "(II)I"⟩
abbrev cX0_setFewest : ByteArray := prog_2_method_12_code
def yX0_setFewest : MethodName := ⟨RX0, "setFewest", "(IIII)V"⟩
abbrev cX0_lastRow : ByteArray := prog_2_method_13_code
def yX0_lastRow : MethodName := ⟨RX0, "lastRow", "(LGridPolygons$Ring;)V"⟩
abbrev cX0_fillRow : ByteArray := prog_2_method_14_code
def yX0_fillRow : MethodName := ⟨RX0, "fillRow", "(I)V"⟩
abbrev cX0_bestFrom : ByteArray := prog_2_method_15_code
def yX0_bestFrom : MethodName := ⟨RX0, "bestFrom", "(III)I"⟩
abbrev cX0_beginAt : ByteArray := prog_2_method_16_code
def yX0_beginAt : MethodName := ⟨RX0, "beginAt", "(LGridPolygons$Ring;I)V"⟩
abbrev cX0_goOn : ByteArray := prog_2_method_17_code
def yX0_goOn : MethodName := ⟨RX0, "goOn", "(LGridPolygons$Ring;)V"⟩
abbrev cX0_firstBest : ByteArray := prog_2_method_18_code
def yX0_firstBest : MethodName := ⟨RX0, "firstBest", "(III)I"⟩
def RX1 : String := "GridPolygons$Coarse"
def TX1 : u_T := fun k => match k with
  | 0 => ("GridPolygons$Coarse", "points", "LGridPolygons$Points;", true)
  | 1 => ("GridPolygons$Coarse", "sets", "[J", true)
  | 2 => ("GridPolygons$Coarse", "count", "I", false)
  | _ => ("GridPolygons$Coarse", "built", "I", false)
def tyX1 : Nat → FieldType := fun k => match k with
  | 0 => .object "GridPolygons$Points"
  | 1 => .array .long
  | 2 => .int
  | _ => .int
abbrev wsX10 : List Cond := u_ws RX1 TX1 4
theorem nmX1 : ∀ a, a < 4 → ∀ b, b < 4 → a ≠ b → (TX1 a).2.1 ≠ (TX1 b).2.1 := by decide +kernel
theorem tyX1_ok : ∀ k, k < 4 → parseFieldDescriptor (TX1 k).2.2.1 = some (tyX1 k) := by decide +kernel
abbrev cX1_init : ByteArray := prog_3_method_1_code
def yX1_init : MethodName := ⟨RX1, "<init>", "()V"⟩
abbrev cX1_build : ByteArray := prog_3_method_2_code
def yX1_build : MethodName := ⟨RX1, "build", "(LGridPolygons$Shape;)V"⟩
abbrev cX1_sizeOf : ByteArray := prog_3_method_3_code
def yX1_sizeOf : MethodName := ⟨RX1, "sizeOf", "(I)I"⟩
abbrev cX1_memberOf : ByteArray := prog_3_method_4_code
def yX1_memberOf : MethodName := ⟨RX1, "memberOf", "(II)I"⟩
abbrev cX1_seen : ByteArray := prog_3_method_5_code
def yX1_seen : MethodName := ⟨RX1, "seen", "()I"⟩
abbrev cX1_unitTriangles : ByteArray := prog_3_method_6_code
def yX1_unitTriangles : MethodName := ⟨RX1, "unitTriangles", "()I"⟩
abbrev cX1_bit : ByteArray := prog_3_method_7_code
def yX1_bit : MethodName := ⟨RX1, "bit", "(I)J"⟩
abbrev cX1_setOf : ByteArray := prog_3_method_8_code
def yX1_setOf : MethodName := ⟨RX1, "setOf", "(I)J"⟩
abbrev cX1_lowestLeft : ByteArray := prog_3_method_9_code
def yX1_lowestLeft : MethodName := ⟨RX1, "lowestLeft", "([III)I"⟩
abbrev cX1_above : ByteArray := prog_3_method_10_code
def yX1_above : MethodName := ⟨RX1, "above", "([IIIII)I"⟩
abbrev cX1_planeOf : ByteArray := prog_3_method_11_code
def yX1_planeOf : MethodName := ⟨RX1, "planeOf", "([IIII)J"⟩
abbrev cX1_isKnown : ByteArray := prog_3_method_12_code
def yX1_isKnown : MethodName := ⟨RX1, "isKnown", "(J)Z"⟩
abbrev cX1_enter : ByteArray := prog_3_method_13_code
def yX1_enter : MethodName := ⟨RX1, "enter", "(J)V"⟩
def RX2 : String := "GridPolygons$Cuts"
def TX2 : u_T := fun k => match k with
  | 0 => ("GridPolygons$Cuts", "mesh", "LGridPolygons$Mesh;", true)
  | 1 => ("GridPolygons$Cuts", "sets", "[J", true)
  | 2 => ("GridPolygons$Cuts", "far", "[I", true)
  | 3 => ("GridPolygons$Cuts", "places", "[I", true)
  | 4 => ("GridPolygons$Cuts", "count", "I", false)
  | 5 => ("GridPolygons$Cuts", "spent", "Z", false)
  | _ => ("GridPolygons$Cuts", "built", "I", false)
def tyX2 : Nat → FieldType := fun k => match k with
  | 0 => .object "GridPolygons$Mesh"
  | 1 => .array .long
  | 2 => .array .int
  | 3 => .array .int
  | 4 => .int
  | 5 => .boolean
  | _ => .int
abbrev wsX20 : List Cond := u_ws RX2 TX2 7
theorem nmX2 : ∀ a, a < 7 → ∀ b, b < 7 → a ≠ b → (TX2 a).2.1 ≠ (TX2 b).2.1 := by decide +kernel
theorem tyX2_ok : ∀ k, k < 7 → parseFieldDescriptor (TX2 k).2.2.1 = some (tyX2 k) := by decide +kernel
abbrev cX2_init : ByteArray := prog_4_method_1_code
def yX2_init : MethodName := ⟨RX2, "<init>", "()V"⟩
abbrev cX2_build : ByteArray := prog_4_method_2_code
def yX2_build : MethodName := ⟨RX2, "build", "(LGridPolygons$Shape;)Z"⟩
abbrev cX2_farthest : ByteArray := prog_4_method_3_code
def yX2_farthest : MethodName := ⟨RX2, "farthest", "()I"⟩
abbrev cX2_farOf : ByteArray := prog_4_method_4_code
def yX2_farOf : MethodName := ⟨RX2, "farOf", "(I)I"⟩
abbrev cX2_flipsOf : ByteArray := prog_4_method_5_code
def yX2_flipsOf : MethodName := ⟨RX2, "flipsOf", "(I)I"⟩
abbrev cX2_segmentAt : ByteArray := prog_4_method_6_code
def yX2_segmentAt : MethodName := ⟨RX2, "segmentAt", "(II)I"⟩
abbrev cX2_setOf : ByteArray := prog_4_method_7_code
def yX2_setOf : MethodName := ⟨RX2, "setOf", "(I)J"⟩
abbrev cX2_search : ByteArray := prog_4_method_8_code
def yX2_search : MethodName := ⟨RX2, "search", "()V"⟩
abbrev cX2_enter : ByteArray := prog_4_method_9_code
def yX2_enter : MethodName := ⟨RX2, "enter", "(JI)V"⟩
def RX3 : String := "GridPolygons$Hull"
def TX3 : u_T := fun k => match k with
  | 0 => ("GridPolygons$Hull", "low", "[I", true)
  | 1 => ("GridPolygons$Hull", "high", "[I", true)
  | _ => ("GridPolygons$Hull", "ring", "LGridPolygons$Ring;", true)
def tyX3 : Nat → FieldType := fun k => match k with
  | 0 => .array .int
  | 1 => .array .int
  | _ => .object "GridPolygons$Ring"
abbrev wsX30 : List Cond := u_ws RX3 TX3 3
theorem nmX3 : ∀ a, a < 3 → ∀ b, b < 3 → a ≠ b → (TX3 a).2.1 ≠ (TX3 b).2.1 := by decide +kernel
theorem tyX3_ok : ∀ k, k < 3 → parseFieldDescriptor (TX3 k).2.2.1 = some (tyX3 k) := by decide +kernel
abbrev cX3_init : ByteArray := prog_5_method_1_code
def yX3_init : MethodName := ⟨RX3, "<init>", "()V"⟩
abbrev cX3_begin : ByteArray := prog_5_method_2_code
def yX3_begin : MethodName := ⟨RX3, "begin", "()V"⟩
abbrev cX3_take : ByteArray := prog_5_method_3_code
def yX3_take : MethodName := ⟨RX3, "take", "(II)V"⟩
abbrev cX3_takeRing : ByteArray := prog_5_method_4_code
def yX3_takeRing : MethodName := ⟨RX3, "takeRing", "(LGridPolygons$Ring;)V"⟩
abbrev cX3_close : ByteArray := prog_5_method_5_code
def yX3_close : MethodName := ⟨RX3, "close", "()V"⟩
abbrev cX3_closeSum : ByteArray := prog_5_method_6_code
def yX3_closeSum : MethodName := ⟨RX3, "closeSum", "(LGridPolygons$Ring;LGridPolygons$Ring;)V"⟩
abbrev cX3_isLast : ByteArray := prog_5_method_7_code
def yX3_isLast : MethodName := ⟨RX3, "isLast", "(II)Z"⟩
abbrev cX3_push : ByteArray := prog_5_method_8_code
def yX3_push : MethodName := ⟨RX3, "push", "(III)V"⟩
abbrev cX3_turnsLeft : ByteArray := prog_5_method_9_code
def yX3_turnsLeft : MethodName := ⟨RX3, "turnsLeft", "(II)Z"⟩
def RX4 : String := "GridPolygons$LeastWidth"
def TX4 : u_T := fun k => match k with
  | 0 => ("GridPolygons$LeastWidth", "across", "I", false)
  | 1 => ("GridPolygons$LeastWidth", "a", "I", false)
  | _ => ("GridPolygons$LeastWidth", "b", "I", false)
def tyX4 : Nat → FieldType := fun k => match k with
  | 0 => .int
  | 1 => .int
  | _ => .int
abbrev wsX40 : List Cond := u_ws RX4 TX4 3
theorem nmX4 : ∀ a, a < 3 → ∀ b, b < 3 → a ≠ b → (TX4 a).2.1 ≠ (TX4 b).2.1 := by decide +kernel
theorem tyX4_ok : ∀ k, k < 3 → parseFieldDescriptor (TX4 k).2.2.1 = some (tyX4 k) := by decide +kernel
abbrev cX4_init : ByteArray := prog_6_method_1_code
def yX4_init : MethodName := ⟨RX4, "<init>", "()V"⟩
abbrev cX4_find : ByteArray := prog_6_method_2_code
def yX4_find : MethodName := ⟨RX4, "find", "(LGridPolygons$Ring;)V"⟩
abbrev cX4_weigh : ByteArray := prog_6_method_3_code
def yX4_weigh : MethodName := ⟨RX4, "weigh", "(LGridPolygons$Ring;II)V"⟩
def RX5 : String := "GridPolygons$Mesh"
def TX5 : u_T := fun k => match k with
  | 0 => ("GridPolygons$Mesh", "points", "LGridPolygons$Points;", true)
  | 1 => ("GridPolygons$Mesh", "lesser", "[I", true)
  | 2 => ("GridPolygons$Mesh", "greater", "[I", true)
  | 3 => ("GridPolygons$Mesh", "crossed", "[J", true)
  | 4 => ("GridPolygons$Mesh", "numbers", "[I", true)
  | 5 => ("GridPolygons$Mesh", "count", "I", false)
  | 6 => ("GridPolygons$Mesh", "needed", "[J", true)
  | 7 => ("GridPolygons$Mesh", "changed", "[J", true)
  | _ => ("GridPolygons$Mesh", "flipCount", "I", false)
def tyX5 : Nat → FieldType := fun k => match k with
  | 0 => .object "GridPolygons$Points"
  | 1 => .array .int
  | 2 => .array .int
  | 3 => .array .long
  | 4 => .array .int
  | 5 => .int
  | 6 => .array .long
  | 7 => .array .long
  | _ => .int
abbrev wsX50 : List Cond := u_ws RX5 TX5 9
theorem nmX5 : ∀ a, a < 9 → ∀ b, b < 9 → a ≠ b → (TX5 a).2.1 ≠ (TX5 b).2.1 := by decide +kernel
theorem tyX5_ok : ∀ k, k < 9 → parseFieldDescriptor (TX5 k).2.2.1 = some (tyX5 k) := by decide +kernel
abbrev cX5_init : ByteArray := prog_7_method_1_code
def yX5_init : MethodName := ⟨RX5, "<init>", "()V"⟩
abbrev cX5_build : ByteArray := prog_7_method_2_code
def yX5_build : MethodName := ⟨RX5, "build", "(LGridPolygons$Ring;)V"⟩
abbrev cX5_firstCut : ByteArray := prog_7_method_3_code
def yX5_firstCut : MethodName := ⟨RX5, "firstCut", "()J"⟩
abbrev cX5_flipped : ByteArray := prog_7_method_4_code
def yX5_flipped : MethodName := ⟨RX5, "flipped", "(JI)J"⟩
abbrev cX5_told : ByteArray := prog_7_method_5_code
def yX5_told : MethodName := ⟨RX5, "told", "(I)I"⟩
abbrev cX5_appendSegment : ByteArray := prog_7_method_6_code
def yX5_appendSegment : MethodName := ⟨RX5, "appendSegment", "(II)V"⟩
abbrev cX5_number : ByteArray := prog_7_method_7_code
def yX5_number : MethodName := ⟨RX5, "number", "(II)I"⟩
abbrev cX5_noteCrossed : ByteArray := prog_7_method_8_code
def yX5_noteCrossed : MethodName := ⟨RX5, "noteCrossed", "(I)V"⟩
abbrev cX5_cross : ByteArray := prog_7_method_9_code
def yX5_cross : MethodName := ⟨RX5, "cross", "(IIII)Z"⟩
abbrev cX5_noteFlips : ByteArray := prog_7_method_10_code
def yX5_noteFlips : MethodName := ⟨RX5, "noteFlips", "(I)V"⟩
abbrev cX5_noteFlip : ByteArray := prog_7_method_11_code
def yX5_noteFlip : MethodName := ⟨RX5, "noteFlip", "(IIII)V"⟩
def RX6 : String := "GridPolygons$Points"
def TX6 : u_T := fun k => match k with
  | 0 => ("GridPolygons$Row", "xs", "[I", true)
  | 1 => ("GridPolygons$Row", "ys", "[I", true)
  | _ => ("GridPolygons$Row", "count", "I", false)
def tyX6 : Nat → FieldType := fun k => match k with
  | 0 => .array .int
  | 1 => .array .int
  | _ => .int
abbrev wsX60 : List Cond := u_ws RX6 TX6 3
theorem nmX6 : ∀ a, a < 3 → ∀ b, b < 3 → a ≠ b → (TX6 a).2.1 ≠ (TX6 b).2.1 := by decide +kernel
theorem tyX6_ok : ∀ k, k < 3 → parseFieldDescriptor (TX6 k).2.2.1 = some (tyX6 k) := by decide +kernel
abbrev cX6_init : ByteArray := prog_8_method_1_code
def yX6_init : MethodName := ⟨RX6, "<init>", "(I)V"⟩
abbrev cX6_fill : ByteArray := prog_8_method_2_code
def yX6_fill : MethodName := ⟨RX6, "fill", "(LGridPolygons$Ring;)V"⟩
abbrev cX6_turn : ByteArray := prog_8_method_3_code
def yX6_turn : MethodName := ⟨RX6, "turn", "(III)I"⟩
abbrev cX6_find : ByteArray := prog_8_method_4_code
def yX6_find : MethodName := ⟨RX6, "find", "(II)I"⟩
def RX7 : String := "GridPolygons$Ring"
def TX7 : u_T := fun k => match k with
  | 0 => ("GridPolygons$Row", "xs", "[I", true)
  | 1 => ("GridPolygons$Row", "ys", "[I", true)
  | _ => ("GridPolygons$Row", "count", "I", false)
def tyX7 : Nat → FieldType := fun k => match k with
  | 0 => .array .int
  | 1 => .array .int
  | _ => .int
abbrev wsX70 : List Cond := u_ws RX7 TX7 3
theorem nmX7 : ∀ a, a < 3 → ∀ b, b < 3 → a ≠ b → (TX7 a).2.1 ≠ (TX7 b).2.1 := by decide +kernel
theorem tyX7_ok : ∀ k, k < 3 → parseFieldDescriptor (TX7 k).2.2.1 = some (tyX7 k) := by decide +kernel
abbrev cX7_init : ByteArray := prog_9_method_1_code
def yX7_init : MethodName := ⟨RX7, "<init>", "(I)V"⟩
abbrev cX7_isPolygon : ByteArray := prog_9_method_2_code
def yX7_isPolygon : MethodName := ⟨RX7, "isPolygon", "()Z"⟩
abbrev cX7_isOnGrid : ByteArray := prog_9_method_3_code
def yX7_isOnGrid : MethodName := ⟨RX7, "isOnGrid", "()Z"⟩
abbrev cX7_around : ByteArray := prog_9_method_4_code
def yX7_around : MethodName := ⟨RX7, "around", "(II)I"⟩
abbrev cX7_sideX : ByteArray := prog_9_method_5_code
def yX7_sideX : MethodName := ⟨RX7, "sideX", "(I)I"⟩
abbrev cX7_sideY : ByteArray := prog_9_method_6_code
def yX7_sideY : MethodName := ⟨RX7, "sideY", "(I)I"⟩
abbrev cX7_stepsOf : ByteArray := prog_9_method_7_code
def yX7_stepsOf : MethodName := ⟨RX7, "stepsOf", "(I)I"⟩
abbrev cX7_area : ByteArray := prog_9_method_8_code
def yX7_area : MethodName := ⟨RX7, "area", "()I"⟩
abbrev cX7_onEdge : ByteArray := prog_9_method_9_code
def yX7_onEdge : MethodName := ⟨RX7, "onEdge", "()I"⟩
abbrev cX7_inside : ByteArray := prog_9_method_10_code
def yX7_inside : MethodName := ⟨RX7, "inside", "()I"⟩
abbrev cX7_all : ByteArray := prog_9_method_11_code
def yX7_all : MethodName := ⟨RX7, "all", "()I"⟩
abbrev cX7_allTimes : ByteArray := prog_9_method_12_code
def yX7_allTimes : MethodName := ⟨RX7, "allTimes", "(I)J"⟩
abbrev cX7_insideTimes : ByteArray := prog_9_method_13_code
def yX7_insideTimes : MethodName := ⟨RX7, "insideTimes", "(I)J"⟩
abbrev cX7_leftmost : ByteArray := prog_9_method_14_code
def yX7_leftmost : MethodName := ⟨RX7, "leftmost", "()I"⟩
abbrev cX7_rightmost : ByteArray := prog_9_method_15_code
def yX7_rightmost : MethodName := ⟨RX7, "rightmost", "()I"⟩
abbrev cX7_bottom : ByteArray := prog_9_method_16_code
def yX7_bottom : MethodName := ⟨RX7, "bottom", "()I"⟩
abbrev cX7_top : ByteArray := prog_9_method_17_code
def yX7_top : MethodName := ⟨RX7, "top", "()I"⟩
abbrev cX7_lowestAt : ByteArray := prog_9_method_18_code
def yX7_lowestAt : MethodName := ⟨RX7, "lowestAt", "(I)I"⟩
abbrev cX7_highestAt : ByteArray := prog_9_method_19_code
def yX7_highestAt : MethodName := ⟨RX7, "highestAt", "(I)I"⟩
abbrev cX7_standing : ByteArray := prog_9_method_20_code
def yX7_standing : MethodName := ⟨RX7, "standing", "(II)I"⟩
abbrev cX7_coordinate : ByteArray := prog_9_method_21_code
def yX7_coordinate : MethodName := ⟨RX7, "coordinate", "(II)I"⟩
abbrev cX7_across : ByteArray := prog_9_method_22_code
def yX7_across : MethodName := ⟨RX7, "across", "(II)I"⟩
abbrev cX7_isRound : ByteArray := prog_9_method_23_code
def yX7_isRound : MethodName := ⟨RX7, "isRound", "()Z"⟩
abbrev cX7_normalA : ByteArray := prog_9_method_24_code
def yX7_normalA : MethodName := ⟨RX7, "normalA", "(I)I"⟩
abbrev cX7_normalB : ByteArray := prog_9_method_25_code
def yX7_normalB : MethodName := ⟨RX7, "normalB", "(I)I"⟩
abbrev cX7_far : ByteArray := prog_9_method_26_code
def yX7_far : MethodName := ⟨RX7, "far", "(I)I"⟩
abbrev cX7_isReflexive : ByteArray := prog_9_method_27_code
def yX7_isReflexive : MethodName := ⟨RX7, "isReflexive", "()Z"⟩
def RX8 : String := "GridPolygons$Row"
def TX8 : u_T := fun k => match k with
  | _ => ("", "", "", false)
def tyX8 : Nat → FieldType := fun k => match k with
  | _ => .int
abbrev wsX80 : List Cond := u_ws RX8 TX8 0
theorem nmX8 : ∀ a, a < 0 → ∀ b, b < 0 → a ≠ b → (TX8 a).2.1 ≠ (TX8 b).2.1 := by decide +kernel
theorem tyX8_ok : ∀ k, k < 0 → parseFieldDescriptor (TX8 k).2.2.1 = some (tyX8 k) := by decide +kernel
abbrev cX8_init : ByteArray := prog_10_method_1_code
def yX8_init : MethodName := ⟨RX8, "<init>", "(I)V"⟩
abbrev cX8_x : ByteArray := prog_10_method_2_code
def yX8_x : MethodName := ⟨RX8, "x", "(I)I"⟩
abbrev cX8_y : ByteArray := prog_10_method_3_code
def yX8_y : MethodName := ⟨RX8, "y", "(I)I"⟩
abbrev cX8_append : ByteArray := prog_10_method_4_code
def yX8_append : MethodName := ⟨RX8, "append", "(II)V"⟩
def RX9 : String := "GridPolygons$Sail"
def TX9 : u_T := fun k => match k with
  | 0 => ("GridPolygons$Sail", "count", "I", false)
  | 1 => ("GridPolygons$Sail", "x", "I", false)
  | 2 => ("GridPolygons$Sail", "y", "I", false)
  | 3 => ("GridPolygons$Sail", "bend", "I", false)
  | 4 => ("GridPolygons$Sail", "secondX", "I", false)
  | _ => ("GridPolygons$Sail", "secondY", "I", false)
def tyX9 : Nat → FieldType := fun k => match k with
  | 0 => .int
  | 1 => .int
  | 2 => .int
  | 3 => .int
  | 4 => .int
  | _ => .int
abbrev wsX90 : List Cond := u_ws RX9 TX9 6
theorem nmX9 : ∀ a, a < 6 → ∀ b, b < 6 → a ≠ b → (TX9 a).2.1 ≠ (TX9 b).2.1 := by decide +kernel
theorem tyX9_ok : ∀ k, k < 6 → parseFieldDescriptor (TX9 k).2.2.1 = some (tyX9 k) := by decide +kernel
abbrev cX9_init : ByteArray := prog_11_method_1_code
def yX9_init : MethodName := ⟨RX9, "<init>", "()V"⟩
abbrev cX9_walk : ByteArray := prog_11_method_2_code
def yX9_walk : MethodName := ⟨RX9, "walk", "(IIIII)V"⟩
abbrev cX9_findSecond : ByteArray := prog_11_method_3_code
def yX9_findSecond : MethodName := ⟨RX9, "findSecond", "(IIII)V"⟩
abbrev cX9_keep : ByteArray := prog_11_method_4_code
def yX9_keep : MethodName := ⟨RX9, "keep", "(IIII)V"⟩
def RX10 : String := "GridPolygons$Shape"
def TX10 : u_T := fun k => match k with
  | 0 => ("GridPolygons$Shape", "ring", "LGridPolygons$Ring;", true)
  | 1 => ("GridPolygons$Shape", "heights", "[I", true)
  | _ => ("GridPolygons$Shape", "stamp", "I", false)
def tyX10 : Nat → FieldType := fun k => match k with
  | 0 => .object "GridPolygons$Ring"
  | 1 => .array .int
  | _ => .int
abbrev wsX100 : List Cond := u_ws RX10 TX10 3
theorem nmX10 : ∀ a, a < 3 → ∀ b, b < 3 → a ≠ b → (TX10 a).2.1 ≠ (TX10 b).2.1 := by decide +kernel
theorem tyX10_ok : ∀ k, k < 3 → parseFieldDescriptor (TX10 k).2.2.1 = some (tyX10 k) := by decide +kernel
abbrev cX10_init : ByteArray := prog_12_method_1_code
def yX10_init : MethodName := ⟨RX10, "<init>", "()V"⟩
def RX11 : String := "GridPolygons"
def TX11 : u_T := fun k => match k with
  | 0 => ("GridPolygons", "shapes", "[LGridPolygons$Shape;", true)
  | 1 => ("GridPolygons", "hull", "LGridPolygons$Hull;", true)
  | 2 => ("GridPolygons", "narrowest", "LGridPolygons$LeastWidth;", true)
  | 3 => ("GridPolygons", "sail", "LGridPolygons$Sail;", true)
  | 4 => ("GridPolygons", "choices", "LGridPolygons$Choices;", true)
  | 5 => ("GridPolygons", "cutting", "LGridPolygons$Cuts;", true)
  | 6 => ("GridPolygons", "coarse", "LGridPolygons$Coarse;", true)
  | _ => ("GridPolygons", "stamps", "I", false)
def tyX11 : Nat → FieldType := fun k => match k with
  | 0 => .array (.object "GridPolygons$Shape")
  | 1 => .object "GridPolygons$Hull"
  | 2 => .object "GridPolygons$LeastWidth"
  | 3 => .object "GridPolygons$Sail"
  | 4 => .object "GridPolygons$Choices"
  | 5 => .object "GridPolygons$Cuts"
  | 6 => .object "GridPolygons$Coarse"
  | _ => .int
abbrev wsX110 : List Cond := u_ws RX11 TX11 8
theorem nmX11 : ∀ a, a < 8 → ∀ b, b < 8 → a ≠ b → (TX11 a).2.1 ≠ (TX11 b).2.1 := by decide +kernel
theorem tyX11_ok : ∀ k, k < 8 → parseFieldDescriptor (TX11 k).2.2.1 = some (tyX11 k) := by decide +kernel
abbrev cX11_init : ByteArray := prog_1_method_1_code
def yX11_init : MethodName := ⟨RX11, "<init>", "()V"⟩
abbrev cX11_clear : ByteArray := prog_1_method_2_code
def yX11_clear : MethodName := ⟨RX11, "clear", "(I)I"⟩
abbrev cX11_add : ByteArray := prog_1_method_3_code
def yX11_add : MethodName := ⟨RX11, "add", "(III)I"⟩
abbrev cX11_corners : ByteArray := prog_1_method_4_code
def yX11_corners : MethodName := ⟨RX11, "corners", "(I)I"⟩
abbrev cX11_corner : ByteArray := prog_1_method_5_code
def yX11_corner : MethodName := ⟨RX11, "corner", "(III)I"⟩
abbrev cX11_points : ByteArray := prog_1_method_6_code
def yX11_points : MethodName := ⟨RX11, "points", "(II)I"⟩
abbrev cX11_times : ByteArray := prog_1_method_7_code
def yX11_times : MethodName := ⟨RX11, "times", "(III)J"⟩
abbrev cX11_where : ByteArray := prog_1_method_8_code
def yX11_where : MethodName := ⟨RX11, "where", "(III)I"⟩
abbrev cX11_point : ByteArray := prog_1_method_9_code
def yX11_point : MethodName := ⟨RX11, "point", "(III)I"⟩
abbrev cX11_width : ByteArray := prog_1_method_10_code
def yX11_width : MethodName := ⟨RX11, "width", "(III)I"⟩
abbrev cX11_least : ByteArray := prog_1_method_11_code
def yX11_least : MethodName := ⟨RX11, "least", "(II)I"⟩
abbrev cX11_map : ByteArray := prog_1_method_12_code
def yX11_map : MethodName := ⟨RX11, "map", "(IIIIIIII)I"⟩
abbrev cX11_maps : ByteArray := prog_1_method_13_code
def yX11_maps : MethodName := ⟨RX11, "maps", "(II)I"⟩
abbrev cX11_alike : ByteArray := prog_1_method_14_code
def yX11_alike : MethodName := ⟨RX11, "alike", "(II)I"⟩
abbrev cX11_heaps : ByteArray := prog_1_method_15_code
def yX11_heaps : MethodName := ⟨RX11, "heaps", "()I"⟩
abbrev cX11_sum : ByteArray := prog_1_method_16_code
def yX11_sum : MethodName := ⟨RX11, "sum", "(III)I"⟩
abbrev cX11_mixed : ByteArray := prog_1_method_17_code
def yX11_mixed : MethodName := ⟨RX11, "mixed", "(II)I"⟩
abbrev cX11_parts : ByteArray := prog_1_method_18_code
def yX11_parts : MethodName := ⟨RX11, "parts", "(I)J"⟩
abbrev cX11_part : ByteArray := prog_1_method_19_code
def yX11_part : MethodName := ⟨RX11, "part", "(II)I"⟩
abbrev cX11_normal : ByteArray := prog_1_method_20_code
def yX11_normal : MethodName := ⟨RX11, "normal", "(III)I"⟩
abbrev cX11_reflexive : ByteArray := prog_1_method_21_code
def yX11_reflexive : MethodName := ⟨RX11, "reflexive", "(I)I"⟩
abbrev cX11_dual : ByteArray := prog_1_method_22_code
def yX11_dual : MethodName := ⟨RX11, "dual", "(II)I"⟩
abbrev cX11_between : ByteArray := prog_1_method_23_code
def yX11_between : MethodName := ⟨RX11, "between", "(IIII)I"⟩
abbrev cX11_ray : ByteArray := prog_1_method_24_code
def yX11_ray : MethodName := ⟨RX11, "ray", "(IIIIII)I"⟩
abbrev cX11_cuts : ByteArray := prog_1_method_25_code
def yX11_cuts : MethodName := ⟨RX11, "cuts", "(II)I"⟩
abbrev cX11_cut : ByteArray := prog_1_method_26_code
def yX11_cut : MethodName := ⟨RX11, "cut", "(III)I"⟩
abbrev cX11_flips : ByteArray := prog_1_method_27_code
def yX11_flips : MethodName := ⟨RX11, "flips", "(II)I"⟩
abbrev cX11_height : ByteArray := prog_1_method_28_code
def yX11_height : MethodName := ⟨RX11, "height", "(III)I"⟩
abbrev cX11_pieces : ByteArray := prog_1_method_29_code
def yX11_pieces : MethodName := ⟨RX11, "pieces", "(II)I"⟩
abbrev cX11_piece : ByteArray := prog_1_method_30_code
def yX11_piece : MethodName := ⟨RX11, "piece", "(III)I"⟩
abbrev cX11_shapeAt : ByteArray := prog_1_method_31_code
def yX11_shapeAt : MethodName := ⟨RX11, "shapeAt", "(I)LGridPolygons$Shape;"⟩
abbrev cX11_newStamp : ByteArray := prog_1_method_32_code
def yX11_newStamp : MethodName := ⟨RX11, "newStamp", "()I"⟩
abbrev cX11_remakeIfFits : ByteArray := prog_1_method_33_code
def yX11_remakeIfFits : MethodName := ⟨RX11, "remakeIfFits", "(LGridPolygons$Shape;)I"⟩
abbrev cX11_remake : ByteArray := prog_1_method_34_code
def yX11_remake : MethodName := ⟨RX11, "remake", "(LGridPolygons$Shape;)V"⟩
abbrev cX11_isNewHeap : ByteArray := prog_1_method_35_code
def yX11_isNewHeap : MethodName := ⟨RX11, "isNewHeap", "(I)Z"⟩
abbrev cX11_onGrid : ByteArray := prog_1_method_36_code
def yX11_onGrid : MethodName := ⟨RX11, "onGrid", "(I)Z"⟩
abbrev cX11_isWay : ByteArray := prog_1_method_37_code
def yX11_isWay : MethodName := ⟨RX11, "isWay", "(II)Z"⟩
abbrev cX11_isAngle : ByteArray := prog_1_method_38_code
def yX11_isAngle : MethodName := ⟨RX11, "isAngle", "(IIII)Z"⟩
abbrev cX11_hasAtMost : ByteArray := prog_1_method_39_code
def yX11_hasAtMost : MethodName := ⟨RX11, "hasAtMost", "(LGridPolygons$Ring;I)Z"⟩
abbrev cX11_segmentsOf : ByteArray := prog_1_method_40_code
def yX11_segmentsOf : MethodName := ⟨RX11, "segmentsOf", "(LGridPolygons$Ring;)I"⟩
abbrev cX11_gcd : ByteArray := prog_1_method_41_code
def yX11_gcd : MethodName := ⟨RX11, "gcd", "(II)I"⟩
abbrev cX11_areAlike : ByteArray := prog_1_method_42_code
def yX11_areAlike : MethodName := ⟨RX11, "areAlike", "(LGridPolygons$Ring;LGridPolygons$Ring;)Z"⟩
abbrev cX11_mapsBetween : ByteArray := prog_1_method_43_code
def yX11_mapsBetween : MethodName := ⟨RX11, "mapsBetween", "(LGridPolygons$Ring;LGridPolygons$Ring;)I"⟩
abbrev cX11_mapFits : ByteArray := prog_1_method_44_code
def yX11_mapFits : MethodName := ⟨RX11, "mapFits", "(LGridPolygons$Ring;LGridPolygons$Ring;II)Z"⟩
def RX12 : String := "GridPolygonsModel"
def TX12 : u_T := fun k => match k with
  | 0 => ("GridPolygonsModel", "many", "[I", true)
  | 1 => ("GridPolygonsModel", "cornerX", "[I", true)
  | 2 => ("GridPolygonsModel", "cornerY", "[I", true)
  | 3 => ("GridPolygonsModel", "heights", "[I", true)
  | 4 => ("GridPolygonsModel", "workX", "[I", true)
  | 5 => ("GridPolygonsModel", "workY", "[I", true)
  | 6 => ("GridPolygonsModel", "work", "I", false)
  | 7 => ("GridPolygonsModel", "hullX", "[I", true)
  | 8 => ("GridPolygonsModel", "hullY", "[I", true)
  | 9 => ("GridPolygonsModel", "hull", "I", false)
  | 10 => ("GridPolygonsModel", "allX", "[I", true)
  | 11 => ("GridPolygonsModel", "allY", "[I", true)
  | 12 => ("GridPolygonsModel", "all", "I", false)
  | 13 => ("GridPolygonsModel", "now", "[J", true)
  | 14 => ("GridPolygonsModel", "then", "[J", true)
  | 15 => ("GridPolygonsModel", "back", "[I", true)
  | 16 => ("GridPolygonsModel", "taken", "[I", true)
  | 17 => ("GridPolygonsModel", "rayX", "[I", true)
  | 18 => ("GridPolygonsModel", "rayY", "[I", true)
  | 19 => ("GridPolygonsModel", "rays", "I", false)
  | 20 => ("GridPolygonsModel", "endA", "[I", true)
  | 21 => ("GridPolygonsModel", "endB", "[I", true)
  | 22 => ("GridPolygonsModel", "segmentOf", "[I", true)
  | 23 => ("GridPolygonsModel", "segments", "I", false)
  | 24 => ("GridPolygonsModel", "cutBits", "[J", true)
  | 25 => ("GridPolygonsModel", "cutFar", "[I", true)
  | 26 => ("GridPolygonsModel", "slot", "[I", true)
  | 27 => ("GridPolygonsModel", "cuts", "I", false)
  | 28 => ("GridPolygonsModel", "isSpent", "Z", false)
  | 29 => ("GridPolygonsModel", "pieceBits", "[J", true)
  | _ => ("GridPolygonsModel", "pieces", "I", false)
def tyX12 : Nat → FieldType := fun k => match k with
  | 0 => .array .int
  | 1 => .array .int
  | 2 => .array .int
  | 3 => .array .int
  | 4 => .array .int
  | 5 => .array .int
  | 6 => .int
  | 7 => .array .int
  | 8 => .array .int
  | 9 => .int
  | 10 => .array .int
  | 11 => .array .int
  | 12 => .int
  | 13 => .array .long
  | 14 => .array .long
  | 15 => .array .int
  | 16 => .array .int
  | 17 => .array .int
  | 18 => .array .int
  | 19 => .int
  | 20 => .array .int
  | 21 => .array .int
  | 22 => .array .int
  | 23 => .int
  | 24 => .array .long
  | 25 => .array .int
  | 26 => .array .int
  | 27 => .int
  | 28 => .boolean
  | 29 => .array .long
  | _ => .int
abbrev wsX120 : List Cond := u_ws RX12 TX12 31
theorem nmX12 : ∀ a, a < 31 → ∀ b, b < 31 → a ≠ b → (TX12 a).2.1 ≠ (TX12 b).2.1 := by decide +kernel
theorem tyX12_ok : ∀ k, k < 31 → parseFieldDescriptor (TX12 k).2.2.1 = some (tyX12 k) := by decide +kernel
abbrev cX12_init : ByteArray := prog_14_method_1_code
def yX12_init : MethodName := ⟨RX12, "<init>", "()V"⟩
abbrev cX12_in : ByteArray := prog_14_method_3_code
def yX12_in : MethodName := ⟨RX12, "in", "(III)Z"⟩
abbrev cX12_isShape : ByteArray := prog_14_method_4_code
def yX12_isShape : MethodName := ⟨RX12, "isShape", "(I)Z"⟩
abbrev cX12_isPlace : ByteArray := prog_14_method_5_code
def yX12_isPlace : MethodName := ⟨RX12, "isPlace", "(II)Z"⟩
abbrev cX12_size : ByteArray := prog_14_method_6_code
def yX12_size : MethodName := ⟨RX12, "size", "(I)I"⟩
abbrev cX12_common : ByteArray := prog_14_method_7_code
def yX12_common : MethodName := ⟨RX12, "common", "(II)I"⟩
abbrev cX12_isAfter : ByteArray := prog_14_method_8_code
def yX12_isAfter : MethodName := ⟨RX12, "isAfter", "(II)Z"⟩
abbrev cX12_order : ByteArray := prog_14_method_9_code
def yX12_order : MethodName := ⟨RX12, "order", "()V"⟩
abbrev cX12_goOn : ByteArray := prog_14_method_10_code
def yX12_goOn : MethodName := ⟨RX12, "goOn", "(II)V"⟩
abbrev cX12_findHull : ByteArray := prog_14_method_11_code
def yX12_findHull : MethodName := ⟨RX12, "findHull", "()V"⟩
abbrev cX12_x : ByteArray := prog_14_method_12_code
def yX12_x : MethodName := ⟨RX12, "x", "(II)I"⟩
abbrev cX12_y : ByteArray := prog_14_method_13_code
def yX12_y : MethodName := ⟨RX12, "y", "(II)I"⟩
abbrev cX12_put : ByteArray := prog_14_method_14_code
def yX12_put : MethodName := ⟨RX12, "put", "(II)V"⟩
abbrev cX12_putShape : ByteArray := prog_14_method_15_code
def yX12_putShape : MethodName := ⟨RX12, "putShape", "(I)V"⟩
abbrev cX12_take : ByteArray := prog_14_method_16_code
def yX12_take : MethodName := ⟨RX12, "take", "(IZ)I"⟩
abbrev cX12_clear : ByteArray := prog_14_method_17_code
def yX12_clear : MethodName := ⟨RX12, "clear", "(I)I"⟩
abbrev cX12_add : ByteArray := prog_14_method_18_code
def yX12_add : MethodName := ⟨RX12, "add", "(III)I"⟩
abbrev cX12_corners : ByteArray := prog_14_method_19_code
def yX12_corners : MethodName := ⟨RX12, "corners", "(I)I"⟩
abbrev cX12_corner : ByteArray := prog_14_method_20_code
def yX12_corner : MethodName := ⟨RX12, "corner", "(III)I"⟩
abbrev cX12_isPolygon : ByteArray := prog_14_method_21_code
def yX12_isPolygon : MethodName := ⟨RX12, "isPolygon", "(I)Z"⟩
abbrev cX12_areaOf : ByteArray := prog_14_method_22_code
def yX12_areaOf : MethodName := ⟨RX12, "areaOf", "(I)I"⟩
abbrev cX12_stepsOf : ByteArray := prog_14_method_23_code
def yX12_stepsOf : MethodName := ⟨RX12, "stepsOf", "(II)I"⟩
abbrev cX12_edgeOf : ByteArray := prog_14_method_24_code
def yX12_edgeOf : MethodName := ⟨RX12, "edgeOf", "(I)I"⟩
abbrev cX12_insideOf : ByteArray := prog_14_method_25_code
def yX12_insideOf : MethodName := ⟨RX12, "insideOf", "(I)I"⟩
abbrev cX12_points : ByteArray := prog_14_method_26_code
def yX12_points : MethodName := ⟨RX12, "points", "(II)I"⟩
abbrev cX12_times : ByteArray := prog_14_method_27_code
def yX12_times : MethodName := ⟨RX12, "times", "(III)J"⟩
abbrev cX12_cross : ByteArray := prog_14_method_28_code
def yX12_cross : MethodName := ⟨RX12, "cross", "(IIII)I"⟩
abbrev cX12_whereOf : ByteArray := prog_14_method_29_code
def yX12_whereOf : MethodName := ⟨RX12, "whereOf", "(III)I"⟩
abbrev cX12_where : ByteArray := prog_14_method_30_code
def yX12_where : MethodName := ⟨RX12, "where", "(III)I"⟩
abbrev cX12_findAll : ByteArray := prog_14_method_31_code
def yX12_findAll : MethodName := ⟨RX12, "findAll", "(I)V"⟩
abbrev cX12_point : ByteArray := prog_14_method_32_code
def yX12_point : MethodName := ⟨RX12, "point", "(III)I"⟩
abbrev cX12_isWay : ByteArray := prog_14_method_33_code
def yX12_isWay : MethodName := ⟨RX12, "isWay", "(II)Z"⟩
abbrev cX12_widthOf : ByteArray := prog_14_method_34_code
def yX12_widthOf : MethodName := ⟨RX12, "widthOf", "(III)I"⟩
abbrev cX12_width : ByteArray := prog_14_method_35_code
def yX12_width : MethodName := ⟨RX12, "width", "(III)I"⟩
abbrev cX12_least : ByteArray := prog_14_method_36_code
def yX12_least : MethodName := ⟨RX12, "least", "(II)I"⟩
abbrev cX12_map : ByteArray := prog_14_method_37_code
def yX12_map : MethodName := ⟨RX12, "map", "(IIIIIIII)I"⟩
abbrev cX12_isMap : ByteArray := prog_14_method_38_code
def yX12_isMap : MethodName := ⟨RX12, "isMap", "(IIII)Z"⟩
abbrev cX12_mapsOf : ByteArray := prog_14_method_39_code
def yX12_mapsOf : MethodName := ⟨RX12, "mapsOf", "(II)I"⟩
abbrev cX12_maps : ByteArray := prog_14_method_40_code
def yX12_maps : MethodName := ⟨RX12, "maps", "(II)I"⟩
abbrev cX12_isAlike : ByteArray := prog_14_method_41_code
def yX12_isAlike : MethodName := ⟨RX12, "isAlike", "(II)Z"⟩
abbrev cX12_alike : ByteArray := prog_14_method_42_code
def yX12_alike : MethodName := ⟨RX12, "alike", "(II)I"⟩
abbrev cX12_heaps : ByteArray := prog_14_method_43_code
def yX12_heaps : MethodName := ⟨RX12, "heaps", "()I"⟩
abbrev cX12_findSum : ByteArray := prog_14_method_44_code
def yX12_findSum : MethodName := ⟨RX12, "findSum", "(II)V"⟩
abbrev cX12_sum : ByteArray := prog_14_method_45_code
def yX12_sum : MethodName := ⟨RX12, "sum", "(III)I"⟩
abbrev cX12_mixed : ByteArray := prog_14_method_46_code
def yX12_mixed : MethodName := ⟨RX12, "mixed", "(II)I"⟩
abbrev cX12_spot : ByteArray := prog_14_method_47_code
def yX12_spot : MethodName := ⟨RX12, "spot", "(II)I"⟩
abbrev cX12_stepX : ByteArray := prog_14_method_48_code
def yX12_stepX : MethodName := ⟨RX12, "stepX", "(II)I"⟩
abbrev cX12_stepY : ByteArray := prog_14_method_49_code
def yX12_stepY : MethodName := ⟨RX12, "stepY", "(II)I"⟩
abbrev cX12_parts : ByteArray := prog_14_method_50_code
def yX12_parts : MethodName := ⟨RX12, "parts", "(I)J"⟩
abbrev cX12_backAt : ByteArray := prog_14_method_51_code
def yX12_backAt : MethodName := ⟨RX12, "backAt", "(III)I"⟩
abbrev cX12_findBack : ByteArray := prog_14_method_52_code
def yX12_findBack : MethodName := ⟨RX12, "findBack", "(I)V"⟩
abbrev cX12_leastPart : ByteArray := prog_14_method_53_code
def yX12_leastPart : MethodName := ⟨RX12, "leastPart", "(I)I"⟩
abbrev cX12_part : ByteArray := prog_14_method_54_code
def yX12_part : MethodName := ⟨RX12, "part", "(II)I"⟩
abbrev cX12_normalX : ByteArray := prog_14_method_55_code
def yX12_normalX : MethodName := ⟨RX12, "normalX", "(II)I"⟩
abbrev cX12_normalY : ByteArray := prog_14_method_56_code
def yX12_normalY : MethodName := ⟨RX12, "normalY", "(II)I"⟩
abbrev cX12_farOf : ByteArray := prog_14_method_57_code
def yX12_farOf : MethodName := ⟨RX12, "farOf", "(II)I"⟩
abbrev cX12_isRound : ByteArray := prog_14_method_58_code
def yX12_isRound : MethodName := ⟨RX12, "isRound", "(I)Z"⟩
abbrev cX12_normal : ByteArray := prog_14_method_59_code
def yX12_normal : MethodName := ⟨RX12, "normal", "(III)I"⟩
abbrev cX12_isReflexive : ByteArray := prog_14_method_60_code
def yX12_isReflexive : MethodName := ⟨RX12, "isReflexive", "(I)Z"⟩
abbrev cX12_reflexive : ByteArray := prog_14_method_61_code
def yX12_reflexive : MethodName := ⟨RX12, "reflexive", "(I)I"⟩
abbrev cX12_dual : ByteArray := prog_14_method_62_code
def yX12_dual : MethodName := ⟨RX12, "dual", "(II)I"⟩
abbrev cX12_beside : ByteArray := prog_14_method_63_code
def yX12_beside : MethodName := ⟨RX12, "beside", "(II)V"⟩
abbrev cX12_findRays : ByteArray := prog_14_method_64_code
def yX12_findRays : MethodName := ⟨RX12, "findRays", "(IIII)Z"⟩
abbrev cX12_between : ByteArray := prog_14_method_65_code
def yX12_between : MethodName := ⟨RX12, "between", "(IIII)I"⟩
abbrev cX12_ray : ByteArray := prog_14_method_66_code
def yX12_ray : MethodName := ⟨RX12, "ray", "(IIIIII)I"⟩
abbrev cX12_turn : ByteArray := prog_14_method_67_code
def yX12_turn : MethodName := ⟨RX12, "turn", "(III)I"⟩
abbrev cX12_signOf : ByteArray := prog_14_method_68_code
def yX12_signOf : MethodName := ⟨RX12, "signOf", "(I)I"⟩
abbrev cX12_doCross : ByteArray := prog_14_method_69_code
def yX12_doCross : MethodName := ⟨RX12, "doCross", "(II)Z"⟩
abbrev cX12_findSegments : ByteArray := prog_14_method_70_code
def yX12_findSegments : MethodName := ⟨RX12, "findSegments", "()V"⟩
abbrev cX12_between1 : ByteArray := prog_14_method_71_code
def yX12_between1 : MethodName := ⟨RX12, "between1", "(II)I"⟩
abbrev cX12_has : ByteArray := prog_14_method_72_code
def yX12_has : MethodName := ⟨RX12, "has", "(JI)Z"⟩
abbrev cX12_firstCut : ByteArray := prog_14_method_73_code
def yX12_firstCut : MethodName := ⟨RX12, "firstCut", "()J"⟩
abbrev cX12_third : ByteArray := prog_14_method_74_code
def yX12_third : MethodName := ⟨RX12, "third", "(JII)I"⟩
abbrev cX12_flipped : ByteArray := prog_14_method_75_code
def yX12_flipped : MethodName := ⟨RX12, "flipped", "(JI)J"⟩
abbrev cX12_slotOf : ByteArray := prog_14_method_76_code
def yX12_slotOf : MethodName := ⟨RX12, "slotOf", "(J)I"⟩
abbrev cX12_findCuts : ByteArray := prog_14_method_77_code
def yX12_findCuts : MethodName := ⟨RX12, "findCuts", "(I)V"⟩
abbrev cX12_isCuttable : ByteArray := prog_14_method_78_code
def yX12_isCuttable : MethodName := ⟨RX12, "isCuttable", "(I)Z"⟩
abbrev cX12_sizeOf : ByteArray := prog_14_method_79_code
def yX12_sizeOf : MethodName := ⟨RX12, "sizeOf", "(J)I"⟩
abbrev cX12_cuts : ByteArray := prog_14_method_80_code
def yX12_cuts : MethodName := ⟨RX12, "cuts", "(II)I"⟩
abbrev cX12_cut : ByteArray := prog_14_method_81_code
def yX12_cut : MethodName := ⟨RX12, "cut", "(III)I"⟩
abbrev cX12_flips : ByteArray := prog_14_method_82_code
def yX12_flips : MethodName := ⟨RX12, "flips", "(II)I"⟩
abbrev cX12_isLifted : ByteArray := prog_14_method_83_code
def yX12_isLifted : MethodName := ⟨RX12, "isLifted", "(I)Z"⟩
abbrev cX12_height : ByteArray := prog_14_method_84_code
def yX12_height : MethodName := ⟨RX12, "height", "(III)I"⟩
abbrev cX12_planeOf : ByteArray := prog_14_method_85_code
def yX12_planeOf : MethodName := ⟨RX12, "planeOf", "(IIII)J"⟩
abbrev cX12_isAhead : ByteArray := prog_14_method_86_code
def yX12_isAhead : MethodName := ⟨RX12, "isAhead", "(JJ)Z"⟩
abbrev cX12_findPieces : ByteArray := prog_14_method_87_code
def yX12_findPieces : MethodName := ⟨RX12, "findPieces", "(I)V"⟩
abbrev cX12_bitsIn : ByteArray := prog_14_method_88_code
def yX12_bitsIn : MethodName := ⟨RX12, "bitsIn", "(J)I"⟩
abbrev cX12_bitAt : ByteArray := prog_14_method_89_code
def yX12_bitAt : MethodName := ⟨RX12, "bitAt", "(JI)I"⟩
abbrev cX12_pieces : ByteArray := prog_14_method_90_code
def yX12_pieces : MethodName := ⟨RX12, "pieces", "(II)I"⟩
abbrev cX12_piece : ByteArray := prog_14_method_91_code
def yX12_piece : MethodName := ⟨RX12, "piece", "(III)I"⟩
def RJ13 : String := "java/lang/Long"
def TJ13 : u_T := fun k => match k with
  | _ => ("", "", "", false)
def tyJ13 : Nat → FieldType := fun k => match k with
  | _ => .int
abbrev wsJ130 : List Cond := u_ws RJ13 TJ13 0
theorem nmJ13 : ∀ a, a < 0 → ∀ b, b < 0 → a ≠ b → (TJ13 a).2.1 ≠ (TJ13 b).2.1 := by decide +kernel
theorem tyJ13_ok : ∀ k, k < 0 → parseFieldDescriptor (TJ13 k).2.2.1 = some (tyJ13 k) := by decide +kernel
abbrev cJ13_bitCount_95d88 : ByteArray := prog_15_method_50_code
def yJ13_bitCount_95d88 : MethodName := ⟨RJ13, "bitCount", "(J)I"⟩
def RJ9 : String := "java/lang/Math"
def TJ9 : u_T := fun k => match k with
  | _ => ("", "", "", false)
def tyJ9 : Nat → FieldType := fun k => match k with
  | _ => .int
abbrev wsJ90 : List Cond := u_ws RJ9 TJ9 0
theorem nmJ9 : ∀ a, a < 0 → ∀ b, b < 0 → a ≠ b → (TJ9 a).2.1 ≠ (TJ9 b).2.1 := by decide +kernel
theorem tyJ9_ok : ∀ k, k < 0 → parseFieldDescriptor (TJ9 k).2.2.1 = some (tyJ9 k) := by decide +kernel
abbrev cJ9_floorDiv_7cf53 : ByteArray := prog_16_method_47_code
def yJ9_floorDiv_7cf53 : MethodName := ⟨RJ9, "floorDiv", "(II)I"⟩
abbrev cJ9_abs_0f7a4 : ByteArray := prog_16_method_59_code
def yJ9_abs_0f7a4 : MethodName := ⟨RJ9, "abs", "(I)I"⟩
abbrev cJ9_max_7cf53 : ByteArray := prog_16_method_65_code
def yJ9_max_7cf53 : MethodName := ⟨RJ9, "max", "(II)I"⟩
abbrev cJ9_min_7cf53 : ByteArray := prog_16_method_69_code
def yJ9_min_7cf53 : MethodName := ⟨RJ9, "min", "(II)I"⟩
def RJ10 : String := "java/lang/System"
def TJ10 : u_T := fun k => match k with
  | _ => ("", "", "", false)
def tyJ10 : Nat → FieldType := fun k => match k with
  | _ => .int
abbrev wsJ100 : List Cond := u_ws RJ10 TJ10 0
theorem nmJ10 : ∀ a, a < 0 → ∀ b, b < 0 → a ≠ b → (TJ10 a).2.1 ≠ (TJ10 b).2.1 := by decide +kernel
theorem tyJ10_ok : ∀ k, k < 0 → parseFieldDescriptor (TJ10 k).2.2.1 = some (tyJ10 k) := by decide +kernel
def RJ7 : String := "java/util/Arrays"
def TJ7 : u_T := fun k => match k with
  | _ => ("", "", "", false)
def tyJ7 : Nat → FieldType := fun k => match k with
  | _ => .int
abbrev wsJ70 : List Cond := u_ws RJ7 TJ7 0
theorem nmJ7 : ∀ a, a < 0 → ∀ b, b < 0 → a ≠ b → (TJ7 a).2.1 ≠ (TJ7 b).2.1 := by decide +kernel
theorem tyJ7_ok : ∀ k, k < 0 → parseFieldDescriptor (TJ7 k).2.2.1 = some (tyJ7 k) := by decide +kernel
abbrev cJ7_fill_d0a16 : ByteArray := prog_18_method_101_code
def yJ7_fill_d0a16 : MethodName := ⟨RJ7, "fill", "([JJ)V"⟩
abbrev cJ7_fill_53178 : ByteArray := prog_18_method_103_code
def yJ7_fill_53178 : MethodName := ⟨RJ7, "fill", "([II)V"⟩
def RL : String := "GridPolygonsLaw"
abbrev cL_law : ByteArray := code
def yL_law : MethodName := ⟨RL, "law", "([I)Z"⟩
/-- the words of the tables that hold on after a call -/
def lw_g : List Cond := lw_tbl.filter goodWord
theorem lw_goodin : GoodIn lw_g lw_g := fun w h => ⟨h, good_of_word (List.mem_filter.mp h).2⟩
theorem lw_gsub : ∀ w ∈ lw_g, w ∈ lw_tbl := fun _ h => (List.mem_filter.mp h).1
theorem lw_gin {w : Cond} (i : Nat) (h : lw_tbl[i]? = some w) (g : goodWord w = true) : w ∈ lw_g := List.mem_filter.mpr ⟨List.mem_of_getElem? h, g⟩
