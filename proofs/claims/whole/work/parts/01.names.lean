-- ===== PART A: goes FIRST, ahead of the names: the tables' words, and 'selects' of the private methods out of them =====
/-- a private method of a class that the tables say can be made, by its rows of tables_1 -/
def lw_okq (q : MethodName × Nat) : Prop := (q.1.cls ≠ "java/lang/invoke/MethodHandle" ∧ q.1.cls ≠ "java/lang/invoke/VarHandle") ∧ Cond.instantiable q.1.cls q.2 ∈ tables_1 ∧ Cond.privateMethod q.1 ∈ tables_1 ∧ Cond.instanceMethod q.1 ∈ tables_1
theorem lw_p0 : lw_okq (⟨"MadeTongue", "reaching", "(IIIII)I"⟩, 13) := ⟨⟨by decide +kernel, by decide +kernel⟩, List.mem_of_getElem? (i := 18) (by decide +kernel), List.mem_of_getElem? (i := 421) (by decide +kernel), List.mem_of_getElem? (i := 422) (by decide +kernel)⟩
theorem lw_p1 : lw_okq (⟨"MadeTongue", "failing", "(I)I"⟩, 13) := ⟨⟨by decide +kernel, by decide +kernel⟩, List.mem_of_getElem? (i := 18) (by decide +kernel), List.mem_of_getElem? (i := 437) (by decide +kernel), List.mem_of_getElem? (i := 438) (by decide +kernel)⟩
theorem lw_p2 : lw_okq (⟨"MadeTongue$Words", "changes", "(II)I"⟩, 11) := ⟨⟨by decide +kernel, by decide +kernel⟩, List.mem_of_getElem? (i := 26) (by decide +kernel), List.mem_of_getElem? (i := 468) (by decide +kernel), List.mem_of_getElem? (i := 469) (by decide +kernel)⟩
theorem lw_p3 : lw_okq (⟨"MadeTongue$Rules", "settle", "()V"⟩, 10) := ⟨⟨by decide +kernel, by decide +kernel⟩, List.mem_of_getElem? (i := 138) (by decide +kernel), List.mem_of_getElem? (i := 561) (by decide +kernel), List.mem_of_getElem? (i := 562) (by decide +kernel)⟩
theorem lw_p4 : lw_okq (⟨"MadeTongue$Rules", "isInForce", "(I)Z"⟩, 10) := ⟨⟨by decide +kernel, by decide +kernel⟩, List.mem_of_getElem? (i := 138) (by decide +kernel), List.mem_of_getElem? (i := 565) (by decide +kernel), List.mem_of_getElem? (i := 566) (by decide +kernel)⟩
theorem lw_p5 : lw_okq (⟨"MadeTongue", "rowRefusal", "(IIII)I"⟩, 13) := ⟨⟨by decide +kernel, by decide +kernel⟩, List.mem_of_getElem? (i := 18) (by decide +kernel), List.mem_of_getElem? (i := 603) (by decide +kernel), List.mem_of_getElem? (i := 604) (by decide +kernel)⟩
theorem lw_p6 : lw_okq (⟨"MadeTongue$Ways", "countFrom", "(I)V"⟩, 5) := ⟨⟨by decide +kernel, by decide +kernel⟩, List.mem_of_getElem? (i := 67) (by decide +kernel), List.mem_of_getElem? (i := 613) (by decide +kernel), List.mem_of_getElem? (i := 614) (by decide +kernel)⟩
theorem lw_p7 : lw_okq (⟨"MadeTongue$Ways", "restBehind", "(II)I"⟩, 5) := ⟨⟨by decide +kernel, by decide +kernel⟩, List.mem_of_getElem? (i := 67) (by decide +kernel), List.mem_of_getElem? (i := 617) (by decide +kernel), List.mem_of_getElem? (i := 618) (by decide +kernel)⟩
theorem lw_p8 : lw_okq (⟨"MadeTongue$Ways", "leastPart", "(II)I"⟩, 5) := ⟨⟨by decide +kernel, by decide +kernel⟩, List.mem_of_getElem? (i := 67) (by decide +kernel), List.mem_of_getElem? (i := 656) (by decide +kernel), List.mem_of_getElem? (i := 657) (by decide +kernel)⟩
theorem lw_p9 : lw_okq (⟨"MadeTongue$Two", "makeHeads", "()V"⟩, 8) := ⟨⟨by decide +kernel, by decide +kernel⟩, List.mem_of_getElem? (i := 89) (by decide +kernel), List.mem_of_getElem? (i := 670) (by decide +kernel), List.mem_of_getElem? (i := 671) (by decide +kernel)⟩
theorem lw_p10 : lw_okq (⟨"MadeTongue$Two", "offerHead", "(JII)V"⟩, 8) := ⟨⟨by decide +kernel, by decide +kernel⟩, List.mem_of_getElem? (i := 89) (by decide +kernel), List.mem_of_getElem? (i := 674) (by decide +kernel), List.mem_of_getElem? (i := 675) (by decide +kernel)⟩
theorem lw_p11 : lw_okq (⟨"MadeTongue$Two", "split", "(JII)V"⟩, 8) := ⟨⟨by decide +kernel, by decide +kernel⟩, List.mem_of_getElem? (i := 89) (by decide +kernel), List.mem_of_getElem? (i := 688) (by decide +kernel), List.mem_of_getElem? (i := 689) (by decide +kernel)⟩
theorem lw_p12 : lw_okq (⟨"MadeTongue$Two", "goOn", "(JIIIZII)V"⟩, 8) := ⟨⟨by decide +kernel, by decide +kernel⟩, List.mem_of_getElem? (i := 89) (by decide +kernel), List.mem_of_getElem? (i := 692) (by decide +kernel), List.mem_of_getElem? (i := 693) (by decide +kernel)⟩
theorem lw_p13 : lw_okq (⟨"MadeTongue$Two", "reach", "(JIIIZI)V"⟩, 8) := ⟨⟨by decide +kernel, by decide +kernel⟩, List.mem_of_getElem? (i := 89) (by decide +kernel), List.mem_of_getElem? (i := 701) (by decide +kernel), List.mem_of_getElem? (i := 702) (by decide +kernel)⟩
theorem lw_p14 : lw_okq (⟨"MadeTongue$Two", "sweep", "(II)V"⟩, 8) := ⟨⟨by decide +kernel, by decide +kernel⟩, List.mem_of_getElem? (i := 89) (by decide +kernel), List.mem_of_getElem? (i := 711) (by decide +kernel), List.mem_of_getElem? (i := 712) (by decide +kernel)⟩
theorem lw_p15 : lw_okq (⟨"MadeTongue$Meanings", "ask", "(III)V"⟩, 9) := ⟨⟨by decide +kernel, by decide +kernel⟩, List.mem_of_getElem? (i := 175) (by decide +kernel), List.mem_of_getElem? (i := 777) (by decide +kernel), List.mem_of_getElem? (i := 778) (by decide +kernel)⟩
def lw_privs_1 : List (MethodName × Nat) := [(⟨"MadeTongue", "reaching", "(IIIII)I"⟩, 13), (⟨"MadeTongue", "failing", "(I)I"⟩, 13), (⟨"MadeTongue$Words", "changes", "(II)I"⟩, 11), (⟨"MadeTongue$Rules", "settle", "()V"⟩, 10), (⟨"MadeTongue$Rules", "isInForce", "(I)Z"⟩, 10), (⟨"MadeTongue", "rowRefusal", "(IIII)I"⟩, 13), (⟨"MadeTongue$Ways", "countFrom", "(I)V"⟩, 5), (⟨"MadeTongue$Ways", "restBehind", "(II)I"⟩, 5), (⟨"MadeTongue$Ways", "leastPart", "(II)I"⟩, 5), (⟨"MadeTongue$Two", "makeHeads", "()V"⟩, 8), (⟨"MadeTongue$Two", "offerHead", "(JII)V"⟩, 8), (⟨"MadeTongue$Two", "split", "(JII)V"⟩, 8), (⟨"MadeTongue$Two", "goOn", "(JIIIZII)V"⟩, 8), (⟨"MadeTongue$Two", "reach", "(JIIIZI)V"⟩, 8), (⟨"MadeTongue$Two", "sweep", "(II)V"⟩, 8), (⟨"MadeTongue$Meanings", "ask", "(III)V"⟩, 9)]
theorem lw_r1 : ∀ q ∈ lw_privs_1, lw_okq q := List.forall_mem_cons.mpr ⟨lw_p0, List.forall_mem_cons.mpr ⟨lw_p1, List.forall_mem_cons.mpr ⟨lw_p2, List.forall_mem_cons.mpr ⟨lw_p3, List.forall_mem_cons.mpr ⟨lw_p4, List.forall_mem_cons.mpr ⟨lw_p5, List.forall_mem_cons.mpr ⟨lw_p6, List.forall_mem_cons.mpr ⟨lw_p7, List.forall_mem_cons.mpr ⟨lw_p8, List.forall_mem_cons.mpr ⟨lw_p9, List.forall_mem_cons.mpr ⟨lw_p10, List.forall_mem_cons.mpr ⟨lw_p11, List.forall_mem_cons.mpr ⟨lw_p12, List.forall_mem_cons.mpr ⟨lw_p13, List.forall_mem_cons.mpr ⟨lw_p14, List.forall_mem_cons.mpr ⟨lw_p15, fun _ h => absurd h List.not_mem_nil⟩⟩⟩⟩⟩⟩⟩⟩⟩⟩⟩⟩⟩⟩⟩⟩
theorem lw_p16 : lw_okq (⟨"MadeTongue$Meanings", "isAnswered", "(II)Z"⟩, 9) := ⟨⟨by decide +kernel, by decide +kernel⟩, List.mem_of_getElem? (i := 175) (by decide +kernel), List.mem_of_getElem? (i := 781) (by decide +kernel), List.mem_of_getElem? (i := 782) (by decide +kernel)⟩
theorem lw_p17 : lw_okq (⟨"MadeTongue$People", "toldBy", "(I)I"⟩, 10) := ⟨⟨by decide +kernel, by decide +kernel⟩, List.mem_of_getElem? (i := 213) (by decide +kernel), List.mem_of_getElem? (i := 904) (by decide +kernel), List.mem_of_getElem? (i := 905) (by decide +kernel)⟩
theorem lw_p18 : lw_okq (⟨"MadeTongue$People", "readOut", "(III)V"⟩, 10) := ⟨⟨by decide +kernel, by decide +kernel⟩, List.mem_of_getElem? (i := 213) (by decide +kernel), List.mem_of_getElem? (i := 908) (by decide +kernel), List.mem_of_getElem? (i := 909) (by decide +kernel)⟩
theorem lw_p19 : lw_okq (⟨"MadeTongue$People", "hear", "(II)V"⟩, 10) := ⟨⟨by decide +kernel, by decide +kernel⟩, List.mem_of_getElem? (i := 213) (by decide +kernel), List.mem_of_getElem? (i := 912) (by decide +kernel), List.mem_of_getElem? (i := 913) (by decide +kernel)⟩
theorem lw_p20 : lw_okq (⟨"MadeTongue$People", "settle", "(IIZ)I"⟩, 10) := ⟨⟨by decide +kernel, by decide +kernel⟩, List.mem_of_getElem? (i := 213) (by decide +kernel), List.mem_of_getElem? (i := 916) (by decide +kernel), List.mem_of_getElem? (i := 917) (by decide +kernel)⟩
theorem lw_p21 : lw_okq (⟨"MadeTongue$Bodies", "place", "(III)V"⟩, 11) := ⟨⟨by decide +kernel, by decide +kernel⟩, List.mem_of_getElem? (i := 250) (by decide +kernel), List.mem_of_getElem? (i := 1003) (by decide +kernel), List.mem_of_getElem? (i := 1004) (by decide +kernel)⟩
theorem lw_p22 : lw_okq (⟨"MadeTongue$Doubles", "standApart", "(LMadeTongue$Words;I)Z"⟩, 7) := ⟨⟨by decide +kernel, by decide +kernel⟩, List.mem_of_getElem? (i := 290) (by decide +kernel), List.mem_of_getElem? (i := 1047) (by decide +kernel), List.mem_of_getElem? (i := 1048) (by decide +kernel)⟩
theorem lw_p23 : lw_okq (⟨"MadeTongue$Doubles", "sideOf", "(II)I"⟩, 7) := ⟨⟨by decide +kernel, by decide +kernel⟩, List.mem_of_getElem? (i := 290) (by decide +kernel), List.mem_of_getElem? (i := 1051) (by decide +kernel), List.mem_of_getElem? (i := 1052) (by decide +kernel)⟩
theorem lw_p24 : lw_okq (⟨"MadeTongue$Doubles", "sumOf", "(I)I"⟩, 7) := ⟨⟨by decide +kernel, by decide +kernel⟩, List.mem_of_getElem? (i := 290) (by decide +kernel), List.mem_of_getElem? (i := 1059) (by decide +kernel), List.mem_of_getElem? (i := 1060) (by decide +kernel)⟩
theorem lw_p25 : lw_okq (⟨"MadeTongue$Congress", "place", "(II)V"⟩, 9) := ⟨⟨by decide +kernel, by decide +kernel⟩, List.mem_of_getElem? (i := 318) (by decide +kernel), List.mem_of_getElem? (i := 1099) (by decide +kernel), List.mem_of_getElem? (i := 1100) (by decide +kernel)⟩
theorem lw_p26 : lw_okq (⟨"MadeTongue$Congress", "keepTried", "(I)V"⟩, 9) := ⟨⟨by decide +kernel, by decide +kernel⟩, List.mem_of_getElem? (i := 318) (by decide +kernel), List.mem_of_getElem? (i := 1103) (by decide +kernel), List.mem_of_getElem? (i := 1104) (by decide +kernel)⟩
theorem lw_p27 : lw_okq (⟨"MadeTongue$Posts", "beyondEdge", "(II)I"⟩, 3) := ⟨⟨by decide +kernel, by decide +kernel⟩, List.mem_of_getElem? (i := 352) (by decide +kernel), List.mem_of_getElem? (i := 1143) (by decide +kernel), List.mem_of_getElem? (i := 1144) (by decide +kernel)⟩
theorem lw_p28 : lw_okq (⟨"MadeTongue", "toldByBlend", "(I)I"⟩, 13) := ⟨⟨by decide +kernel, by decide +kernel⟩, List.mem_of_getElem? (i := 18) (by decide +kernel), List.mem_of_getElem? (i := 1213) (by decide +kernel), List.mem_of_getElem? (i := 1214) (by decide +kernel)⟩
theorem lw_p29 : lw_okq (⟨"MadeTongue", "leave", "(I)V"⟩, 13) := ⟨⟨by decide +kernel, by decide +kernel⟩, List.mem_of_getElem? (i := 18) (by decide +kernel), List.mem_of_getElem? (i := 1217) (by decide +kernel), List.mem_of_getElem? (i := 1218) (by decide +kernel)⟩
theorem lw_p30 : lw_okq (⟨"MadeTongue", "toldByLoan", "(I)I"⟩, 13) := ⟨⟨by decide +kernel, by decide +kernel⟩, List.mem_of_getElem? (i := 18) (by decide +kernel), List.mem_of_getElem? (i := 1221) (by decide +kernel), List.mem_of_getElem? (i := 1222) (by decide +kernel)⟩
theorem lw_p31 : lw_okq (⟨"MadeTongue", "toldByRoot", "(I)I"⟩, 13) := ⟨⟨by decide +kernel, by decide +kernel⟩, List.mem_of_getElem? (i := 18) (by decide +kernel), List.mem_of_getElem? (i := 1225) (by decide +kernel), List.mem_of_getElem? (i := 1226) (by decide +kernel)⟩
def lw_privs_2 : List (MethodName × Nat) := [(⟨"MadeTongue$Meanings", "isAnswered", "(II)Z"⟩, 9), (⟨"MadeTongue$People", "toldBy", "(I)I"⟩, 10), (⟨"MadeTongue$People", "readOut", "(III)V"⟩, 10), (⟨"MadeTongue$People", "hear", "(II)V"⟩, 10), (⟨"MadeTongue$People", "settle", "(IIZ)I"⟩, 10), (⟨"MadeTongue$Bodies", "place", "(III)V"⟩, 11), (⟨"MadeTongue$Doubles", "standApart", "(LMadeTongue$Words;I)Z"⟩, 7), (⟨"MadeTongue$Doubles", "sideOf", "(II)I"⟩, 7), (⟨"MadeTongue$Doubles", "sumOf", "(I)I"⟩, 7), (⟨"MadeTongue$Congress", "place", "(II)V"⟩, 9), (⟨"MadeTongue$Congress", "keepTried", "(I)V"⟩, 9), (⟨"MadeTongue$Posts", "beyondEdge", "(II)I"⟩, 3), (⟨"MadeTongue", "toldByBlend", "(I)I"⟩, 13), (⟨"MadeTongue", "leave", "(I)V"⟩, 13), (⟨"MadeTongue", "toldByLoan", "(I)I"⟩, 13), (⟨"MadeTongue", "toldByRoot", "(I)I"⟩, 13)]
theorem lw_r2 : ∀ q ∈ lw_privs_2, lw_okq q := List.forall_mem_cons.mpr ⟨lw_p16, List.forall_mem_cons.mpr ⟨lw_p17, List.forall_mem_cons.mpr ⟨lw_p18, List.forall_mem_cons.mpr ⟨lw_p19, List.forall_mem_cons.mpr ⟨lw_p20, List.forall_mem_cons.mpr ⟨lw_p21, List.forall_mem_cons.mpr ⟨lw_p22, List.forall_mem_cons.mpr ⟨lw_p23, List.forall_mem_cons.mpr ⟨lw_p24, List.forall_mem_cons.mpr ⟨lw_p25, List.forall_mem_cons.mpr ⟨lw_p26, List.forall_mem_cons.mpr ⟨lw_p27, List.forall_mem_cons.mpr ⟨lw_p28, List.forall_mem_cons.mpr ⟨lw_p29, List.forall_mem_cons.mpr ⟨lw_p30, List.forall_mem_cons.mpr ⟨lw_p31, fun _ h => absurd h List.not_mem_nil⟩⟩⟩⟩⟩⟩⟩⟩⟩⟩⟩⟩⟩⟩⟩⟩
theorem lw_p32 : lw_okq (⟨"MadeTongueModel", "refused", "(I)I"⟩, 81) := ⟨⟨by decide +kernel, by decide +kernel⟩, List.mem_of_getElem? (i := 1261) (by decide +kernel), List.mem_of_getElem? (i := 1523) (by decide +kernel), List.mem_of_getElem? (i := 1524) (by decide +kernel)⟩
theorem lw_p33 : lw_okq (⟨"MadeTongueModel", "barred", "(IIIJ)I"⟩, 81) := ⟨⟨by decide +kernel, by decide +kernel⟩, List.mem_of_getElem? (i := 1261) (by decide +kernel), List.mem_of_getElem? (i := 1531) (by decide +kernel), List.mem_of_getElem? (i := 1532) (by decide +kernel)⟩
theorem lw_p34 : lw_okq (⟨"MadeTongueModel", "failed", "(I)I"⟩, 81) := ⟨⟨by decide +kernel, by decide +kernel⟩, List.mem_of_getElem? (i := 1261) (by decide +kernel), List.mem_of_getElem? (i := 1535) (by decide +kernel), List.mem_of_getElem? (i := 1536) (by decide +kernel)⟩
theorem lw_p35 : lw_okq (⟨"MadeTongueModel", "areLetters", "(II)Z"⟩, 81) := ⟨⟨by decide +kernel, by decide +kernel⟩, List.mem_of_getElem? (i := 1261) (by decide +kernel), List.mem_of_getElem? (i := 1543) (by decide +kernel), List.mem_of_getElem? (i := 1544) (by decide +kernel)⟩
theorem lw_p36 : lw_okq (⟨"MadeTongueModel", "isRootAt", "(III)Z"⟩, 81) := ⟨⟨by decide +kernel, by decide +kernel⟩, List.mem_of_getElem? (i := 1261) (by decide +kernel), List.mem_of_getElem? (i := 1548) (by decide +kernel), List.mem_of_getElem? (i := 1549) (by decide +kernel)⟩
theorem lw_p37 : lw_okq (⟨"MadeTongueModel", "noRoot", "(I)Z"⟩, 81) := ⟨⟨by decide +kernel, by decide +kernel⟩, List.mem_of_getElem? (i := 1261) (by decide +kernel), List.mem_of_getElem? (i := 1560) (by decide +kernel), List.mem_of_getElem? (i := 1561) (by decide +kernel)⟩
theorem lw_p38 : lw_okq (⟨"MadeTongueModel", "read", "(II)I"⟩, 81) := ⟨⟨by decide +kernel, by decide +kernel⟩, List.mem_of_getElem? (i := 1261) (by decide +kernel), List.mem_of_getElem? (i := 1571) (by decide +kernel), List.mem_of_getElem? (i := 1572) (by decide +kernel)⟩
theorem lw_p39 : lw_okq (⟨"MadeTongueModel", "areJoined", "(II)Z"⟩, 81) := ⟨⟨by decide +kernel, by decide +kernel⟩, List.mem_of_getElem? (i := 1261) (by decide +kernel), List.mem_of_getElem? (i := 1586) (by decide +kernel), List.mem_of_getElem? (i := 1587) (by decide +kernel)⟩
theorem lw_p40 : lw_okq (⟨"MadeTongueModel", "tellsOf", "(II)I"⟩, 81) := ⟨⟨by decide +kernel, by decide +kernel⟩, List.mem_of_getElem? (i := 1261) (by decide +kernel), List.mem_of_getElem? (i := 1590) (by decide +kernel), List.mem_of_getElem? (i := 1591) (by decide +kernel)⟩
theorem lw_p41 : lw_okq (⟨"MadeTongueModel", "takeRow", "(IIII)I"⟩, 81) := ⟨⟨by decide +kernel, by decide +kernel⟩, List.mem_of_getElem? (i := 1261) (by decide +kernel), List.mem_of_getElem? (i := 1602) (by decide +kernel), List.mem_of_getElem? (i := 1603) (by decide +kernel)⟩
theorem lw_p42 : lw_okq (⟨"MadeTongueModel", "layWays", "()I"⟩, 81) := ⟨⟨by decide +kernel, by decide +kernel⟩, List.mem_of_getElem? (i := 1261) (by decide +kernel), List.mem_of_getElem? (i := 1607) (by decide +kernel), List.mem_of_getElem? (i := 1608) (by decide +kernel)⟩
theorem lw_p43 : lw_okq (⟨"MadeTongueModel", "waysOn", "(II)I"⟩, 81) := ⟨⟨by decide +kernel, by decide +kernel⟩, List.mem_of_getElem? (i := 1261) (by decide +kernel), List.mem_of_getElem? (i := 1611) (by decide +kernel), List.mem_of_getElem? (i := 1612) (by decide +kernel)⟩
theorem lw_p44 : lw_okq (⟨"MadeTongueModel", "standsRoot", "(II)Z"⟩, 81) := ⟨⟨by decide +kernel, by decide +kernel⟩, List.mem_of_getElem? (i := 1261) (by decide +kernel), List.mem_of_getElem? (i := 1615) (by decide +kernel), List.mem_of_getElem? (i := 1616) (by decide +kernel)⟩
theorem lw_p45 : lw_okq (⟨"MadeTongueModel", "standsEnding", "(II)Z"⟩, 81) := ⟨⟨by decide +kernel, by decide +kernel⟩, List.mem_of_getElem? (i := 1261) (by decide +kernel), List.mem_of_getElem? (i := 1623) (by decide +kernel), List.mem_of_getElem? (i := 1624) (by decide +kernel)⟩
theorem lw_p46 : lw_okq (⟨"MadeTongueModel", "partAt", "(II)I"⟩, 81) := ⟨⟨by decide +kernel, by decide +kernel⟩, List.mem_of_getElem? (i := 1261) (by decide +kernel), List.mem_of_getElem? (i := 1632) (by decide +kernel), List.mem_of_getElem? (i := 1633) (by decide +kernel)⟩
theorem lw_p47 : lw_okq (⟨"MadeTongueModel", "layTwo", "()V"⟩, 81) := ⟨⟨by decide +kernel, by decide +kernel⟩, List.mem_of_getElem? (i := 1261) (by decide +kernel), List.mem_of_getElem? (i := 1641) (by decide +kernel), List.mem_of_getElem? (i := 1642) (by decide +kernel)⟩
def lw_privs_3 : List (MethodName × Nat) := [(⟨"MadeTongueModel", "refused", "(I)I"⟩, 81), (⟨"MadeTongueModel", "barred", "(IIIJ)I"⟩, 81), (⟨"MadeTongueModel", "failed", "(I)I"⟩, 81), (⟨"MadeTongueModel", "areLetters", "(II)Z"⟩, 81), (⟨"MadeTongueModel", "isRootAt", "(III)Z"⟩, 81), (⟨"MadeTongueModel", "noRoot", "(I)Z"⟩, 81), (⟨"MadeTongueModel", "read", "(II)I"⟩, 81), (⟨"MadeTongueModel", "areJoined", "(II)Z"⟩, 81), (⟨"MadeTongueModel", "tellsOf", "(II)I"⟩, 81), (⟨"MadeTongueModel", "takeRow", "(IIII)I"⟩, 81), (⟨"MadeTongueModel", "layWays", "()I"⟩, 81), (⟨"MadeTongueModel", "waysOn", "(II)I"⟩, 81), (⟨"MadeTongueModel", "standsRoot", "(II)Z"⟩, 81), (⟨"MadeTongueModel", "standsEnding", "(II)Z"⟩, 81), (⟨"MadeTongueModel", "partAt", "(II)I"⟩, 81), (⟨"MadeTongueModel", "layTwo", "()V"⟩, 81)]
theorem lw_r3 : ∀ q ∈ lw_privs_3, lw_okq q := List.forall_mem_cons.mpr ⟨lw_p32, List.forall_mem_cons.mpr ⟨lw_p33, List.forall_mem_cons.mpr ⟨lw_p34, List.forall_mem_cons.mpr ⟨lw_p35, List.forall_mem_cons.mpr ⟨lw_p36, List.forall_mem_cons.mpr ⟨lw_p37, List.forall_mem_cons.mpr ⟨lw_p38, List.forall_mem_cons.mpr ⟨lw_p39, List.forall_mem_cons.mpr ⟨lw_p40, List.forall_mem_cons.mpr ⟨lw_p41, List.forall_mem_cons.mpr ⟨lw_p42, List.forall_mem_cons.mpr ⟨lw_p43, List.forall_mem_cons.mpr ⟨lw_p44, List.forall_mem_cons.mpr ⟨lw_p45, List.forall_mem_cons.mpr ⟨lw_p46, List.forall_mem_cons.mpr ⟨lw_p47, fun _ h => absurd h List.not_mem_nil⟩⟩⟩⟩⟩⟩⟩⟩⟩⟩⟩⟩⟩⟩⟩⟩
theorem lw_p48 : lw_okq (⟨"MadeTongueModel", "addRoot", "(I)V"⟩, 81) := ⟨⟨by decide +kernel, by decide +kernel⟩, List.mem_of_getElem? (i := 1261) (by decide +kernel), List.mem_of_getElem? (i := 1645) (by decide +kernel), List.mem_of_getElem? (i := 1646) (by decide +kernel)⟩
theorem lw_p49 : lw_okq (⟨"MadeTongueModel", "tryRow", "()V"⟩, 81) := ⟨⟨by decide +kernel, by decide +kernel⟩, List.mem_of_getElem? (i := 1261) (by decide +kernel), List.mem_of_getElem? (i := 1649) (by decide +kernel), List.mem_of_getElem? (i := 1650) (by decide +kernel)⟩
theorem lw_p50 : lw_okq (⟨"MadeTongueModel", "isLess", "()Z"⟩, 81) := ⟨⟨by decide +kernel, by decide +kernel⟩, List.mem_of_getElem? (i := 1261) (by decide +kernel), List.mem_of_getElem? (i := 1653) (by decide +kernel), List.mem_of_getElem? (i := 1654) (by decide +kernel)⟩
theorem lw_p51 : lw_okq (⟨"MadeTongueModel", "addPart", "(II)I"⟩, 81) := ⟨⟨by decide +kernel, by decide +kernel⟩, List.mem_of_getElem? (i := 1261) (by decide +kernel), List.mem_of_getElem? (i := 1657) (by decide +kernel), List.mem_of_getElem? (i := 1658) (by decide +kernel)⟩
theorem lw_p52 : lw_okq (⟨"MadeTongueModel", "layWorld", "(I)V"⟩, 81) := ⟨⟨by decide +kernel, by decide +kernel⟩, List.mem_of_getElem? (i := 1261) (by decide +kernel), List.mem_of_getElem? (i := 1678) (by decide +kernel), List.mem_of_getElem? (i := 1679) (by decide +kernel)⟩
theorem lw_p53 : lw_okq (⟨"MadeTongueModel", "noSentence", "(I)Z"⟩, 81) := ⟨⟨by decide +kernel, by decide +kernel⟩, List.mem_of_getElem? (i := 1261) (by decide +kernel), List.mem_of_getElem? (i := 1689) (by decide +kernel), List.mem_of_getElem? (i := 1690) (by decide +kernel)⟩
theorem lw_p54 : lw_okq (⟨"MadeTongueModel", "isSo", "(II)Z"⟩, 81) := ⟨⟨by decide +kernel, by decide +kernel⟩, List.mem_of_getElem? (i := 1261) (by decide +kernel), List.mem_of_getElem? (i := 1693) (by decide +kernel), List.mem_of_getElem? (i := 1694) (by decide +kernel)⟩
theorem lw_p55 : lw_okq (⟨"MadeTongueModel", "isClause", "(II)Z"⟩, 81) := ⟨⟨by decide +kernel, by decide +kernel⟩, List.mem_of_getElem? (i := 1261) (by decide +kernel), List.mem_of_getElem? (i := 1697) (by decide +kernel), List.mem_of_getElem? (i := 1698) (by decide +kernel)⟩
theorem lw_p56 : lw_okq (⟨"MadeTongueModel", "isThing", "(III)Z"⟩, 81) := ⟨⟨by decide +kernel, by decide +kernel⟩, List.mem_of_getElem? (i := 1261) (by decide +kernel), List.mem_of_getElem? (i := 1701) (by decide +kernel), List.mem_of_getElem? (i := 1702) (by decide +kernel)⟩
theorem lw_p57 : lw_okq (⟨"MadeTongueModel", "noPerson", "(I)Z"⟩, 81) := ⟨⟨by decide +kernel, by decide +kernel⟩, List.mem_of_getElem? (i := 1261) (by decide +kernel), List.mem_of_getElem? (i := 1725) (by decide +kernel), List.mem_of_getElem? (i := 1726) (by decide +kernel)⟩
theorem lw_p58 : lw_okq (⟨"MadeTongueModel", "monthsOf", "(II)I"⟩, 81) := ⟨⟨by decide +kernel, by decide +kernel⟩, List.mem_of_getElem? (i := 1261) (by decide +kernel), List.mem_of_getElem? (i := 1729) (by decide +kernel), List.mem_of_getElem? (i := 1730) (by decide +kernel)⟩
theorem lw_p59 : lw_okq (⟨"MadeTongueModel", "takeOne", "(II)V"⟩, 81) := ⟨⟨by decide +kernel, by decide +kernel⟩, List.mem_of_getElem? (i := 1261) (by decide +kernel), List.mem_of_getElem? (i := 1733) (by decide +kernel), List.mem_of_getElem? (i := 1734) (by decide +kernel)⟩
theorem lw_p60 : lw_okq (⟨"MadeTongueModel", "takeOther", "(I)V"⟩, 81) := ⟨⟨by decide +kernel, by decide +kernel⟩, List.mem_of_getElem? (i := 1261) (by decide +kernel), List.mem_of_getElem? (i := 1737) (by decide +kernel), List.mem_of_getElem? (i := 1738) (by decide +kernel)⟩
theorem lw_p61 : lw_okq (⟨"MadeTongueModel", "apart", "()I"⟩, 81) := ⟨⟨by decide +kernel, by decide +kernel⟩, List.mem_of_getElem? (i := 1261) (by decide +kernel), List.mem_of_getElem? (i := 1741) (by decide +kernel), List.mem_of_getElem? (i := 1742) (by decide +kernel)⟩
theorem lw_p62 : lw_okq (⟨"MadeTongueModel", "arePersons", "(I)Z"⟩, 81) := ⟨⟨by decide +kernel, by decide +kernel⟩, List.mem_of_getElem? (i := 1261) (by decide +kernel), List.mem_of_getElem? (i := 1768) (by decide +kernel), List.mem_of_getElem? (i := 1769) (by decide +kernel)⟩
theorem lw_p63 : lw_okq (⟨"MadeTongueModel", "hearsOften", "(II)I"⟩, 81) := ⟨⟨by decide +kernel, by decide +kernel⟩, List.mem_of_getElem? (i := 1261) (by decide +kernel), List.mem_of_getElem? (i := 1781) (by decide +kernel), List.mem_of_getElem? (i := 1782) (by decide +kernel)⟩
def lw_privs_4 : List (MethodName × Nat) := [(⟨"MadeTongueModel", "addRoot", "(I)V"⟩, 81), (⟨"MadeTongueModel", "tryRow", "()V"⟩, 81), (⟨"MadeTongueModel", "isLess", "()Z"⟩, 81), (⟨"MadeTongueModel", "addPart", "(II)I"⟩, 81), (⟨"MadeTongueModel", "layWorld", "(I)V"⟩, 81), (⟨"MadeTongueModel", "noSentence", "(I)Z"⟩, 81), (⟨"MadeTongueModel", "isSo", "(II)Z"⟩, 81), (⟨"MadeTongueModel", "isClause", "(II)Z"⟩, 81), (⟨"MadeTongueModel", "isThing", "(III)Z"⟩, 81), (⟨"MadeTongueModel", "noPerson", "(I)Z"⟩, 81), (⟨"MadeTongueModel", "monthsOf", "(II)I"⟩, 81), (⟨"MadeTongueModel", "takeOne", "(II)V"⟩, 81), (⟨"MadeTongueModel", "takeOther", "(I)V"⟩, 81), (⟨"MadeTongueModel", "apart", "()I"⟩, 81), (⟨"MadeTongueModel", "arePersons", "(I)Z"⟩, 81), (⟨"MadeTongueModel", "hearsOften", "(II)I"⟩, 81)]
theorem lw_r4 : ∀ q ∈ lw_privs_4, lw_okq q := List.forall_mem_cons.mpr ⟨lw_p48, List.forall_mem_cons.mpr ⟨lw_p49, List.forall_mem_cons.mpr ⟨lw_p50, List.forall_mem_cons.mpr ⟨lw_p51, List.forall_mem_cons.mpr ⟨lw_p52, List.forall_mem_cons.mpr ⟨lw_p53, List.forall_mem_cons.mpr ⟨lw_p54, List.forall_mem_cons.mpr ⟨lw_p55, List.forall_mem_cons.mpr ⟨lw_p56, List.forall_mem_cons.mpr ⟨lw_p57, List.forall_mem_cons.mpr ⟨lw_p58, List.forall_mem_cons.mpr ⟨lw_p59, List.forall_mem_cons.mpr ⟨lw_p60, List.forall_mem_cons.mpr ⟨lw_p61, List.forall_mem_cons.mpr ⟨lw_p62, List.forall_mem_cons.mpr ⟨lw_p63, fun _ h => absurd h List.not_mem_nil⟩⟩⟩⟩⟩⟩⟩⟩⟩⟩⟩⟩⟩⟩⟩⟩
theorem lw_p64 : lw_okq (⟨"MadeTongueModel", "doesWrite", "(I)Z"⟩, 81) := ⟨⟨by decide +kernel, by decide +kernel⟩, List.mem_of_getElem? (i := 1261) (by decide +kernel), List.mem_of_getElem? (i := 1785) (by decide +kernel), List.mem_of_getElem? (i := 1786) (by decide +kernel)⟩
theorem lw_p65 : lw_okq (⟨"MadeTongueModel", "noBody", "(I)Z"⟩, 81) := ⟨⟨by decide +kernel, by decide +kernel⟩, List.mem_of_getElem? (i := 1261) (by decide +kernel), List.mem_of_getElem? (i := 1807) (by decide +kernel), List.mem_of_getElem? (i := 1808) (by decide +kernel)⟩
theorem lw_p66 : lw_okq (⟨"MadeTongueModel", "between", "(I)I"⟩, 81) := ⟨⟨by decide +kernel, by decide +kernel⟩, List.mem_of_getElem? (i := 1261) (by decide +kernel), List.mem_of_getElem? (i := 1831) (by decide +kernel), List.mem_of_getElem? (i := 1832) (by decide +kernel)⟩
theorem lw_p67 : lw_okq (⟨"MadeTongueModel", "mayKeep", "(I)Z"⟩, 81) := ⟨⟨by decide +kernel, by decide +kernel⟩, List.mem_of_getElem? (i := 1261) (by decide +kernel), List.mem_of_getElem? (i := 1847) (by decide +kernel), List.mem_of_getElem? (i := 1848) (by decide +kernel)⟩
theorem lw_p68 : lw_okq (⟨"MadeTongueModel", "keptOf", "(II)I"⟩, 81) := ⟨⟨by decide +kernel, by decide +kernel⟩, List.mem_of_getElem? (i := 1261) (by decide +kernel), List.mem_of_getElem? (i := 1851) (by decide +kernel), List.mem_of_getElem? (i := 1852) (by decide +kernel)⟩
theorem lw_p69 : lw_okq (⟨"MadeTongueModel", "areNear", "(II)Z"⟩, 81) := ⟨⟨by decide +kernel, by decide +kernel⟩, List.mem_of_getElem? (i := 1261) (by decide +kernel), List.mem_of_getElem? (i := 1855) (by decide +kernel), List.mem_of_getElem? (i := 1856) (by decide +kernel)⟩
theorem lw_p70 : lw_okq (⟨"MadeTongueModel", "costOf", "(I)I"⟩, 81) := ⟨⟨by decide +kernel, by decide +kernel⟩, List.mem_of_getElem? (i := 1261) (by decide +kernel), List.mem_of_getElem? (i := 1859) (by decide +kernel), List.mem_of_getElem? (i := 1860) (by decide +kernel)⟩
theorem lw_p71 : lw_okq (⟨"MadeTongueModel", "heardIn", "(I)I"⟩, 81) := ⟨⟨by decide +kernel, by decide +kernel⟩, List.mem_of_getElem? (i := 1261) (by decide +kernel), List.mem_of_getElem? (i := 1875) (by decide +kernel), List.mem_of_getElem? (i := 1876) (by decide +kernel)⟩
theorem lw_p72 : lw_okq (⟨"MadeTongueModel", "turnIn", "(II)I"⟩, 81) := ⟨⟨by decide +kernel, by decide +kernel⟩, List.mem_of_getElem? (i := 1261) (by decide +kernel), List.mem_of_getElem? (i := 1879) (by decide +kernel), List.mem_of_getElem? (i := 1880) (by decide +kernel)⟩
theorem lw_p73 : lw_okq (⟨"MadeTongueModel", "layFar", "(I)V"⟩, 81) := ⟨⟨by decide +kernel, by decide +kernel⟩, List.mem_of_getElem? (i := 1261) (by decide +kernel), List.mem_of_getElem? (i := 1899) (by decide +kernel), List.mem_of_getElem? (i := 1900) (by decide +kernel)⟩
theorem lw_p74 : lw_okq (⟨"MadeTongueModel", "noCell", "(II)I"⟩, 81) := ⟨⟨by decide +kernel, by decide +kernel⟩, List.mem_of_getElem? (i := 1261) (by decide +kernel), List.mem_of_getElem? (i := 1919) (by decide +kernel), List.mem_of_getElem? (i := 1920) (by decide +kernel)⟩
theorem lw_p75 : lw_okq (⟨"MadeTongueModel", "failedLong", "(I)J"⟩, 81) := ⟨⟨by decide +kernel, by decide +kernel⟩, List.mem_of_getElem? (i := 1261) (by decide +kernel), List.mem_of_getElem? (i := 1927) (by decide +kernel), List.mem_of_getElem? (i := 1928) (by decide +kernel)⟩
theorem lw_p76 : lw_okq (⟨"MadeTongueModel", "traced", "(I)V"⟩, 81) := ⟨⟨by decide +kernel, by decide +kernel⟩, List.mem_of_getElem? (i := 1261) (by decide +kernel), List.mem_of_getElem? (i := 1939) (by decide +kernel), List.mem_of_getElem? (i := 1940) (by decide +kernel)⟩
theorem lw_p77 : lw_okq (⟨"MadeTongueModel", "roadMany", "()I"⟩, 81) := ⟨⟨by decide +kernel, by decide +kernel⟩, List.mem_of_getElem? (i := 1261) (by decide +kernel), List.mem_of_getElem? (i := 1963) (by decide +kernel), List.mem_of_getElem? (i := 1964) (by decide +kernel)⟩
def lw_privs_5 : List (MethodName × Nat) := [(⟨"MadeTongueModel", "doesWrite", "(I)Z"⟩, 81), (⟨"MadeTongueModel", "noBody", "(I)Z"⟩, 81), (⟨"MadeTongueModel", "between", "(I)I"⟩, 81), (⟨"MadeTongueModel", "mayKeep", "(I)Z"⟩, 81), (⟨"MadeTongueModel", "keptOf", "(II)I"⟩, 81), (⟨"MadeTongueModel", "areNear", "(II)Z"⟩, 81), (⟨"MadeTongueModel", "costOf", "(I)I"⟩, 81), (⟨"MadeTongueModel", "heardIn", "(I)I"⟩, 81), (⟨"MadeTongueModel", "turnIn", "(II)I"⟩, 81), (⟨"MadeTongueModel", "layFar", "(I)V"⟩, 81), (⟨"MadeTongueModel", "noCell", "(II)I"⟩, 81), (⟨"MadeTongueModel", "failedLong", "(I)J"⟩, 81), (⟨"MadeTongueModel", "traced", "(I)V"⟩, 81), (⟨"MadeTongueModel", "roadMany", "()I"⟩, 81)]
theorem lw_r5 : ∀ q ∈ lw_privs_5, lw_okq q := List.forall_mem_cons.mpr ⟨lw_p64, List.forall_mem_cons.mpr ⟨lw_p65, List.forall_mem_cons.mpr ⟨lw_p66, List.forall_mem_cons.mpr ⟨lw_p67, List.forall_mem_cons.mpr ⟨lw_p68, List.forall_mem_cons.mpr ⟨lw_p69, List.forall_mem_cons.mpr ⟨lw_p70, List.forall_mem_cons.mpr ⟨lw_p71, List.forall_mem_cons.mpr ⟨lw_p72, List.forall_mem_cons.mpr ⟨lw_p73, List.forall_mem_cons.mpr ⟨lw_p74, List.forall_mem_cons.mpr ⟨lw_p75, List.forall_mem_cons.mpr ⟨lw_p76, List.forall_mem_cons.mpr ⟨lw_p77, fun _ h => absurd h List.not_mem_nil⟩⟩⟩⟩⟩⟩⟩⟩⟩⟩⟩⟩⟩⟩
def lw_privs : List (MethodName × Nat) := lw_privs_1 ++ (lw_privs_2 ++ (lw_privs_3 ++ (lw_privs_4 ++ (lw_privs_5))))
def lw_tbl : List Cond := k2_sels lw_privs ++ tables_1
theorem lw_privs_ok : ∀ q ∈ lw_privs, lw_okq q := by
  show ∀ q ∈ lw_privs_1 ++ (lw_privs_2 ++ (lw_privs_3 ++ (lw_privs_4 ++ (lw_privs_5)))), lw_okq q
  exact List.forall_mem_append.mpr ⟨lw_r1, List.forall_mem_append.mpr ⟨lw_r2, List.forall_mem_append.mpr ⟨lw_r3, List.forall_mem_append.mpr ⟨lw_r4, lw_r5⟩⟩⟩⟩
def RX0 : String := "MadeTongue$Bodies"
def TX0 : u_T := fun k => match k with
  | 0 => ("MadeTongue$Bodies", "members", "[I", true)
  | 1 => ("MadeTongue$Bodies", "acts", "[I", true)
  | 2 => ("MadeTongue$Bodies", "shares", "[I", true)
  | 3 => ("MadeTongue$Bodies", "overreached", "[I", true)
  | 4 => ("MadeTongue$Bodies", "written", "[I", true)
  | 5 => ("MadeTongue$Bodies", "count", "I", false)
  | 6 => ("MadeTongue$Bodies", "persons", "I", false)
  | 7 => ("MadeTongue$Bodies", "leader", "I", false)
  | 8 => ("MadeTongue$Bodies", "rival", "I", false)
  | 9 => ("MadeTongue$Bodies", "leastSet", "I", false)
  | _ => ("MadeTongue$Bodies", "leastSum", "I", false)
def tyX0 : Nat → FieldType := fun k => match k with
  | 0 => .array .int
  | 1 => .array .int
  | 2 => .array .int
  | 3 => .array .int
  | 4 => .array .int
  | 5 => .int
  | 6 => .int
  | 7 => .int
  | 8 => .int
  | 9 => .int
  | _ => .int
theorem nmX0 : ∀ a, a < 11 → ∀ b, b < 11 → a ≠ b → (TX0 a).2.1 ≠ (TX0 b).2.1 := by decide +kernel
theorem tyX0_ok : ∀ k, k < 11 → parseFieldDescriptor (TX0 k).2.2.1 = some (tyX0 k) := by decide +kernel
abbrev cX0_init : ByteArray := prog_2_method_1_code
def yX0_init : MethodName := ⟨RX0, "<init>", "()V"⟩
abbrev cX0_count : ByteArray := prog_2_method_2_code
def yX0_count : MethodName := ⟨RX0, "count", "()I"⟩
abbrev cX0_isBody : ByteArray := prog_2_method_3_code
def yX0_isBody : MethodName := ⟨RX0, "isBody", "(I)Z"⟩
abbrev cX0_areMembers : ByteArray := prog_2_method_4_code
def yX0_areMembers : MethodName := ⟨RX0, "areMembers", "(II)Z"⟩
abbrev cX0_timesBeyond : ByteArray := prog_2_method_5_code
def yX0_timesBeyond : MethodName := ⟨RX0, "timesBeyond", "(I)I"⟩
abbrev cX0_add : ByteArray := prog_2_method_6_code
def yX0_add : MethodName := ⟨RX0, "add", "(III)I"⟩
abbrev cX0_decide : ByteArray := prog_2_method_7_code
def yX0_decide : MethodName := ⟨RX0, "decide", "(III)I"⟩
abbrev cX0_inTwoOrMore : ByteArray := prog_2_method_8_code
def yX0_inTwoOrMore : MethodName := ⟨RX0, "inTwoOrMore", "()I"⟩
abbrev cX0_changeWritten : ByteArray := prog_2_method_9_code
def yX0_changeWritten : MethodName := ⟨RX0, "changeWritten", "(III)I"⟩
abbrev cX0_dividedSet : ByteArray := prog_2_method_10_code
def yX0_dividedSet : MethodName := ⟨RX0, "dividedSet", "()I"⟩
abbrev cX0_dividedSum : ByteArray := prog_2_method_11_code
def yX0_dividedSum : MethodName := ⟨RX0, "dividedSum", "()I"⟩
abbrev cX0_divide : ByteArray := prog_2_method_12_code
def yX0_divide : MethodName := ⟨RX0, "divide", "(III)V"⟩
abbrev cX0_place : ByteArray := prog_2_method_13_code
def yX0_place : MethodName := ⟨RX0, "place", "(III)V"⟩
def RX1 : String := "MadeTongue$Congress"
def TX1 : u_T := fun k => match k with
  | 0 => ("MadeTongue$Congress", "wanted", "[I", true)
  | 1 => ("MadeTongue$Congress", "tried", "[I", true)
  | 2 => ("MadeTongue$Congress", "kept", "[I", true)
  | 3 => ("MadeTongue$Congress", "hearers", "[I", true)
  | 4 => ("MadeTongue$Congress", "taken", "[I", true)
  | 5 => ("MadeTongue$Congress", "count", "I", false)
  | 6 => ("MadeTongue$Congress", "turns", "I", false)
  | 7 => ("MadeTongue$Congress", "rooms", "I", false)
  | _ => ("MadeTongue$Congress", "most", "I", false)
def tyX1 : Nat → FieldType := fun k => match k with
  | 0 => .array .int
  | 1 => .array .int
  | 2 => .array .int
  | 3 => .array .int
  | 4 => .array .int
  | 5 => .int
  | 6 => .int
  | 7 => .int
  | _ => .int
theorem nmX1 : ∀ a, a < 9 → ∀ b, b < 9 → a ≠ b → (TX1 a).2.1 ≠ (TX1 b).2.1 := by decide +kernel
theorem tyX1_ok : ∀ k, k < 9 → parseFieldDescriptor (TX1 k).2.2.1 = some (tyX1 k) := by decide +kernel
abbrev cX1_init : ByteArray := prog_3_method_1_code
def yX1_init : MethodName := ⟨RX1, "<init>", "()V"⟩
abbrev cX1_count : ByteArray := prog_3_method_2_code
def yX1_count : MethodName := ⟨RX1, "count", "()I"⟩
abbrev cX1_add : ByteArray := prog_3_method_3_code
def yX1_add : MethodName := ⟨RX1, "add", "(I)I"⟩
abbrev cX1_changeHall : ByteArray := prog_3_method_4_code
def yX1_changeHall : MethodName := ⟨RX1, "changeHall", "(II)V"⟩
abbrev cX1_heardOrNone : ByteArray := prog_3_method_5_code
def yX1_heardOrNone : MethodName := ⟨RX1, "heardOrNone", "()I"⟩
abbrev cX1_turnOrNone : ByteArray := prog_3_method_6_code
def yX1_turnOrNone : MethodName := ⟨RX1, "turnOrNone", "(I)I"⟩
abbrev cX1_arrange : ByteArray := prog_3_method_7_code
def yX1_arrange : MethodName := ⟨RX1, "arrange", "()V"⟩
abbrev cX1_place : ByteArray := prog_3_method_8_code
def yX1_place : MethodName := ⟨RX1, "place", "(II)V"⟩
abbrev cX1_keepTried : ByteArray := prog_3_method_9_code
def yX1_keepTried : MethodName := ⟨RX1, "keepTried", "(I)V"⟩
def RX2 : String := "MadeTongue$Doubles"
def TX2 : u_T := fun k => match k with
  | 0 => ("MadeTongue$Doubles", "used", "[I", true)
  | 1 => ("MadeTongue$Doubles", "pairs", "[I", true)
  | 2 => ("MadeTongue$Doubles", "sides", "[I", true)
  | 3 => ("MadeTongue$Doubles", "costs", "[I", true)
  | 4 => ("MadeTongue$Doubles", "count", "I", false)
  | 5 => ("MadeTongue$Doubles", "leastBits", "I", false)
  | _ => ("MadeTongue$Doubles", "leastSum", "I", false)
def tyX2 : Nat → FieldType := fun k => match k with
  | 0 => .array .int
  | 1 => .array .int
  | 2 => .array .int
  | 3 => .array .int
  | 4 => .int
  | 5 => .int
  | _ => .int
theorem nmX2 : ∀ a, a < 7 → ∀ b, b < 7 → a ≠ b → (TX2 a).2.1 ≠ (TX2 b).2.1 := by decide +kernel
theorem tyX2_ok : ∀ k, k < 7 → parseFieldDescriptor (TX2 k).2.2.1 = some (tyX2 k) := by decide +kernel
abbrev cX2_init : ByteArray := prog_4_method_1_code
def yX2_init : MethodName := ⟨RX2, "<init>", "()V"⟩
abbrev cX2_count : ByteArray := prog_4_method_2_code
def yX2_count : MethodName := ⟨RX2, "count", "()I"⟩
abbrev cX2_usesOf : ByteArray := prog_4_method_3_code
def yX2_usesOf : MethodName := ⟨RX2, "usesOf", "(I)I"⟩
abbrev cX2_pairOf : ByteArray := prog_4_method_4_code
def yX2_pairOf : MethodName := ⟨RX2, "pairOf", "(I)I"⟩
abbrev cX2_changeUses : ByteArray := prog_4_method_5_code
def yX2_changeUses : MethodName := ⟨RX2, "changeUses", "(II)I"⟩
abbrev cX2_add : ByteArray := prog_4_method_6_code
def yX2_add : MethodName := ⟨RX2, "add", "(II)I"⟩
abbrev cX2_keptBits : ByteArray := prog_4_method_7_code
def yX2_keptBits : MethodName := ⟨RX2, "keptBits", "()I"⟩
abbrev cX2_keptSum : ByteArray := prog_4_method_8_code
def yX2_keptSum : MethodName := ⟨RX2, "keptSum", "()I"⟩
abbrev cX2_choose : ByteArray := prog_4_method_9_code
def yX2_choose : MethodName := ⟨RX2, "choose", "(LMadeTongue$Words;LMadeTongue$People;)V"⟩
abbrev cX2_sideOf : ByteArray := prog_4_method_10_code
def yX2_sideOf : MethodName := ⟨RX2, "sideOf", "(II)I"⟩
abbrev cX2_standApart : ByteArray := prog_4_method_11_code
def yX2_standApart : MethodName := ⟨RX2, "standApart", "(LMadeTongue$Words;I)Z"⟩
abbrev cX2_sumOf : ByteArray := prog_4_method_12_code
def yX2_sumOf : MethodName := ⟨RX2, "sumOf", "(I)I"⟩
def RX3 : String := "MadeTongue$Meanings"
def TX3 : u_T := fun k => match k with
  | 0 => ("MadeTongue$Meanings", "told", "[I", true)
  | 1 => ("MadeTongue$Meanings", "taken", "[I", true)
  | 2 => ("MadeTongue$Meanings", "clauses", "[I", true)
  | 3 => ("MadeTongue$Meanings", "sizes", "[I", true)
  | 4 => ("MadeTongue$Meanings", "worlds", "[I", true)
  | 5 => ("MadeTongue$Meanings", "banned", "[I", true)
  | 6 => ("MadeTongue$Meanings", "wanted", "[I", true)
  | 7 => ("MadeTongue$Meanings", "wants", "[I", true)
  | _ => ("MadeTongue$Meanings", "sentences", "I", false)
def tyX3 : Nat → FieldType := fun k => match k with
  | 0 => .array .int
  | 1 => .array .int
  | 2 => .array .int
  | 3 => .array .int
  | 4 => .array .int
  | 5 => .array .int
  | 6 => .array .int
  | 7 => .array .int
  | _ => .int
theorem nmX3 : ∀ a, a < 9 → ∀ b, b < 9 → a ≠ b → (TX3 a).2.1 ≠ (TX3 b).2.1 := by decide +kernel
theorem tyX3_ok : ∀ k, k < 9 → parseFieldDescriptor (TX3 k).2.2.1 = some (tyX3 k) := by decide +kernel
abbrev cX3_init : ByteArray := prog_5_method_1_code
def yX3_init : MethodName := ⟨RX3, "<init>", "()V"⟩
abbrev cX3_worldOf : ByteArray := prog_5_method_2_code
def yX3_worldOf : MethodName := ⟨RX3, "worldOf", "(IIII)I"⟩
abbrev cX3_isFeatures : ByteArray := prog_5_method_3_code
def yX3_isFeatures : MethodName := ⟨RX3, "isFeatures", "(I)Z"⟩
abbrev cX3_isWorld : ByteArray := prog_5_method_4_code
def yX3_isWorld : MethodName := ⟨RX3, "isWorld", "(I)Z"⟩
abbrev cX3_areSorts : ByteArray := prog_5_method_5_code
def yX3_areSorts : MethodName := ⟨RX3, "areSorts", "(LMadeTongue$Sheets;III)Z"⟩
abbrev cX3_areRoots : ByteArray := prog_5_method_6_code
def yX3_areRoots : MethodName := ⟨RX3, "areRoots", "(LMadeTongue$Words;LMadeTongue$Sheets;III)Z"⟩
abbrev cX3_sentences : ByteArray := prog_5_method_7_code
def yX3_sentences : MethodName := ⟨RX3, "sentences", "()I"⟩
abbrev cX3_isSentence : ByteArray := prog_5_method_8_code
def yX3_isSentence : MethodName := ⟨RX3, "isSentence", "(I)Z"⟩
abbrev cX3_change : ByteArray := prog_5_method_9_code
def yX3_change : MethodName := ⟨RX3, "change", "(IIII)I"⟩
abbrev cX3_addSentence : ByteArray := prog_5_method_10_code
def yX3_addSentence : MethodName := ⟨RX3, "addSentence", "(LMadeTongue$Sheets;III)I"⟩
abbrev cX3_thingOrNone : ByteArray := prog_5_method_11_code
def yX3_thingOrNone : MethodName := ⟨RX3, "thingOrNone", "(II)I"⟩
abbrev cX3_holds : ByteArray := prog_5_method_12_code
def yX3_holds : MethodName := ⟨RX3, "holds", "(III)Z"⟩
abbrev cX3_leastDiffering : ByteArray := prog_5_method_13_code
def yX3_leastDiffering : MethodName := ⟨RX3, "leastDiffering", "(III)I"⟩
abbrev cX3_countTrue : ByteArray := prog_5_method_14_code
def yX3_countTrue : MethodName := ⟨RX3, "countTrue", "(II)I"⟩
abbrev cX3_ask : ByteArray := prog_5_method_15_code
def yX3_ask : MethodName := ⟨RX3, "ask", "(III)V"⟩
abbrev cX3_isAnswered : ByteArray := prog_5_method_16_code
def yX3_isAnswered : MethodName := ⟨RX3, "isAnswered", "(II)Z"⟩
def RX4 : String := "MadeTongue$People"
def TX4 : u_T := fun k => match k with
  | 0 => ("MadeTongue$People", "firsts", "[I", true)
  | 1 => ("MadeTongue$People", "known", "[I", true)
  | 2 => ("MadeTongue$People", "times", "[I", true)
  | 3 => ("MadeTongue$People", "latest", "[I", true)
  | 4 => ("MadeTongue$People", "writers", "[I", true)
  | 5 => ("MadeTongue$People", "readers", "[I", true)
  | 6 => ("MadeTongue$People", "count", "I", false)
  | 7 => ("MadeTongue$People", "journals", "I", false)
  | 8 => ("MadeTongue$People", "needed", "I", false)
  | _ => ("MadeTongue$People", "months", "I", false)
def tyX4 : Nat → FieldType := fun k => match k with
  | 0 => .array .int
  | 1 => .array .int
  | 2 => .array .int
  | 3 => .array .int
  | 4 => .array .int
  | 5 => .array .int
  | 6 => .int
  | 7 => .int
  | 8 => .int
  | _ => .int
theorem nmX4 : ∀ a, a < 10 → ∀ b, b < 10 → a ≠ b → (TX4 a).2.1 ≠ (TX4 b).2.1 := by decide +kernel
theorem tyX4_ok : ∀ k, k < 10 → parseFieldDescriptor (TX4 k).2.2.1 = some (tyX4 k) := by decide +kernel
abbrev cX4_init : ByteArray := prog_6_method_1_code
def yX4_init : MethodName := ⟨RX4, "<init>", "()V"⟩
abbrev cX4_count : ByteArray := prog_6_method_2_code
def yX4_count : MethodName := ⟨RX4, "count", "()I"⟩
abbrev cX4_journals : ByteArray := prog_6_method_3_code
def yX4_journals : MethodName := ⟨RX4, "journals", "()I"⟩
abbrev cX4_monthsGone : ByteArray := prog_6_method_4_code
def yX4_monthsGone : MethodName := ⟨RX4, "monthsGone", "()I"⟩
abbrev cX4_isPerson : ByteArray := prog_6_method_5_code
def yX4_isPerson : MethodName := ⟨RX4, "isPerson", "(I)Z"⟩
abbrev cX4_arePersons : ByteArray := prog_6_method_6_code
def yX4_arePersons : MethodName := ⟨RX4, "arePersons", "(I)Z"⟩
abbrev cX4_add : ByteArray := prog_6_method_7_code
def yX4_add : MethodName := ⟨RX4, "add", "(I)I"⟩
abbrev cX4_firstOf : ByteArray := prog_6_method_8_code
def yX4_firstOf : MethodName := ⟨RX4, "firstOf", "(I)I"⟩
abbrev cX4_rootsOf : ByteArray := prog_6_method_9_code
def yX4_rootsOf : MethodName := ⟨RX4, "rootsOf", "(I)I"⟩
abbrev cX4_isKnown : ByteArray := prog_6_method_10_code
def yX4_isKnown : MethodName := ⟨RX4, "isKnown", "(II)Z"⟩
abbrev cX4_timesHeard : ByteArray := prog_6_method_11_code
def yX4_timesHeard : MethodName := ⟨RX4, "timesHeard", "(II)I"⟩
abbrev cX4_knowersOf : ByteArray := prog_6_method_12_code
def yX4_knowersOf : MethodName := ⟨RX4, "knowersOf", "(I)I"⟩
abbrev cX4_change : ByteArray := prog_6_method_13_code
def yX4_change : MethodName := ⟨RX4, "change", "(IIZ)Z"⟩
abbrev cX4_monthsToCome : ByteArray := prog_6_method_14_code
def yX4_monthsToCome : MethodName := ⟨RX4, "monthsToCome", "(LMadeTongue$Words;I)I"⟩
abbrev cX4_savedBy : ByteArray := prog_6_method_15_code
def yX4_savedBy : MethodName := ⟨RX4, "savedBy", "(LMadeTongue$Words;II)I"⟩
abbrev cX4_costOf : ByteArray := prog_6_method_16_code
def yX4_costOf : MethodName := ⟨RX4, "costOf", "(LMadeTongue$Words;II)I"⟩
abbrev cX4_addJournal : ByteArray := prog_6_method_17_code
def yX4_addJournal : MethodName := ⟨RX4, "addJournal", "(II)I"⟩
abbrev cX4_changeNeed : ByteArray := prog_6_method_18_code
def yX4_changeNeed : MethodName := ⟨RX4, "changeNeed", "(I)I"⟩
abbrev cX4_passMonth : ByteArray := prog_6_method_19_code
def yX4_passMonth : MethodName := ⟨RX4, "passMonth", "(I)I"⟩
abbrev cX4_toldBy : ByteArray := prog_6_method_20_code
def yX4_toldBy : MethodName := ⟨RX4, "toldBy", "(I)I"⟩
abbrev cX4_readOut : ByteArray := prog_6_method_21_code
def yX4_readOut : MethodName := ⟨RX4, "readOut", "(III)V"⟩
abbrev cX4_hear : ByteArray := prog_6_method_22_code
def yX4_hear : MethodName := ⟨RX4, "hear", "(II)V"⟩
abbrev cX4_settle : ByteArray := prog_6_method_23_code
def yX4_settle : MethodName := ⟨RX4, "settle", "(IIZ)I"⟩
def RX5 : String := "MadeTongue$Posts"
def TX5 : u_T := fun k => match k with
  | 0 => ("MadeTongue$Posts", "next", "[I", true)
  | 1 => ("MadeTongue$Posts", "forbidding", "I", false)
  | _ => ("MadeTongue$Posts", "roads", "I", false)
def tyX5 : Nat → FieldType := fun k => match k with
  | 0 => .array .int
  | 1 => .int
  | _ => .int
theorem nmX5 : ∀ a, a < 3 → ∀ b, b < 3 → a ≠ b → (TX5 a).2.1 ≠ (TX5 b).2.1 := by decide +kernel
theorem tyX5_ok : ∀ k, k < 3 → parseFieldDescriptor (TX5 k).2.2.1 = some (tyX5 k) := by decide +kernel
abbrev cX5_init : ByteArray := prog_7_method_1_code
def yX5_init : MethodName := ⟨RX5, "<init>", "()V"⟩
abbrev cX5_isPost : ByteArray := prog_7_method_2_code
def yX5_isPost : MethodName := ⟨RX5, "isPost", "(I)Z"⟩
abbrev cX5_roads : ByteArray := prog_7_method_3_code
def yX5_roads : MethodName := ⟨RX5, "roads", "()I"⟩
abbrev cX5_change : ByteArray := prog_7_method_4_code
def yX5_change : MethodName := ⟨RX5, "change", "(IIZ)Z"⟩
abbrev cX5_changeForbidding : ByteArray := prog_7_method_5_code
def yX5_changeForbidding : MethodName := ⟨RX5, "changeForbidding", "(I)I"⟩
abbrev cX5_fewestRoads : ByteArray := prog_7_method_6_code
def yX5_fewestRoads : MethodName := ⟨RX5, "fewestRoads", "(II)I"⟩
abbrev cX5_countReached : ByteArray := prog_7_method_7_code
def yX5_countReached : MethodName := ⟨RX5, "countReached", "(I)I"⟩
abbrev cX5_beyondEdge : ByteArray := prog_7_method_8_code
def yX5_beyondEdge : MethodName := ⟨RX5, "beyondEdge", "(II)I"⟩
def RX6 : String := "MadeTongue$Rules"
def TX6 : u_T := fun k => match k with
  | 0 => ("MadeTongue$Rules", "clauses", "[I", true)
  | 1 => ("MadeTongue$Rules", "sizes", "[I", true)
  | 2 => ("MadeTongue$Rules", "clubs", "[I", true)
  | 3 => ("MadeTongue$Rules", "from", "[I", true)
  | 4 => ("MadeTongue$Rules", "to", "[I", true)
  | 5 => ("MadeTongue$Rules", "tellers", "[I", true)
  | 6 => ("MadeTongue$Rules", "count", "I", false)
  | 7 => ("MadeTongue$Rules", "club", "I", false)
  | 8 => ("MadeTongue$Rules", "year", "I", false)
  | _ => ("MadeTongue$Rules", "joined", "I", false)
def tyX6 : Nat → FieldType := fun k => match k with
  | 0 => .array .int
  | 1 => .array .int
  | 2 => .array .int
  | 3 => .array .int
  | 4 => .array .int
  | 5 => .array .int
  | 6 => .int
  | 7 => .int
  | 8 => .int
  | _ => .int
theorem nmX6 : ∀ a, a < 10 → ∀ b, b < 10 → a ≠ b → (TX6 a).2.1 ≠ (TX6 b).2.1 := by decide +kernel
theorem tyX6_ok : ∀ k, k < 10 → parseFieldDescriptor (TX6 k).2.2.1 = some (tyX6 k) := by decide +kernel
abbrev cX6_init : ByteArray := prog_8_method_1_code
def yX6_init : MethodName := ⟨RX6, "<init>", "()V"⟩
abbrev cX6_areJoined : ByteArray := prog_8_method_2_code
def yX6_areJoined : MethodName := ⟨RX6, "areJoined", "(III)Z"⟩
abbrev cX6_count : ByteArray := prog_8_method_3_code
def yX6_count : MethodName := ⟨RX6, "count", "()I"⟩
abbrev cX6_isFull : ByteArray := prog_8_method_4_code
def yX6_isFull : MethodName := ⟨RX6, "isFull", "()Z"⟩
abbrev cX6_joined : ByteArray := prog_8_method_5_code
def yX6_joined : MethodName := ⟨RX6, "joined", "()I"⟩
abbrev cX6_tellerOf : ByteArray := prog_8_method_6_code
def yX6_tellerOf : MethodName := ⟨RX6, "tellerOf", "(II)I"⟩
abbrev cX6_moveTo : ByteArray := prog_8_method_7_code
def yX6_moveTo : MethodName := ⟨RX6, "moveTo", "(II)Z"⟩
abbrev cX6_firstFault : ByteArray := prog_8_method_8_code
def yX6_firstFault : MethodName := ⟨RX6, "firstFault", "(LMadeTongue$Sheets;III)I"⟩
abbrev cX6_stateAfter : ByteArray := prog_8_method_9_code
def yX6_stateAfter : MethodName := ⟨RX6, "stateAfter", "(II)I"⟩
abbrev cX6_classOf : ByteArray := prog_8_method_10_code
def yX6_classOf : MethodName := ⟨RX6, "classOf", "(I)I"⟩
abbrev cX6_addRead : ByteArray := prog_8_method_11_code
def yX6_addRead : MethodName := ⟨RX6, "addRead", "(III)I"⟩
abbrev cX6_isInForce : ByteArray := prog_8_method_12_code
def yX6_isInForce : MethodName := ⟨RX6, "isInForce", "(I)Z"⟩
abbrev cX6_settle : ByteArray := prog_8_method_13_code
def yX6_settle : MethodName := ⟨RX6, "settle", "()V"⟩
def RX7 : String := "MadeTongue$Sheets"
def TX7 : u_T := fun k => match k with
  | 0 => ("MadeTongue$Sheets", "cells", "[I", true)
  | 1 => ("MadeTongue$Sheets", "lanes", "[I", true)
  | _ => ("MadeTongue$Sheets", "lengths", "[I", true)
def tyX7 : Nat → FieldType := fun k => match k with
  | 0 => .array .int
  | 1 => .array .int
  | _ => .array .int
theorem nmX7 : ∀ a, a < 3 → ∀ b, b < 3 → a ≠ b → (TX7 a).2.1 ≠ (TX7 b).2.1 := by decide +kernel
theorem tyX7_ok : ∀ k, k < 3 → parseFieldDescriptor (TX7 k).2.2.1 = some (tyX7 k) := by decide +kernel
abbrev cX7_init : ByteArray := prog_9_method_1_code
def yX7_init : MethodName := ⟨RX7, "<init>", "()V"⟩
abbrev cX7_isSheet : ByteArray := prog_9_method_2_code
def yX7_isSheet : MethodName := ⟨RX7, "isSheet", "(I)Z"⟩
abbrev cX7_isLane : ByteArray := prog_9_method_3_code
def yX7_isLane : MethodName := ⟨RX7, "isLane", "(I)Z"⟩
abbrev cX7_isNothing : ByteArray := prog_9_method_4_code
def yX7_isNothing : MethodName := ⟨RX7, "isNothing", "(I)Z"⟩
abbrev cX7_isCell : ByteArray := prog_9_method_5_code
def yX7_isCell : MethodName := ⟨RX7, "isCell", "(II)Z"⟩
abbrev cX7_isRange : ByteArray := prog_9_method_6_code
def yX7_isRange : MethodName := ⟨RX7, "isRange", "(III)Z"⟩
abbrev cX7_laneOf : ByteArray := prog_9_method_7_code
def yX7_laneOf : MethodName := ⟨RX7, "laneOf", "(I)I"⟩
abbrev cX7_at : ByteArray := prog_9_method_8_code
def yX7_at : MethodName := ⟨RX7, "at", "(II)I"⟩
abbrev cX7_lay : ByteArray := prog_9_method_9_code
def yX7_lay : MethodName := ⟨RX7, "lay", "(III)V"⟩
abbrev cX7_strip : ByteArray := prog_9_method_10_code
def yX7_strip : MethodName := ⟨RX7, "strip", "(I)Z"⟩
abbrev cX7_write : ByteArray := prog_9_method_11_code
def yX7_write : MethodName := ⟨RX7, "write", "(III)V"⟩
abbrev cX7_cut : ByteArray := prog_9_method_12_code
def yX7_cut : MethodName := ⟨RX7, "cut", "(II)I"⟩
abbrev cX7_move : ByteArray := prog_9_method_13_code
def yX7_move : MethodName := ⟨RX7, "move", "(IIIII)V"⟩
abbrev cX7_reach : ByteArray := prog_9_method_14_code
def yX7_reach : MethodName := ⟨RX7, "reach", "(IIIII)I"⟩
abbrev cX7_areLetters : ByteArray := prog_9_method_15_code
def yX7_areLetters : MethodName := ⟨RX7, "areLetters", "(III)Z"⟩
abbrev cX7_codeOf : ByteArray := prog_9_method_16_code
def yX7_codeOf : MethodName := ⟨RX7, "codeOf", "(III)I"⟩
def RX8 : String := "MadeTongue$Two"
def TX8 : u_T := fun k => match k with
  | 0 => ("MadeTongue$Two", "words", "LMadeTongue$Words;", true)
  | 1 => ("MadeTongue$Two", "heads", "[J", true)
  | 2 => ("MadeTongue$Two", "reached", "[J", true)
  | 3 => ("MadeTongue$Two", "joined", "I", false)
  | 4 => ("MadeTongue$Two", "farthest", "J", false)
  | 5 => ("MadeTongue$Two", "least", "J", false)
  | 6 => ("MadeTongue$Two", "rootsSeen", "I", false)
  | _ => ("MadeTongue$Two", "endingsSeen", "I", false)
def tyX8 : Nat → FieldType := fun k => match k with
  | 0 => .object "MadeTongue$Words"
  | 1 => .array .long
  | 2 => .array .long
  | 3 => .int
  | 4 => .long
  | 5 => .long
  | 6 => .int
  | _ => .int
theorem nmX8 : ∀ a, a < 8 → ∀ b, b < 8 → a ≠ b → (TX8 a).2.1 ≠ (TX8 b).2.1 := by decide +kernel
theorem tyX8_ok : ∀ k, k < 8 → parseFieldDescriptor (TX8 k).2.2.1 = some (tyX8 k) := by decide +kernel
abbrev cX8_init : ByteArray := prog_10_method_1_code
def yX8_init : MethodName := ⟨RX8, "<init>", "(LMadeTongue$Words;)V"⟩
abbrev cX8_lettersOrNone : ByteArray := prog_10_method_2_code
def yX8_lettersOrNone : MethodName := ⟨RX8, "lettersOrNone", "()I"⟩
abbrev cX8_letterOrNone : ByteArray := prog_10_method_3_code
def yX8_letterOrNone : MethodName := ⟨RX8, "letterOrNone", "(I)I"⟩
abbrev cX8_lettersOf : ByteArray := prog_10_method_4_code
def yX8_lettersOf : MethodName := ⟨RX8, "lettersOf", "(J)I"⟩
abbrev cX8_lookUnder : ByteArray := prog_10_method_5_code
def yX8_lookUnder : MethodName := ⟨RX8, "lookUnder", "(I)V"⟩
abbrev cX8_makeHeads : ByteArray := prog_10_method_6_code
def yX8_makeHeads : MethodName := ⟨RX8, "makeHeads", "()V"⟩
abbrev cX8_offerHead : ByteArray := prog_10_method_7_code
def yX8_offerHead : MethodName := ⟨RX8, "offerHead", "(JII)V"⟩
abbrev cX8_rowWith : ByteArray := prog_10_method_8_code
def yX8_rowWith : MethodName := ⟨RX8, "rowWith", "(JII)J"⟩
abbrev cX8_split : ByteArray := prog_10_method_9_code
def yX8_split : MethodName := ⟨RX8, "split", "(JII)V"⟩
abbrev cX8_sweep : ByteArray := prog_10_method_10_code
def yX8_sweep : MethodName := ⟨RX8, "sweep", "(II)V"⟩
abbrev cX8_goOn : ByteArray := prog_10_method_11_code
def yX8_goOn : MethodName := ⟨RX8, "goOn", "(JIIIZII)V"⟩
abbrev cX8_reach : ByteArray := prog_10_method_12_code
def yX8_reach : MethodName := ⟨RX8, "reach", "(JIIIZI)V"⟩
def RX9 : String := "MadeTongue$Ways"
def TX9 : u_T := fun k => match k with
  | 0 => ("MadeTongue$Ways", "words", "LMadeTongue$Words;", true)
  | 1 => ("MadeTongue$Ways", "ahead", "[I", true)
  | 2 => ("MadeTongue$Ways", "rest", "[I", true)
  | 3 => ("MadeTongue$Ways", "length", "I", false)
  | _ => ("MadeTongue$Ways", "joined", "I", false)
def tyX9 : Nat → FieldType := fun k => match k with
  | 0 => .object "MadeTongue$Words"
  | 1 => .array .int
  | 2 => .array .int
  | 3 => .int
  | _ => .int
theorem nmX9 : ∀ a, a < 5 → ∀ b, b < 5 → a ≠ b → (TX9 a).2.1 ≠ (TX9 b).2.1 := by decide +kernel
theorem tyX9_ok : ∀ k, k < 5 → parseFieldDescriptor (TX9 k).2.2.1 = some (tyX9 k) := by decide +kernel
abbrev cX9_init : ByteArray := prog_11_method_1_code
def yX9_init : MethodName := ⟨RX9, "<init>", "(LMadeTongue$Words;)V"⟩
abbrev cX9_read : ByteArray := prog_11_method_2_code
def yX9_read : MethodName := ⟨RX9, "read", "(LMadeTongue$Sheets;IIII)V"⟩
abbrev cX9_countFrom : ByteArray := prog_11_method_3_code
def yX9_countFrom : MethodName := ⟨RX9, "countFrom", "(I)V"⟩
abbrev cX9_restBehind : ByteArray := prog_11_method_4_code
def yX9_restBehind : MethodName := ⟨RX9, "restBehind", "(II)I"⟩
abbrev cX9_countAll : ByteArray := prog_11_method_5_code
def yX9_countAll : MethodName := ⟨RX9, "countAll", "()I"⟩
abbrev cX9_firstWayAt : ByteArray := prog_11_method_6_code
def yX9_firstWayAt : MethodName := ⟨RX9, "firstWayAt", "(I)I"⟩
abbrev cX9_leastPart : ByteArray := prog_11_method_7_code
def yX9_leastPart : MethodName := ⟨RX9, "leastPart", "(II)I"⟩
def RX10 : String := "MadeTongue$Words"
def TX10 : u_T := fun k => match k with
  | 0 => ("MadeTongue$Words", "kinds", "[I", true)
  | 1 => ("MadeTongue$Words", "codes", "[I", true)
  | 2 => ("MadeTongue$Words", "sizes", "[I", true)
  | 3 => ("MadeTongue$Words", "before", "[I", true)
  | 4 => ("MadeTongue$Words", "after", "[I", true)
  | 5 => ("MadeTongue$Words", "near", "[I", true)
  | 6 => ("MadeTongue$Words", "abroad", "[I", true)
  | 7 => ("MadeTongue$Words", "months", "[I", true)
  | 8 => ("MadeTongue$Words", "counted", "[I", true)
  | 9 => ("MadeTongue$Words", "roots", "I", false)
  | _ => ("MadeTongue$Words", "endings", "I", false)
def tyX10 : Nat → FieldType := fun k => match k with
  | 0 => .array .int
  | 1 => .array .int
  | 2 => .array .int
  | 3 => .array .int
  | 4 => .array .int
  | 5 => .array .int
  | 6 => .array .int
  | 7 => .array .int
  | 8 => .array .int
  | 9 => .int
  | _ => .int
theorem nmX10 : ∀ a, a < 11 → ∀ b, b < 11 → a ≠ b → (TX10 a).2.1 ≠ (TX10 b).2.1 := by decide +kernel
theorem tyX10_ok : ∀ k, k < 11 → parseFieldDescriptor (TX10 k).2.2.1 = some (tyX10 k) := by decide +kernel
abbrev cX10_init : ByteArray := prog_12_method_1_code
def yX10_init : MethodName := ⟨RX10, "<init>", "()V"⟩
abbrev cX10_isTongue : ByteArray := prog_12_method_2_code
def yX10_isTongue : MethodName := ⟨RX10, "isTongue", "(I)Z"⟩
abbrev cX10_shiftOf : ByteArray := prog_12_method_3_code
def yX10_shiftOf : MethodName := ⟨RX10, "shiftOf", "(I)I"⟩
abbrev cX10_letterAt : ByteArray := prog_12_method_4_code
def yX10_letterAt : MethodName := ⟨RX10, "letterAt", "(II)I"⟩
abbrev cX10_maskOf : ByteArray := prog_12_method_5_code
def yX10_maskOf : MethodName := ⟨RX10, "maskOf", "(I)I"⟩
abbrev cX10_lengthOf : ByteArray := prog_12_method_6_code
def yX10_lengthOf : MethodName := ⟨RX10, "lengthOf", "(I)I"⟩
abbrev cX10_behind : ByteArray := prog_12_method_7_code
def yX10_behind : MethodName := ⟨RX10, "behind", "(II)I"⟩
abbrev cX10_roots : ByteArray := prog_12_method_8_code
def yX10_roots : MethodName := ⟨RX10, "roots", "()I"⟩
abbrev cX10_endings : ByteArray := prog_12_method_9_code
def yX10_endings : MethodName := ⟨RX10, "endings", "()I"⟩
abbrev cX10_isRoot : ByteArray := prog_12_method_10_code
def yX10_isRoot : MethodName := ⟨RX10, "isRoot", "(I)Z"⟩
abbrev cX10_isThere : ByteArray := prog_12_method_11_code
def yX10_isThere : MethodName := ⟨RX10, "isThere", "(I)Z"⟩
abbrev cX10_kindOf : ByteArray := prog_12_method_12_code
def yX10_kindOf : MethodName := ⟨RX10, "kindOf", "(I)I"⟩
abbrev cX10_codeOf : ByteArray := prog_12_method_13_code
def yX10_codeOf : MethodName := ⟨RX10, "codeOf", "(I)I"⟩
abbrev cX10_sizeOf : ByteArray := prog_12_method_14_code
def yX10_sizeOf : MethodName := ⟨RX10, "sizeOf", "(I)I"⟩
abbrev cX10_classAfter : ByteArray := prog_12_method_15_code
def yX10_classAfter : MethodName := ⟨RX10, "classAfter", "(I)I"⟩
abbrev cX10_nearTo : ByteArray := prog_12_method_16_code
def yX10_nearTo : MethodName := ⟨RX10, "nearTo", "(I)I"⟩
abbrev cX10_hasRootOf : ByteArray := prog_12_method_17_code
def yX10_hasRootOf : MethodName := ⟨RX10, "hasRootOf", "(I)Z"⟩
abbrev cX10_addRoot : ByteArray := prog_12_method_18_code
def yX10_addRoot : MethodName := ⟨RX10, "addRoot", "(IIII)I"⟩
abbrev cX10_addEnding : ByteArray := prog_12_method_19_code
def yX10_addEnding : MethodName := ⟨RX10, "addEnding", "(IIII)I"⟩
abbrev cX10_follows : ByteArray := prog_12_method_20_code
def yX10_follows : MethodName := ⟨RX10, "follows", "(III)Z"⟩
abbrev cX10_begins : ByteArray := prog_12_method_21_code
def yX10_begins : MethodName := ⟨RX10, "begins", "(II)Z"⟩
abbrev cX10_changeAbroad : ByteArray := prog_12_method_22_code
def yX10_changeAbroad : MethodName := ⟨RX10, "changeAbroad", "(III)V"⟩
abbrev cX10_monthsFrom : ByteArray := prog_12_method_23_code
def yX10_monthsFrom : MethodName := ⟨RX10, "monthsFrom", "(II)I"⟩
abbrev cX10_monthsTo : ByteArray := prog_12_method_24_code
def yX10_monthsTo : MethodName := ⟨RX10, "monthsTo", "(III)I"⟩
abbrev cX10_changes : ByteArray := prog_12_method_25_code
def yX10_changes : MethodName := ⟨RX10, "changes", "(II)I"⟩
def RX11 : String := "MadeTongue"
def TX11 : u_T := fun k => match k with
  | 0 => ("MadeTongue", "sheets", "LMadeTongue$Sheets;", true)
  | 1 => ("MadeTongue", "words", "LMadeTongue$Words;", true)
  | 2 => ("MadeTongue", "rules", "LMadeTongue$Rules;", true)
  | 3 => ("MadeTongue", "rows", "LMadeTongue$Ways;", true)
  | 4 => ("MadeTongue", "twins", "LMadeTongue$Two;", true)
  | 5 => ("MadeTongue", "meanings", "LMadeTongue$Meanings;", true)
  | 6 => ("MadeTongue", "people", "LMadeTongue$People;", true)
  | 7 => ("MadeTongue", "bodies", "LMadeTongue$Bodies;", true)
  | 8 => ("MadeTongue", "doubles", "LMadeTongue$Doubles;", true)
  | 9 => ("MadeTongue", "congress", "LMadeTongue$Congress;", true)
  | 10 => ("MadeTongue", "posts", "LMadeTongue$Posts;", true)
  | 11 => ("MadeTongue", "latestFault", "I", false)
  | _ => ("MadeTongue", "traced", "I", false)
def tyX11 : Nat → FieldType := fun k => match k with
  | 0 => .object "MadeTongue$Sheets"
  | 1 => .object "MadeTongue$Words"
  | 2 => .object "MadeTongue$Rules"
  | 3 => .object "MadeTongue$Ways"
  | 4 => .object "MadeTongue$Two"
  | 5 => .object "MadeTongue$Meanings"
  | 6 => .object "MadeTongue$People"
  | 7 => .object "MadeTongue$Bodies"
  | 8 => .object "MadeTongue$Doubles"
  | 9 => .object "MadeTongue$Congress"
  | 10 => .object "MadeTongue$Posts"
  | 11 => .int
  | _ => .int
theorem nmX11 : ∀ a, a < 13 → ∀ b, b < 13 → a ≠ b → (TX11 a).2.1 ≠ (TX11 b).2.1 := by decide +kernel
theorem tyX11_ok : ∀ k, k < 13 → parseFieldDescriptor (TX11 k).2.2.1 = some (tyX11 k) := by decide +kernel
abbrev cX11_init : ByteArray := prog_1_method_1_code
def yX11_init : MethodName := ⟨RX11, "<init>", "()V"⟩
abbrev cX11_root : ByteArray := prog_1_method_2_code
def yX11_root : MethodName := ⟨RX11, "root", "(IIIIII)I"⟩
abbrev cX11_ending : ByteArray := prog_1_method_3_code
def yX11_ending : MethodName := ⟨RX11, "ending", "(IIIIII)I"⟩
abbrev cX11_ofRoot : ByteArray := prog_1_method_4_code
def yX11_ofRoot : MethodName := ⟨RX11, "ofRoot", "(II)I"⟩
abbrev cX11_rule : ByteArray := prog_1_method_5_code
def yX11_rule : MethodName := ⟨RX11, "rule", "(IIIIIII)I"⟩
abbrev cX11_stand : ByteArray := prog_1_method_6_code
def yX11_stand : MethodName := ⟨RX11, "stand", "(II)I"⟩
abbrev cX11_may : ByteArray := prog_1_method_7_code
def yX11_may : MethodName := ⟨RX11, "may", "(II)I"⟩
abbrev cX11_why : ByteArray := prog_1_method_8_code
def yX11_why : MethodName := ⟨RX11, "why", "(II)I"⟩
abbrev cX11_ways : ByteArray := prog_1_method_9_code
def yX11_ways : MethodName := ⟨RX11, "ways", "(IIII)I"⟩
abbrev cX11_parse : ByteArray := prog_1_method_10_code
def yX11_parse : MethodName := ⟨RX11, "parse", "(IIIII)I"⟩
abbrev cX11_two : ByteArray := prog_1_method_11_code
def yX11_two : MethodName := ⟨RX11, "two", "(I)I"⟩
abbrev cX11_mean : ByteArray := prog_1_method_12_code
def yX11_mean : MethodName := ⟨RX11, "mean", "(IIII)I"⟩
abbrev cX11_sentence : ByteArray := prog_1_method_13_code
def yX11_sentence : MethodName := ⟨RX11, "sentence", "(IIII)I"⟩
abbrev cX11_world : ByteArray := prog_1_method_14_code
def yX11_world : MethodName := ⟨RX11, "world", "(II)I"⟩
abbrev cX11_isTrue : ByteArray := prog_1_method_15_code
def yX11_isTrue : MethodName := ⟨RX11, "isTrue", "(III)I"⟩
abbrev cX11_differ : ByteArray := prog_1_method_16_code
def yX11_differ : MethodName := ⟨RX11, "differ", "(III)I"⟩
abbrev cX11_worlds : ByteArray := prog_1_method_17_code
def yX11_worlds : MethodName := ⟨RX11, "worlds", "(II)I"⟩
abbrev cX11_person : ByteArray := prog_1_method_18_code
def yX11_person : MethodName := ⟨RX11, "person", "(I)I"⟩
abbrev cX11_tongue : ByteArray := prog_1_method_19_code
def yX11_tongue : MethodName := ⟨RX11, "tongue", "(IIIIII)I"⟩
abbrev cX11_easy : ByteArray := prog_1_method_20_code
def yX11_easy : MethodName := ⟨RX11, "easy", "(II)I"⟩
abbrev cX11_learn : ByteArray := prog_1_method_21_code
def yX11_learn : MethodName := ⟨RX11, "learn", "(IIZ)I"⟩
abbrev cX11_knows : ByteArray := prog_1_method_22_code
def yX11_knows : MethodName := ⟨RX11, "knows", "(I)I"⟩
abbrev cX11_reform : ByteArray := prog_1_method_23_code
def yX11_reform : MethodName := ⟨RX11, "reform", "(IIIIII)J"⟩
abbrev cX11_journal : ByteArray := prog_1_method_24_code
def yX11_journal : MethodName := ⟨RX11, "journal", "(II)I"⟩
abbrev cX11_need : ByteArray := prog_1_method_25_code
def yX11_need : MethodName := ⟨RX11, "need", "(I)I"⟩
abbrev cX11_month : ByteArray := prog_1_method_26_code
def yX11_month : MethodName := ⟨RX11, "month", "()I"⟩
abbrev cX11_heard : ByteArray := prog_1_method_27_code
def yX11_heard : MethodName := ⟨RX11, "heard", "(II)I"⟩
abbrev cX11_spread : ByteArray := prog_1_method_28_code
def yX11_spread : MethodName := ⟨RX11, "spread", "(I)I"⟩
abbrev cX11_body : ByteArray := prog_1_method_29_code
def yX11_body : MethodName := ⟨RX11, "body", "(III)I"⟩
abbrev cX11_vote : ByteArray := prog_1_method_30_code
def yX11_vote : MethodName := ⟨RX11, "vote", "(III)I"⟩
abbrev cX11_beyond : ByteArray := prog_1_method_31_code
def yX11_beyond : MethodName := ⟨RX11, "beyond", "(I)I"⟩
abbrev cX11_seats : ByteArray := prog_1_method_32_code
def yX11_seats : MethodName := ⟨RX11, "seats", "()I"⟩
abbrev cX11_letters : ByteArray := prog_1_method_33_code
def yX11_letters : MethodName := ⟨RX11, "letters", "(III)I"⟩
abbrev cX11_part : ByteArray := prog_1_method_34_code
def yX11_part : MethodName := ⟨RX11, "part", "(III)I"⟩
abbrev cX11_uses : ByteArray := prog_1_method_35_code
def yX11_uses : MethodName := ⟨RX11, "uses", "(II)I"⟩
abbrev cX11_pair : ByteArray := prog_1_method_36_code
def yX11_pair : MethodName := ⟨RX11, "pair", "(II)I"⟩
abbrev cX11_keep : ByteArray := prog_1_method_37_code
def yX11_keep : MethodName := ⟨RX11, "keep", "(I)I"⟩
abbrev cX11_session : ByteArray := prog_1_method_38_code
def yX11_session : MethodName := ⟨RX11, "session", "(I)I"⟩
abbrev cX11_hall : ByteArray := prog_1_method_39_code
def yX11_hall : MethodName := ⟨RX11, "hall", "(II)I"⟩
abbrev cX11_table : ByteArray := prog_1_method_40_code
def yX11_table : MethodName := ⟨RX11, "table", "(I)I"⟩
abbrev cX11_road : ByteArray := prog_1_method_41_code
def yX11_road : MethodName := ⟨RX11, "road", "(IIZ)I"⟩
abbrev cX11_forbid : ByteArray := prog_1_method_42_code
def yX11_forbid : MethodName := ⟨RX11, "forbid", "(I)I"⟩
abbrev cX11_letter : ByteArray := prog_1_method_43_code
def yX11_letter : MethodName := ⟨RX11, "letter", "(II)I"⟩
abbrev cX11_round : ByteArray := prog_1_method_44_code
def yX11_round : MethodName := ⟨RX11, "round", "(I)I"⟩
abbrev cX11_sheet : ByteArray := prog_1_method_45_code
def yX11_sheet : MethodName := ⟨RX11, "sheet", "(III)I"⟩
abbrev cX11_lose : ByteArray := prog_1_method_46_code
def yX11_lose : MethodName := ⟨RX11, "lose", "(I)I"⟩
abbrev cX11_put : ByteArray := prog_1_method_47_code
def yX11_put : MethodName := ⟨RX11, "put", "(III)I"⟩
abbrev cX11_cell : ByteArray := prog_1_method_48_code
def yX11_cell : MethodName := ⟨RX11, "cell", "(III)J"⟩
abbrev cX11_copy : ByteArray := prog_1_method_49_code
def yX11_copy : MethodName := ⟨RX11, "copy", "(IIIII)I"⟩
abbrev cX11_tell : ByteArray := prog_1_method_50_code
def yX11_tell : MethodName := ⟨RX11, "tell", "(I)I"⟩
abbrev cX11_say : ByteArray := prog_1_method_51_code
def yX11_say : MethodName := ⟨RX11, "say", "(I)I"⟩
abbrev cX11_as : ByteArray := prog_1_method_52_code
def yX11_as : MethodName := ⟨RX11, "as", "(II)I"⟩
abbrev cX11_trace : ByteArray := prog_1_method_53_code
def yX11_trace : MethodName := ⟨RX11, "trace", "()I"⟩
abbrev cX11_fault : ByteArray := prog_1_method_54_code
def yX11_fault : MethodName := ⟨RX11, "fault", "()I"⟩
abbrev cX11_many : ByteArray := prog_1_method_55_code
def yX11_many : MethodName := ⟨RX11, "many", "(I)I"⟩
abbrev cX11_isClass : ByteArray := prog_1_method_56_code
def yX11_isClass : MethodName := ⟨RX11, "isClass", "(I)Z"⟩
abbrev cX11_isClub : ByteArray := prog_1_method_57_code
def yX11_isClub : MethodName := ⟨RX11, "isClub", "(I)Z"⟩
abbrev cX11_isYear : ByteArray := prog_1_method_58_code
def yX11_isYear : MethodName := ⟨RX11, "isYear", "(I)Z"⟩
abbrev cX11_failing : ByteArray := prog_1_method_59_code
def yX11_failing : MethodName := ⟨RX11, "failing", "(I)I"⟩
abbrev cX11_reaching : ByteArray := prog_1_method_60_code
def yX11_reaching : MethodName := ⟨RX11, "reaching", "(IIIII)I"⟩
abbrev cX11_rowRefusal : ByteArray := prog_1_method_61_code
def yX11_rowRefusal : MethodName := ⟨RX11, "rowRefusal", "(IIII)I"⟩
abbrev cX11_leave : ByteArray := prog_1_method_62_code
def yX11_leave : MethodName := ⟨RX11, "leave", "(I)V"⟩
abbrev cX11_toldByRoot : ByteArray := prog_1_method_63_code
def yX11_toldByRoot : MethodName := ⟨RX11, "toldByRoot", "(I)I"⟩
abbrev cX11_toldByLoan : ByteArray := prog_1_method_64_code
def yX11_toldByLoan : MethodName := ⟨RX11, "toldByLoan", "(I)I"⟩
abbrev cX11_toldByBlend : ByteArray := prog_1_method_65_code
def yX11_toldByBlend : MethodName := ⟨RX11, "toldByBlend", "(I)I"⟩
def RX12 : String := "MadeTongueModel"
def TX12 : u_T := fun k => match k with
  | 0 => ("MadeTongueModel", "fault", "I", false)
  | 1 => ("MadeTongueModel", "roots", "I", false)
  | 2 => ("MadeTongueModel", "rootKind", "[I", true)
  | 3 => ("MadeTongueModel", "rootClass", "[I", true)
  | 4 => ("MadeTongueModel", "rootMany", "[I", true)
  | 5 => ("MadeTongueModel", "rootLetter", "[I", true)
  | 6 => ("MadeTongueModel", "useOf", "[I", true)
  | 7 => ("MadeTongueModel", "pairOf", "[I", true)
  | 8 => ("MadeTongueModel", "endings", "I", false)
  | 9 => ("MadeTongueModel", "endingFrom", "[I", true)
  | 10 => ("MadeTongueModel", "endingTo", "[I", true)
  | 11 => ("MadeTongueModel", "endingMany", "[I", true)
  | 12 => ("MadeTongueModel", "endingLetter", "[I", true)
  | 13 => ("MadeTongueModel", "rules", "I", false)
  | 14 => ("MadeTongueModel", "ruleClub", "[I", true)
  | 15 => ("MadeTongueModel", "ruleFrom", "[I", true)
  | 16 => ("MadeTongueModel", "ruleTo", "[I", true)
  | 17 => ("MadeTongueModel", "ruleMany", "[I", true)
  | 18 => ("MadeTongueModel", "clauseX", "[I", true)
  | 19 => ("MadeTongueModel", "clauseY", "[I", true)
  | 20 => ("MadeTongueModel", "isNot", "[Z", true)
  | 21 => ("MadeTongueModel", "readMany", "I", false)
  | 22 => ("MadeTongueModel", "readX", "[I", true)
  | 23 => ("MadeTongueModel", "readY", "[I", true)
  | 24 => ("MadeTongueModel", "readNot", "[Z", true)
  | 25 => ("MadeTongueModel", "standClub", "I", false)
  | 26 => ("MadeTongueModel", "standYear", "I", false)
  | 27 => ("MadeTongueModel", "rowMany", "I", false)
  | 28 => ("MadeTongueModel", "row", "[I", true)
  | 29 => ("MadeTongueModel", "waysFrom", "[I", true)
  | 30 => ("MadeTongueModel", "isTwoLaid", "Z", false)
  | 31 => ("MadeTongueModel", "twoMany", "I", false)
  | 32 => ("MadeTongueModel", "two", "[I", true)
  | 33 => ("MadeTongueModel", "hasOf", "[I", true)
  | 34 => ("MadeTongueModel", "notOf", "[I", true)
  | 35 => ("MadeTongueModel", "sentences", "I", false)
  | 36 => ("MadeTongueModel", "sentenceMany", "[I", true)
  | 37 => ("MadeTongueModel", "sortOf", "[I", true)
  | 38 => ("MadeTongueModel", "firstOf", "[I", true)
  | 39 => ("MadeTongueModel", "secondOf", "[I", true)
  | 40 => ("MadeTongueModel", "thingMany", "I", false)
  | 41 => ("MadeTongueModel", "things", "[I", true)
  | 42 => ("MadeTongueModel", "persons", "I", false)
  | 43 => ("MadeTongueModel", "firstTongue", "[I", true)
  | 44 => ("MadeTongueModel", "wordMany", "[I", true)
  | 45 => ("MadeTongueModel", "wordLetter", "[I", true)
  | 46 => ("MadeTongueModel", "knowing", "[I", true)
  | 47 => ("MadeTongueModel", "heardOften", "[I", true)
  | 48 => ("MadeTongueModel", "heardLast", "[I", true)
  | 49 => ("MadeTongueModel", "oneMany", "I", false)
  | 50 => ("MadeTongueModel", "otherMany", "I", false)
  | 51 => ("MadeTongueModel", "one", "[I", true)
  | 52 => ("MadeTongueModel", "other", "[I", true)
  | 53 => ("MadeTongueModel", "changes", "[I", true)
  | 54 => ("MadeTongueModel", "months", "I", false)
  | 55 => ("MadeTongueModel", "journals", "I", false)
  | 56 => ("MadeTongueModel", "writersOf", "[I", true)
  | 57 => ("MadeTongueModel", "readersOf", "[I", true)
  | 58 => ("MadeTongueModel", "need", "I", false)
  | 59 => ("MadeTongueModel", "printed", "[I", true)
  | 60 => ("MadeTongueModel", "bodies", "I", false)
  | 61 => ("MadeTongueModel", "bodyPersons", "[I", true)
  | 62 => ("MadeTongueModel", "bodyActs", "[I", true)
  | 63 => ("MadeTongueModel", "bodyShare", "[I", true)
  | 64 => ("MadeTongueModel", "bodyBeyond", "[I", true)
  | 65 => ("MadeTongueModel", "written", "[I", true)
  | 66 => ("MadeTongueModel", "pairs", "I", false)
  | 67 => ("MadeTongueModel", "pairX", "[I", true)
  | 68 => ("MadeTongueModel", "pairY", "[I", true)
  | 69 => ("MadeTongueModel", "sessions", "I", false)
  | 70 => ("MadeTongueModel", "wantedBy", "[I", true)
  | 71 => ("MadeTongueModel", "turns", "I", false)
  | 72 => ("MadeTongueModel", "rooms", "I", false)
  | 73 => ("MadeTongueModel", "roadsOf", "[I", true)
  | 74 => ("MadeTongueModel", "forbidding", "I", false)
  | 75 => ("MadeTongueModel", "far", "[I", true)
  | 76 => ("MadeTongueModel", "sheetSize", "[I", true)
  | 77 => ("MadeTongueModel", "sheetLane", "[I", true)
  | 78 => ("MadeTongueModel", "sheet", "[I", true)
  | 79 => ("MadeTongueModel", "hands", "[I", true)
  | _ => ("MadeTongueModel", "traceNow", "I", false)
def tyX12 : Nat → FieldType := fun k => match k with
  | 0 => .int
  | 1 => .int
  | 2 => .array .int
  | 3 => .array .int
  | 4 => .array .int
  | 5 => .array .int
  | 6 => .array .int
  | 7 => .array .int
  | 8 => .int
  | 9 => .array .int
  | 10 => .array .int
  | 11 => .array .int
  | 12 => .array .int
  | 13 => .int
  | 14 => .array .int
  | 15 => .array .int
  | 16 => .array .int
  | 17 => .array .int
  | 18 => .array .int
  | 19 => .array .int
  | 20 => .array .boolean
  | 21 => .int
  | 22 => .array .int
  | 23 => .array .int
  | 24 => .array .boolean
  | 25 => .int
  | 26 => .int
  | 27 => .int
  | 28 => .array .int
  | 29 => .array .int
  | 30 => .boolean
  | 31 => .int
  | 32 => .array .int
  | 33 => .array .int
  | 34 => .array .int
  | 35 => .int
  | 36 => .array .int
  | 37 => .array .int
  | 38 => .array .int
  | 39 => .array .int
  | 40 => .int
  | 41 => .array .int
  | 42 => .int
  | 43 => .array .int
  | 44 => .array .int
  | 45 => .array .int
  | 46 => .array .int
  | 47 => .array .int
  | 48 => .array .int
  | 49 => .int
  | 50 => .int
  | 51 => .array .int
  | 52 => .array .int
  | 53 => .array .int
  | 54 => .int
  | 55 => .int
  | 56 => .array .int
  | 57 => .array .int
  | 58 => .int
  | 59 => .array .int
  | 60 => .int
  | 61 => .array .int
  | 62 => .array .int
  | 63 => .array .int
  | 64 => .array .int
  | 65 => .array .int
  | 66 => .int
  | 67 => .array .int
  | 68 => .array .int
  | 69 => .int
  | 70 => .array .int
  | 71 => .int
  | 72 => .int
  | 73 => .array .int
  | 74 => .int
  | 75 => .array .int
  | 76 => .array .int
  | 77 => .array .int
  | 78 => .array .int
  | 79 => .array .int
  | _ => .int
theorem nmX12 : ∀ a, a < 81 → ∀ b, b < 81 → a ≠ b → (TX12 a).2.1 ≠ (TX12 b).2.1 := by decide +kernel
theorem tyX12_ok : ∀ k, k < 81 → parseFieldDescriptor (TX12 k).2.2.1 = some (tyX12 k) := by decide +kernel
abbrev cX12_init : ByteArray := prog_14_method_1_code
def yX12_init : MethodName := ⟨RX12, "<init>", "()V"⟩
abbrev cX12_in : ByteArray := prog_14_method_2_code
def yX12_in : MethodName := ⟨RX12, "in", "(JJJ)Z"⟩
abbrev cX12_lost : ByteArray := prog_14_method_3_code
def yX12_lost : MethodName := ⟨RX12, "lost", "()J"⟩
abbrev cX12_hasBit : ByteArray := prog_14_method_4_code
def yX12_hasBit : MethodName := ⟨RX12, "hasBit", "(II)Z"⟩
abbrev cX12_count : ByteArray := prog_14_method_5_code
def yX12_count : MethodName := ⟨RX12, "count", "(I)I"⟩
abbrev cX12_lesser : ByteArray := prog_14_method_6_code
def yX12_lesser : MethodName := ⟨RX12, "lesser", "(II)I"⟩
abbrev cX12_refused : ByteArray := prog_14_method_7_code
def yX12_refused : MethodName := ⟨RX12, "refused", "(I)I"⟩
abbrev cX12_failed : ByteArray := prog_14_method_8_code
def yX12_failed : MethodName := ⟨RX12, "failed", "(I)I"⟩
abbrev cX12_failedLong : ByteArray := prog_14_method_9_code
def yX12_failedLong : MethodName := ⟨RX12, "failedLong", "(I)J"⟩
abbrev cX12_barred : ByteArray := prog_14_method_10_code
def yX12_barred : MethodName := ⟨RX12, "barred", "(IIIJ)I"⟩
abbrev cX12_areLetters : ByteArray := prog_14_method_11_code
def yX12_areLetters : MethodName := ⟨RX12, "areLetters", "(II)Z"⟩
abbrev cX12_noRoot : ByteArray := prog_14_method_12_code
def yX12_noRoot : MethodName := ⟨RX12, "noRoot", "(I)Z"⟩
abbrev cX12_isClass : ByteArray := prog_14_method_13_code
def yX12_isClass : MethodName := ⟨RX12, "isClass", "(I)Z"⟩
abbrev cX12_isRootAt : ByteArray := prog_14_method_14_code
def yX12_isRootAt : MethodName := ⟨RX12, "isRootAt", "(III)Z"⟩
abbrev cX12_root : ByteArray := prog_14_method_15_code
def yX12_root : MethodName := ⟨RX12, "root", "(IIIIII)I"⟩
abbrev cX12_ending : ByteArray := prog_14_method_16_code
def yX12_ending : MethodName := ⟨RX12, "ending", "(IIIIII)I"⟩
abbrev cX12_ofRoot : ByteArray := prog_14_method_17_code
def yX12_ofRoot : MethodName := ⟨RX12, "ofRoot", "(II)I"⟩
abbrev cX12_classOf : ByteArray := prog_14_method_18_code
def yX12_classOf : MethodName := ⟨RX12, "classOf", "(I)I"⟩
abbrev cX12_read : ByteArray := prog_14_method_19_code
def yX12_read : MethodName := ⟨RX12, "read", "(II)I"⟩
abbrev cX12_rule : ByteArray := prog_14_method_20_code
def yX12_rule : MethodName := ⟨RX12, "rule", "(IIIIIII)I"⟩
abbrev cX12_stand : ByteArray := prog_14_method_21_code
def yX12_stand : MethodName := ⟨RX12, "stand", "(II)I"⟩
abbrev cX12_tellsOf : ByteArray := prog_14_method_22_code
def yX12_tellsOf : MethodName := ⟨RX12, "tellsOf", "(II)I"⟩
abbrev cX12_areJoined : ByteArray := prog_14_method_23_code
def yX12_areJoined : MethodName := ⟨RX12, "areJoined", "(II)Z"⟩
abbrev cX12_may : ByteArray := prog_14_method_24_code
def yX12_may : MethodName := ⟨RX12, "may", "(II)I"⟩
abbrev cX12_why : ByteArray := prog_14_method_25_code
def yX12_why : MethodName := ⟨RX12, "why", "(II)I"⟩
abbrev cX12_standsRoot : ByteArray := prog_14_method_26_code
def yX12_standsRoot : MethodName := ⟨RX12, "standsRoot", "(II)Z"⟩
abbrev cX12_standsEnding : ByteArray := prog_14_method_27_code
def yX12_standsEnding : MethodName := ⟨RX12, "standsEnding", "(II)Z"⟩
abbrev cX12_waysOn : ByteArray := prog_14_method_28_code
def yX12_waysOn : MethodName := ⟨RX12, "waysOn", "(II)I"⟩
abbrev cX12_layWays : ByteArray := prog_14_method_29_code
def yX12_layWays : MethodName := ⟨RX12, "layWays", "()I"⟩
abbrev cX12_takeRow : ByteArray := prog_14_method_30_code
def yX12_takeRow : MethodName := ⟨RX12, "takeRow", "(IIII)I"⟩
abbrev cX12_ways : ByteArray := prog_14_method_31_code
def yX12_ways : MethodName := ⟨RX12, "ways", "(IIII)I"⟩
abbrev cX12_partAt : ByteArray := prog_14_method_32_code
def yX12_partAt : MethodName := ⟨RX12, "partAt", "(II)I"⟩
abbrev cX12_parse : ByteArray := prog_14_method_33_code
def yX12_parse : MethodName := ⟨RX12, "parse", "(IIIII)I"⟩
abbrev cX12_addRoot : ByteArray := prog_14_method_34_code
def yX12_addRoot : MethodName := ⟨RX12, "addRoot", "(I)V"⟩
abbrev cX12_addPart : ByteArray := prog_14_method_35_code
def yX12_addPart : MethodName := ⟨RX12, "addPart", "(II)I"⟩
abbrev cX12_isLess : ByteArray := prog_14_method_36_code
def yX12_isLess : MethodName := ⟨RX12, "isLess", "()Z"⟩
abbrev cX12_tryRow : ByteArray := prog_14_method_37_code
def yX12_tryRow : MethodName := ⟨RX12, "tryRow", "()V"⟩
abbrev cX12_layTwo : ByteArray := prog_14_method_38_code
def yX12_layTwo : MethodName := ⟨RX12, "layTwo", "()V"⟩
abbrev cX12_two : ByteArray := prog_14_method_39_code
def yX12_two : MethodName := ⟨RX12, "two", "(I)I"⟩
abbrev cX12_isClub : ByteArray := prog_14_method_40_code
def yX12_isClub : MethodName := ⟨RX12, "isClub", "(I)Z"⟩
abbrev cX12_mean : ByteArray := prog_14_method_41_code
def yX12_mean : MethodName := ⟨RX12, "mean", "(IIII)I"⟩
abbrev cX12_isThing : ByteArray := prog_14_method_42_code
def yX12_isThing : MethodName := ⟨RX12, "isThing", "(III)Z"⟩
abbrev cX12_sentence : ByteArray := prog_14_method_43_code
def yX12_sentence : MethodName := ⟨RX12, "sentence", "(IIII)I"⟩
abbrev cX12_layWorld : ByteArray := prog_14_method_44_code
def yX12_layWorld : MethodName := ⟨RX12, "layWorld", "(I)V"⟩
abbrev cX12_rowsOf : ByteArray := prog_14_method_45_code
def yX12_rowsOf : MethodName := ⟨RX12, "rowsOf", "(II)I"⟩
abbrev cX12_world : ByteArray := prog_14_method_46_code
def yX12_world : MethodName := ⟨RX12, "world", "(II)I"⟩
abbrev cX12_isClause : ByteArray := prog_14_method_47_code
def yX12_isClause : MethodName := ⟨RX12, "isClause", "(II)Z"⟩
abbrev cX12_isSo : ByteArray := prog_14_method_48_code
def yX12_isSo : MethodName := ⟨RX12, "isSo", "(II)Z"⟩
abbrev cX12_noSentence : ByteArray := prog_14_method_49_code
def yX12_noSentence : MethodName := ⟨RX12, "noSentence", "(I)Z"⟩
abbrev cX12_isTrue : ByteArray := prog_14_method_50_code
def yX12_isTrue : MethodName := ⟨RX12, "isTrue", "(III)I"⟩
abbrev cX12_differ : ByteArray := prog_14_method_51_code
def yX12_differ : MethodName := ⟨RX12, "differ", "(III)I"⟩
abbrev cX12_worlds : ByteArray := prog_14_method_52_code
def yX12_worlds : MethodName := ⟨RX12, "worlds", "(II)I"⟩
abbrev cX12_noPerson : ByteArray := prog_14_method_53_code
def yX12_noPerson : MethodName := ⟨RX12, "noPerson", "(I)Z"⟩
abbrev cX12_arePersons : ByteArray := prog_14_method_54_code
def yX12_arePersons : MethodName := ⟨RX12, "arePersons", "(I)Z"⟩
abbrev cX12_person : ByteArray := prog_14_method_55_code
def yX12_person : MethodName := ⟨RX12, "person", "(I)I"⟩
abbrev cX12_tongue : ByteArray := prog_14_method_56_code
def yX12_tongue : MethodName := ⟨RX12, "tongue", "(IIIIII)I"⟩
abbrev cX12_takeOne : ByteArray := prog_14_method_57_code
def yX12_takeOne : MethodName := ⟨RX12, "takeOne", "(II)V"⟩
abbrev cX12_takeOther : ByteArray := prog_14_method_58_code
def yX12_takeOther : MethodName := ⟨RX12, "takeOther", "(I)V"⟩
abbrev cX12_apart : ByteArray := prog_14_method_59_code
def yX12_apart : MethodName := ⟨RX12, "apart", "()I"⟩
abbrev cX12_monthsOf : ByteArray := prog_14_method_60_code
def yX12_monthsOf : MethodName := ⟨RX12, "monthsOf", "(II)I"⟩
abbrev cX12_easy : ByteArray := prog_14_method_61_code
def yX12_easy : MethodName := ⟨RX12, "easy", "(II)I"⟩
abbrev cX12_learn : ByteArray := prog_14_method_62_code
def yX12_learn : MethodName := ⟨RX12, "learn", "(IIZ)I"⟩
abbrev cX12_knows : ByteArray := prog_14_method_63_code
def yX12_knows : MethodName := ⟨RX12, "knows", "(I)I"⟩
abbrev cX12_reform : ByteArray := prog_14_method_64_code
def yX12_reform : MethodName := ⟨RX12, "reform", "(IIIIII)J"⟩
abbrev cX12_journal : ByteArray := prog_14_method_65_code
def yX12_journal : MethodName := ⟨RX12, "journal", "(II)I"⟩
abbrev cX12_need : ByteArray := prog_14_method_66_code
def yX12_need : MethodName := ⟨RX12, "need", "(I)I"⟩
abbrev cX12_doesWrite : ByteArray := prog_14_method_67_code
def yX12_doesWrite : MethodName := ⟨RX12, "doesWrite", "(I)Z"⟩
abbrev cX12_hearsOften : ByteArray := prog_14_method_68_code
def yX12_hearsOften : MethodName := ⟨RX12, "hearsOften", "(II)I"⟩
abbrev cX12_month : ByteArray := prog_14_method_69_code
def yX12_month : MethodName := ⟨RX12, "month", "()I"⟩
abbrev cX12_heard : ByteArray := prog_14_method_70_code
def yX12_heard : MethodName := ⟨RX12, "heard", "(II)I"⟩
abbrev cX12_spread : ByteArray := prog_14_method_71_code
def yX12_spread : MethodName := ⟨RX12, "spread", "(I)I"⟩
abbrev cX12_noBody : ByteArray := prog_14_method_72_code
def yX12_noBody : MethodName := ⟨RX12, "noBody", "(I)Z"⟩
abbrev cX12_body : ByteArray := prog_14_method_73_code
def yX12_body : MethodName := ⟨RX12, "body", "(III)I"⟩
abbrev cX12_vote : ByteArray := prog_14_method_74_code
def yX12_vote : MethodName := ⟨RX12, "vote", "(III)I"⟩
abbrev cX12_beyond : ByteArray := prog_14_method_75_code
def yX12_beyond : MethodName := ⟨RX12, "beyond", "(I)I"⟩
abbrev cX12_seats : ByteArray := prog_14_method_76_code
def yX12_seats : MethodName := ⟨RX12, "seats", "()I"⟩
abbrev cX12_letters : ByteArray := prog_14_method_77_code
def yX12_letters : MethodName := ⟨RX12, "letters", "(III)I"⟩
abbrev cX12_between : ByteArray := prog_14_method_78_code
def yX12_between : MethodName := ⟨RX12, "between", "(I)I"⟩
abbrev cX12_part : ByteArray := prog_14_method_79_code
def yX12_part : MethodName := ⟨RX12, "part", "(III)I"⟩
abbrev cX12_uses : ByteArray := prog_14_method_80_code
def yX12_uses : MethodName := ⟨RX12, "uses", "(II)I"⟩
abbrev cX12_pair : ByteArray := prog_14_method_81_code
def yX12_pair : MethodName := ⟨RX12, "pair", "(II)I"⟩
abbrev cX12_keptOf : ByteArray := prog_14_method_82_code
def yX12_keptOf : MethodName := ⟨RX12, "keptOf", "(II)I"⟩
abbrev cX12_areNear : ByteArray := prog_14_method_83_code
def yX12_areNear : MethodName := ⟨RX12, "areNear", "(II)Z"⟩
abbrev cX12_mayKeep : ByteArray := prog_14_method_84_code
def yX12_mayKeep : MethodName := ⟨RX12, "mayKeep", "(I)Z"⟩
abbrev cX12_costOf : ByteArray := prog_14_method_85_code
def yX12_costOf : MethodName := ⟨RX12, "costOf", "(I)I"⟩
abbrev cX12_keep : ByteArray := prog_14_method_86_code
def yX12_keep : MethodName := ⟨RX12, "keep", "(I)I"⟩
abbrev cX12_session : ByteArray := prog_14_method_87_code
def yX12_session : MethodName := ⟨RX12, "session", "(I)I"⟩
abbrev cX12_hall : ByteArray := prog_14_method_88_code
def yX12_hall : MethodName := ⟨RX12, "hall", "(II)I"⟩
abbrev cX12_turnIn : ByteArray := prog_14_method_89_code
def yX12_turnIn : MethodName := ⟨RX12, "turnIn", "(II)I"⟩
abbrev cX12_heardIn : ByteArray := prog_14_method_90_code
def yX12_heardIn : MethodName := ⟨RX12, "heardIn", "(I)I"⟩
abbrev cX12_table : ByteArray := prog_14_method_91_code
def yX12_table : MethodName := ⟨RX12, "table", "(I)I"⟩
abbrev cX12_noPost : ByteArray := prog_14_method_92_code
def yX12_noPost : MethodName := ⟨RX12, "noPost", "(I)Z"⟩
abbrev cX12_road : ByteArray := prog_14_method_93_code
def yX12_road : MethodName := ⟨RX12, "road", "(IIZ)I"⟩
abbrev cX12_forbid : ByteArray := prog_14_method_94_code
def yX12_forbid : MethodName := ⟨RX12, "forbid", "(I)I"⟩
abbrev cX12_layFar : ByteArray := prog_14_method_95_code
def yX12_layFar : MethodName := ⟨RX12, "layFar", "(I)V"⟩
abbrev cX12_letter : ByteArray := prog_14_method_96_code
def yX12_letter : MethodName := ⟨RX12, "letter", "(II)I"⟩
abbrev cX12_round : ByteArray := prog_14_method_97_code
def yX12_round : MethodName := ⟨RX12, "round", "(I)I"⟩
abbrev cX12_noSheet : ByteArray := prog_14_method_98_code
def yX12_noSheet : MethodName := ⟨RX12, "noSheet", "(I)Z"⟩
abbrev cX12_sheet : ByteArray := prog_14_method_99_code
def yX12_sheet : MethodName := ⟨RX12, "sheet", "(III)I"⟩
abbrev cX12_lose : ByteArray := prog_14_method_100_code
def yX12_lose : MethodName := ⟨RX12, "lose", "(I)I"⟩
abbrev cX12_noCell : ByteArray := prog_14_method_101_code
def yX12_noCell : MethodName := ⟨RX12, "noCell", "(II)I"⟩
abbrev cX12_put : ByteArray := prog_14_method_102_code
def yX12_put : MethodName := ⟨RX12, "put", "(III)I"⟩
abbrev cX12_cell : ByteArray := prog_14_method_103_code
def yX12_cell : MethodName := ⟨RX12, "cell", "(III)J"⟩
abbrev cX12_isBeyond : ByteArray := prog_14_method_104_code
def yX12_isBeyond : MethodName := ⟨RX12, "isBeyond", "(IJI)Z"⟩
abbrev cX12_copy : ByteArray := prog_14_method_105_code
def yX12_copy : MethodName := ⟨RX12, "copy", "(IIIII)I"⟩
abbrev cX12_traced : ByteArray := prog_14_method_106_code
def yX12_traced : MethodName := ⟨RX12, "traced", "(I)V"⟩
abbrev cX12_tell : ByteArray := prog_14_method_107_code
def yX12_tell : MethodName := ⟨RX12, "tell", "(I)I"⟩
abbrev cX12_say : ByteArray := prog_14_method_108_code
def yX12_say : MethodName := ⟨RX12, "say", "(I)I"⟩
abbrev cX12_as : ByteArray := prog_14_method_109_code
def yX12_as : MethodName := ⟨RX12, "as", "(II)I"⟩
abbrev cX12_trace : ByteArray := prog_14_method_110_code
def yX12_trace : MethodName := ⟨RX12, "trace", "()I"⟩
abbrev cX12_fault : ByteArray := prog_14_method_111_code
def yX12_fault : MethodName := ⟨RX12, "fault", "()I"⟩
abbrev cX12_roadMany : ByteArray := prog_14_method_112_code
def yX12_roadMany : MethodName := ⟨RX12, "roadMany", "()I"⟩
abbrev cX12_many : ByteArray := prog_14_method_113_code
def yX12_many : MethodName := ⟨RX12, "many", "(I)I"⟩
def RJ6 : String := "java/lang/Integer"
def TJ6 : u_T := fun k => match k with
  | _ => ("", "", "", false)
def tyJ6 : Nat → FieldType := fun k => match k with
  | _ => .int
theorem nmJ6 : ∀ a, a < 0 → ∀ b, b < 0 → a ≠ b → (TJ6 a).2.1 ≠ (TJ6 b).2.1 := by decide +kernel
theorem tyJ6_ok : ∀ k, k < 0 → parseFieldDescriptor (TJ6 k).2.2.1 = some (tyJ6 k) := by decide +kernel
abbrev cJ6_bitCount_0f7a4 : ByteArray := prog_15_method_49_code
def yJ6_bitCount_0f7a4 : MethodName := ⟨RJ6, "bitCount", "(I)I"⟩
def RJ9 : String := "java/lang/Math"
def TJ9 : u_T := fun k => match k with
  | _ => ("", "", "", false)
def tyJ9 : Nat → FieldType := fun k => match k with
  | _ => .int
theorem nmJ9 : ∀ a, a < 0 → ∀ b, b < 0 → a ≠ b → (TJ9 a).2.1 ≠ (TJ9 b).2.1 := by decide +kernel
theorem tyJ9_ok : ∀ k, k < 0 → parseFieldDescriptor (TJ9 k).2.2.1 = some (tyJ9 k) := by decide +kernel
abbrev cJ9_max_f86c9 : ByteArray := prog_16_method_66_code
def yJ9_max_f86c9 : MethodName := ⟨RJ9, "max", "(JJ)J"⟩
abbrev cJ9_min_7cf53 : ByteArray := prog_16_method_69_code
def yJ9_min_7cf53 : MethodName := ⟨RJ9, "min", "(II)I"⟩
abbrev cJ9_min_f86c9 : ByteArray := prog_16_method_70_code
def yJ9_min_f86c9 : MethodName := ⟨RJ9, "min", "(JJ)J"⟩
def RJ10 : String := "java/lang/System"
def TJ10 : u_T := fun k => match k with
  | _ => ("", "", "", false)
def tyJ10 : Nat → FieldType := fun k => match k with
  | _ => .int
theorem nmJ10 : ∀ a, a < 0 → ∀ b, b < 0 → a ≠ b → (TJ10 a).2.1 ≠ (TJ10 b).2.1 := by decide +kernel
theorem tyJ10_ok : ∀ k, k < 0 → parseFieldDescriptor (TJ10 k).2.2.1 = some (tyJ10 k) := by decide +kernel
def RL : String := "MadeTongueLaw"
abbrev cL_law : ByteArray := code
def yL_law : MethodName := ⟨RL, "law", "([I)Z"⟩
abbrev vwCl : List vw_C := [(RX0, TX0, 11), (RX1, TX1, 9), (RX2, TX2, 7), (RX3, TX3, 9), (RX4, TX4, 10), (RX5, TX5, 3), (RX6, TX6, 10), (RX7, TX7, 3), (RX8, TX8, 8), (RX9, TX9, 5), (RX10, TX10, 11), (RX11, TX11, 13), (RX12, TX12, 81)]
