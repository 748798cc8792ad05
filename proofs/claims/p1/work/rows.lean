section
-- ===== PART A: goes FIRST, ahead of the names: the tables' words, and 'selects' of the private methods out of them =====
/-- a private method of a class that the tables say can be made, by its rows of tables_1 -/
def lw_okq (q : MethodName × Nat) : Prop := (q.1.cls ≠ "java/lang/invoke/MethodHandle" ∧ q.1.cls ≠ "java/lang/invoke/VarHandle") ∧ Cond.instantiable q.1.cls q.2 ∈ tables_1 ∧ Cond.privateMethod q.1 ∈ tables_1 ∧ Cond.instanceMethod q.1 ∈ tables_1
theorem lw_p0 : lw_okq (⟨"BlendYard", "putBytes", "(I)V"⟩, 14) := ⟨⟨by decide +kernel, by decide +kernel⟩, List.mem_of_getElem? (i := 23) (by decide +kernel), List.mem_of_getElem? (i := 410) (by decide +kernel), List.mem_of_getElem? (i := 411) (by decide +kernel)⟩
theorem lw_p1 : lw_okq (⟨"BlendYard$Reader", "advance", "()V"⟩, 10) := ⟨⟨by decide +kernel, by decide +kernel⟩, List.mem_of_getElem? (i := 31) (by decide +kernel), List.mem_of_getElem? (i := 429) (by decide +kernel), List.mem_of_getElem? (i := 430) (by decide +kernel)⟩
theorem lw_p2 : lw_okq (⟨"BlendYard$Reader", "isLetter", "(I)Z"⟩, 10) := ⟨⟨by decide +kernel, by decide +kernel⟩, List.mem_of_getElem? (i := 31) (by decide +kernel), List.mem_of_getElem? (i := 433) (by decide +kernel), List.mem_of_getElem? (i := 434) (by decide +kernel)⟩
theorem lw_p3 : lw_okq (⟨"BlendYard$Reader", "isDigit", "(I)Z"⟩, 10) := ⟨⟨by decide +kernel, by decide +kernel⟩, List.mem_of_getElem? (i := 31) (by decide +kernel), List.mem_of_getElem? (i := 437) (by decide +kernel), List.mem_of_getElem? (i := 438) (by decide +kernel)⟩
theorem lw_p4 : lw_okq (⟨"BlendYard$Reader", "readLine", "()V"⟩, 10) := ⟨⟨by decide +kernel, by decide +kernel⟩, List.mem_of_getElem? (i := 31) (by decide +kernel), List.mem_of_getElem? (i := 441) (by decide +kernel), List.mem_of_getElem? (i := 442) (by decide +kernel)⟩
theorem lw_p5 : lw_okq (⟨"BlendYard$Reader", "says", "(Ljava/lang/String;)Z"⟩, 10) := ⟨⟨by decide +kernel, by decide +kernel⟩, List.mem_of_getElem? (i := 31) (by decide +kernel), List.mem_of_getElem? (i := 446) (by decide +kernel), List.mem_of_getElem? (i := 447) (by decide +kernel)⟩
theorem lw_p6 : lw_okq (⟨"BlendYard$Reader", "readLot", "()V"⟩, 10) := ⟨⟨by decide +kernel, by decide +kernel⟩, List.mem_of_getElem? (i := 31) (by decide +kernel), List.mem_of_getElem? (i := 498) (by decide +kernel), List.mem_of_getElem? (i := 499) (by decide +kernel)⟩
theorem lw_p7 : lw_okq (⟨"BlendYard$Reader", "fail", "(I)V"⟩, 10) := ⟨⟨by decide +kernel, by decide +kernel⟩, List.mem_of_getElem? (i := 31) (by decide +kernel), List.mem_of_getElem? (i := 502) (by decide +kernel), List.mem_of_getElem? (i := 503) (by decide +kernel)⟩
theorem lw_p8 : lw_okq (⟨"BlendYard$Reader", "takeName", "()V"⟩, 10) := ⟨⟨by decide +kernel, by decide +kernel⟩, List.mem_of_getElem? (i := 31) (by decide +kernel), List.mem_of_getElem? (i := 506) (by decide +kernel), List.mem_of_getElem? (i := 507) (by decide +kernel)⟩
theorem lw_p9 : lw_okq (⟨"BlendYard$Reader", "isKept", "()Z"⟩, 10) := ⟨⟨by decide +kernel, by decide +kernel⟩, List.mem_of_getElem? (i := 31) (by decide +kernel), List.mem_of_getElem? (i := 510) (by decide +kernel), List.mem_of_getElem? (i := 511) (by decide +kernel)⟩
theorem lw_p10 : lw_okq (⟨"BlendYard$Reader", "takeTold", "(Ljava/lang/String;II)I"⟩, 10) := ⟨⟨by decide +kernel, by decide +kernel⟩, List.mem_of_getElem? (i := 31) (by decide +kernel), List.mem_of_getElem? (i := 526) (by decide +kernel), List.mem_of_getElem? (i := 527) (by decide +kernel)⟩
theorem lw_p11 : lw_okq (⟨"BlendYard$Reader", "numberHere", "()I"⟩, 10) := ⟨⟨by decide +kernel, by decide +kernel⟩, List.mem_of_getElem? (i := 31) (by decide +kernel), List.mem_of_getElem? (i := 530) (by decide +kernel), List.mem_of_getElem? (i := 531) (by decide +kernel)⟩
theorem lw_p12 : lw_okq (⟨"BlendYard$Reader", "readPile", "()V"⟩, 10) := ⟨⟨by decide +kernel, by decide +kernel⟩, List.mem_of_getElem? (i := 31) (by decide +kernel), List.mem_of_getElem? (i := 534) (by decide +kernel), List.mem_of_getElem? (i := 535) (by decide +kernel)⟩
theorem lw_p13 : lw_okq (⟨"BlendYard$Reader", "readShip", "()V"⟩, 10) := ⟨⟨by decide +kernel, by decide +kernel⟩, List.mem_of_getElem? (i := 31) (by decide +kernel), List.mem_of_getElem? (i := 538) (by decide +kernel), List.mem_of_getElem? (i := 539) (by decide +kernel)⟩
theorem lw_p14 : lw_okq (⟨"BlendYard$Reader", "readGap", "()V"⟩, 10) := ⟨⟨by decide +kernel, by decide +kernel⟩, List.mem_of_getElem? (i := 31) (by decide +kernel), List.mem_of_getElem? (i := 542) (by decide +kernel), List.mem_of_getElem? (i := 543) (by decide +kernel)⟩
theorem lw_p15 : lw_okq (⟨"BlendYard", "shipsSailed", "()I"⟩, 14) := ⟨⟨by decide +kernel, by decide +kernel⟩, List.mem_of_getElem? (i := 23) (by decide +kernel), List.mem_of_getElem? (i := 559) (by decide +kernel), List.mem_of_getElem? (i := 560) (by decide +kernel)⟩
def lw_privs_1 : List (MethodName × Nat) := [(⟨"BlendYard", "putBytes", "(I)V"⟩, 14), (⟨"BlendYard$Reader", "advance", "()V"⟩, 10), (⟨"BlendYard$Reader", "isLetter", "(I)Z"⟩, 10), (⟨"BlendYard$Reader", "isDigit", "(I)Z"⟩, 10), (⟨"BlendYard$Reader", "readLine", "()V"⟩, 10), (⟨"BlendYard$Reader", "says", "(Ljava/lang/String;)Z"⟩, 10), (⟨"BlendYard$Reader", "readLot", "()V"⟩, 10), (⟨"BlendYard$Reader", "fail", "(I)V"⟩, 10), (⟨"BlendYard$Reader", "takeName", "()V"⟩, 10), (⟨"BlendYard$Reader", "isKept", "()Z"⟩, 10), (⟨"BlendYard$Reader", "takeTold", "(Ljava/lang/String;II)I"⟩, 10), (⟨"BlendYard$Reader", "numberHere", "()I"⟩, 10), (⟨"BlendYard$Reader", "readPile", "()V"⟩, 10), (⟨"BlendYard$Reader", "readShip", "()V"⟩, 10), (⟨"BlendYard$Reader", "readGap", "()V"⟩, 10), (⟨"BlendYard", "shipsSailed", "()I"⟩, 14)]
theorem lw_r1 : ∀ q ∈ lw_privs_1, lw_okq q := List.forall_mem_cons.mpr ⟨lw_p0, List.forall_mem_cons.mpr ⟨lw_p1, List.forall_mem_cons.mpr ⟨lw_p2, List.forall_mem_cons.mpr ⟨lw_p3, List.forall_mem_cons.mpr ⟨lw_p4, List.forall_mem_cons.mpr ⟨lw_p5, List.forall_mem_cons.mpr ⟨lw_p6, List.forall_mem_cons.mpr ⟨lw_p7, List.forall_mem_cons.mpr ⟨lw_p8, List.forall_mem_cons.mpr ⟨lw_p9, List.forall_mem_cons.mpr ⟨lw_p10, List.forall_mem_cons.mpr ⟨lw_p11, List.forall_mem_cons.mpr ⟨lw_p12, List.forall_mem_cons.mpr ⟨lw_p13, List.forall_mem_cons.mpr ⟨lw_p14, List.forall_mem_cons.mpr ⟨lw_p15, fun _ h => absurd h List.not_mem_nil⟩⟩⟩⟩⟩⟩⟩⟩⟩⟩⟩⟩⟩⟩⟩⟩
theorem lw_p16 : lw_okq (⟨"BlendYard", "shipsLate", "()I"⟩, 14) := ⟨⟨by decide +kernel, by decide +kernel⟩, List.mem_of_getElem? (i := 23) (by decide +kernel), List.mem_of_getElem? (i := 567) (by decide +kernel), List.mem_of_getElem? (i := 568) (by decide +kernel)⟩
theorem lw_p17 : lw_okq (⟨"BlendYard", "lateDays", "(I)I"⟩, 14) := ⟨⟨by decide +kernel, by decide +kernel⟩, List.mem_of_getElem? (i := 23) (by decide +kernel), List.mem_of_getElem? (i := 571) (by decide +kernel), List.mem_of_getElem? (i := 572) (by decide +kernel)⟩
theorem lw_p18 : lw_okq (⟨"BlendYard", "hasLayer", "(II)Z"⟩, 14) := ⟨⟨by decide +kernel, by decide +kernel⟩, List.mem_of_getElem? (i := 23) (by decide +kernel), List.mem_of_getElem? (i := 601) (by decide +kernel), List.mem_of_getElem? (i := 602) (by decide +kernel)⟩
theorem lw_p19 : lw_okq (⟨"BlendYard", "canBeTold", "(IIIII)Z"⟩, 14) := ⟨⟨by decide +kernel, by decide +kernel⟩, List.mem_of_getElem? (i := 23) (by decide +kernel), List.mem_of_getElem? (i := 644) (by decide +kernel), List.mem_of_getElem? (i := 645) (by decide +kernel)⟩
theorem lw_p20 : lw_okq (⟨"BlendYard", "staysApart", "(IIII)Z"⟩, 14) := ⟨⟨by decide +kernel, by decide +kernel⟩, List.mem_of_getElem? (i := 23) (by decide +kernel), List.mem_of_getElem? (i := 652) (by decide +kernel), List.mem_of_getElem? (i := 653) (by decide +kernel)⟩
theorem lw_p21 : lw_okq (⟨"BlendYard", "tellGrade", "(II)I"⟩, 14) := ⟨⟨by decide +kernel, by decide +kernel⟩, List.mem_of_getElem? (i := 23) (by decide +kernel), List.mem_of_getElem? (i := 824) (by decide +kernel), List.mem_of_getElem? (i := 825) (by decide +kernel)⟩
theorem lw_p22 : lw_okq (⟨"BlendYard$Blend", "measure", "(LBlendYard$Told;LBlendYard$State;II)V"⟩, 7) := ⟨⟨by decide +kernel, by decide +kernel⟩, List.mem_of_getElem? (i := 293) (by decide +kernel), List.mem_of_getElem? (i := 885) (by decide +kernel), List.mem_of_getElem? (i := 886) (by decide +kernel)⟩
theorem lw_p23 : lw_okq (⟨"BlendYard$Blend", "bestFrom", "(I)I"⟩, 7) := ⟨⟨by decide +kernel, by decide +kernel⟩, List.mem_of_getElem? (i := 293) (by decide +kernel), List.mem_of_getElem? (i := 892) (by decide +kernel), List.mem_of_getElem? (i := 893) (by decide +kernel)⟩
theorem lw_p24 : lw_okq (⟨"BlendYard$Blend", "isNearer", "(II)Z"⟩, 7) := ⟨⟨by decide +kernel, by decide +kernel⟩, List.mem_of_getElem? (i := 293) (by decide +kernel), List.mem_of_getElem? (i := 896) (by decide +kernel), List.mem_of_getElem? (i := 897) (by decide +kernel)⟩
theorem lw_p25 : lw_okq (⟨"BlendYard$Blend", "raiseTo", "(II)V"⟩, 7) := ⟨⟨by decide +kernel, by decide +kernel⟩, List.mem_of_getElem? (i := 293) (by decide +kernel), List.mem_of_getElem? (i := 900) (by decide +kernel), List.mem_of_getElem? (i := 901) (by decide +kernel)⟩
theorem lw_p26 : lw_okq (⟨"BlendYard$Blend", "putInOrder", "()V"⟩, 7) := ⟨⟨by decide +kernel, by decide +kernel⟩, List.mem_of_getElem? (i := 293) (by decide +kernel), List.mem_of_getElem? (i := 904) (by decide +kernel), List.mem_of_getElem? (i := 905) (by decide +kernel)⟩
theorem lw_p27 : lw_okq (⟨"BlendYard$Blend", "firstGood", "(I)I"⟩, 7) := ⟨⟨by decide +kernel, by decide +kernel⟩, List.mem_of_getElem? (i := 293) (by decide +kernel), List.mem_of_getElem? (i := 908) (by decide +kernel), List.mem_of_getElem? (i := 909) (by decide +kernel)⟩
theorem lw_p28 : lw_okq (⟨"BlendYard$Route", "weighCells", "(LBlendYard$Told;LBlendYard$State;I)I"⟩, 9) := ⟨⟨by decide +kernel, by decide +kernel⟩, List.mem_of_getElem? (i := 326) (by decide +kernel), List.mem_of_getElem? (i := 934) (by decide +kernel), List.mem_of_getElem? (i := 935) (by decide +kernel)⟩
theorem lw_p29 : lw_okq (⟨"BlendYard$Route", "consider", "(II)V"⟩, 9) := ⟨⟨by decide +kernel, by decide +kernel⟩, List.mem_of_getElem? (i := 326) (by decide +kernel), List.mem_of_getElem? (i := 945) (by decide +kernel), List.mem_of_getElem? (i := 946) (by decide +kernel)⟩
theorem lw_p30 : lw_okq (⟨"BlendYard$Route", "isBetter", "(II)Z"⟩, 9) := ⟨⟨by decide +kernel, by decide +kernel⟩, List.mem_of_getElem? (i := 326) (by decide +kernel), List.mem_of_getElem? (i := 954) (by decide +kernel), List.mem_of_getElem? (i := 955) (by decide +kernel)⟩
theorem lw_p31 : lw_okq (⟨"BlendYard$Loading", "sortByDue", "(LBlendYard$Told;LBlendYard$State;)V"⟩, 6) := ⟨⟨by decide +kernel, by decide +kernel⟩, List.mem_of_getElem? (i := 264) (by decide +kernel), List.mem_of_getElem? (i := 967) (by decide +kernel), List.mem_of_getElem? (i := 968) (by decide +kernel)⟩
def lw_privs_2 : List (MethodName × Nat) := [(⟨"BlendYard", "shipsLate", "()I"⟩, 14), (⟨"BlendYard", "lateDays", "(I)I"⟩, 14), (⟨"BlendYard", "hasLayer", "(II)Z"⟩, 14), (⟨"BlendYard", "canBeTold", "(IIIII)Z"⟩, 14), (⟨"BlendYard", "staysApart", "(IIII)Z"⟩, 14), (⟨"BlendYard", "tellGrade", "(II)I"⟩, 14), (⟨"BlendYard$Blend", "measure", "(LBlendYard$Told;LBlendYard$State;II)V"⟩, 7), (⟨"BlendYard$Blend", "bestFrom", "(I)I"⟩, 7), (⟨"BlendYard$Blend", "isNearer", "(II)Z"⟩, 7), (⟨"BlendYard$Blend", "raiseTo", "(II)V"⟩, 7), (⟨"BlendYard$Blend", "putInOrder", "()V"⟩, 7), (⟨"BlendYard$Blend", "firstGood", "(I)I"⟩, 7), (⟨"BlendYard$Route", "weighCells", "(LBlendYard$Told;LBlendYard$State;I)I"⟩, 9), (⟨"BlendYard$Route", "consider", "(II)V"⟩, 9), (⟨"BlendYard$Route", "isBetter", "(II)Z"⟩, 9), (⟨"BlendYard$Loading", "sortByDue", "(LBlendYard$Told;LBlendYard$State;)V"⟩, 6)]
theorem lw_r2 : ∀ q ∈ lw_privs_2, lw_okq q := List.forall_mem_cons.mpr ⟨lw_p16, List.forall_mem_cons.mpr ⟨lw_p17, List.forall_mem_cons.mpr ⟨lw_p18, List.forall_mem_cons.mpr ⟨lw_p19, List.forall_mem_cons.mpr ⟨lw_p20, List.forall_mem_cons.mpr ⟨lw_p21, List.forall_mem_cons.mpr ⟨lw_p22, List.forall_mem_cons.mpr ⟨lw_p23, List.forall_mem_cons.mpr ⟨lw_p24, List.forall_mem_cons.mpr ⟨lw_p25, List.forall_mem_cons.mpr ⟨lw_p26, List.forall_mem_cons.mpr ⟨lw_p27, List.forall_mem_cons.mpr ⟨lw_p28, List.forall_mem_cons.mpr ⟨lw_p29, List.forall_mem_cons.mpr ⟨lw_p30, List.forall_mem_cons.mpr ⟨lw_p31, fun _ h => absurd h List.not_mem_nil⟩⟩⟩⟩⟩⟩⟩⟩⟩⟩⟩⟩⟩⟩⟩⟩
theorem lw_p32 : lw_okq (⟨"BlendYard$Loading", "longestLoad", "(LBlendYard$Told;I)I"⟩, 6) := ⟨⟨by decide +kernel, by decide +kernel⟩, List.mem_of_getElem? (i := 264) (by decide +kernel), List.mem_of_getElem? (i := 971) (by decide +kernel), List.mem_of_getElem? (i := 972) (by decide +kernel)⟩
theorem lw_p33 : lw_okq (⟨"BlendYard$Loading", "putInOrder", "(LBlendYard$Told;LBlendYard$State;)V"⟩, 6) := ⟨⟨by decide +kernel, by decide +kernel⟩, List.mem_of_getElem? (i := 264) (by decide +kernel), List.mem_of_getElem? (i := 975) (by decide +kernel), List.mem_of_getElem? (i := 976) (by decide +kernel)⟩
theorem lw_p34 : lw_okq (⟨"java/lang/Throwable", "fillInStackTrace", "(I)Ljava/lang/Throwable;"⟩, 6) := ⟨⟨by decide +kernel, by decide +kernel⟩, List.mem_of_getElem? (i := 1035) (by decide +kernel), List.mem_of_getElem? (i := 1033) (by decide +kernel), List.mem_of_getElem? (i := 1034) (by decide +kernel)⟩
theorem lw_p35 : lw_okq (⟨"BlendYardModel", "puts", "(I)V"⟩, 43) := ⟨⟨by decide +kernel, by decide +kernel⟩, List.mem_of_getElem? (i := 1077) (by decide +kernel), List.mem_of_getElem? (i := 1075) (by decide +kernel), List.mem_of_getElem? (i := 1076) (by decide +kernel)⟩
theorem lw_p36 : lw_okq (⟨"BlendYardModel", "plain", "()V"⟩, 43) := ⟨⟨by decide +kernel, by decide +kernel⟩, List.mem_of_getElem? (i := 1077) (by decide +kernel), List.mem_of_getElem? (i := 1085) (by decide +kernel), List.mem_of_getElem? (i := 1086) (by decide +kernel)⟩
theorem lw_p37 : lw_okq (⟨"BlendYardModel", "go", "()V"⟩, 43) := ⟨⟨by decide +kernel, by decide +kernel⟩, List.mem_of_getElem? (i := 1077) (by decide +kernel), List.mem_of_getElem? (i := 1226) (by decide +kernel), List.mem_of_getElem? (i := 1227) (by decide +kernel)⟩
theorem lw_p38 : lw_okq (⟨"BlendYardModel", "byteAt", "(I)I"⟩, 43) := ⟨⟨by decide +kernel, by decide +kernel⟩, List.mem_of_getElem? (i := 1077) (by decide +kernel), List.mem_of_getElem? (i := 1230) (by decide +kernel), List.mem_of_getElem? (i := 1231) (by decide +kernel)⟩
theorem lw_p39 : lw_okq (⟨"BlendYardModel", "line", "()Z"⟩, 43) := ⟨⟨by decide +kernel, by decide +kernel⟩, List.mem_of_getElem? (i := 1077) (by decide +kernel), List.mem_of_getElem? (i := 1238) (by decide +kernel), List.mem_of_getElem? (i := 1239) (by decide +kernel)⟩
theorem lw_p40 : lw_okq (⟨"BlendYardModel", "is", "(I)Z"⟩, 43) := ⟨⟨by decide +kernel, by decide +kernel⟩, List.mem_of_getElem? (i := 1077) (by decide +kernel), List.mem_of_getElem? (i := 1244) (by decide +kernel), List.mem_of_getElem? (i := 1245) (by decide +kernel)⟩
theorem lw_p41 : lw_okq (⟨"BlendYardModel", "lotLine", "()Z"⟩, 43) := ⟨⟨by decide +kernel, by decide +kernel⟩, List.mem_of_getElem? (i := 1077) (by decide +kernel), List.mem_of_getElem? (i := 1248) (by decide +kernel), List.mem_of_getElem? (i := 1249) (by decide +kernel)⟩
theorem lw_p42 : lw_okq (⟨"BlendYardModel", "begins", "(II)Z"⟩, 43) := ⟨⟨by decide +kernel, by decide +kernel⟩, List.mem_of_getElem? (i := 1077) (by decide +kernel), List.mem_of_getElem? (i := 1252) (by decide +kernel), List.mem_of_getElem? (i := 1253) (by decide +kernel)⟩
theorem lw_p43 : lw_okq (⟨"BlendYardModel", "bad", "(I)Z"⟩, 43) := ⟨⟨by decide +kernel, by decide +kernel⟩, List.mem_of_getElem? (i := 1077) (by decide +kernel), List.mem_of_getElem? (i := 1256) (by decide +kernel), List.mem_of_getElem? (i := 1257) (by decide +kernel)⟩
theorem lw_p44 : lw_okq (⟨"BlendYardModel", "name", "()Z"⟩, 43) := ⟨⟨by decide +kernel, by decide +kernel⟩, List.mem_of_getElem? (i := 1077) (by decide +kernel), List.mem_of_getElem? (i := 1260) (by decide +kernel), List.mem_of_getElem? (i := 1261) (by decide +kernel)⟩
theorem lw_p45 : lw_okq (⟨"BlendYardModel", "isOwn", "()Z"⟩, 43) := ⟨⟨by decide +kernel, by decide +kernel⟩, List.mem_of_getElem? (i := 1077) (by decide +kernel), List.mem_of_getElem? (i := 1264) (by decide +kernel), List.mem_of_getElem? (i := 1265) (by decide +kernel)⟩
theorem lw_p46 : lw_okq (⟨"BlendYardModel", "worded", "(III)Z"⟩, 43) := ⟨⟨by decide +kernel, by decide +kernel⟩, List.mem_of_getElem? (i := 1077) (by decide +kernel), List.mem_of_getElem? (i := 1292) (by decide +kernel), List.mem_of_getElem? (i := 1293) (by decide +kernel)⟩
theorem lw_p47 : lw_okq (⟨"BlendYardModel", "number", "(II)Z"⟩, 43) := ⟨⟨by decide +kernel, by decide +kernel⟩, List.mem_of_getElem? (i := 1077) (by decide +kernel), List.mem_of_getElem? (i := 1296) (by decide +kernel), List.mem_of_getElem? (i := 1297) (by decide +kernel)⟩
def lw_privs_3 : List (MethodName × Nat) := [(⟨"BlendYard$Loading", "longestLoad", "(LBlendYard$Told;I)I"⟩, 6), (⟨"BlendYard$Loading", "putInOrder", "(LBlendYard$Told;LBlendYard$State;)V"⟩, 6), (⟨"java/lang/Throwable", "fillInStackTrace", "(I)Ljava/lang/Throwable;"⟩, 6), (⟨"BlendYardModel", "puts", "(I)V"⟩, 43), (⟨"BlendYardModel", "plain", "()V"⟩, 43), (⟨"BlendYardModel", "go", "()V"⟩, 43), (⟨"BlendYardModel", "byteAt", "(I)I"⟩, 43), (⟨"BlendYardModel", "line", "()Z"⟩, 43), (⟨"BlendYardModel", "is", "(I)Z"⟩, 43), (⟨"BlendYardModel", "lotLine", "()Z"⟩, 43), (⟨"BlendYardModel", "begins", "(II)Z"⟩, 43), (⟨"BlendYardModel", "bad", "(I)Z"⟩, 43), (⟨"BlendYardModel", "name", "()Z"⟩, 43), (⟨"BlendYardModel", "isOwn", "()Z"⟩, 43), (⟨"BlendYardModel", "worded", "(III)Z"⟩, 43), (⟨"BlendYardModel", "number", "(II)Z"⟩, 43)]
theorem lw_r3 : ∀ q ∈ lw_privs_3, lw_okq q := List.forall_mem_cons.mpr ⟨lw_p32, List.forall_mem_cons.mpr ⟨lw_p33, List.forall_mem_cons.mpr ⟨lw_p34, List.forall_mem_cons.mpr ⟨lw_p35, List.forall_mem_cons.mpr ⟨lw_p36, List.forall_mem_cons.mpr ⟨lw_p37, List.forall_mem_cons.mpr ⟨lw_p38, List.forall_mem_cons.mpr ⟨lw_p39, List.forall_mem_cons.mpr ⟨lw_p40, List.forall_mem_cons.mpr ⟨lw_p41, List.forall_mem_cons.mpr ⟨lw_p42, List.forall_mem_cons.mpr ⟨lw_p43, List.forall_mem_cons.mpr ⟨lw_p44, List.forall_mem_cons.mpr ⟨lw_p45, List.forall_mem_cons.mpr ⟨lw_p46, List.forall_mem_cons.mpr ⟨lw_p47, fun _ h => absurd h List.not_mem_nil⟩⟩⟩⟩⟩⟩⟩⟩⟩⟩⟩⟩⟩⟩⟩⟩
theorem lw_p48 : lw_okq (⟨"BlendYardModel", "pileLine", "()Z"⟩, 43) := ⟨⟨by decide +kernel, by decide +kernel⟩, List.mem_of_getElem? (i := 1077) (by decide +kernel), List.mem_of_getElem? (i := 1300) (by decide +kernel), List.mem_of_getElem? (i := 1301) (by decide +kernel)⟩
theorem lw_p49 : lw_okq (⟨"BlendYardModel", "shipLine", "()Z"⟩, 43) := ⟨⟨by decide +kernel, by decide +kernel⟩, List.mem_of_getElem? (i := 1077) (by decide +kernel), List.mem_of_getElem? (i := 1304) (by decide +kernel), List.mem_of_getElem? (i := 1305) (by decide +kernel)⟩
theorem lw_p50 : lw_okq (⟨"BlendYardModel", "part", "(IIII)Z"⟩, 43) := ⟨⟨by decide +kernel, by decide +kernel⟩, List.mem_of_getElem? (i := 1077) (by decide +kernel), List.mem_of_getElem? (i := 1308) (by decide +kernel), List.mem_of_getElem? (i := 1309) (by decide +kernel)⟩
theorem lw_p51 : lw_okq (⟨"BlendYardModel", "gapLine", "()Z"⟩, 43) := ⟨⟨by decide +kernel, by decide +kernel⟩, List.mem_of_getElem? (i := 1077) (by decide +kernel), List.mem_of_getElem? (i := 1312) (by decide +kernel), List.mem_of_getElem? (i := 1313) (by decide +kernel)⟩
theorem lw_p52 : lw_okq (⟨"BlendYardModel", "late", "(I)I"⟩, 43) := ⟨⟨by decide +kernel, by decide +kernel⟩, List.mem_of_getElem? (i := 1077) (by decide +kernel), List.mem_of_getElem? (i := 1320) (by decide +kernel), List.mem_of_getElem? (i := 1321) (by decide +kernel)⟩
theorem lw_p53 : lw_okq (⟨"BlendYardModel", "shipOf", "(II)I"⟩, 43) := ⟨⟨by decide +kernel, by decide +kernel⟩, List.mem_of_getElem? (i := 1077) (by decide +kernel), List.mem_of_getElem? (i := 1324) (by decide +kernel), List.mem_of_getElem? (i := 1325) (by decide +kernel)⟩
theorem lw_p54 : lw_okq (⟨"BlendYardModel", "isLot", "(I)Z"⟩, 43) := ⟨⟨by decide +kernel, by decide +kernel⟩, List.mem_of_getElem? (i := 1077) (by decide +kernel), List.mem_of_getElem? (i := 1332) (by decide +kernel), List.mem_of_getElem? (i := 1333) (by decide +kernel)⟩
theorem lw_p55 : lw_okq (⟨"BlendYardModel", "isShip", "(I)Z"⟩, 43) := ⟨⟨by decide +kernel, by decide +kernel⟩, List.mem_of_getElem? (i := 1077) (by decide +kernel), List.mem_of_getElem? (i := 1341) (by decide +kernel), List.mem_of_getElem? (i := 1342) (by decide +kernel)⟩
theorem lw_p56 : lw_okq (⟨"BlendYardModel", "isPile", "(I)Z"⟩, 43) := ⟨⟨by decide +kernel, by decide +kernel⟩, List.mem_of_getElem? (i := 1077) (by decide +kernel), List.mem_of_getElem? (i := 1350) (by decide +kernel), List.mem_of_getElem? (i := 1351) (by decide +kernel)⟩
theorem lw_p57 : lw_okq (⟨"BlendYardModel", "sums", "(III)V"⟩, 43) := ⟨⟨by decide +kernel, by decide +kernel⟩, List.mem_of_getElem? (i := 1077) (by decide +kernel), List.mem_of_getElem? (i := 1354) (by decide +kernel), List.mem_of_getElem? (i := 1355) (by decide +kernel)⟩
theorem lw_p58 : lw_okq (⟨"BlendYardModel", "gradeOfLayer", "(II)I"⟩, 43) := ⟨⟨by decide +kernel, by decide +kernel⟩, List.mem_of_getElem? (i := 1077) (by decide +kernel), List.mem_of_getElem? (i := 1361) (by decide +kernel), List.mem_of_getElem? (i := 1362) (by decide +kernel)⟩
theorem lw_p59 : lw_okq (⟨"BlendYardModel", "isLayer", "(II)Z"⟩, 43) := ⟨⟨by decide +kernel, by decide +kernel⟩, List.mem_of_getElem? (i := 1077) (by decide +kernel), List.mem_of_getElem? (i := 1369) (by decide +kernel), List.mem_of_getElem? (i := 1370) (by decide +kernel)⟩
theorem lw_p60 : lw_okq (⟨"BlendYardModel", "isCell", "(II)Z"⟩, 43) := ⟨⟨by decide +kernel, by decide +kernel⟩, List.mem_of_getElem? (i := 1077) (by decide +kernel), List.mem_of_getElem? (i := 1377) (by decide +kernel), List.mem_of_getElem? (i := 1378) (by decide +kernel)⟩
theorem lw_p61 : lw_okq (⟨"BlendYardModel", "lays", "(IIIII)I"⟩, 43) := ⟨⟨by decide +kernel, by decide +kernel⟩, List.mem_of_getElem? (i := 1077) (by decide +kernel), List.mem_of_getElem? (i := 1394) (by decide +kernel), List.mem_of_getElem? (i := 1395) (by decide +kernel)⟩
theorem lw_p62 : lw_okq (⟨"BlendYardModel", "isLaying", "(IIIII)Z"⟩, 43) := ⟨⟨by decide +kernel, by decide +kernel⟩, List.mem_of_getElem? (i := 1077) (by decide +kernel), List.mem_of_getElem? (i := 1398) (by decide +kernel), List.mem_of_getElem? (i := 1399) (by decide +kernel)⟩
theorem lw_p63 : lw_okq (⟨"BlendYardModel", "isApart", "(IIII)Z"⟩, 43) := ⟨⟨by decide +kernel, by decide +kernel⟩, List.mem_of_getElem? (i := 1077) (by decide +kernel), List.mem_of_getElem? (i := 1403) (by decide +kernel), List.mem_of_getElem? (i := 1404) (by decide +kernel)⟩
def lw_privs_4 : List (MethodName × Nat) := [(⟨"BlendYardModel", "pileLine", "()Z"⟩, 43), (⟨"BlendYardModel", "shipLine", "()Z"⟩, 43), (⟨"BlendYardModel", "part", "(IIII)Z"⟩, 43), (⟨"BlendYardModel", "gapLine", "()Z"⟩, 43), (⟨"BlendYardModel", "late", "(I)I"⟩, 43), (⟨"BlendYardModel", "shipOf", "(II)I"⟩, 43), (⟨"BlendYardModel", "isLot", "(I)Z"⟩, 43), (⟨"BlendYardModel", "isShip", "(I)Z"⟩, 43), (⟨"BlendYardModel", "isPile", "(I)Z"⟩, 43), (⟨"BlendYardModel", "sums", "(III)V"⟩, 43), (⟨"BlendYardModel", "gradeOfLayer", "(II)I"⟩, 43), (⟨"BlendYardModel", "isLayer", "(II)Z"⟩, 43), (⟨"BlendYardModel", "isCell", "(II)Z"⟩, 43), (⟨"BlendYardModel", "lays", "(IIIII)I"⟩, 43), (⟨"BlendYardModel", "isLaying", "(IIIII)Z"⟩, 43), (⟨"BlendYardModel", "isApart", "(IIII)Z"⟩, 43)]
theorem lw_r4 : ∀ q ∈ lw_privs_4, lw_okq q := List.forall_mem_cons.mpr ⟨lw_p48, List.forall_mem_cons.mpr ⟨lw_p49, List.forall_mem_cons.mpr ⟨lw_p50, List.forall_mem_cons.mpr ⟨lw_p51, List.forall_mem_cons.mpr ⟨lw_p52, List.forall_mem_cons.mpr ⟨lw_p53, List.forall_mem_cons.mpr ⟨lw_p54, List.forall_mem_cons.mpr ⟨lw_p55, List.forall_mem_cons.mpr ⟨lw_p56, List.forall_mem_cons.mpr ⟨lw_p57, List.forall_mem_cons.mpr ⟨lw_p58, List.forall_mem_cons.mpr ⟨lw_p59, List.forall_mem_cons.mpr ⟨lw_p60, List.forall_mem_cons.mpr ⟨lw_p61, List.forall_mem_cons.mpr ⟨lw_p62, List.forall_mem_cons.mpr ⟨lw_p63, fun _ h => absurd h List.not_mem_nil⟩⟩⟩⟩⟩⟩⟩⟩⟩⟩⟩⟩⟩⟩⟩⟩
theorem lw_p64 : lw_okq (⟨"BlendYardModel", "areFree", "(IIII)Z"⟩, 43) := ⟨⟨by decide +kernel, by decide +kernel⟩, List.mem_of_getElem? (i := 1077) (by decide +kernel), List.mem_of_getElem? (i := 1407) (by decide +kernel), List.mem_of_getElem? (i := 1408) (by decide +kernel)⟩
theorem lw_p65 : lw_okq (⟨"BlendYardModel", "isFree", "(III)Z"⟩, 43) := ⟨⟨by decide +kernel, by decide +kernel⟩, List.mem_of_getElem? (i := 1077) (by decide +kernel), List.mem_of_getElem? (i := 1413) (by decide +kernel), List.mem_of_getElem? (i := 1414) (by decide +kernel)⟩
theorem lw_p66 : lw_okq (⟨"BlendYardModel", "isOn", "(II)Z"⟩, 43) := ⟨⟨by decide +kernel, by decide +kernel⟩, List.mem_of_getElem? (i := 1077) (by decide +kernel), List.mem_of_getElem? (i := 1417) (by decide +kernel), List.mem_of_getElem? (i := 1418) (by decide +kernel)⟩
theorem lw_p67 : lw_okq (⟨"BlendYardModel", "cellOf", "(I)I"⟩, 43) := ⟨⟨by decide +kernel, by decide +kernel⟩, List.mem_of_getElem? (i := 1077) (by decide +kernel), List.mem_of_getElem? (i := 1421) (by decide +kernel), List.mem_of_getElem? (i := 1422) (by decide +kernel)⟩
theorem lw_p68 : lw_okq (⟨"BlendYardModel", "keeps", "()V"⟩, 43) := ⟨⟨by decide +kernel, by decide +kernel⟩, List.mem_of_getElem? (i := 1077) (by decide +kernel), List.mem_of_getElem? (i := 1429) (by decide +kernel), List.mem_of_getElem? (i := 1430) (by decide +kernel)⟩
theorem lw_p69 : lw_okq (⟨"BlendYardModel", "stepsTo", "(III)I"⟩, 43) := ⟨⟨by decide +kernel, by decide +kernel⟩, List.mem_of_getElem? (i := 1077) (by decide +kernel), List.mem_of_getElem? (i := 1436) (by decide +kernel), List.mem_of_getElem? (i := 1437) (by decide +kernel)⟩
theorem lw_p70 : lw_okq (⟨"BlendYardModel", "laid", "(IIIII)V"⟩, 43) := ⟨⟨by decide +kernel, by decide +kernel⟩, List.mem_of_getElem? (i := 1077) (by decide +kernel), List.mem_of_getElem? (i := 1440) (by decide +kernel), List.mem_of_getElem? (i := 1441) (by decide +kernel)⟩
theorem lw_p71 : lw_okq (⟨"BlendYardModel", "newLayer", "(II)I"⟩, 43) := ⟨⟨by decide +kernel, by decide +kernel⟩, List.mem_of_getElem? (i := 1077) (by decide +kernel), List.mem_of_getElem? (i := 1444) (by decide +kernel), List.mem_of_getElem? (i := 1445) (by decide +kernel)⟩
theorem lw_p72 : lw_okq (⟨"BlendYardModel", "stands", "(III)V"⟩, 43) := ⟨⟨by decide +kernel, by decide +kernel⟩, List.mem_of_getElem? (i := 1077) (by decide +kernel), List.mem_of_getElem? (i := 1448) (by decide +kernel), List.mem_of_getElem? (i := 1449) (by decide +kernel)⟩
theorem lw_p73 : lw_okq (⟨"BlendYardModel", "cuts", "(III)I"⟩, 43) := ⟨⟨by decide +kernel, by decide +kernel⟩, List.mem_of_getElem? (i := 1077) (by decide +kernel), List.mem_of_getElem? (i := 1456) (by decide +kernel), List.mem_of_getElem? (i := 1457) (by decide +kernel)⟩
theorem lw_p74 : lw_okq (⟨"BlendYardModel", "isCutting", "(III)Z"⟩, 43) := ⟨⟨by decide +kernel, by decide +kernel⟩, List.mem_of_getElem? (i := 1077) (by decide +kernel), List.mem_of_getElem? (i := 1460) (by decide +kernel), List.mem_of_getElem? (i := 1461) (by decide +kernel)⟩
theorem lw_p75 : lw_okq (⟨"BlendYardModel", "isFull", "(I)Z"⟩, 43) := ⟨⟨by decide +kernel, by decide +kernel⟩, List.mem_of_getElem? (i := 1077) (by decide +kernel), List.mem_of_getElem? (i := 1464) (by decide +kernel), List.mem_of_getElem? (i := 1465) (by decide +kernel)⟩
theorem lw_p76 : lw_okq (⟨"BlendYardModel", "loads", "(III)I"⟩, 43) := ⟨⟨by decide +kernel, by decide +kernel⟩, List.mem_of_getElem? (i := 1077) (by decide +kernel), List.mem_of_getElem? (i := 1472) (by decide +kernel), List.mem_of_getElem? (i := 1473) (by decide +kernel)⟩
theorem lw_p77 : lw_okq (⟨"BlendYardModel", "isGood", "(III)Z"⟩, 43) := ⟨⟨by decide +kernel, by decide +kernel⟩, List.mem_of_getElem? (i := 1077) (by decide +kernel), List.mem_of_getElem? (i := 1484) (by decide +kernel), List.mem_of_getElem? (i := 1485) (by decide +kernel)⟩
theorem lw_p78 : lw_okq (⟨"BlendYardModel", "minute", "()Z"⟩, 43) := ⟨⟨by decide +kernel, by decide +kernel⟩, List.mem_of_getElem? (i := 1077) (by decide +kernel), List.mem_of_getElem? (i := 1509) (by decide +kernel), List.mem_of_getElem? (i := 1510) (by decide +kernel)⟩
theorem lw_p79 : lw_okq (⟨"BlendYardModel", "takes", "()I"⟩, 43) := ⟨⟨by decide +kernel, by decide +kernel⟩, List.mem_of_getElem? (i := 1077) (by decide +kernel), List.mem_of_getElem? (i := 1513) (by decide +kernel), List.mem_of_getElem? (i := 1514) (by decide +kernel)⟩
def lw_privs_5 : List (MethodName × Nat) := [(⟨"BlendYardModel", "areFree", "(IIII)Z"⟩, 43), (⟨"BlendYardModel", "isFree", "(III)Z"⟩, 43), (⟨"BlendYardModel", "isOn", "(II)Z"⟩, 43), (⟨"BlendYardModel", "cellOf", "(I)I"⟩, 43), (⟨"BlendYardModel", "keeps", "()V"⟩, 43), (⟨"BlendYardModel", "stepsTo", "(III)I"⟩, 43), (⟨"BlendYardModel", "laid", "(IIIII)V"⟩, 43), (⟨"BlendYardModel", "newLayer", "(II)I"⟩, 43), (⟨"BlendYardModel", "stands", "(III)V"⟩, 43), (⟨"BlendYardModel", "cuts", "(III)I"⟩, 43), (⟨"BlendYardModel", "isCutting", "(III)Z"⟩, 43), (⟨"BlendYardModel", "isFull", "(I)Z"⟩, 43), (⟨"BlendYardModel", "loads", "(III)I"⟩, 43), (⟨"BlendYardModel", "isGood", "(III)Z"⟩, 43), (⟨"BlendYardModel", "minute", "()Z"⟩, 43), (⟨"BlendYardModel", "takes", "()I"⟩, 43)]
theorem lw_r5 : ∀ q ∈ lw_privs_5, lw_okq q := List.forall_mem_cons.mpr ⟨lw_p64, List.forall_mem_cons.mpr ⟨lw_p65, List.forall_mem_cons.mpr ⟨lw_p66, List.forall_mem_cons.mpr ⟨lw_p67, List.forall_mem_cons.mpr ⟨lw_p68, List.forall_mem_cons.mpr ⟨lw_p69, List.forall_mem_cons.mpr ⟨lw_p70, List.forall_mem_cons.mpr ⟨lw_p71, List.forall_mem_cons.mpr ⟨lw_p72, List.forall_mem_cons.mpr ⟨lw_p73, List.forall_mem_cons.mpr ⟨lw_p74, List.forall_mem_cons.mpr ⟨lw_p75, List.forall_mem_cons.mpr ⟨lw_p76, List.forall_mem_cons.mpr ⟨lw_p77, List.forall_mem_cons.mpr ⟨lw_p78, List.forall_mem_cons.mpr ⟨lw_p79, fun _ h => absurd h List.not_mem_nil⟩⟩⟩⟩⟩⟩⟩⟩⟩⟩⟩⟩⟩⟩⟩⟩
theorem lw_p80 : lw_okq (⟨"BlendYardModel", "nears", "(III)I"⟩, 43) := ⟨⟨by decide +kernel, by decide +kernel⟩, List.mem_of_getElem? (i := 1077) (by decide +kernel), List.mem_of_getElem? (i := 1517) (by decide +kernel), List.mem_of_getElem? (i := 1518) (by decide +kernel)⟩
theorem lw_p81 : lw_okq (⟨"BlendYardModel", "waits", "(I)I"⟩, 43) := ⟨⟨by decide +kernel, by decide +kernel⟩, List.mem_of_getElem? (i := 1077) (by decide +kernel), List.mem_of_getElem? (i := 1521) (by decide +kernel), List.mem_of_getElem? (i := 1522) (by decide +kernel)⟩
theorem lw_p82 : lw_okq (⟨"BlendYardModel", "steps", "(III)V"⟩, 43) := ⟨⟨by decide +kernel, by decide +kernel⟩, List.mem_of_getElem? (i := 1077) (by decide +kernel), List.mem_of_getElem? (i := 1525) (by decide +kernel), List.mem_of_getElem? (i := 1526) (by decide +kernel)⟩
theorem lw_p83 : lw_okq (⟨"BlendYardModel", "done", "(I)V"⟩, 43) := ⟨⟨by decide +kernel, by decide +kernel⟩, List.mem_of_getElem? (i := 1077) (by decide +kernel), List.mem_of_getElem? (i := 1529) (by decide +kernel), List.mem_of_getElem? (i := 1530) (by decide +kernel)⟩
theorem lw_p84 : lw_okq (⟨"BlendYardModel", "stacks", "()I"⟩, 43) := ⟨⟨by decide +kernel, by decide +kernel⟩, List.mem_of_getElem? (i := 1077) (by decide +kernel), List.mem_of_getElem? (i := 1533) (by decide +kernel), List.mem_of_getElem? (i := 1534) (by decide +kernel)⟩
theorem lw_p85 : lw_okq (⟨"BlendYardModel", "summed", "()I"⟩, 43) := ⟨⟨by decide +kernel, by decide +kernel⟩, List.mem_of_getElem? (i := 1077) (by decide +kernel), List.mem_of_getElem? (i := 1553) (by decide +kernel), List.mem_of_getElem? (i := 1554) (by decide +kernel)⟩
theorem lw_p86 : lw_okq (⟨"BlendYardModel", "least", "(II)I"⟩, 43) := ⟨⟨by decide +kernel, by decide +kernel⟩, List.mem_of_getElem? (i := 1077) (by decide +kernel), List.mem_of_getElem? (i := 1557) (by decide +kernel), List.mem_of_getElem? (i := 1558) (by decide +kernel)⟩
theorem lw_p87 : lw_okq (⟨"BlendYardModel", "ordered", "(II)Z"⟩, 43) := ⟨⟨by decide +kernel, by decide +kernel⟩, List.mem_of_getElem? (i := 1077) (by decide +kernel), List.mem_of_getElem? (i := 1599) (by decide +kernel), List.mem_of_getElem? (i := 1600) (by decide +kernel)⟩
theorem lw_p88 : lw_okq (⟨"BlendYardModel", "orders", "(IIJJJJ)V"⟩, 43) := ⟨⟨by decide +kernel, by decide +kernel⟩, List.mem_of_getElem? (i := 1077) (by decide +kernel), List.mem_of_getElem? (i := 1604) (by decide +kernel), List.mem_of_getElem? (i := 1605) (by decide +kernel)⟩
theorem lw_p89 : lw_okq (⟨"BlendYardModel", "isWay", "(III)Z"⟩, 43) := ⟨⟨by decide +kernel, by decide +kernel⟩, List.mem_of_getElem? (i := 1077) (by decide +kernel), List.mem_of_getElem? (i := 1625) (by decide +kernel), List.mem_of_getElem? (i := 1626) (by decide +kernel)⟩
theorem lw_p90 : lw_okq (⟨"BlendYardModel", "wayOf", "(III)V"⟩, 43) := ⟨⟨by decide +kernel, by decide +kernel⟩, List.mem_of_getElem? (i := 1077) (by decide +kernel), List.mem_of_getElem? (i := 1629) (by decide +kernel), List.mem_of_getElem? (i := 1630) (by decide +kernel)⟩
theorem lw_p91 : lw_okq (⟨"BlendYardModel", "plans", "()V"⟩, 43) := ⟨⟨by decide +kernel, by decide +kernel⟩, List.mem_of_getElem? (i := 1077) (by decide +kernel), List.mem_of_getElem? (i := 1640) (by decide +kernel), List.mem_of_getElem? (i := 1641) (by decide +kernel)⟩
theorem lw_p92 : lw_okq (⟨"BlendYardModel", "byDue", "()I"⟩, 43) := ⟨⟨by decide +kernel, by decide +kernel⟩, List.mem_of_getElem? (i := 1077) (by decide +kernel), List.mem_of_getElem? (i := 1644) (by decide +kernel), List.mem_of_getElem? (i := 1645) (by decide +kernel)⟩
theorem lw_p93 : lw_okq (⟨"BlendYardModel", "isOpen", "(I)Z"⟩, 43) := ⟨⟨by decide +kernel, by decide +kernel⟩, List.mem_of_getElem? (i := 1077) (by decide +kernel), List.mem_of_getElem? (i := 1648) (by decide +kernel), List.mem_of_getElem? (i := 1649) (by decide +kernel)⟩
theorem lw_p94 : lw_okq (⟨"BlendYardModel", "longest", "()I"⟩, 43) := ⟨⟨by decide +kernel, by decide +kernel⟩, List.mem_of_getElem? (i := 1077) (by decide +kernel), List.mem_of_getElem? (i := 1652) (by decide +kernel), List.mem_of_getElem? (i := 1653) (by decide +kernel)⟩
theorem lw_p95 : lw_okq (⟨"BlendYardModel", "readyOn", "(I)I"⟩, 43) := ⟨⟨by decide +kernel, by decide +kernel⟩, List.mem_of_getElem? (i := 1077) (by decide +kernel), List.mem_of_getElem? (i := 1664) (by decide +kernel), List.mem_of_getElem? (i := 1665) (by decide +kernel)⟩
def lw_privs_6 : List (MethodName × Nat) := [(⟨"BlendYardModel", "nears", "(III)I"⟩, 43), (⟨"BlendYardModel", "waits", "(I)I"⟩, 43), (⟨"BlendYardModel", "steps", "(III)V"⟩, 43), (⟨"BlendYardModel", "done", "(I)V"⟩, 43), (⟨"BlendYardModel", "stacks", "()I"⟩, 43), (⟨"BlendYardModel", "summed", "()I"⟩, 43), (⟨"BlendYardModel", "least", "(II)I"⟩, 43), (⟨"BlendYardModel", "ordered", "(II)Z"⟩, 43), (⟨"BlendYardModel", "orders", "(IIJJJJ)V"⟩, 43), (⟨"BlendYardModel", "isWay", "(III)Z"⟩, 43), (⟨"BlendYardModel", "wayOf", "(III)V"⟩, 43), (⟨"BlendYardModel", "plans", "()V"⟩, 43), (⟨"BlendYardModel", "byDue", "()I"⟩, 43), (⟨"BlendYardModel", "isOpen", "(I)Z"⟩, 43), (⟨"BlendYardModel", "longest", "()I"⟩, 43), (⟨"BlendYardModel", "readyOn", "(I)I"⟩, 43)]
theorem lw_r6 : ∀ q ∈ lw_privs_6, lw_okq q := List.forall_mem_cons.mpr ⟨lw_p80, List.forall_mem_cons.mpr ⟨lw_p81, List.forall_mem_cons.mpr ⟨lw_p82, List.forall_mem_cons.mpr ⟨lw_p83, List.forall_mem_cons.mpr ⟨lw_p84, List.forall_mem_cons.mpr ⟨lw_p85, List.forall_mem_cons.mpr ⟨lw_p86, List.forall_mem_cons.mpr ⟨lw_p87, List.forall_mem_cons.mpr ⟨lw_p88, List.forall_mem_cons.mpr ⟨lw_p89, List.forall_mem_cons.mpr ⟨lw_p90, List.forall_mem_cons.mpr ⟨lw_p91, List.forall_mem_cons.mpr ⟨lw_p92, List.forall_mem_cons.mpr ⟨lw_p93, List.forall_mem_cons.mpr ⟨lw_p94, List.forall_mem_cons.mpr ⟨lw_p95, fun _ h => absurd h List.not_mem_nil⟩⟩⟩⟩⟩⟩⟩⟩⟩⟩⟩⟩⟩⟩⟩⟩
def lw_privs : List (MethodName × Nat) := lw_privs_1 ++ (lw_privs_2 ++ (lw_privs_3 ++ (lw_privs_4 ++ (lw_privs_5 ++ (lw_privs_6)))))
def lw_tbl : List Cond := k2_sels lw_privs ++ tables_1
theorem lw_privs_ok : ∀ q ∈ lw_privs, lw_okq q := by
  show ∀ q ∈ lw_privs_1 ++ (lw_privs_2 ++ (lw_privs_3 ++ (lw_privs_4 ++ (lw_privs_5 ++ (lw_privs_6))))), lw_okq q
  exact List.forall_mem_append.mpr ⟨lw_r1, List.forall_mem_append.mpr ⟨lw_r2, List.forall_mem_append.mpr ⟨lw_r3, List.forall_mem_append.mpr ⟨lw_r4, List.forall_mem_append.mpr ⟨lw_r5, lw_r6⟩⟩⟩⟩⟩
end
section
def RX0 : String := "BlendYard$Blend"
def TX0 : u_T := fun k => match k with
  | 0 => ("BlendYard$Blend", "size", "I", false)
  | 1 => ("BlendYard$Blend", "sequence", "[I", true)
  | 2 => ("BlendYard$Blend", "worstUp", "J", false)
  | 3 => ("BlendYard$Blend", "worstDown", "J", false)
  | 4 => ("BlendYard$Blend", "lots", "[I", true)
  | 5 => ("BlendYard$Blend", "up", "[J", true)
  | _ => ("BlendYard$Blend", "down", "[J", true)
def tyX0 : Nat → FieldType := fun k => match k with
  | 0 => .int
  | 1 => .array .int
  | 2 => .long
  | 3 => .long
  | 4 => .array .int
  | 5 => .array .long
  | _ => .array .long
abbrev wsX00 : List Cond := u_ws RX0 TX0 7
theorem nmX0 : ∀ a, a < 7 → ∀ b, b < 7 → a ≠ b → (TX0 a).2.1 ≠ (TX0 b).2.1 := by decide +kernel
theorem tyX0_ok : ∀ k, k < 7 → parseFieldDescriptor (TX0 k).2.2.1 = some (tyX0 k) := by decide +kernel
abbrev cX0_init : ByteArray := prog_2_method_1_code
def yX0_init : MethodName := ⟨RX0, "<init>", "()V"⟩
abbrev cX0_find : ByteArray := prog_2_method_2_code
def yX0_find : MethodName := ⟨RX0, "find", "(LBlendYard$Told;LBlendYard$State;II)Z"⟩
abbrev cX0_measure : ByteArray := prog_2_method_3_code
def yX0_measure : MethodName := ⟨RX0, "measure", "(LBlendYard$Told;LBlendYard$State;II)V"⟩
abbrev cX0_bestFrom : ByteArray := prog_2_method_4_code
def yX0_bestFrom : MethodName := ⟨RX0, "bestFrom", "(I)I"⟩
abbrev cX0_isNearer : ByteArray := prog_2_method_5_code
def yX0_isNearer : MethodName := ⟨RX0, "isNearer", "(II)Z"⟩
abbrev cX0_raiseTo : ByteArray := prog_2_method_6_code
def yX0_raiseTo : MethodName := ⟨RX0, "raiseTo", "(II)V"⟩
abbrev cX0_putInOrder : ByteArray := prog_2_method_7_code
def yX0_putInOrder : MethodName := ⟨RX0, "putInOrder", "()V"⟩
abbrev cX0_firstGood : ByteArray := prog_2_method_8_code
def yX0_firstGood : MethodName := ⟨RX0, "firstGood", "(I)I"⟩
def RX1 : String := "BlendYard$History"
def TX1 : u_T := fun k => match k with
  | 0 => ("BlendYard$History", "kept", "[LBlendYard$State;", true)
  | 1 => ("BlendYard$History", "oldest", "I", false)
  | 2 => ("BlendYard$History", "held", "I", false)
  | 3 => ("BlendYard$History", "images", "[LBlendYard$State;", true)
  | _ => ("BlendYard$History", "imageLaid", "[Z", true)
def tyX1 : Nat → FieldType := fun k => match k with
  | 0 => .array (.object "BlendYard$State")
  | 1 => .int
  | 2 => .int
  | 3 => .array (.object "BlendYard$State")
  | _ => .array .boolean
abbrev wsX10 : List Cond := u_ws RX1 TX1 5
theorem nmX1 : ∀ a, a < 5 → ∀ b, b < 5 → a ≠ b → (TX1 a).2.1 ≠ (TX1 b).2.1 := by decide +kernel
theorem tyX1_ok : ∀ k, k < 5 → parseFieldDescriptor (TX1 k).2.2.1 = some (tyX1 k) := by decide +kernel
abbrev cX1_init : ByteArray := prog_3_method_1_code
def yX1_init : MethodName := ⟨RX1, "<init>", "()V"⟩
abbrev cX1_forgetAll : ByteArray := prog_3_method_2_code
def yX1_forgetAll : MethodName := ⟨RX1, "forgetAll", "()V"⟩
abbrev cX1_imagesHeld : ByteArray := prog_3_method_3_code
def yX1_imagesHeld : MethodName := ⟨RX1, "imagesHeld", "()I"⟩
abbrev cX1_keep : ByteArray := prog_3_method_4_code
def yX1_keep : MethodName := ⟨RX1, "keep", "(LBlendYard$State;)V"⟩
abbrev cX1_takeBack : ByteArray := prog_3_method_5_code
def yX1_takeBack : MethodName := ⟨RX1, "takeBack", "(LBlendYard$State;)Z"⟩
abbrev cX1_layImage : ByteArray := prog_3_method_6_code
def yX1_layImage : MethodName := ⟨RX1, "layImage", "(ILBlendYard$State;)Z"⟩
abbrev cX1_restoreImage : ByteArray := prog_3_method_7_code
def yX1_restoreImage : MethodName := ⟨RX1, "restoreImage", "(ILBlendYard$State;)Z"⟩
def RX2 : String := "BlendYard$Loading"
def TX2 : u_T := fun k => match k with
  | 0 => ("BlendYard$Loading", "size", "I", false)
  | 1 => ("BlendYard$Loading", "putOff", "I", false)
  | 2 => ("BlendYard$Loading", "sequence", "[I", true)
  | 3 => ("BlendYard$Loading", "lastDay", "[I", true)
  | 4 => ("BlendYard$Loading", "byDue", "[I", true)
  | _ => ("BlendYard$Loading", "inTime", "[Z", true)
def tyX2 : Nat → FieldType := fun k => match k with
  | 0 => .int
  | 1 => .int
  | 2 => .array .int
  | 3 => .array .int
  | 4 => .array .int
  | _ => .array .boolean
abbrev wsX20 : List Cond := u_ws RX2 TX2 6
theorem nmX2 : ∀ a, a < 6 → ∀ b, b < 6 → a ≠ b → (TX2 a).2.1 ≠ (TX2 b).2.1 := by decide +kernel
theorem tyX2_ok : ∀ k, k < 6 → parseFieldDescriptor (TX2 k).2.2.1 = some (tyX2 k) := by decide +kernel
abbrev cX2_init : ByteArray := prog_4_method_1_code
def yX2_init : MethodName := ⟨RX2, "<init>", "()V"⟩
abbrev cX2_plan : ByteArray := prog_4_method_2_code
def yX2_plan : MethodName := ⟨RX2, "plan", "(LBlendYard$Told;LBlendYard$State;)V"⟩
abbrev cX2_sortByDue : ByteArray := prog_4_method_3_code
def yX2_sortByDue : MethodName := ⟨RX2, "sortByDue", "(LBlendYard$Told;LBlendYard$State;)V"⟩
abbrev cX2_longestLoad : ByteArray := prog_4_method_4_code
def yX2_longestLoad : MethodName := ⟨RX2, "longestLoad", "(LBlendYard$Told;I)I"⟩
abbrev cX2_putInOrder : ByteArray := prog_4_method_5_code
def yX2_putInOrder : MethodName := ⟨RX2, "putInOrder", "(LBlendYard$Told;LBlendYard$State;)V"⟩
def RX3 : String := "BlendYard$Minute"
def TX3 : u_T := fun k => match k with
  | _ => ("", "", "", false)
def tyX3 : Nat → FieldType := fun k => match k with
  | _ => .int
abbrev wsX30 : List Cond := u_ws RX3 TX3 0
theorem nmX3 : ∀ a, a < 0 → ∀ b, b < 0 → a ≠ b → (TX3 a).2.1 ≠ (TX3 b).2.1 := by decide +kernel
theorem tyX3_ok : ∀ k, k < 0 → parseFieldDescriptor (TX3 k).2.2.1 = some (tyX3 k) := by decide +kernel
abbrev cX3_passes : ByteArray := prog_5_method_2_code
def yX3_passes : MethodName := ⟨RX3, "passes", "(LBlendYard$Told;LBlendYard$State;)Z"⟩
abbrev cX3_isKeptWaiting : ByteArray := prog_5_method_3_code
def yX3_isKeptWaiting : MethodName := ⟨RX3, "isKeptWaiting", "(LBlendYard$Told;LBlendYard$State;I)Z"⟩
abbrev cX3_travels : ByteArray := prog_5_method_4_code
def yX3_travels : MethodName := ⟨RX3, "travels", "(LBlendYard$Told;LBlendYard$State;III)Z"⟩
abbrev cX3_moves : ByteArray := prog_5_method_5_code
def yX3_moves : MethodName := ⟨RX3, "moves", "(LBlendYard$Told;LBlendYard$State;III)Z"⟩
abbrev cX3_cuts : ByteArray := prog_5_method_6_code
def yX3_cuts : MethodName := ⟨RX3, "cuts", "(LBlendYard$Told;LBlendYard$State;II)V"⟩
abbrev cX3_lays : ByteArray := prog_5_method_7_code
def yX3_lays : MethodName := ⟨RX3, "lays", "(LBlendYard$Told;LBlendYard$State;II)V"⟩
def RX4 : String := "BlendYard$Reader"
def TX4 : u_T := fun k => match k with
  | 0 => ("BlendYard$Reader", "bytes", "[I", false)
  | 1 => ("BlendYard$Reader", "length", "I", false)
  | 2 => ("BlendYard$Reader", "start", "I", false)
  | 3 => ("BlendYard$Reader", "end", "I", false)
  | 4 => ("BlendYard$Reader", "kind", "I", false)
  | 5 => ("BlendYard$Reader", "fault", "I", false)
  | 6 => ("BlendYard$Reader", "gapTold", "Z", false)
  | 7 => ("BlendYard$Reader", "into", "LBlendYard$Told;", false)
  | 8 => ("BlendYard$Reader", "names", "[I", true)
  | _ => ("BlendYard$Reader", "named", "I", false)
def tyX4 : Nat → FieldType := fun k => match k with
  | 0 => .array .int
  | 1 => .int
  | 2 => .int
  | 3 => .int
  | 4 => .int
  | 5 => .int
  | 6 => .boolean
  | 7 => .object "BlendYard$Told"
  | 8 => .array .int
  | _ => .int
abbrev wsX40 : List Cond := u_ws RX4 TX4 10
theorem nmX4 : ∀ a, a < 10 → ∀ b, b < 10 → a ≠ b → (TX4 a).2.1 ≠ (TX4 b).2.1 := by decide +kernel
theorem tyX4_ok : ∀ k, k < 10 → parseFieldDescriptor (TX4 k).2.2.1 = some (tyX4 k) := by decide +kernel
abbrev cX4_init : ByteArray := prog_6_method_1_code
def yX4_init : MethodName := ⟨RX4, "<init>", "()V"⟩
abbrev cX4_read : ByteArray := prog_6_method_2_code
def yX4_read : MethodName := ⟨RX4, "read", "([IILBlendYard$Told;)I"⟩
abbrev cX4_readLine : ByteArray := prog_6_method_3_code
def yX4_readLine : MethodName := ⟨RX4, "readLine", "()V"⟩
abbrev cX4_readLot : ByteArray := prog_6_method_4_code
def yX4_readLot : MethodName := ⟨RX4, "readLot", "()V"⟩
abbrev cX4_readPile : ByteArray := prog_6_method_5_code
def yX4_readPile : MethodName := ⟨RX4, "readPile", "()V"⟩
abbrev cX4_readShip : ByteArray := prog_6_method_6_code
def yX4_readShip : MethodName := ⟨RX4, "readShip", "()V"⟩
abbrev cX4_readGap : ByteArray := prog_6_method_7_code
def yX4_readGap : MethodName := ⟨RX4, "readGap", "()V"⟩
abbrev cX4_takeName : ByteArray := prog_6_method_8_code
def yX4_takeName : MethodName := ⟨RX4, "takeName", "()V"⟩
abbrev cX4_takeTold : ByteArray := prog_6_method_9_code
def yX4_takeTold : MethodName := ⟨RX4, "takeTold", "(Ljava/lang/String;II)I"⟩
abbrev cX4_numberHere : ByteArray := prog_6_method_10_code
def yX4_numberHere : MethodName := ⟨RX4, "numberHere", "()I"⟩
abbrev cX4_fail : ByteArray := prog_6_method_11_code
def yX4_fail : MethodName := ⟨RX4, "fail", "(I)V"⟩
abbrev cX4_says : ByteArray := prog_6_method_12_code
def yX4_says : MethodName := ⟨RX4, "says", "(Ljava/lang/String;)Z"⟩
abbrev cX4_isKept : ByteArray := prog_6_method_13_code
def yX4_isKept : MethodName := ⟨RX4, "isKept", "()Z"⟩
abbrev cX4_advance : ByteArray := prog_6_method_14_code
def yX4_advance : MethodName := ⟨RX4, "advance", "()V"⟩
abbrev cX4_isLetter : ByteArray := prog_6_method_15_code
def yX4_isLetter : MethodName := ⟨RX4, "isLetter", "(I)Z"⟩
abbrev cX4_isDigit : ByteArray := prog_6_method_16_code
def yX4_isDigit : MethodName := ⟨RX4, "isDigit", "(I)Z"⟩
def RX5 : String := "BlendYard$Route"
def TX5 : u_T := fun k => match k with
  | 0 => ("BlendYard$Route", "bestSteps", "I", false)
  | 1 => ("BlendYard$Route", "bestCells", "I", false)
  | 2 => ("BlendYard$Route", "bestTonnes", "I", false)
  | 3 => ("BlendYard$Route", "filled", "[I", true)
  | 4 => ("BlendYard$Route", "tonnes", "[I", true)
  | 5 => ("BlendYard$Route", "ore", "[I", true)
  | 6 => ("BlendYard$Route", "startsAt", "I", false)
  | 7 => ("BlendYard$Route", "holdTonnes", "I", false)
  | _ => ("BlendYard$Route", "holdOre", "I", false)
def tyX5 : Nat → FieldType := fun k => match k with
  | 0 => .int
  | 1 => .int
  | 2 => .int
  | 3 => .array .int
  | 4 => .array .int
  | 5 => .array .int
  | 6 => .int
  | 7 => .int
  | _ => .int
abbrev wsX50 : List Cond := u_ws RX5 TX5 9
theorem nmX5 : ∀ a, a < 9 → ∀ b, b < 9 → a ≠ b → (TX5 a).2.1 ≠ (TX5 b).2.1 := by decide +kernel
theorem tyX5_ok : ∀ k, k < 9 → parseFieldDescriptor (TX5 k).2.2.1 = some (tyX5 k) := by decide +kernel
abbrev cX5_init : ByteArray := prog_7_method_1_code
def yX5_init : MethodName := ⟨RX5, "<init>", "()V"⟩
abbrev cX5_find : ByteArray := prog_7_method_2_code
def yX5_find : MethodName := ⟨RX5, "find", "(LBlendYard$Told;LBlendYard$State;II)Z"⟩
abbrev cX5_weighCells : ByteArray := prog_7_method_3_code
def yX5_weighCells : MethodName := ⟨RX5, "weighCells", "(LBlendYard$Told;LBlendYard$State;I)I"⟩
abbrev cX5_consider : ByteArray := prog_7_method_4_code
def yX5_consider : MethodName := ⟨RX5, "consider", "(II)V"⟩
abbrev cX5_isBetter : ByteArray := prog_7_method_5_code
def yX5_isBetter : MethodName := ⟨RX5, "isBetter", "(II)Z"⟩
def RX6 : String := "BlendYard$State"
def TX6 : u_T := fun k => match k with
  | 0 => ("BlendYard$State", "today", "I", false)
  | 1 => ("BlendYard$State", "passed", "I", false)
  | 2 => ("BlendYard$State", "left", "[I", true)
  | 3 => ("BlendYard$State", "layers", "[I", true)
  | 4 => ("BlendYard$State", "layerLot", "[I", true)
  | 5 => ("BlendYard$State", "tonnesAt", "[I", true)
  | 6 => ("BlendYard$State", "holdTonnes", "[I", true)
  | 7 => ("BlendYard$State", "holdOre", "[I", true)
  | 8 => ("BlendYard$State", "sailed", "[I", true)
  | 9 => ("BlendYard$State", "standing", "[I", true)
  | 10 => ("BlendYard$State", "walked", "[I", true)
  | 11 => ("BlendYard$State", "onWay", "[I", true)
  | 12 => ("BlendYard$State", "waited", "[I", true)
  | 13 => ("BlendYard$State", "ordered", "[I", true)
  | _ => ("BlendYard$State", "orders", "[I", true)
def tyX6 : Nat → FieldType := fun k => match k with
  | 0 => .int
  | 1 => .int
  | 2 => .array .int
  | 3 => .array .int
  | 4 => .array .int
  | 5 => .array .int
  | 6 => .array .int
  | 7 => .array .int
  | 8 => .array .int
  | 9 => .array .int
  | 10 => .array .int
  | 11 => .array .int
  | 12 => .array .int
  | 13 => .array .int
  | _ => .array .int
abbrev wsX60 : List Cond := u_ws RX6 TX6 15
theorem nmX6 : ∀ a, a < 15 → ∀ b, b < 15 → a ≠ b → (TX6 a).2.1 ≠ (TX6 b).2.1 := by decide +kernel
theorem tyX6_ok : ∀ k, k < 15 → parseFieldDescriptor (TX6 k).2.2.1 = some (tyX6 k) := by decide +kernel
abbrev cX6_init : ByteArray := prog_8_method_1_code
def yX6_init : MethodName := ⟨RX6, "<init>", "()V"⟩
abbrev cX6_begin : ByteArray := prog_8_method_2_code
def yX6_begin : MethodName := ⟨RX6, "begin", "(LBlendYard$Told;)V"⟩
abbrev cX6_copyFrom : ByteArray := prog_8_method_3_code
def yX6_copyFrom : MethodName := ⟨RX6, "copyFrom", "(LBlendYard$State;)V"⟩
abbrev cX6_rowOf : ByteArray := prog_8_method_4_code
def yX6_rowOf : MethodName := ⟨RX6, "rowOf", "(II)I"⟩
abbrev cX6_placeOf : ByteArray := prog_8_method_5_code
def yX6_placeOf : MethodName := ⟨RX6, "placeOf", "(III)I"⟩
abbrev cX6_pileOf : ByteArray := prog_8_method_6_code
def yX6_pileOf : MethodName := ⟨RX6, "pileOf", "(I)I"⟩
abbrev cX6_cellOf : ByteArray := prog_8_method_7_code
def yX6_cellOf : MethodName := ⟨RX6, "cellOf", "(I)I"⟩
abbrev cX6_goTo : ByteArray := prog_8_method_8_code
def yX6_goTo : MethodName := ⟨RX6, "goTo", "(III)V"⟩
abbrev cX6_isFree : ByteArray := prog_8_method_9_code
def yX6_isFree : MethodName := ⟨RX6, "isFree", "(LBlendYard$Told;III)Z"⟩
abbrev cX6_tonnesOn : ByteArray := prog_8_method_10_code
def yX6_tonnesOn : MethodName := ⟨RX6, "tonnesOn", "(II)I"⟩
abbrev cX6_oreOn : ByteArray := prog_8_method_11_code
def yX6_oreOn : MethodName := ⟨RX6, "oreOn", "(LBlendYard$Told;II)I"⟩
abbrev cX6_tonnesOfPile : ByteArray := prog_8_method_12_code
def yX6_tonnesOfPile : MethodName := ⟨RX6, "tonnesOfPile", "(LBlendYard$Told;I)I"⟩
abbrev cX6_oreOfPile : ByteArray := prog_8_method_13_code
def yX6_oreOfPile : MethodName := ⟨RX6, "oreOfPile", "(LBlendYard$Told;I)I"⟩
abbrev cX6_addLayer : ByteArray := prog_8_method_14_code
def yX6_addLayer : MethodName := ⟨RX6, "addLayer", "(II)I"⟩
abbrev cX6_pour : ByteArray := prog_8_method_15_code
def yX6_pour : MethodName := ⟨RX6, "pour", "(IIII)V"⟩
abbrev cX6_takesMore : ByteArray := prog_8_method_16_code
def yX6_takesMore : MethodName := ⟨RX6, "takesMore", "(LBlendYard$Told;I)Z"⟩
abbrev cX6_moveIntoHold : ByteArray := prog_8_method_17_code
def yX6_moveIntoHold : MethodName := ⟨RX6, "moveIntoHold", "(LBlendYard$Told;III)I"⟩
abbrev cX6_hasOrders : ByteArray := prog_8_method_18_code
def yX6_hasOrders : MethodName := ⟨RX6, "hasOrders", "()Z"⟩
abbrev cX6_firstOrder : ByteArray := prog_8_method_19_code
def yX6_firstOrder : MethodName := ⟨RX6, "firstOrder", "(I)I"⟩
abbrev cX6_addOrder : ByteArray := prog_8_method_20_code
def yX6_addOrder : MethodName := ⟨RX6, "addOrder", "(IIIIII)V"⟩
abbrev cX6_endOrder : ByteArray := prog_8_method_21_code
def yX6_endOrder : MethodName := ⟨RX6, "endOrder", "(I)V"⟩
def RX7 : String := "BlendYard$Told"
def TX7 : u_T := fun k => match k with
  | 0 => ("BlendYard$Told", "lines", "I", false)
  | 1 => ("BlendYard$Told", "gap", "I", false)
  | 2 => ("BlendYard$Told", "lots", "I", false)
  | 3 => ("BlendYard$Told", "piles", "I", false)
  | 4 => ("BlendYard$Told", "ships", "I", false)
  | 5 => ("BlendYard$Told", "lotTonnes", "[I", true)
  | 6 => ("BlendYard$Told", "lotGrade", "[I", true)
  | 7 => ("BlendYard$Told", "cells", "[I", true)
  | 8 => ("BlendYard$Told", "needs", "[I", true)
  | 9 => ("BlendYard$Told", "lowest", "[I", true)
  | 10 => ("BlendYard$Told", "highest", "[I", true)
  | 11 => ("BlendYard$Told", "due", "[I", true)
  | 12 => ("BlendYard$Told", "load", "[I", true)
  | _ => ("BlendYard$Told", "fine", "[I", true)
def tyX7 : Nat → FieldType := fun k => match k with
  | 0 => .int
  | 1 => .int
  | 2 => .int
  | 3 => .int
  | 4 => .int
  | 5 => .array .int
  | 6 => .array .int
  | 7 => .array .int
  | 8 => .array .int
  | 9 => .array .int
  | 10 => .array .int
  | 11 => .array .int
  | 12 => .array .int
  | _ => .array .int
abbrev wsX70 : List Cond := u_ws RX7 TX7 14
theorem nmX7 : ∀ a, a < 14 → ∀ b, b < 14 → a ≠ b → (TX7 a).2.1 ≠ (TX7 b).2.1 := by decide +kernel
theorem tyX7_ok : ∀ k, k < 14 → parseFieldDescriptor (TX7 k).2.2.1 = some (tyX7 k) := by decide +kernel
abbrev cX7_init : ByteArray := prog_9_method_1_code
def yX7_init : MethodName := ⟨RX7, "<init>", "()V"⟩
abbrev cX7_clear : ByteArray := prog_9_method_2_code
def yX7_clear : MethodName := ⟨RX7, "clear", "()V"⟩
abbrev cX7_hasLot : ByteArray := prog_9_method_3_code
def yX7_hasLot : MethodName := ⟨RX7, "hasLot", "(I)Z"⟩
abbrev cX7_hasPile : ByteArray := prog_9_method_4_code
def yX7_hasPile : MethodName := ⟨RX7, "hasPile", "(I)Z"⟩
abbrev cX7_hasCell : ByteArray := prog_9_method_5_code
def yX7_hasCell : MethodName := ⟨RX7, "hasCell", "(II)Z"⟩
abbrev cX7_hasShip : ByteArray := prog_9_method_6_code
def yX7_hasShip : MethodName := ⟨RX7, "hasShip", "(I)Z"⟩
abbrev cX7_isWithin : ByteArray := prog_9_method_7_code
def yX7_isWithin : MethodName := ⟨RX7, "isWithin", "(III)Z"⟩
def RX8 : String := "BlendYard"
def TX8 : u_T := fun k => match k with
  | 0 => ("BlendYard", "tape", "[I", true)
  | 1 => ("BlendYard", "taped", "I", false)
  | 2 => ("BlendYard", "reader", "LBlendYard$Reader;", true)
  | 3 => ("BlendYard", "told", "LBlendYard$Told;", false)
  | 4 => ("BlendYard", "spare", "LBlendYard$Told;", false)
  | 5 => ("BlendYard", "now", "LBlendYard$State;", true)
  | 6 => ("BlendYard", "thought", "LBlendYard$State;", true)
  | 7 => ("BlendYard", "history", "LBlendYard$History;", true)
  | 8 => ("BlendYard", "loading", "LBlendYard$Loading;", true)
  | 9 => ("BlendYard", "blend", "LBlendYard$Blend;", true)
  | 10 => ("BlendYard", "route", "LBlendYard$Route;", true)
  | 11 => ("BlendYard", "gradeUnder", "I", false)
  | 12 => ("BlendYard", "spreadUnder", "J", false)
  | _ => ("BlendYard", "worstUnder", "J", false)
def tyX8 : Nat → FieldType := fun k => match k with
  | 0 => .array .int
  | 1 => .int
  | 2 => .object "BlendYard$Reader"
  | 3 => .object "BlendYard$Told"
  | 4 => .object "BlendYard$Told"
  | 5 => .object "BlendYard$State"
  | 6 => .object "BlendYard$State"
  | 7 => .object "BlendYard$History"
  | 8 => .object "BlendYard$Loading"
  | 9 => .object "BlendYard$Blend"
  | 10 => .object "BlendYard$Route"
  | 11 => .int
  | 12 => .long
  | _ => .long
abbrev wsX80 : List Cond := u_ws RX8 TX8 14
theorem nmX8 : ∀ a, a < 14 → ∀ b, b < 14 → a ≠ b → (TX8 a).2.1 ≠ (TX8 b).2.1 := by decide +kernel
theorem tyX8_ok : ∀ k, k < 14 → parseFieldDescriptor (TX8 k).2.2.1 = some (tyX8 k) := by decide +kernel
abbrev cX8_init : ByteArray := prog_1_method_1_code
def yX8_init : MethodName := ⟨RX8, "<init>", "()V"⟩
abbrev cX8_feed : ByteArray := prog_1_method_2_code
def yX8_feed : MethodName := ⟨RX8, "feed", "(IIIII)I"⟩
abbrev cX8_text : ByteArray := prog_1_method_3_code
def yX8_text : MethodName := ⟨RX8, "text", "(I)I"⟩
abbrev cX8_count : ByteArray := prog_1_method_4_code
def yX8_count : MethodName := ⟨RX8, "count", "(I)I"⟩
abbrev cX8_lot : ByteArray := prog_1_method_5_code
def yX8_lot : MethodName := ⟨RX8, "lot", "(II)I"⟩
abbrev cX8_ship : ByteArray := prog_1_method_6_code
def yX8_ship : MethodName := ⟨RX8, "ship", "(II)I"⟩
abbrev cX8_pile : ByteArray := prog_1_method_7_code
def yX8_pile : MethodName := ⟨RX8, "pile", "(II)I"⟩
abbrev cX8_layer : ByteArray := prog_1_method_8_code
def yX8_layer : MethodName := ⟨RX8, "layer", "(III)I"⟩
abbrev cX8_tonnes : ByteArray := prog_1_method_9_code
def yX8_tonnes : MethodName := ⟨RX8, "tonnes", "(III)I"⟩
abbrev cX8_stands : ByteArray := prog_1_method_10_code
def yX8_stands : MethodName := ⟨RX8, "stands", "(I)I"⟩
abbrev cX8_apart : ByteArray := prog_1_method_11_code
def yX8_apart : MethodName := ⟨RX8, "apart", "()I"⟩
abbrev cX8_whyLay : ByteArray := prog_1_method_12_code
def yX8_whyLay : MethodName := ⟨RX8, "whyLay", "(IIIII)I"⟩
abbrev cX8_lay : ByteArray := prog_1_method_13_code
def yX8_lay : MethodName := ⟨RX8, "lay", "(IIIII)I"⟩
abbrev cX8_whyCut : ByteArray := prog_1_method_14_code
def yX8_whyCut : MethodName := ⟨RX8, "whyCut", "(III)I"⟩
abbrev cX8_cut : ByteArray := prog_1_method_15_code
def yX8_cut : MethodName := ⟨RX8, "cut", "(III)I"⟩
abbrev cX8_park : ByteArray := prog_1_method_16_code
def yX8_park : MethodName := ⟨RX8, "park", "(I)Z"⟩
abbrev cX8_sail : ByteArray := prog_1_method_17_code
def yX8_sail : MethodName := ⟨RX8, "sail", "(I)I"⟩
abbrev cX8_days : ByteArray := prog_1_method_18_code
def yX8_days : MethodName := ⟨RX8, "days", "(I)I"⟩
abbrev cX8_toLay : ByteArray := prog_1_method_19_code
def yX8_toLay : MethodName := ⟨RX8, "toLay", "(IIIII)I"⟩
abbrev cX8_toCut : ByteArray := prog_1_method_20_code
def yX8_toCut : MethodName := ⟨RX8, "toCut", "(III)I"⟩
abbrev cX8_drop : ByteArray := prog_1_method_21_code
def yX8_drop : MethodName := ⟨RX8, "drop", "(I)I"⟩
abbrev cX8_minutes : ByteArray := prog_1_method_22_code
def yX8_minutes : MethodName := ⟨RX8, "minutes", "(I)I"⟩
abbrev cX8_ends : ByteArray := prog_1_method_23_code
def yX8_ends : MethodName := ⟨RX8, "ends", "()I"⟩
abbrev cX8_undo : ByteArray := prog_1_method_24_code
def yX8_undo : MethodName := ⟨RX8, "undo", "()I"⟩
abbrev cX8_image : ByteArray := prog_1_method_25_code
def yX8_image : MethodName := ⟨RX8, "image", "(IZ)Z"⟩
abbrev cX8_cell : ByteArray := prog_1_method_26_code
def yX8_cell : MethodName := ⟨RX8, "cell", "(II)I"⟩
abbrev cX8_whole : ByteArray := prog_1_method_27_code
def yX8_whole : MethodName := ⟨RX8, "whole", "(I)I"⟩
abbrev cX8_hold : ByteArray := prog_1_method_28_code
def yX8_hold : MethodName := ⟨RX8, "hold", "(I)I"⟩
abbrev cX8_below : ByteArray := prog_1_method_29_code
def yX8_below : MethodName := ⟨RX8, "below", "()I"⟩
abbrev cX8_within : ByteArray := prog_1_method_30_code
def yX8_within : MethodName := ⟨RX8, "within", "(III)I"⟩
abbrev cX8_spread : ByteArray := prog_1_method_31_code
def yX8_spread : MethodName := ⟨RX8, "spread", "(I)J"⟩
abbrev cX8_spreadBelow : ByteArray := prog_1_method_32_code
def yX8_spreadBelow : MethodName := ⟨RX8, "spreadBelow", "()J"⟩
abbrev cX8_ifLaid : ByteArray := prog_1_method_33_code
def yX8_ifLaid : MethodName := ⟨RX8, "ifLaid", "(IIIIII)I"⟩
abbrev cX8_layOrder : ByteArray := prog_1_method_34_code
def yX8_layOrder : MethodName := ⟨RX8, "layOrder", "(III)I"⟩
abbrev cX8_worst : ByteArray := prog_1_method_35_code
def yX8_worst : MethodName := ⟨RX8, "worst", "(II)J"⟩
abbrev cX8_worstBelow : ByteArray := prog_1_method_36_code
def yX8_worstBelow : MethodName := ⟨RX8, "worstBelow", "()J"⟩
abbrev cX8_next : ByteArray := prog_1_method_37_code
def yX8_next : MethodName := ⟨RX8, "next", "(III)I"⟩
abbrev cX8_way : ByteArray := prog_1_method_38_code
def yX8_way : MethodName := ⟨RX8, "way", "(III)I"⟩
abbrev cX8_fewest : ByteArray := prog_1_method_39_code
def yX8_fewest : MethodName := ⟨RX8, "fewest", "()I"⟩
abbrev cX8_order : ByteArray := prog_1_method_40_code
def yX8_order : MethodName := ⟨RX8, "order", "(I)I"⟩
abbrev cX8_ready : ByteArray := prog_1_method_41_code
def yX8_ready : MethodName := ⟨RX8, "ready", "(I)I"⟩
abbrev cX8_cost : ByteArray := prog_1_method_42_code
def yX8_cost : MethodName := ⟨RX8, "cost", "(I)I"⟩
abbrev cX8_putBytes : ByteArray := prog_1_method_43_code
def yX8_putBytes : MethodName := ⟨RX8, "putBytes", "(I)V"⟩
abbrev cX8_isMachine : ByteArray := prog_1_method_44_code
def yX8_isMachine : MethodName := ⟨RX8, "isMachine", "(I)Z"⟩
abbrev cX8_isGrade : ByteArray := prog_1_method_45_code
def yX8_isGrade : MethodName := ⟨RX8, "isGrade", "(I)Z"⟩
abbrev cX8_hasLayer : ByteArray := prog_1_method_46_code
def yX8_hasLayer : MethodName := ⟨RX8, "hasLayer", "(II)Z"⟩
abbrev cX8_canBeTold : ByteArray := prog_1_method_47_code
def yX8_canBeTold : MethodName := ⟨RX8, "canBeTold", "(IIIII)Z"⟩
abbrev cX8_staysApart : ByteArray := prog_1_method_48_code
def yX8_staysApart : MethodName := ⟨RX8, "staysApart", "(IIII)Z"⟩
abbrev cX8_shipsSailed : ByteArray := prog_1_method_49_code
def yX8_shipsSailed : MethodName := ⟨RX8, "shipsSailed", "()I"⟩
abbrev cX8_shipsLate : ByteArray := prog_1_method_50_code
def yX8_shipsLate : MethodName := ⟨RX8, "shipsLate", "()I"⟩
abbrev cX8_lateDays : ByteArray := prog_1_method_51_code
def yX8_lateDays : MethodName := ⟨RX8, "lateDays", "(I)I"⟩
abbrev cX8_tellGrade : ByteArray := prog_1_method_52_code
def yX8_tellGrade : MethodName := ⟨RX8, "tellGrade", "(II)I"⟩
abbrev cX8_commonDivisor : ByteArray := prog_1_method_53_code
def yX8_commonDivisor : MethodName := ⟨RX8, "commonDivisor", "(JJ)J"⟩
def RX9 : String := "BlendYardModel"
def TX9 : u_T := fun k => match k with
  | 0 => ("BlendYardModel", "thrown", "I", false)
  | 1 => ("BlendYardModel", "tape", "[B", true)
  | 2 => ("BlendYardModel", "taped", "I", false)
  | 3 => ("BlendYardModel", "size", "I", false)
  | 4 => ("BlendYardModel", "from", "I", false)
  | 5 => ("BlendYardModel", "next", "I", false)
  | 6 => ("BlendYardModel", "token", "I", false)
  | 7 => ("BlendYardModel", "value", "I", false)
  | 8 => ("BlendYardModel", "word", "I", false)
  | 9 => ("BlendYardModel", "fault", "I", false)
  | 10 => ("BlendYardModel", "got", "I", false)
  | 11 => ("BlendYardModel", "told", "[I", true)
  | 12 => ("BlendYardModel", "draft", "[I", true)
  | 13 => ("BlendYardModel", "names", "I", false)
  | 14 => ("BlendYardModel", "hasGap", "Z", false)
  | 15 => ("BlendYardModel", "now", "[I", true)
  | 16 => ("BlendYardModel", "sumT", "I", false)
  | 17 => ("BlendYardModel", "sumG", "I", false)
  | 18 => ("BlendYardModel", "backMany", "I", false)
  | 19 => ("BlendYardModel", "backs", "[I", true)
  | 20 => ("BlendYardModel", "hasImage", "[Z", true)
  | 21 => ("BlendYardModel", "images", "[I", true)
  | 22 => ("BlendYardModel", "thought", "[I", true)
  | 23 => ("BlendYardModel", "below", "I", false)
  | 24 => ("BlendYardModel", "spreadBelow", "J", false)
  | 25 => ("BlendYardModel", "worstBelow", "J", false)
  | 26 => ("BlendYardModel", "aimed", "I", false)
  | 27 => ("BlendYardModel", "rowMany", "I", false)
  | 28 => ("BlendYardModel", "some", "[I", true)
  | 29 => ("BlendYardModel", "row", "[I", true)
  | 30 => ("BlendYardModel", "bestRow", "[I", true)
  | 31 => ("BlendYardModel", "bestAbove", "J", false)
  | 32 => ("BlendYardModel", "bestUnder", "J", false)
  | 33 => ("BlendYardModel", "cellT", "[I", true)
  | 34 => ("BlendYardModel", "cellG", "[I", true)
  | 35 => ("BlendYardModel", "waySteps", "I", false)
  | 36 => ("BlendYardModel", "wayLast", "I", false)
  | 37 => ("BlendYardModel", "wayT", "I", false)
  | 38 => ("BlendYardModel", "isOff", "[Z", true)
  | 39 => ("BlendYardModel", "isTaken", "[Z", true)
  | 40 => ("BlendYardModel", "inOrder", "[I", true)
  | 41 => ("BlendYardModel", "shipMany", "I", false)
  | _ => ("BlendYardModel", "offMany", "I", false)
def tyX9 : Nat → FieldType := fun k => match k with
  | 0 => .int
  | 1 => .array .byte
  | 2 => .int
  | 3 => .int
  | 4 => .int
  | 5 => .int
  | 6 => .int
  | 7 => .int
  | 8 => .int
  | 9 => .int
  | 10 => .int
  | 11 => .array .int
  | 12 => .array .int
  | 13 => .int
  | 14 => .boolean
  | 15 => .array .int
  | 16 => .int
  | 17 => .int
  | 18 => .int
  | 19 => .array .int
  | 20 => .array .boolean
  | 21 => .array .int
  | 22 => .array .int
  | 23 => .int
  | 24 => .long
  | 25 => .long
  | 26 => .int
  | 27 => .int
  | 28 => .array .int
  | 29 => .array .int
  | 30 => .array .int
  | 31 => .long
  | 32 => .long
  | 33 => .array .int
  | 34 => .array .int
  | 35 => .int
  | 36 => .int
  | 37 => .int
  | 38 => .array .boolean
  | 39 => .array .boolean
  | 40 => .array .int
  | 41 => .int
  | _ => .int
abbrev wsX90 : List Cond := u_ws RX9 TX9 43
theorem nmX9 : ∀ a, a < 43 → ∀ b, b < 43 → a ≠ b → (TX9 a).2.1 ≠ (TX9 b).2.1 := by decide +kernel
theorem tyX9_ok : ∀ k, k < 43 → parseFieldDescriptor (TX9 k).2.2.1 = some (tyX9 k) := by decide +kernel
abbrev cX9_thrown : ByteArray := prog_11_method_1_code
def yX9_thrown : MethodName := ⟨RX9, "thrown", "()I"⟩
abbrev cX9_in : ByteArray := prog_11_method_2_code
def yX9_in : MethodName := ⟨RX9, "in", "(JJJ)Z"⟩
abbrev cX9_feed : ByteArray := prog_11_method_3_code
def yX9_feed : MethodName := ⟨RX9, "feed", "(IIIII)I"⟩
abbrev cX9_puts : ByteArray := prog_11_method_4_code
def yX9_puts : MethodName := ⟨RX9, "puts", "(I)V"⟩
abbrev cX9_byteAt : ByteArray := prog_11_method_5_code
def yX9_byteAt : MethodName := ⟨RX9, "byteAt", "(I)I"⟩
abbrev cX9_go : ByteArray := prog_11_method_6_code
def yX9_go : MethodName := ⟨RX9, "go", "()V"⟩
abbrev cX9_is : ByteArray := prog_11_method_8_code
def yX9_is : MethodName := ⟨RX9, "is", "(I)Z"⟩
abbrev cX9_isOwn : ByteArray := prog_11_method_9_code
def yX9_isOwn : MethodName := ⟨RX9, "isOwn", "()Z"⟩
abbrev cX9_bad : ByteArray := prog_11_method_10_code
def yX9_bad : MethodName := ⟨RX9, "bad", "(I)Z"⟩
abbrev cX9_number : ByteArray := prog_11_method_11_code
def yX9_number : MethodName := ⟨RX9, "number", "(II)Z"⟩
abbrev cX9_worded : ByteArray := prog_11_method_12_code
def yX9_worded : MethodName := ⟨RX9, "worded", "(III)Z"⟩
abbrev cX9_name : ByteArray := prog_11_method_13_code
def yX9_name : MethodName := ⟨RX9, "name", "()Z"⟩
abbrev cX9_begins : ByteArray := prog_11_method_14_code
def yX9_begins : MethodName := ⟨RX9, "begins", "(II)Z"⟩
abbrev cX9_lotLine : ByteArray := prog_11_method_15_code
def yX9_lotLine : MethodName := ⟨RX9, "lotLine", "()Z"⟩
abbrev cX9_pileLine : ByteArray := prog_11_method_16_code
def yX9_pileLine : MethodName := ⟨RX9, "pileLine", "()Z"⟩
abbrev cX9_part : ByteArray := prog_11_method_17_code
def yX9_part : MethodName := ⟨RX9, "part", "(IIII)Z"⟩
abbrev cX9_shipLine : ByteArray := prog_11_method_18_code
def yX9_shipLine : MethodName := ⟨RX9, "shipLine", "()Z"⟩
abbrev cX9_gapLine : ByteArray := prog_11_method_19_code
def yX9_gapLine : MethodName := ⟨RX9, "gapLine", "()Z"⟩
abbrev cX9_line : ByteArray := prog_11_method_20_code
def yX9_line : MethodName := ⟨RX9, "line", "()Z"⟩
abbrev cX9_init : ByteArray := prog_11_method_21_code
def yX9_init : MethodName := ⟨RX9, "<init>", "()V"⟩
abbrev cX9_text : ByteArray := prog_11_method_22_code
def yX9_text : MethodName := ⟨RX9, "text", "(I)I"⟩
abbrev cX9_copies : ByteArray := prog_11_method_23_code
def yX9_copies : MethodName := ⟨RX9, "copies", "([II[II)V"⟩
abbrev cX9_plain : ByteArray := prog_11_method_24_code
def yX9_plain : MethodName := ⟨RX9, "plain", "()V"⟩
abbrev cX9_isLot : ByteArray := prog_11_method_25_code
def yX9_isLot : MethodName := ⟨RX9, "isLot", "(I)Z"⟩
abbrev cX9_isPile : ByteArray := prog_11_method_26_code
def yX9_isPile : MethodName := ⟨RX9, "isPile", "(I)Z"⟩
abbrev cX9_isShip : ByteArray := prog_11_method_27_code
def yX9_isShip : MethodName := ⟨RX9, "isShip", "(I)Z"⟩
abbrev cX9_isCell : ByteArray := prog_11_method_28_code
def yX9_isCell : MethodName := ⟨RX9, "isCell", "(II)Z"⟩
abbrev cX9_shipOf : ByteArray := prog_11_method_29_code
def yX9_shipOf : MethodName := ⟨RX9, "shipOf", "(II)I"⟩
abbrev cX9_lies : ByteArray := prog_11_method_30_code
def yX9_lies : MethodName := ⟨RX9, "lies", "(III)I"⟩
abbrev cX9_gradeOfLayer : ByteArray := prog_11_method_31_code
def yX9_gradeOfLayer : MethodName := ⟨RX9, "gradeOfLayer", "(II)I"⟩
abbrev cX9_sums : ByteArray := prog_11_method_32_code
def yX9_sums : MethodName := ⟨RX9, "sums", "(III)V"⟩
abbrev cX9_isFull : ByteArray := prog_11_method_33_code
def yX9_isFull : MethodName := ⟨RX9, "isFull", "(I)Z"⟩
abbrev cX9_late : ByteArray := prog_11_method_34_code
def yX9_late : MethodName := ⟨RX9, "late", "(I)I"⟩
abbrev cX9_count : ByteArray := prog_11_method_35_code
def yX9_count : MethodName := ⟨RX9, "count", "(I)I"⟩
abbrev cX9_lot : ByteArray := prog_11_method_36_code
def yX9_lot : MethodName := ⟨RX9, "lot", "(II)I"⟩
abbrev cX9_ship : ByteArray := prog_11_method_37_code
def yX9_ship : MethodName := ⟨RX9, "ship", "(II)I"⟩
abbrev cX9_pile : ByteArray := prog_11_method_38_code
def yX9_pile : MethodName := ⟨RX9, "pile", "(II)I"⟩
abbrev cX9_isLayer : ByteArray := prog_11_method_39_code
def yX9_isLayer : MethodName := ⟨RX9, "isLayer", "(II)Z"⟩
abbrev cX9_layer : ByteArray := prog_11_method_40_code
def yX9_layer : MethodName := ⟨RX9, "layer", "(III)I"⟩
abbrev cX9_tonnes : ByteArray := prog_11_method_41_code
def yX9_tonnes : MethodName := ⟨RX9, "tonnes", "(III)I"⟩
abbrev cX9_stands : ByteArray := prog_11_method_42_code
def yX9_stands : MethodName := ⟨RX9, "stands", "(I)I"⟩
abbrev cX9_apart : ByteArray := prog_11_method_43_code
def yX9_apart : MethodName := ⟨RX9, "apart", "()I"⟩
abbrev cX9_isOn : ByteArray := prog_11_method_44_code
def yX9_isOn : MethodName := ⟨RX9, "isOn", "(II)Z"⟩
abbrev cX9_cellOf : ByteArray := prog_11_method_45_code
def yX9_cellOf : MethodName := ⟨RX9, "cellOf", "(I)I"⟩
abbrev cX9_isFree : ByteArray := prog_11_method_46_code
def yX9_isFree : MethodName := ⟨RX9, "isFree", "(III)Z"⟩
abbrev cX9_areFree : ByteArray := prog_11_method_47_code
def yX9_areFree : MethodName := ⟨RX9, "areFree", "(IIII)Z"⟩
abbrev cX9_isApart : ByteArray := prog_11_method_48_code
def yX9_isApart : MethodName := ⟨RX9, "isApart", "(IIII)Z"⟩
abbrev cX9_stepsTo : ByteArray := prog_11_method_49_code
def yX9_stepsTo : MethodName := ⟨RX9, "stepsTo", "(III)I"⟩
abbrev cX9_stands_ : ByteArray := prog_11_method_50_code
def yX9_stands_ : MethodName := ⟨RX9, "stands", "(III)V"⟩
abbrev cX9_keeps : ByteArray := prog_11_method_51_code
def yX9_keeps : MethodName := ⟨RX9, "keeps", "()V"⟩
abbrev cX9_isLaying : ByteArray := prog_11_method_52_code
def yX9_isLaying : MethodName := ⟨RX9, "isLaying", "(IIIII)Z"⟩
abbrev cX9_lays : ByteArray := prog_11_method_53_code
def yX9_lays : MethodName := ⟨RX9, "lays", "(IIIII)I"⟩
abbrev cX9_whyLay : ByteArray := prog_11_method_54_code
def yX9_whyLay : MethodName := ⟨RX9, "whyLay", "(IIIII)I"⟩
abbrev cX9_newLayer : ByteArray := prog_11_method_55_code
def yX9_newLayer : MethodName := ⟨RX9, "newLayer", "(II)I"⟩
abbrev cX9_laid : ByteArray := prog_11_method_56_code
def yX9_laid : MethodName := ⟨RX9, "laid", "(IIIII)V"⟩
abbrev cX9_lay : ByteArray := prog_11_method_57_code
def yX9_lay : MethodName := ⟨RX9, "lay", "(IIIII)I"⟩
abbrev cX9_isCutting : ByteArray := prog_11_method_58_code
def yX9_isCutting : MethodName := ⟨RX9, "isCutting", "(III)Z"⟩
abbrev cX9_cuts : ByteArray := prog_11_method_59_code
def yX9_cuts : MethodName := ⟨RX9, "cuts", "(III)I"⟩
abbrev cX9_whyCut : ByteArray := prog_11_method_60_code
def yX9_whyCut : MethodName := ⟨RX9, "whyCut", "(III)I"⟩
abbrev cX9_loads : ByteArray := prog_11_method_61_code
def yX9_loads : MethodName := ⟨RX9, "loads", "(III)I"⟩
abbrev cX9_cut : ByteArray := prog_11_method_62_code
def yX9_cut : MethodName := ⟨RX9, "cut", "(III)I"⟩
abbrev cX9_park : ByteArray := prog_11_method_63_code
def yX9_park : MethodName := ⟨RX9, "park", "(I)Z"⟩
abbrev cX9_isGood : ByteArray := prog_11_method_64_code
def yX9_isGood : MethodName := ⟨RX9, "isGood", "(III)Z"⟩
abbrev cX9_sail : ByteArray := prog_11_method_65_code
def yX9_sail : MethodName := ⟨RX9, "sail", "(I)I"⟩
abbrev cX9_days : ByteArray := prog_11_method_66_code
def yX9_days : MethodName := ⟨RX9, "days", "(I)I"⟩
abbrev cX9_toLay : ByteArray := prog_11_method_67_code
def yX9_toLay : MethodName := ⟨RX9, "toLay", "(IIIII)I"⟩
abbrev cX9_toCut : ByteArray := prog_11_method_68_code
def yX9_toCut : MethodName := ⟨RX9, "toCut", "(III)I"⟩
abbrev cX9_drop : ByteArray := prog_11_method_69_code
def yX9_drop : MethodName := ⟨RX9, "drop", "(I)I"⟩
abbrev cX9_done : ByteArray := prog_11_method_70_code
def yX9_done : MethodName := ⟨RX9, "done", "(I)V"⟩
abbrev cX9_waits : ByteArray := prog_11_method_71_code
def yX9_waits : MethodName := ⟨RX9, "waits", "(I)I"⟩
abbrev cX9_steps : ByteArray := prog_11_method_72_code
def yX9_steps : MethodName := ⟨RX9, "steps", "(III)V"⟩
abbrev cX9_nears : ByteArray := prog_11_method_73_code
def yX9_nears : MethodName := ⟨RX9, "nears", "(III)I"⟩
abbrev cX9_takes : ByteArray := prog_11_method_74_code
def yX9_takes : MethodName := ⟨RX9, "takes", "()I"⟩
abbrev cX9_stacks : ByteArray := prog_11_method_75_code
def yX9_stacks : MethodName := ⟨RX9, "stacks", "()I"⟩
abbrev cX9_minute : ByteArray := prog_11_method_76_code
def yX9_minute : MethodName := ⟨RX9, "minute", "()Z"⟩
abbrev cX9_minutes : ByteArray := prog_11_method_77_code
def yX9_minutes : MethodName := ⟨RX9, "minutes", "(I)I"⟩
abbrev cX9_ends : ByteArray := prog_11_method_78_code
def yX9_ends : MethodName := ⟨RX9, "ends", "()I"⟩
abbrev cX9_undo : ByteArray := prog_11_method_79_code
def yX9_undo : MethodName := ⟨RX9, "undo", "()I"⟩
abbrev cX9_image : ByteArray := prog_11_method_80_code
def yX9_image : MethodName := ⟨RX9, "image", "(IZ)Z"⟩
abbrev cX9_common : ByteArray := prog_11_method_81_code
def yX9_common : MethodName := ⟨RX9, "common", "(JJ)J"⟩
abbrev cX9_least : ByteArray := prog_11_method_82_code
def yX9_least : MethodName := ⟨RX9, "least", "(II)I"⟩
abbrev cX9_summed : ByteArray := prog_11_method_83_code
def yX9_summed : MethodName := ⟨RX9, "summed", "()I"⟩
abbrev cX9_cell : ByteArray := prog_11_method_84_code
def yX9_cell : MethodName := ⟨RX9, "cell", "(II)I"⟩
abbrev cX9_whole : ByteArray := prog_11_method_85_code
def yX9_whole : MethodName := ⟨RX9, "whole", "(I)I"⟩
abbrev cX9_hold : ByteArray := prog_11_method_86_code
def yX9_hold : MethodName := ⟨RX9, "hold", "(I)I"⟩
abbrev cX9_below : ByteArray := prog_11_method_87_code
def yX9_below : MethodName := ⟨RX9, "below", "()I"⟩
abbrev cX9_within : ByteArray := prog_11_method_88_code
def yX9_within : MethodName := ⟨RX9, "within", "(III)I"⟩
abbrev cX9_spread : ByteArray := prog_11_method_89_code
def yX9_spread : MethodName := ⟨RX9, "spread", "(I)J"⟩
abbrev cX9_spreadBelow : ByteArray := prog_11_method_90_code
def yX9_spreadBelow : MethodName := ⟨RX9, "spreadBelow", "()J"⟩
abbrev cX9_ifLaid : ByteArray := prog_11_method_91_code
def yX9_ifLaid : MethodName := ⟨RX9, "ifLaid", "(IIIIII)I"⟩
abbrev cX9_orders : ByteArray := prog_11_method_92_code
def yX9_orders : MethodName := ⟨RX9, "orders", "(IIJJJJ)V"⟩
abbrev cX9_ordered : ByteArray := prog_11_method_93_code
def yX9_ordered : MethodName := ⟨RX9, "ordered", "(II)Z"⟩
abbrev cX9_layOrder : ByteArray := prog_11_method_94_code
def yX9_layOrder : MethodName := ⟨RX9, "layOrder", "(III)I"⟩
abbrev cX9_worst : ByteArray := prog_11_method_95_code
def yX9_worst : MethodName := ⟨RX9, "worst", "(II)J"⟩
abbrev cX9_worstBelow : ByteArray := prog_11_method_96_code
def yX9_worstBelow : MethodName := ⟨RX9, "worstBelow", "()J"⟩
abbrev cX9_next : ByteArray := prog_11_method_97_code
def yX9_next : MethodName := ⟨RX9, "next", "(III)I"⟩
abbrev cX9_wayOf : ByteArray := prog_11_method_98_code
def yX9_wayOf : MethodName := ⟨RX9, "wayOf", "(III)V"⟩
abbrev cX9_bits : ByteArray := prog_11_method_99_code
def yX9_bits : MethodName := ⟨RX9, "bits", "(I)I"⟩
abbrev cX9_isWay : ByteArray := prog_11_method_100_code
def yX9_isWay : MethodName := ⟨RX9, "isWay", "(III)Z"⟩
abbrev cX9_way : ByteArray := prog_11_method_101_code
def yX9_way : MethodName := ⟨RX9, "way", "(III)I"⟩
abbrev cX9_isOpen : ByteArray := prog_11_method_102_code
def yX9_isOpen : MethodName := ⟨RX9, "isOpen", "(I)Z"⟩
abbrev cX9_byDue : ByteArray := prog_11_method_103_code
def yX9_byDue : MethodName := ⟨RX9, "byDue", "()I"⟩
abbrev cX9_longest : ByteArray := prog_11_method_104_code
def yX9_longest : MethodName := ⟨RX9, "longest", "()I"⟩
abbrev cX9_plans : ByteArray := prog_11_method_105_code
def yX9_plans : MethodName := ⟨RX9, "plans", "()V"⟩
abbrev cX9_fewest : ByteArray := prog_11_method_106_code
def yX9_fewest : MethodName := ⟨RX9, "fewest", "()I"⟩
abbrev cX9_order : ByteArray := prog_11_method_107_code
def yX9_order : MethodName := ⟨RX9, "order", "(I)I"⟩
abbrev cX9_readyOn : ByteArray := prog_11_method_108_code
def yX9_readyOn : MethodName := ⟨RX9, "readyOn", "(I)I"⟩
abbrev cX9_ready : ByteArray := prog_11_method_109_code
def yX9_ready : MethodName := ⟨RX9, "ready", "(I)I"⟩
abbrev cX9_cost : ByteArray := prog_11_method_110_code
def yX9_cost : MethodName := ⟨RX9, "cost", "(I)I"⟩
def RJx145de : String := "java/io/Serializable"
def TJx145de : u_T := fun k => match k with
  | _ => ("", "", "", false)
def tyJx145de : Nat → FieldType := fun k => match k with
  | _ => .int
abbrev wsJx145de0 : List Cond := u_ws RJx145de TJx145de 0
theorem nmJx145de : ∀ a, a < 0 → ∀ b, b < 0 → a ≠ b → (TJx145de a).2.1 ≠ (TJx145de b).2.1 := by decide +kernel
theorem tyJx145de_ok : ∀ k, k < 0 → parseFieldDescriptor (TJx145de k).2.2.1 = some (tyJx145de k) := by decide +kernel
def RJx9f9b0 : String := "java/lang/CharSequence"
def TJx9f9b0 : u_T := fun k => match k with
  | _ => ("", "", "", false)
def tyJx9f9b0 : Nat → FieldType := fun k => match k with
  | _ => .int
abbrev wsJx9f9b00 : List Cond := u_ws RJx9f9b0 TJx9f9b0 0
theorem nmJx9f9b0 : ∀ a, a < 0 → ∀ b, b < 0 → a ≠ b → (TJx9f9b0 a).2.1 ≠ (TJx9f9b0 b).2.1 := by decide +kernel
theorem tyJx9f9b0_ok : ∀ k, k < 0 → parseFieldDescriptor (TJx9f9b0 k).2.2.1 = some (tyJx9f9b0 k) := by decide +kernel
def RJxb160c : String := "java/lang/Comparable"
def TJxb160c : u_T := fun k => match k with
  | _ => ("", "", "", false)
def tyJxb160c : Nat → FieldType := fun k => match k with
  | _ => .int
abbrev wsJxb160c0 : List Cond := u_ws RJxb160c TJxb160c 0
theorem nmJxb160c : ∀ a, a < 0 → ∀ b, b < 0 → a ≠ b → (TJxb160c a).2.1 ≠ (TJxb160c b).2.1 := by decide +kernel
theorem tyJxb160c_ok : ∀ k, k < 0 → parseFieldDescriptor (TJxb160c k).2.2.1 = some (tyJxb160c k) := by decide +kernel
def RJ6 : String := "java/lang/Integer"
def TJ6 : u_T := fun k => match k with
  | _ => ("", "", "", false)
def tyJ6 : Nat → FieldType := fun k => match k with
  | _ => .int
abbrev wsJ60 : List Cond := u_ws RJ6 TJ6 0
theorem nmJ6 : ∀ a, a < 0 → ∀ b, b < 0 → a ≠ b → (TJ6 a).2.1 ≠ (TJ6 b).2.1 := by decide +kernel
theorem tyJ6_ok : ∀ k, k < 0 → parseFieldDescriptor (TJ6 k).2.2.1 = some (tyJ6 k) := by decide +kernel
abbrev cJ6_numberOfLeadingZeros_0f7a4 : ByteArray := prog_16_method_47_code
def yJ6_numberOfLeadingZeros_0f7a4 : MethodName := ⟨RJ6, "numberOfLeadingZeros", "(I)I"⟩
abbrev cJ6_numberOfTrailingZeros_0f7a4 : ByteArray := prog_16_method_48_code
def yJ6_numberOfTrailingZeros_0f7a4 : MethodName := ⟨RJ6, "numberOfTrailingZeros", "(I)I"⟩
abbrev cJ6_bitCount_0f7a4 : ByteArray := prog_16_method_49_code
def yJ6_bitCount_0f7a4 : MethodName := ⟨RJ6, "bitCount", "(I)I"⟩
def RJ9 : String := "java/lang/Math"
def TJ9 : u_T := fun k => match k with
  | _ => ("", "", "", false)
def tyJ9 : Nat → FieldType := fun k => match k with
  | _ => .int
abbrev wsJ90 : List Cond := u_ws RJ9 TJ9 0
theorem nmJ9 : ∀ a, a < 0 → ∀ b, b < 0 → a ≠ b → (TJ9 a).2.1 ≠ (TJ9 b).2.1 := by decide +kernel
theorem tyJ9_ok : ∀ k, k < 0 → parseFieldDescriptor (TJ9 k).2.2.1 = some (tyJ9 k) := by decide +kernel
abbrev cJ9_abs_0f7a4 : ByteArray := prog_17_method_59_code
def yJ9_abs_0f7a4 : MethodName := ⟨RJ9, "abs", "(I)I"⟩
abbrev cJ9_abs_067f4 : ByteArray := prog_17_method_61_code
def yJ9_abs_067f4 : MethodName := ⟨RJ9, "abs", "(J)J"⟩
abbrev cJ9_max_7cf53 : ByteArray := prog_17_method_65_code
def yJ9_max_7cf53 : MethodName := ⟨RJ9, "max", "(II)I"⟩
abbrev cJ9_max_f86c9 : ByteArray := prog_17_method_66_code
def yJ9_max_f86c9 : MethodName := ⟨RJ9, "max", "(JJ)J"⟩
abbrev cJ9_min_7cf53 : ByteArray := prog_17_method_69_code
def yJ9_min_7cf53 : MethodName := ⟨RJ9, "min", "(II)I"⟩
def RJ0 : String := "java/lang/String"
def TJ0 : u_T := fun k => match k with
  | _ => ("", "", "", false)
def tyJ0 : Nat → FieldType := fun k => match k with
  | _ => .int
abbrev wsJ00 : List Cond := u_ws RJ0 TJ0 0
theorem nmJ0 : ∀ a, a < 0 → ∀ b, b < 0 → a ≠ b → (TJ0 a).2.1 ≠ (TJ0 b).2.1 := by decide +kernel
theorem tyJ0_ok : ∀ k, k < 0 → parseFieldDescriptor (TJ0 k).2.2.1 = some (tyJ0 k) := by decide +kernel
abbrev cJ0_length_8abf5 : ByteArray := prog_19_method_54_code
def yJ0_length_8abf5 : MethodName := ⟨RJ0, "length", "()I"⟩
abbrev cJ0_charAt_5068e : ByteArray := prog_19_method_56_code
def yJ0_charAt_5068e : MethodName := ⟨RJ0, "charAt", "(I)C"⟩
abbrev cJ0_coder_7d493 : ByteArray := prog_19_method_152_code
def yJ0_coder_7d493 : MethodName := ⟨RJ0, "coder", "()B"⟩
abbrev cJ0_isLatin1_aae02 : ByteArray := prog_19_method_154_code
def yJ0_isLatin1_aae02 : MethodName := ⟨RJ0, "isLatin1", "()Z"⟩
abbrev cJ0_checkIndex_df160 : ByteArray := prog_19_method_155_code
def yJ0_checkIndex_df160 : MethodName := ⟨RJ0, "checkIndex", "(II)V"⟩
def RJ1 : String := "java/lang/StringLatin1"
def TJ1 : u_T := fun k => match k with
  | _ => ("", "", "", false)
def tyJ1 : Nat → FieldType := fun k => match k with
  | _ => .int
abbrev wsJ10 : List Cond := u_ws RJ1 TJ1 0
theorem nmJ1 : ∀ a, a < 0 → ∀ b, b < 0 → a ≠ b → (TJ1 a).2.1 ≠ (TJ1 b).2.1 := by decide +kernel
theorem tyJ1_ok : ∀ k, k < 0 → parseFieldDescriptor (TJ1 k).2.2.1 = some (tyJ1 k) := by decide +kernel
abbrev cJ1_charAt_3b067 : ByteArray := prog_20_method_2_code
def yJ1_charAt_3b067 : MethodName := ⟨RJ1, "charAt", "([BI)C"⟩
def RJ2 : String := "java/lang/StringUTF16"
def TJ2 : u_T := fun k => match k with
  | _ => ("", "", "", false)
def tyJ2 : Nat → FieldType := fun k => match k with
  | _ => .int
abbrev wsJ20 : List Cond := u_ws RJ2 TJ2 0
theorem nmJ2 : ∀ a, a < 0 → ∀ b, b < 0 → a ≠ b → (TJ2 a).2.1 ≠ (TJ2 b).2.1 := by decide +kernel
theorem tyJ2_ok : ∀ k, k < 0 → parseFieldDescriptor (TJ2 k).2.2.1 = some (tyJ2 k) := by decide +kernel
abbrev cJ2_getChar_3b067 : ByteArray := prog_21_method_5_code
def yJ2_getChar_3b067 : MethodName := ⟨RJ2, "getChar", "([BI)C"⟩
abbrev cJ2_length_9d52b : ByteArray := prog_21_method_6_code
def yJ2_length_9d52b : MethodName := ⟨RJ2, "length", "([B)I"⟩
abbrev cJ2_charAt_3b067 : ByteArray := prog_21_method_83_code
def yJ2_charAt_3b067 : MethodName := ⟨RJ2, "charAt", "([BI)C"⟩
abbrev cJ2_checkIndex_2214a : ByteArray := prog_21_method_91_code
def yJ2_checkIndex_2214a : MethodName := ⟨RJ2, "checkIndex", "(I[B)V"⟩
def RJ10 : String := "java/lang/System"
def TJ10 : u_T := fun k => match k with
  | _ => ("", "", "", false)
def tyJ10 : Nat → FieldType := fun k => match k with
  | _ => .int
abbrev wsJ100 : List Cond := u_ws RJ10 TJ10 0
theorem nmJ10 : ∀ a, a < 0 → ∀ b, b < 0 → a ≠ b → (TJ10 a).2.1 ≠ (TJ10 b).2.1 := by decide +kernel
theorem tyJ10_ok : ∀ k, k < 0 → parseFieldDescriptor (TJ10 k).2.2.1 = some (tyJ10 k) := by decide +kernel
def RJxfd54e : String := "java/lang/constant/Constable"
def TJxfd54e : u_T := fun k => match k with
  | _ => ("", "", "", false)
def tyJxfd54e : Nat → FieldType := fun k => match k with
  | _ => .int
abbrev wsJxfd54e0 : List Cond := u_ws RJxfd54e TJxfd54e 0
theorem nmJxfd54e : ∀ a, a < 0 → ∀ b, b < 0 → a ≠ b → (TJxfd54e a).2.1 ≠ (TJxfd54e b).2.1 := by decide +kernel
theorem tyJxfd54e_ok : ∀ k, k < 0 → parseFieldDescriptor (TJxfd54e k).2.2.1 = some (tyJxfd54e k) := by decide +kernel
def RJx3cf43 : String := "java/lang/constant/ConstantDesc"
def TJx3cf43 : u_T := fun k => match k with
  | _ => ("", "", "", false)
def tyJx3cf43 : Nat → FieldType := fun k => match k with
  | _ => .int
abbrev wsJx3cf430 : List Cond := u_ws RJx3cf43 TJx3cf43 0
theorem nmJx3cf43 : ∀ a, a < 0 → ∀ b, b < 0 → a ≠ b → (TJx3cf43 a).2.1 ≠ (TJx3cf43 b).2.1 := by decide +kernel
theorem tyJx3cf43_ok : ∀ k, k < 0 → parseFieldDescriptor (TJx3cf43 k).2.2.1 = some (tyJx3cf43 k) := by decide +kernel
def RJ3 : String := "jdk/internal/util/Preconditions"
def TJ3 : u_T := fun k => match k with
  | _ => ("", "", "", false)
def tyJ3 : Nat → FieldType := fun k => match k with
  | _ => .int
abbrev wsJ30 : List Cond := u_ws RJ3 TJ3 0
theorem nmJ3 : ∀ a, a < 0 → ∀ b, b < 0 → a ≠ b → (TJ3 a).2.1 ≠ (TJ3 b).2.1 := by decide +kernel
theorem tyJ3_ok : ∀ k, k < 0 → parseFieldDescriptor (TJ3 k).2.2.1 = some (tyJ3 k) := by decide +kernel
abbrev cJ3_checkIndex_8e157 : ByteArray := prog_27_method_11_code
def yJ3_checkIndex_8e157 : MethodName := ⟨RJ3, "checkIndex", "(IILjava/util/function/BiFunction;)I"⟩
def RL : String := "BlendYardLaw"
abbrev cL_lot : ByteArray := method_3_code
def yL_lot : MethodName := ⟨RL, "lot", "(LBlendYard;II[J)I"⟩
abbrev cL_ship : ByteArray := method_4_code
def yL_ship : MethodName := ⟨RL, "ship", "(LBlendYard;II[J)I"⟩
abbrev cL_law : ByteArray := code
def yL_law : MethodName := ⟨RL, "law", "([I)Z"⟩
abbrev vwCl : List vw_C := [(RX0, TX0, 7), (RX1, TX1, 5), (RX2, TX2, 6), (RX4, TX4, 10), (RX5, TX5, 9), (RX6, TX6, 15), (RX7, TX7, 14), (RX8, TX8, 14), (RX9, TX9, 43)]
end
section
/-! ===== BEGIN words of one list among another's, by their places ===== -/
theorem goodIn_r {big : List Cond} (ws : List Cond) (ps : List Nat) (hp : ws = ps.filterMap (fun i => big[i]?)) (h : ws.all goodWord = true) : GoodIn big ws := by
  intro w hw
  have h1 := List.all_eq_true.mp h w hw
  rw [hp] at hw
  obtain ⟨i, -, hi⟩ := List.mem_filterMap.mp hw
  have hm : w ∈ big := by first | exact List.mem_of_getElem? hi | exact List.getElem?_mem hi
  exact ⟨hm, good_of_word h1⟩
theorem goodIn_app {big a b : List Cond} (ha : GoodIn big a) (hb : GoodIn big b) : GoodIn big (a ++ b) := fun w h => (List.mem_append.mp h).elim (ha w) (hb w)
theorem goodIn_ca {big a b : List Cond} {c : Cond} (ha : GoodIn big (c :: a)) (hb : GoodIn big b) : GoodIn big (c :: (a ++ b)) := fun w h => (List.mem_cons.mp h).elim (fun e => ha w (List.mem_cons.mpr (Or.inl e))) (fun h => (List.mem_append.mp h).elim (fun h => ha w (List.mem_cons.mpr (Or.inr h))) (hb w))
/-! ===== BEGIN exceptions that leave a method, and their catching by the caller (launches without stack traces) ===== -/
section VXA
/-! The laws vx_back, vx_callV, vx_callS, vx_callSW, vx_throw0, vx_throwS follow proofs of the library, with one case more: JvmDerived/Free/Laws.lean (Back.of_free), Shelf42/LK1.lean (callV, callS), Shelf/KitTraced.lean (throwNew0V, throwNewS). -/
/-- where a method has thrown q: the class by its name, the cell, what was written, the world -/
def vx_T (XC : String → State → State → Prop) (st : State) (q : Addr) (t : State) (mc ms : Nat) (free : Addr → Prop) : Prop :=
  ∃ (E : String) (ce : Cell) (L : List Loc), XC E st t ∧ t.heap[q]? = some ce ∧ ce.vm = .none ∧ st.vm.findClass E = some ce.cls ∧ st.WarmedH t.vm ∧ st.sameButNew ({ t with vm := st.vm } : State) L mc ms ∧ ∀ z ∈ L, free z.base
def vx_Q (Qc : Array Value → State → Outcome → State → Prop) (XC : String → State → State → Prop) (mc ms : Nat) (free : Addr → Prop) : Array Value → State → Outcome → State → Prop := fun a st o t =>
  (Qc a st o t ∧ ∃ L, FrameEnd st o t L mc ms ∧ ∀ q ∈ L, free q.base) ∨ ∃ q, o = .threw q ∧ vx_T XC st q t mc ms free
/-- a callee that returns or throws -/
def vx_Met (l : Launch) (y : MethodName) (ws : List Cond) (rm : Room) (Pc : Array Value → State → Prop) (Qc : Array Value → State → Outcome → State → Prop) (XC : String → State → State → Prop) (mc ms : Nat) (free : Addr → Prop) : Prop :=
  MetFree l y (headSpec ws rm) Pc (fun _ _ _ _ _ => True) (vx_Q Qc XC mc ms free)
def vx_Post (XC : String → State → State → Prop) (mc ms : Nat) (free : Addr → Prop) : Pt → Array Value → Addr → Pt → Prop := fun A a q B =>
  ∃ (g : JFrame) (mk : MethodId) (t : State) (L : List Loc) (E : String) (ce : Cell), B.U.heap = t.heap ∧ B.U.vm = t.vm ∧ XC E (A.U.calling g mk a) t ∧ t.heap[q]? = some ce ∧ ce.vm = .none ∧ A.U.vm.findClass E = some ce.cls ∧ B.locs = A.locs ++ L ∧ (∀ z ∈ L, free z.base) ∧ B.cells = A.cells + mc ∧ B.slots = A.slots + ms
def vx_Back (l : Launch) (R : Room) (p : Program) (e : Env) (below : List Frame) (s : State) (sargs : Array Value) (y : MethodName) (len W9 : Nat)
    (Pre : Pt → Array Value → Prop) (Post : Pt → Array Value → Option Value → Pt → Prop) (PostX : Pt → Array Value → Addr → Pt → Prop) : Prop :=
  ∀ (m : MethodId) (meth : Method) (c : Code) (A : Pt) (g : JFrame) (ig : Instr) (mk : MethodId) (a : Array Value),
    Stand p l e R s m sargs below meth c A.U A.locs A.cells A.slots → g.method = m → g.locals.size = c.maxLocals → decode c.code g.pc = .ok (ig, len) →
    2 * g.monitorRoom + (g.stack.map fun v => v.category).sum ≤ W9 → A.U.methodNamed? y = some mk → Pre A a →
    (∃ (v : Option Value) (B : Pt), Stand p l e R s m sargs below meth c B.U B.locs B.cells B.slots ∧ Post A a v B ∧
      Steps p.tables e below (doInvoke e (A.U.setTop g) [] mk a).1 (B.U.setTop { g with pc := g.pc + len, stack := v.toList ++ g.stack })) ∨
    (∃ (q : Addr) (B : Pt), Stand p l e R s m sargs below meth c B.U B.locs B.cells B.slots ∧ PostX A a q B ∧
      Steps p.tables e below (doInvoke e (A.U.setTop g) [] mk a).1 ((B.U.setTop g).pushFrame (.throwing q)))
section Payer
variable {l : Launch} {R : Room} {p : Program} {e : Env} {below : List Frame} {s : State} {sargs : Array Value} {y : MethodName} {len W9 : Nat}
theorem vx_back {ws : List Cond} {rm : Room} {Pc : Array Value → State → Prop} {Qc : Array Value → State → Outcome → State → Prop} {XC : String → State → State → Prop} {mc ms : Nat} {free : Addr → Prop} {bytes : ByteArray} {maxL : Nat} {ret : Option FieldType}
    (hM : vx_Met l y ws rm Pc Qc XC mc ms free) (hblind : FrameBlind Pc) (hrc : rm.cells = mc) (hrs : rm.slots = ms)
    (hframes : rm.frames + 1 ≤ R.frames) (hlocals : W9 + (maxL + 11) + rm.locals ≤ R.locals)
    (hws : ∀ w ∈ ws, ∀ a' U, s.WarmedH U.vm → w.before a' U = true) (hcode : Cond.code y bytes maxL ret ∈ ws) (hinit : ∀ a' U, s.WarmedH U.vm → (Cond.initialized y.cls).before a' U = true) :
    vx_Back l R p e below s sargs y len W9 (PreOf R mc ms Pc) (PostOf Qc mc ms free) (vx_Post XC mc ms free) := by
  intro m meth c A g ig mk a X hg hsize hdg hW hn hp
  have h1 : (headSpec ws rm).pre.before a A.U = true := atoms_intro fun w hw => hws w hw _ _ X.warmed
  have h2 : (Cond.code y bytes maxL ret).before a A.U = true := hws _ hcode _ _ X.warmed
  have h3 : (Cond.initialized y.cls).before a A.U = true := hinit _ _ X.warmed
  have h4 : A.cells + (headSpec ws rm).room.cells ≤ R.cells := by rw [show (headSpec ws rm).room.cells = mc from hrc]; exact hp.1
  have h5 : A.slots + (headSpec ws rm).room.slots ≤ R.slots := by rw [show (headSpec ws rm).room.slots = ms from hrs]; exact hp.2.1
  have hPc : Pc a (A.U.calling g mk a) := hblind _ _ _ _ hp.2.2
  obtain ⟨U, Ls, c0, s0⟩ := A
  dsimp only [Pt.U, Pt.locs, Pt.cells, Pt.slots] at h1 h2 h3 h4 h5 X hn hPc ⊢
  obtain ⟨methY, cY, hmY, hcY, -, hlY, -, -, -, -⟩ := Cond.code_spec hn h2
  obtain ⟨kY, hkY, -⟩ := className_of_methodNamed hn
  have hinitY : kY.init = .initialized := Cond.initialized_spec (findClass_of_methodNamed hn) hkY h3
  have h : At U g.method c below := by rw [hg]; exact X.here
  have hlocals9 : W9 + (maxL + 11) + (headSpec ws rm).room.locals ≤ R.locals := hlocals
  have happ : (headSpec ws rm).appliesLoose y e.platform (U.calling g mk a) = true :=
    Spec.appliesLoose_calling (g := g) h hdg hn hkY hinitY
      (X.room_calling (g := g) (R' := (headSpec ws rm).room) hsize hmY hcY hframes (by rw [hlY]; omega) h4 h5) h1
  obtain ⟨mid, hmid⟩ := h.above
  have hfr : (U.setTop g).frames = (.java g :: mid) ++ below := by rw [State.frames_setTop' g h.top, hmid]; rfl
  obtain ⟨o, s₂, hsteps, -, hend, hq⟩ := Steps.callFree hM p X.admits X.cas X.clock (acts := []) hfr happ hPc trivial
  have hq' : vx_Q Qc XC mc ms free a (U.calling g mk a) o s₂ := hq
  rw [State.frames_setTop' g h.top] at hend
  obtain ⟨g₀, hg0⟩ := Option.isSome_iff_exists.mp h.top
  obtain ⟨r, hr⟩ := State.topJava?_eq_some.mp hg0
  have hr' : (({ U with heap := s₂.heap, slotsUsed := s₂.slotsUsed } : State).setVm s₂.vm).frames = .java g₀ :: r := hr
  rcases hq' with ⟨hqc, L, hfe, hL⟩ | ⟨q, rfl, E, ce, L, hx, hce, hcv, hcl, hW₂, hsm, hL⟩
  · obtain ⟨⟨v, rfl⟩, hW₂, e2, q2, q3, q4, q5, q6⟩ := id hfe
    have e3 : s₂ = ({ (U.calling g mk a).setFrames s₂.frames with heap := s₂.heap, slotsUsed := s₂.slotsUsed } : State).setVm s₂.vm := by
      have : s₂ = ({ s₂ with vm := (U.calling g mk a).vm } : State).setVm s₂.vm := rfl
      rw [e2] at this
      exact this
    obtain ⟨c₂, i₂, len₂, hc₂, hd₂, hf₂⟩ := hend
    have hW' : U.WarmedH s₂.vm := hW₂
    have hcc : c₂ = c := by
      have h1 : s₂.code? g.method = U.code? g.method := by
        rw [State.code?_eq, State.code?_eq, hW'.alike.method?]
      exact Option.some.inj (hc₂.symm.trans (h1.trans h.code))
    subst hcc
    have hlen : len₂ = len := by rw [hdg] at hd₂; cases hd₂; rfl
    subst hlen
    have hs₂ : s₂ = (({ U with heap := s₂.heap, slotsUsed := s₂.slotsUsed } : State).setVm s₂.vm).setTop { g with pc := g.pc + len₂, stack := v.toList ++ g.stack } := by
      refine e3.trans ?_
      rw [hf₂, State.calling_eq h.top, State.setFrames_setFrames, State.setTop_of_frames _ hr', hr]
      rfl
    have hsame : U.sameButNew ({ U with heap := s₂.heap, slotsUsed := s₂.slotsUsed } : State) L mc ms := by
      refine ⟨?_, q2, q3, q4, q5, q6⟩
      obtain ⟨t, ht, -⟩ := State.frames_cons hr
      show ({ U with heap := s₂.heap, slotsUsed := s₂.slotsUsed } : State) = { U.setFrames U.frames with heap := s₂.heap, slotsUsed := s₂.slotsUsed }
      rw [State.setFrames_self ht]
    subst hg
    refine Or.inl ⟨v, ⟨(({ U with heap := s₂.heap, slotsUsed := s₂.slotsUsed } : State).setVm s₂.vm), Ls ++ L, c0 + mc, s0 + ms⟩,
      ⟨X.admits, X.cas, X.clock, X.frames, X.room, X.hears, X.method, X.code, (X.here.setHeapUsed s₂.heap s₂.slotsUsed).setVm hW'.alike, X.tail, State.WarmedH.trans X.warmed hW', X.limits, X.bytes, X.same.trans (hsame.setVm s.vm)⟩,
      ⟨g, mk, s₂, L, rfl, rfl, hqc, rfl, hL, rfl, rfl⟩, ?_⟩
    show Steps p.tables e below _ ((({ U with heap := s₂.heap, slotsUsed := s₂.slotsUsed } : State).setVm s₂.vm).setTop { g with pc := g.pc + len₂, stack := v.toList ++ g.stack })
    rw [← hs₂]
    exact hsteps
  · obtain ⟨e2, q2, q3, q4, q5, q6⟩ := id hsm
    have e3 : s₂ = ({ (U.calling g mk a).setFrames s₂.frames with heap := s₂.heap, slotsUsed := s₂.slotsUsed } : State).setVm s₂.vm := by
      have : s₂ = ({ s₂ with vm := (U.calling g mk a).vm } : State).setVm s₂.vm := rfl
      rw [e2] at this
      exact this
    have hf₂ : s₂.frames = .throwing q :: .java g :: U.frames.tail := hend
    have hW' : U.WarmedH s₂.vm := hW₂
    have hs₂ : s₂ = ((({ U with heap := s₂.heap, slotsUsed := s₂.slotsUsed } : State).setVm s₂.vm).setTop g).pushFrame (.throwing q) := by
      refine e3.trans ?_
      rw [hf₂, State.calling_eq h.top, State.setFrames_setFrames, State.pushFrame, State.frames_setTop _ hr', State.setTop_of_frames _ hr', State.setFrames_setFrames, hr]
      rfl
    have hsame : U.sameButNew ({ U with heap := s₂.heap, slotsUsed := s₂.slotsUsed } : State) L mc ms := by
      refine ⟨?_, q2, q3, q4, q5, q6⟩
      obtain ⟨t, ht, -⟩ := State.frames_cons hr
      show ({ U with heap := s₂.heap, slotsUsed := s₂.slotsUsed } : State) = { U.setFrames U.frames with heap := s₂.heap, slotsUsed := s₂.slotsUsed }
      rw [State.setFrames_self ht]
    subst hg
    refine Or.inr ⟨q, ⟨(({ U with heap := s₂.heap, slotsUsed := s₂.slotsUsed } : State).setVm s₂.vm), Ls ++ L, c0 + mc, s0 + ms⟩,
      ⟨X.admits, X.cas, X.clock, X.frames, X.room, X.hears, X.method, X.code, (X.here.setHeapUsed s₂.heap s₂.slotsUsed).setVm hW'.alike, X.tail, State.WarmedH.trans X.warmed hW', X.limits, X.bytes, X.same.trans (hsame.setVm s.vm)⟩,
      ⟨g, mk, s₂, L, E, ce, rfl, rfl, hx, hce, hcv, hcl, rfl, hL, rfl, rfl⟩, ?_⟩
    show Steps p.tables e below _ (((({ U with heap := s₂.heap, slotsUsed := s₂.slotsUsed } : State).setVm s₂.vm).setTop g).pushFrame (.throwing q))
    rw [← hs₂]
    exact hsteps
end Payer
section Calls
variable {p : Program} {l : Launch} {e : Env} {R : Room} {s : State} {m : MethodId} {args : Array Value} {below : List Frame} {meth : Method} {c : Code} {T : State} {locs : List Loc} {cells slots : Nat}
theorem vx_callV (X : Stand p l e R s m args below meth c T locs cells slots) (hexec : p.tables.exec = Jvm.exec) {own C : String} {index : Nat} {y : MethodName} {bytes : ByteArray} {maxL : Nat} {ret : Option FieldType}
    (hown : s.vm.findClass own = some m.cls) (hlink : (Cond.methodLink own index y).before args s = true) (hinst : (Cond.instanceMethod y).before args s = true) (hsel : (Cond.selects C y y).before args s = true)
    (hcode : (Cond.code y bytes maxL ret).before args s = true) (hy : y.cls ≠ "java/lang/invoke/MethodHandle" ∧ y.cls ≠ "java/lang/invoke/VarHandle")
    {W9 : Nat} {Pre : Pt → Array Value → Prop} {Post : Pt → Array Value → Option Value → Pt → Prop} {PostX : Pt → Array Value → Addr → Pt → Prop} (hK : vx_Back l R p e below s args y 3 W9 Pre Post PostX)
    {b : Addr} {cellB : Cell} (hcell : T.heap[b]? = some cellB) (hobj : cellB.vm.isStatics = false) (hcls : s.vm.findClass C = some cellB.cls)
    {g : JFrame} (hg : g.method = m) (hsize : g.locals.size = c.maxLocals) {argsL rest : List Value} (hlen : ∀ sig, parseMethodDescriptor y.desc = some sig → argsL.length = sig.parameters.length)
    (hstack : g.stack = argsL.reverse ++ .ref b :: rest) (hW : 2 * g.monitorRoom + (rest.map fun v => v.category).sum ≤ W9) (hdg : decode c.code g.pc = .ok (.invokevirtual index, 3))
    (hpre : ∀ vm₁, s.WarmedH vm₁ → Pre ⟨T.setVm vm₁, locs, cells, slots⟩ (Value.ref b :: argsL).toArray) :
    (∃ (v : Option Value) (vm₁ : Vm) (B : Pt), s.WarmedH vm₁ ∧ Stand p l e R s m args below meth c B.U B.locs B.cells B.slots ∧ Post ⟨T.setVm vm₁, locs, cells, slots⟩ (Value.ref b :: argsL).toArray v B ∧
      ∀ target, Steps p.tables e below (B.U.setTop { g with pc := g.pc + 3, stack := v.toList ++ rest }) target → Steps p.tables e below (T.setTop g) target) ∨
    (∃ (q : Addr) (vm₁ : Vm) (B : Pt), s.WarmedH vm₁ ∧ Stand p l e R s m args below meth c B.U B.locs B.cells B.slots ∧ PostX ⟨T.setVm vm₁, locs, cells, slots⟩ (Value.ref b :: argsL).toArray q B ∧
      Steps p.tables e below (T.setTop g) ((B.U.setTop { g with stack := rest }).pushFrame (.throwing q))) := by
  obtain ⟨mk, methM, hnamed, hmethM, hstM, habM⟩ := Cond.instanceMethod_spec hinst
  obtain ⟨methM', cM, hmethM', -, -, -, -, -, -, hsigM⟩ := Cond.code_spec hnamed hcode
  cases hmethM.symm.trans hmethM'
  obtain ⟨c2, r2, m2, q1, q2, q3, q4, kP, hkP, hkPi⟩ := Cond.selects_spec hsel
  cases hcls.symm.trans q1
  cases (State.methodFound?_of_named hnamed hy).symm.trans q2
  cases hnamed.symm.trans q3
  have hselP : selectMethod e.platform s.vm cellB.cls mk = .method mk := by rw [Launch.admits_selectMethod X.admits]; exact q4
  obtain ⟨vm₁, X₁, hstep₁⟩ := X.invokevirtual hexec hown hlink hnamed hmethM hstM hkP hkPi hy (a := b) (cell := cellB) hcell
    (fun z h => by rw [h] at hobj; cases hobj) hselP hmethM habM hkP hkPi (g := g) hg (argsL := argsL) (rest := rest) (hlen _ hsigM) hstack hdg
  rcases hK m meth c ⟨T.setVm vm₁, locs, cells, slots⟩ { g with stack := rest } (.invokevirtual index) mk (Value.ref b :: argsL).toArray X₁ hg hsize hdg hW (X₁.named hnamed) (hpre vm₁ X₁.warmed) with ⟨v, B, X', hpost, hsteps⟩ | ⟨q, B, X', hpost, hsteps⟩
  · exact Or.inl ⟨v, vm₁, B, X₁.warmed, X', hpost, fun target h => hstep₁ _ fun acts => by rw [doInvoke_state]; exact hsteps.trans h⟩
  · exact Or.inr ⟨q, vm₁, B, X₁.warmed, X', hpost, hstep₁ _ fun acts => by rw [doInvoke_state]; exact hsteps⟩
theorem vx_callS (X : Stand p l e R s m args below meth c T locs cells slots) (hexec : p.tables.exec = Jvm.exec) {own : String} {index : Nat} {y : MethodName} {bytes : ByteArray} {maxL : Nat} {ret : Option FieldType}
    (hown : s.vm.findClass own = some m.cls) (hlink : (Cond.methodLink own index y).before args s = true) (hstat : (Cond.static y).before args s = true) (hinit : (Cond.initialized y.cls).before args s = true)
    (hcode : (Cond.code y bytes maxL ret).before args s = true) (hy : y.cls ≠ "java/lang/invoke/MethodHandle" ∧ y.cls ≠ "java/lang/invoke/VarHandle")
    {W9 : Nat} {Pre : Pt → Array Value → Prop} {Post : Pt → Array Value → Option Value → Pt → Prop} {PostX : Pt → Array Value → Addr → Pt → Prop} (hK : vx_Back l R p e below s args y 3 W9 Pre Post PostX)
    {g : JFrame} (hg : g.method = m) (hsize : g.locals.size = c.maxLocals) {argsL rest : List Value} (hlen : ∀ sig, parseMethodDescriptor y.desc = some sig → argsL.length = sig.parameters.length)
    (hstack : g.stack = argsL.reverse ++ rest) (hW : 2 * g.monitorRoom + (rest.map fun v => v.category).sum ≤ W9) (hdg : decode c.code g.pc = .ok (.invokestatic index, 3))
    (hpre : ∀ vm₁, s.WarmedH vm₁ → Pre ⟨T.setVm vm₁, locs, cells, slots⟩ argsL.toArray) :
    (∃ (v : Option Value) (vm₁ : Vm) (B : Pt), s.WarmedH vm₁ ∧ Stand p l e R s m args below meth c B.U B.locs B.cells B.slots ∧ Post ⟨T.setVm vm₁, locs, cells, slots⟩ argsL.toArray v B ∧
      ∀ target, Steps p.tables e below (B.U.setTop { g with pc := g.pc + 3, stack := v.toList ++ rest }) target → Steps p.tables e below (T.setTop g) target) ∨
    (∃ (q : Addr) (vm₁ : Vm) (B : Pt), s.WarmedH vm₁ ∧ Stand p l e R s m args below meth c B.U B.locs B.cells B.slots ∧ PostX ⟨T.setVm vm₁, locs, cells, slots⟩ argsL.toArray q B ∧
      Steps p.tables e below (T.setTop g) ((B.U.setTop { g with stack := rest }).pushFrame (.throwing q))) := by
  obtain ⟨mk, hnamed⟩ := Cond.code_named hcode
  obtain ⟨methM, cM, hmethM, -, -, -, -, -, -, hsigM⟩ := Cond.code_spec hnamed hcode
  have hstatic : methM.isStatic = true := Cond.static_spec hnamed hmethM hstat
  obtain ⟨kP, hkP, -⟩ := className_of_methodNamed hnamed
  have hinitP : kP.init = .initialized := Cond.initialized_spec (findClass_of_methodNamed hnamed) hkP hinit
  obtain ⟨vm₁, X₁, hstep₁⟩ := X.invokestatic hexec hown hlink hnamed hmethM hstatic hkP hinitP hy (g := g) hg (argsL := argsL) (rest := rest) (hlen _ hsigM) hstack hdg
  rcases hK m meth c ⟨T.setVm vm₁, locs, cells, slots⟩ { g with stack := rest } (.invokestatic index) mk argsL.toArray X₁ hg hsize hdg hW (X₁.named hnamed) (hpre vm₁ X₁.warmed) with ⟨v, B, X', hpost, hsteps⟩ | ⟨q, B, X', hpost, hsteps⟩
  · exact Or.inl ⟨v, vm₁, B, X₁.warmed, X', hpost, fun target h => hstep₁ _ fun acts => by rw [doInvoke_state]; exact hsteps.trans h⟩
  · exact Or.inr ⟨q, vm₁, B, X₁.warmed, X', hpost, hstep₁ _ fun acts => by rw [doInvoke_state]; exact hsteps⟩
end Calls
theorem vx_cls {s : State} {T : State} {vm₁ : Vm} {E : String} {k : ClassId} (hW : s.WarmedH vm₁) (h : (T.setVm vm₁).vm.findClass E = some k) : s.vm.findClass E = some k := by
  have h1 : vm₁.findClass E = some k := h
  rw [hW.alike.findClass] at h1
  exact h1
/-- the method's frame g, with q thrown over it -/
def vx_W (p : Program) (l : Launch) (e : Env) (R : Room) (s : State) (m : MethodId) (args : Array Value) (below : List Frame) (meth : Method) (c : Code) (H : Heap) (locs : List Loc) (cells slots : Nat) (Q : State → Prop) (g : JFrame) (q : Addr) : Prop :=
  ∀ T : State, T.heap = H → Stand p l e R s m args below meth c T locs cells slots → ∃ t, Steps p.tables e below ((T.setTop g).pushFrame (.throwing q)) t ∧ Q t
def vx_Run (p : Program) (l : Launch) (e : Env) (R : Room) (s : State) (m : MethodId) (args : Array Value) (below : List Frame) (meth : Method) (c : Code) (H : Heap) (locs : List Loc) (cells slots mc ms : Nat) (g : JFrame) (rest : List Value) (Qa : State → Outcome → State → Prop) (XC : String → State → State → Prop) (free : Addr → Prop) : Prop :=
  ∀ T : State, T.heap = H → Stand p l e R s m args below meth c T locs cells slots →
    (∃ (v : Option Value) (st₀ t T' : State) (L : List Loc), st₀.heap = H ∧ Stand p l e R s m args below meth c T' (locs ++ L) (cells + mc) (slots + ms) ∧ (∀ q ∈ L, free q.base) ∧ T'.heap = t.heap ∧ T'.vm = t.vm ∧ Qa st₀ (.returned v) t ∧
      Goes p e below T g T' { g with pc := g.pc + 3, stack := v.toList ++ rest }) ∨
    (∃ (q : Addr) (st₀ t T' : State) (L : List Loc) (E : String) (ce : Cell), st₀.heap = H ∧ Stand p l e R s m args below meth c T' (locs ++ L) (cells + mc) (slots + ms) ∧ (∀ z ∈ L, free z.base) ∧ T'.heap = t.heap ∧ T'.vm = t.vm ∧ XC E st₀ t ∧ t.heap[q]? = some ce ∧ ce.vm = .none ∧ s.vm.findClass E = some ce.cls ∧
      Steps p.tables e below (T.setTop g) ((T'.setTop { g with stack := rest }).pushFrame (.throwing q)))
def vx_X {S : Type} (px : S → Prop) (B : String → S → State → Prop) (A : Nat → Prop) : String → State → State → Prop := fun E st t => ∃ u : S, px u ∧ B E u t ∧ va_F A st t
section Runs
variable {p : Program} {l : Launch} {e : Env} {R : Room} {s : State} {m : MethodId} {args : Array Value} {below : List Frame} {meth : Method} {c : Code} {H : Heap} {locs : List Loc} {cells slots : Nat}
variable {y : MethodName} {bytes cc : ByteArray} {maxL nL mc ms n index : Nat} {ret : Option FieldType} {ws : List Cond} {rm : Room} {Pc : Array Value → State → Prop} {Qc : Array Value → State → Outcome → State → Prop} {XC : String → State → State → Prop} {free : Addr → Prop} {Ts : List Cond} {own C : String} {b : Addr} {As rest : List Value} {g : JFrame}
theorem vx_callBack (cb : CallB R s args own index y bytes maxL ret ws rm mc ms n) (hM : vx_Met l y ws rm Pc Qc XC mc ms free) (hbl : FrameBlind Pc) : vx_Back l R p e below s args y 3 8 (PreOf R mc ms Pc) (PostOf Qc mc ms free) (vx_Post XC mc ms free) := by
  obtain ⟨hrc, hrs, hfr, hlo, hws, hcw, -, hini, -⟩ := cb
  exact vx_back (bytes := bytes) (maxL := maxL) (ret := ret) hM hbl hrc hrs hfr hlo hws hcw (fun a' U hW => word_at hW (Or.inl (by first | rfl | simp [Cond.onTables, Cond.keeps, Cond.steady])) hini)
theorem vx_runV (S : CallFix p m c cc nL s args Ts own) (hM : vx_Met l y ws rm Pc Qc XC mc ms free) (cw : CallW R s args own C index y bytes maxL ret ws rm mc ms n) (hp : PreV s H C b Pc As)
    (hg : g.method = m) (hn : As.length = n) (hsize : g.locals.size = nL) (hstack : g.stack = As.reverse ++ .ref b :: rest) (hW : 2 * g.monitorRoom + (rest.map fun v => v.category).sum ≤ 8) (hdg : decode cc g.pc = .ok (.invokevirtual index, 3)) (hf : cells + mc ≤ R.cells ∧ slots + ms ≤ R.slots) :
    vx_Run p l e R s m args below meth c H locs cells slots mc ms g rest (Qc (Value.ref b :: As).toArray) XC free := by
  have hK : vx_Back l R p e below s args y 3 8 (PreOf R mc ms Pc) (PostOf Qc mc ms free) (vx_Post XC mc ms free) := vx_callBack cw.1 hM hp.1
  obtain ⟨⟨-, -, -, -, -, -, hcode, -, hy, hlen, hl⟩, hin, hse⟩ := cw
  obtain ⟨hx, hb, hml, ho, -⟩ := S
  obtain ⟨-, ⟨cellB, hcB, hoB, hclB⟩, hPc⟩ := hp
  intro T hT X
  rcases vx_callV X hx (C := C) (bytes := bytes) (maxL := maxL) (ret := ret) ho hl hin hse hcode hy hK (by rw [hT]; exact hcB) hoB hclB hg (hsize.trans hml.symm) (argsL := As) (rest := rest) (fun sig h => hn.trans (hlen sig h)) hstack hW (by rw [hb]; exact hdg)
    (fun vm₁ hW₁ => ⟨hf.1, hf.2, hPc (T.setVm vm₁) hT hW₁⟩) with ⟨v, vm₁, ⟨U', l2, c2, s2⟩, hW₁, X', ⟨g', mk, t, L, e1, e2, hq, h1, hL, h2, h3⟩, st⟩ | ⟨q, vm₁, ⟨U', l2, c2, s2⟩, hW₁, X', ⟨g', mk, t, L, E, ce, e1, e2, hq, hce, hcv, hcl, h1, hL, h2, h3⟩, st⟩
  · dsimp only [Pt.U, Pt.locs, Pt.cells, Pt.slots] at X' e1 e2 h1 h2 h3 st
    subst h1; subst h2; subst h3
    exact Or.inl ⟨v, (T.setVm vm₁).calling g' mk (Value.ref b :: As).toArray, t, U', L, hT, X', hL, e1, e2, hq, st⟩
  · dsimp only [Pt.U, Pt.locs, Pt.cells, Pt.slots] at X' e1 e2 h1 h2 h3 st hcl
    subst h1; subst h2; subst h3
    exact Or.inr ⟨q, (T.setVm vm₁).calling g' mk (Value.ref b :: As).toArray, t, U', L, E, ce, hT, X', hL, e1, e2, hq, hce, hcv, vx_cls hW₁ hcl, st⟩
theorem vx_runS (S : CallFix p m c cc nL s args Ts own) (hM : vx_Met l y ws rm Pc Qc XC mc ms free) (cw : CallB R s args own index y bytes maxL ret ws rm mc ms n ∧ (Cond.static y).before args s = true) (hp : PreS s H Pc As)
    (hg : g.method = m) (hn : As.length = n) (hsize : g.locals.size = nL) (hstack : g.stack = As.reverse ++ rest) (hW : 2 * g.monitorRoom + (rest.map fun v => v.category).sum ≤ 8) (hdg : decode cc g.pc = .ok (.invokestatic index, 3)) (hf : cells + mc ≤ R.cells ∧ slots + ms ≤ R.slots) :
    vx_Run p l e R s m args below meth c H locs cells slots mc ms g rest (Qc As.toArray) XC free := by
  have hK : vx_Back l R p e below s args y 3 8 (PreOf R mc ms Pc) (PostOf Qc mc ms free) (vx_Post XC mc ms free) := vx_callBack cw.1 hM hp.1
  obtain ⟨⟨-, -, -, -, -, -, hcode, hini, hy, hlen, hl⟩, hstt⟩ := cw
  obtain ⟨hx, hb, hml, ho, -⟩ := S
  intro T hT X
  rcases vx_callS X hx (bytes := bytes) (maxL := maxL) (ret := ret) ho hl hstt hini hcode hy hK hg (hsize.trans hml.symm) (argsL := As) (rest := rest) (fun sig h => hn.trans (hlen sig h)) hstack hW (by rw [hb]; exact hdg)
    (fun vm₁ hW₁ => ⟨hf.1, hf.2, hp.2 (T.setVm vm₁) hT hW₁⟩) with ⟨v, vm₁, ⟨U', l2, c2, s2⟩, hW₁, X', ⟨g', mk, t, L, e1, e2, hq, h1, hL, h2, h3⟩, st⟩ | ⟨q, vm₁, ⟨U', l2, c2, s2⟩, hW₁, X', ⟨g', mk, t, L, E, ce, e1, e2, hq, hce, hcv, hcl, h1, hL, h2, h3⟩, st⟩
  · dsimp only [Pt.U, Pt.locs, Pt.cells, Pt.slots] at X' e1 e2 h1 h2 h3 st
    subst h1; subst h2; subst h3
    exact Or.inl ⟨v, (T.setVm vm₁).calling g' mk As.toArray, t, U', L, hT, X', hL, e1, e2, hq, st⟩
  · dsimp only [Pt.U, Pt.locs, Pt.cells, Pt.slots] at X' e1 e2 h1 h2 h3 st hcl
    subst h1; subst h2; subst h3
    exact Or.inr ⟨q, (T.setVm vm₁).calling g' mk As.toArray, t, U', L, E, ce, hT, X', hL, e1, e2, hq, hce, hcv, vx_cls hW₁ hcl, st⟩
end Runs
section Rows
variable {p : Program} {l : Launch} {e : Env} {R : Room} {s : State} {m : MethodId} {args : Array Value} {below : List Frame} {meth : Method} {c : Code} {H : Heap} {locs : List Loc} {cells slots : Nat} {Q : State → Prop}
variable {mc ms : Nat} {free : Addr → Prop} {A0 A1 : Nat → Prop} {H0 : Heap} {a : Array Value} {pc : Nat} {ls : Array Slot} {st0 rest : List Value}
theorem vx_keep {st₀ t T' : State} {L : List Loc} (h0 : st₀.heap = H) (e1 : T'.heap = t.heap) (hS : va_S A0 H0 H locs) (hA : ∀ q, q < H.size → A1 q → A0 q) (hf : ∀ q, free q → A0 q) (hL : ∀ q ∈ L, free q.base) (hF : va_F A1 st₀ t) :
    H.size ≤ T'.heap.size ∧ (∀ q : Nat, q < H.size → ¬ A1 q → T'.heap[q]? = H[q]?) ∧ va_S A0 H0 T'.heap (locs ++ L) := by
  obtain ⟨hz, hk⟩ := hF
  rw [h0] at hz hk
  exact ⟨by rw [e1]; exact hz, fun q h1 h2 => by rw [e1]; exact hk q h1 h2,
    ⟨Nat.le_trans hS.1 (by rw [e1]; exact hz), fun q h1 h2 => by rw [e1, hk q (Nat.lt_of_lt_of_le h1 hS.1) (fun z => h2 (hA q (Nat.lt_of_lt_of_le h1 hS.1) z))]; exact hS.2.1 q h1 h2, fun q hq => by
      rcases List.mem_append.mp hq with h | h
      · exact hS.2.2 q h
      · exact hf _ (hL q h)⟩⟩
theorem vx_calli {S SX : Type} {post : Int32 → S → Prop} {px : SX → Prop} {B : S → State → Prop} {BX : String → SX → State → Prop} {AX : Nat → Prop} (hr : vx_Run p l e R s m args below meth c H locs cells slots mc ms (F0 m pc ls st0) rest (va_Qi post B A1 a) (vx_X px BX AX) free) (hS : va_S A0 H0 H locs) (hA : ∀ q, q < H.size → A1 q → A0 q) (hf : ∀ q, free q → A0 q) (hAX : ∀ q, q < H.size → AX q → A0 q)
    (kx : ∀ (E : String) (ce : Cell) (q9 : Addr) (u : SX) (t : State) (H1 : Heap) (locs1 : List Loc), t.heap = H1 → s.vm.Alike t.vm → px u → BX E u t → H.size ≤ H1.size → (∀ q : Nat, q < H.size → ¬ AX q → H1[q]? = H[q]?) → va_S A0 H0 H1 locs1 → H1[q9]? = some ce → ce.vm = .none → s.vm.findClass E = some ce.cls → vx_W p l e R s m args below meth c H1 locs1 (cells + mc) (slots + ms) Q (F0 m pc ls rest) q9)
    (kk : ∀ (r : Int32) (u : S) (t : State) (H1 : Heap) (locs1 : List Loc), t.heap = H1 → s.vm.Alike t.vm → post r u → B u t → H.size ≤ H1.size → (∀ q : Nat, q < H.size → ¬ A1 q → H1[q]? = H[q]?) → va_S A0 H0 H1 locs1 → W p l e R s m args below meth c H1 locs1 (cells + mc) (slots + ms) Q (F0 m (pc + 3) ls (.int r :: rest))) : W p l e R s m args below meth c H locs cells slots Q (F0 m pc ls st0) := by
  intro T hT X
  rcases hr T hT X with ⟨v, st₀, t, T', L, h0, X', hL, e1, e2, ⟨⟨r, u, hv, hp, hb⟩, hF⟩, st⟩ | ⟨q, st₀, t, T', L, E, ce, h0, X', hL, e1, e2, ⟨u, hp, hb, hF⟩, hce, hcv, hcl, st⟩
  · cases hv
    obtain ⟨k1, k2, k3⟩ := vx_keep h0 e1 hS hA hf hL hF
    obtain ⟨t2, a1, b1⟩ := kk r u t T'.heap (locs ++ L) e1.symm (by rw [← e2]; exact X'.warmed.alike) hp hb k1 k2 k3 T' rfl X'
    exact ⟨t2, st t2 a1, b1⟩
  · obtain ⟨k1, k2, k3⟩ := vx_keep h0 e1 hS hAX hf hL hF
    obtain ⟨t2, a1, b1⟩ := kx E ce q u t T'.heap (locs ++ L) e1.symm (by rw [← e2]; exact X'.warmed.alike) hp hb k1 k2 k3 (by rw [e1]; exact hce) hcv hcl T' rfl X'
    exact ⟨t2, st.trans a1, b1⟩
theorem vx_calll {S SX : Type} {post : Int64 → S → Prop} {px : SX → Prop} {B : S → State → Prop} {BX : String → SX → State → Prop} {AX : Nat → Prop} (hr : vx_Run p l e R s m args below meth c H locs cells slots mc ms (F0 m pc ls st0) rest (va_Ql post B A1 a) (vx_X px BX AX) free) (hS : va_S A0 H0 H locs) (hA : ∀ q, q < H.size → A1 q → A0 q) (hf : ∀ q, free q → A0 q) (hAX : ∀ q, q < H.size → AX q → A0 q)
    (kx : ∀ (E : String) (ce : Cell) (q9 : Addr) (u : SX) (t : State) (H1 : Heap) (locs1 : List Loc), t.heap = H1 → s.vm.Alike t.vm → px u → BX E u t → H.size ≤ H1.size → (∀ q : Nat, q < H.size → ¬ AX q → H1[q]? = H[q]?) → va_S A0 H0 H1 locs1 → H1[q9]? = some ce → ce.vm = .none → s.vm.findClass E = some ce.cls → vx_W p l e R s m args below meth c H1 locs1 (cells + mc) (slots + ms) Q (F0 m pc ls rest) q9)
    (kk : ∀ (r : Int64) (u : S) (t : State) (H1 : Heap) (locs1 : List Loc), t.heap = H1 → s.vm.Alike t.vm → post r u → B u t → H.size ≤ H1.size → (∀ q : Nat, q < H.size → ¬ A1 q → H1[q]? = H[q]?) → va_S A0 H0 H1 locs1 → W p l e R s m args below meth c H1 locs1 (cells + mc) (slots + ms) Q (F0 m (pc + 3) ls (.long r :: rest))) : W p l e R s m args below meth c H locs cells slots Q (F0 m pc ls st0) := by
  intro T hT X
  rcases hr T hT X with ⟨v, st₀, t, T', L, h0, X', hL, e1, e2, ⟨⟨r, u, hv, hp, hb⟩, hF⟩, st⟩ | ⟨q, st₀, t, T', L, E, ce, h0, X', hL, e1, e2, ⟨u, hp, hb, hF⟩, hce, hcv, hcl, st⟩
  · cases hv
    obtain ⟨k1, k2, k3⟩ := vx_keep h0 e1 hS hA hf hL hF
    obtain ⟨t2, a1, b1⟩ := kk r u t T'.heap (locs ++ L) e1.symm (by rw [← e2]; exact X'.warmed.alike) hp hb k1 k2 k3 T' rfl X'
    exact ⟨t2, st t2 a1, b1⟩
  · obtain ⟨k1, k2, k3⟩ := vx_keep h0 e1 hS hAX hf hL hF
    obtain ⟨t2, a1, b1⟩ := kx E ce q u t T'.heap (locs ++ L) e1.symm (by rw [← e2]; exact X'.warmed.alike) hp hb k1 k2 k3 (by rw [e1]; exact hce) hcv hcl T' rfl X'
    exact ⟨t2, st.trans a1, b1⟩
theorem vx_callf {S SX : Type} {post : UInt32 → S → Prop} {px : SX → Prop} {B : S → State → Prop} {BX : String → SX → State → Prop} {AX : Nat → Prop} (hr : vx_Run p l e R s m args below meth c H locs cells slots mc ms (F0 m pc ls st0) rest (va_Qf post B A1 a) (vx_X px BX AX) free) (hS : va_S A0 H0 H locs) (hA : ∀ q, q < H.size → A1 q → A0 q) (hf : ∀ q, free q → A0 q) (hAX : ∀ q, q < H.size → AX q → A0 q)
    (kx : ∀ (E : String) (ce : Cell) (q9 : Addr) (u : SX) (t : State) (H1 : Heap) (locs1 : List Loc), t.heap = H1 → s.vm.Alike t.vm → px u → BX E u t → H.size ≤ H1.size → (∀ q : Nat, q < H.size → ¬ AX q → H1[q]? = H[q]?) → va_S A0 H0 H1 locs1 → H1[q9]? = some ce → ce.vm = .none → s.vm.findClass E = some ce.cls → vx_W p l e R s m args below meth c H1 locs1 (cells + mc) (slots + ms) Q (F0 m pc ls rest) q9)
    (kk : ∀ (r : UInt32) (u : S) (t : State) (H1 : Heap) (locs1 : List Loc), t.heap = H1 → s.vm.Alike t.vm → post r u → B u t → H.size ≤ H1.size → (∀ q : Nat, q < H.size → ¬ A1 q → H1[q]? = H[q]?) → va_S A0 H0 H1 locs1 → W p l e R s m args below meth c H1 locs1 (cells + mc) (slots + ms) Q (F0 m (pc + 3) ls (.float r :: rest))) : W p l e R s m args below meth c H locs cells slots Q (F0 m pc ls st0) := by
  intro T hT X
  rcases hr T hT X with ⟨v, st₀, t, T', L, h0, X', hL, e1, e2, ⟨⟨r, u, hv, hp, hb⟩, hF⟩, st⟩ | ⟨q, st₀, t, T', L, E, ce, h0, X', hL, e1, e2, ⟨u, hp, hb, hF⟩, hce, hcv, hcl, st⟩
  · cases hv
    obtain ⟨k1, k2, k3⟩ := vx_keep h0 e1 hS hA hf hL hF
    obtain ⟨t2, a1, b1⟩ := kk r u t T'.heap (locs ++ L) e1.symm (by rw [← e2]; exact X'.warmed.alike) hp hb k1 k2 k3 T' rfl X'
    exact ⟨t2, st t2 a1, b1⟩
  · obtain ⟨k1, k2, k3⟩ := vx_keep h0 e1 hS hAX hf hL hF
    obtain ⟨t2, a1, b1⟩ := kx E ce q u t T'.heap (locs ++ L) e1.symm (by rw [← e2]; exact X'.warmed.alike) hp hb k1 k2 k3 (by rw [e1]; exact hce) hcv hcl T' rfl X'
    exact ⟨t2, st.trans a1, b1⟩
theorem vx_calld {S SX : Type} {post : UInt64 → S → Prop} {px : SX → Prop} {B : S → State → Prop} {BX : String → SX → State → Prop} {AX : Nat → Prop} (hr : vx_Run p l e R s m args below meth c H locs cells slots mc ms (F0 m pc ls st0) rest (va_Qd post B A1 a) (vx_X px BX AX) free) (hS : va_S A0 H0 H locs) (hA : ∀ q, q < H.size → A1 q → A0 q) (hf : ∀ q, free q → A0 q) (hAX : ∀ q, q < H.size → AX q → A0 q)
    (kx : ∀ (E : String) (ce : Cell) (q9 : Addr) (u : SX) (t : State) (H1 : Heap) (locs1 : List Loc), t.heap = H1 → s.vm.Alike t.vm → px u → BX E u t → H.size ≤ H1.size → (∀ q : Nat, q < H.size → ¬ AX q → H1[q]? = H[q]?) → va_S A0 H0 H1 locs1 → H1[q9]? = some ce → ce.vm = .none → s.vm.findClass E = some ce.cls → vx_W p l e R s m args below meth c H1 locs1 (cells + mc) (slots + ms) Q (F0 m pc ls rest) q9)
    (kk : ∀ (r : UInt64) (u : S) (t : State) (H1 : Heap) (locs1 : List Loc), t.heap = H1 → s.vm.Alike t.vm → post r u → B u t → H.size ≤ H1.size → (∀ q : Nat, q < H.size → ¬ A1 q → H1[q]? = H[q]?) → va_S A0 H0 H1 locs1 → W p l e R s m args below meth c H1 locs1 (cells + mc) (slots + ms) Q (F0 m (pc + 3) ls (.double r :: rest))) : W p l e R s m args below meth c H locs cells slots Q (F0 m pc ls st0) := by
  intro T hT X
  rcases hr T hT X with ⟨v, st₀, t, T', L, h0, X', hL, e1, e2, ⟨⟨r, u, hv, hp, hb⟩, hF⟩, st⟩ | ⟨q, st₀, t, T', L, E, ce, h0, X', hL, e1, e2, ⟨u, hp, hb, hF⟩, hce, hcv, hcl, st⟩
  · cases hv
    obtain ⟨k1, k2, k3⟩ := vx_keep h0 e1 hS hA hf hL hF
    obtain ⟨t2, a1, b1⟩ := kk r u t T'.heap (locs ++ L) e1.symm (by rw [← e2]; exact X'.warmed.alike) hp hb k1 k2 k3 T' rfl X'
    exact ⟨t2, st t2 a1, b1⟩
  · obtain ⟨k1, k2, k3⟩ := vx_keep h0 e1 hS hAX hf hL hF
    obtain ⟨t2, a1, b1⟩ := kx E ce q u t T'.heap (locs ++ L) e1.symm (by rw [← e2]; exact X'.warmed.alike) hp hb k1 k2 k3 (by rw [e1]; exact hce) hcv hcl T' rfl X'
    exact ⟨t2, st.trans a1, b1⟩
theorem vx_callv {S SX : Type} {post : S → Prop} {px : SX → Prop} {B : S → State → Prop} {BX : String → SX → State → Prop} {AX : Nat → Prop} (hr : vx_Run p l e R s m args below meth c H locs cells slots mc ms (F0 m pc ls st0) rest (va_Qv post B A1 a) (vx_X px BX AX) free) (hS : va_S A0 H0 H locs) (hA : ∀ q, q < H.size → A1 q → A0 q) (hf : ∀ q, free q → A0 q) (hAX : ∀ q, q < H.size → AX q → A0 q)
    (kx : ∀ (E : String) (ce : Cell) (q9 : Addr) (u : SX) (t : State) (H1 : Heap) (locs1 : List Loc), t.heap = H1 → s.vm.Alike t.vm → px u → BX E u t → H.size ≤ H1.size → (∀ q : Nat, q < H.size → ¬ AX q → H1[q]? = H[q]?) → va_S A0 H0 H1 locs1 → H1[q9]? = some ce → ce.vm = .none → s.vm.findClass E = some ce.cls → vx_W p l e R s m args below meth c H1 locs1 (cells + mc) (slots + ms) Q (F0 m pc ls rest) q9)
    (kk : ∀ (u : S) (t : State) (H1 : Heap) (locs1 : List Loc), t.heap = H1 → s.vm.Alike t.vm → post u → B u t → H.size ≤ H1.size → (∀ q : Nat, q < H.size → ¬ A1 q → H1[q]? = H[q]?) → va_S A0 H0 H1 locs1 → W p l e R s m args below meth c H1 locs1 (cells + mc) (slots + ms) Q (F0 m (pc + 3) ls (rest))) : W p l e R s m args below meth c H locs cells slots Q (F0 m pc ls st0) := by
  intro T hT X
  rcases hr T hT X with ⟨v, st₀, t, T', L, h0, X', hL, e1, e2, ⟨⟨u, hv, hp, hb⟩, hF⟩, st⟩ | ⟨q, st₀, t, T', L, E, ce, h0, X', hL, e1, e2, ⟨u, hp, hb, hF⟩, hce, hcv, hcl, st⟩
  · cases hv
    obtain ⟨k1, k2, k3⟩ := vx_keep h0 e1 hS hA hf hL hF
    obtain ⟨t2, a1, b1⟩ := kk u t T'.heap (locs ++ L) e1.symm (by rw [← e2]; exact X'.warmed.alike) hp hb k1 k2 k3 T' rfl X'
    exact ⟨t2, st t2 a1, b1⟩
  · obtain ⟨k1, k2, k3⟩ := vx_keep h0 e1 hS hAX hf hL hF
    obtain ⟨t2, a1, b1⟩ := kx E ce q u t T'.heap (locs ++ L) e1.symm (by rw [← e2]; exact X'.warmed.alike) hp hb k1 k2 k3 (by rw [e1]; exact hce) hcv hcl T' rfl X'
    exact ⟨t2, st.trans a1, b1⟩
/-- caught by the row x of this method's table; the rows ahead don't take it -/
theorem vx_catch {own name : String} {E : String} {ce : Cell} {q : Addr} (hown : s.vm.findClass own = some m.cls) (pre : List ExceptionTableEntry) (x : ExceptionTableEntry) (suf : List ExceptionTableEntry) (hsplit : c.exceptionTable.toList = pre ++ x :: suf)
    (hpass : ∀ z ∈ pre, covers z pc = false ∨ (z.catchType ≠ 0 ∧ ∃ nm : String, (Cond.classLink own z.catchType nm).before args s = true ∧ va_Nc E nm s)) (hx : covers x pc = true) (h0 : x.catchType ≠ 0)
    (hlink : (Cond.classLink own x.catchType name).before args s = true) (hcast : (Cond.castable E name).before args s = true) (hcell : H[q]? = some ce) (hv : ce.vm = .none) (hcl : s.vm.findClass E = some ce.cls)
    (kk : W p l e R s m args below meth c H locs cells slots Q (F0 m x.handlerPc ls [.ref q])) : vx_W p l e R s m args below meth c H locs cells slots Q (F0 m pc ls rest) q := by
  intro T hT X
  have hpl : e.platform.magicAccessors = ({} : Platform).magicAccessors := by rw [X.admits.platform]
  obtain ⟨c3, c4, hc3, hc4, hasg⟩ := Cond.castable_spec hcast
  cases Option.some.inj (hc3.symm.trans hcl)
  obtain ⟨c5, hc5, hcl5⟩ := Cond.classLink_spec hown hlink e.platform hpl
  cases Option.some.inj (hc4.symm.trans hc5)
  obtain ⟨vm', X', st⟩ := X.thenCaughtThrough q (g := F0 m pc ls rest) rfl (Steps.refl _) (by rw [hT]; exact hcell) (by rw [hv]; rfl) (by obtain ⟨k9, h9, -⟩ := Vm.findClass_spec hcl; exact ⟨k9, h9⟩) pre x suf hsplit
    (fun z hz => by
      rcases hpass z hz with h | ⟨hz0, nm, hl1, hn1⟩
      · exact Or.inl h
      · obtain ⟨c6, hc6, hcl6⟩ := Cond.classLink_spec hown hl1 e.platform hpl
        obtain ⟨a8, b8, h1, h2, h3⟩ := hn1
        cases Option.some.inj (h1.symm.trans hcl)
        cases Option.some.inj (h2.symm.trans hc6)
        exact Or.inr ⟨hz0, _, hcl6, h3⟩) hx (Or.inr ⟨h0, c4, hcl5, hasg⟩)
  obtain ⟨t, a1, b1⟩ := kk (T.setVm vm') hT X'
  exact ⟨t, st.trans a1, b1⟩
end Rows
section Ends
variable {p : Program} {l : Launch} {e : Env} {R : Room} {s : State} {m : MethodId} {args : Array Value} {below : List Frame} {meth : Method} {c : Code} {H : Heap} {locs : List Loc} {cells slots : Nat} {Q : State → Prop}
variable {mc ms : Nat} {free : Addr → Prop} {A0 A1 : Nat → Prop} {H0 : Heap} {a : Array Value} {ls : Array Slot} {st0 rest : List Value}
variable {Qc : Array Value → State → Outcome → State → Prop} {XC : String → State → State → Prop}
/-- what a body that may throw owes at its end -/
def vx_MQ (below : List Frame) (Qc : Array Value → State → Outcome → State → Prop) (XC : String → State → State → Prop) (a : Array Value) (s : State) (mc ms : Nat) (free : Addr → Prop) : State → Prop := fun t =>
  ∃ o, t.status = .running ∧ Ended t below o ∧ vx_Q Qc XC mc ms free a s o t
theorem vx_ret {g : JFrame} {mc ms : Nat} (k : W p l e R s m args below meth c H locs cells slots (MQ below Qc args s mc ms free) g) : W p l e R s m args below meth c H locs cells slots (vx_MQ below Qc XC args s mc ms free) g := by
  intro T hT X
  obtain ⟨t, a1, o, b1, b2, b3, b4⟩ := k T hT X
  exact ⟨t, a1, o, b1, b2, Or.inl ⟨b3, b4⟩⟩
/-- not caught here: it goes on to the caller -/
theorem vx_widen {g : JFrame} {q : Addr} {k n : Nat} (h1 : cells ≤ k) (h2 : slots ≤ n) (kk : vx_W p l e R s m args below meth c H locs k n Q g q) : vx_W p l e R s m args below meth c H locs cells slots Q g q := fun T hT X => kk T hT (stand_widen X h1 h2)
theorem vx_out {pc : Nat} {E : String} {ce : Cell} {q : Addr} {mc ms : Nat} (hout : ∀ x ∈ c.exceptionTable.toList, covers x pc = false) (hlocks : meth.locks = false) (hcell : H[q]? = some ce) (hv : ce.vm = .none) (hcl : s.vm.findClass E = some ce.cls)
    (hx : ∀ t : State, t.heap = H → s.vm.Alike t.vm → XC E s t) (hf : ∀ z ∈ locs, free z.base) (hc : cells ≤ mc) (hs : slots ≤ ms) :
    vx_W p l e R s m args below meth c H locs cells slots (vx_MQ below Qc XC args s mc ms free) (F0 m pc ls rest) q := by
  intro T hT X
  obtain ⟨st1, hrun, hend, hW, hsm⟩ := X.leaveThrown q (g := F0 m pc ls rest) rfl rfl rfl hout hlocks
  have hcell9 : (T.setFrames (.throwing q :: below)).heap[q]? = some ce := by
    show T.heap[q]? = some ce
    rw [hT]; exact hcell
  exact ⟨_, st1, .threw q, hrun, hend, Or.inr ⟨q, rfl, E, ce, locs, hx _ hT hW.alike, hcell9, hv, hcl, hW, hsm.mono hc hs, hf⟩⟩
theorem vx_frame {U : State} {k n : Nat} (h : s.sameButNew ({ U with vm := s.vm } : State) locs k n) : s.heap.size ≤ U.heap.size ∧ ∀ q : Nat, q < s.heap.size → (∀ z ∈ locs, z.base ≠ q) → U.heap[q]? = s.heap[q]? := by
  obtain ⟨-, h2, -, -, -, h6⟩ := h
  refine ⟨h2, fun q hq hz => ?_⟩
  obtain ⟨c9, e1, e2, e3, e4⟩ := h6 q _ (Array.getElem?_eq_getElem hq)
  have hs : c9.slots = (s.heap[q]).slots := Array.ext_getElem? fun i => e4 i fun hm => hz _ hm rfl
  have h9 : c9 = s.heap[q] := by
    rw [hs] at e2
    exact e2
  have e5 : U.heap[q]? = some c9 := e1
  rw [e5, h9, Array.getElem?_eq_getElem hq]
/-- the words of a throw but the four that speak of the heap -/
def vx_no (w : Cond) : Bool := decide (w ≠ .isRef (.static Bundle.tN "UNASSIGNED_STACK" Bundle.steD)) && decide (w ≠ .isRef (.static Bundle.tN "SUPPRESSED_SENTINEL" Bundle.listD)) && decide (w ≠ .laysStatic Bundle.tN "UNASSIGNED_STACK" Bundle.steD) && decide (w ≠ .laysStatic Bundle.tN "SUPPRESSED_SENTINEL" Bundle.listD)
def vx_at0 (own : String) (ic : Nat) (X : String) (names : List String) : List Cond := (Bundle.ownAtoms0 own ic X names).filter vx_no
def vx_atS (own : String) (ic : Nat) (X : String) (names : List String) : List Cond := (Bundle.ownAtoms own ic X names).filter vx_no
/-- a word that the tables alone decide, or a good one -/
def vx_ot (w : Cond) : Bool := w.onTables || goodWord w
theorem vx_ot_at {args a' : Array Value} {s U : State} {w : Cond} (hW : s.WarmedH U.vm) (hvm : s.vm = U.vm) (hg : vx_ot w = true) (h : w.before args s = true) : w.before a' U = true := by
  simp only [vx_ot, Bool.or_eq_true] at hg
  rcases hg with hg | hg
  · exact va_tabs hg hvm h
  · exact word_at hW (good_of_word hg) h
/-- a list's words: the good ones out of the method's own list, the others by premises of their own -/
theorem vx_hat {args : Array Value} {s : State} {L B : List Cond} (h1 : ∀ w ∈ L.filter goodWord, w.before args s = true) (h2 : ∀ w ∈ L.filter (fun w => !goodWord w), w ∈ B) (h3 : ∀ w ∈ B, w.before args s = true) : ∀ w ∈ L, w.before args s = true := by
  intro w hw
  by_cases g : goodWord w = true
  · exact h1 w (List.mem_filter.mpr ⟨hw, g⟩)
  · refine h3 w (h2 w (List.mem_filter.mpr ⟨hw, ?_⟩))
    show (!goodWord w) = true
    cases hgw : goodWord w
    · rfl
    · exact absurd hgw g
theorem vx_c {args : Array Value} {s : State} {w : Cond} {B : List Cond} (h : w.before args s = true) (t : ∀ w ∈ B, w.before args s = true) : ∀ w' ∈ w :: B, w'.before args s = true := fun w' h' => (List.mem_cons.mp h').elim (fun e => by rw [e]; exact h) (t w')
theorem vx_n {args : Array Value} {s : State} : ∀ w ∈ ([] : List Cond), w.before args s = true := fun _ h => nomatch h
theorem vx_own {args : Array Value} {s : State} {L : List Cond} (h1 : ∀ w ∈ L.filter vx_no, w.before args s = true)
    (hU : (Cond.isRef (.static Bundle.tN "UNASSIGNED_STACK" Bundle.steD)).before args s = true) (hN : (Cond.isRef (.static Bundle.tN "SUPPRESSED_SENTINEL" Bundle.listD)).before args s = true)
    (lU : (Cond.laysStatic Bundle.tN "UNASSIGNED_STACK" Bundle.steD).before args s = true) (lN : (Cond.laysStatic Bundle.tN "SUPPRESSED_SENTINEL" Bundle.listD).before args s = true) : ∀ w ∈ L, w.before args s = true := by
  intro w hw
  by_cases e1 : w = .isRef (.static Bundle.tN "UNASSIGNED_STACK" Bundle.steD)
  · rw [e1]; exact hU
  · by_cases e2 : w = .isRef (.static Bundle.tN "SUPPRESSED_SENTINEL" Bundle.listD)
    · rw [e2]; exact hN
    · by_cases e3 : w = .laysStatic Bundle.tN "UNASSIGNED_STACK" Bundle.steD
      · rw [e3]; exact lU
      · by_cases e4 : w = .laysStatic Bundle.tN "SUPPRESSED_SENTINEL" Bundle.listD
        · rw [e4]; exact lN
        · exact h1 w (List.mem_filter.mpr ⟨hw, by unfold vx_no; rw [decide_eq_true e1, decide_eq_true e2, decide_eq_true e3, decide_eq_true e4]; rfl⟩)
/-- where a static field lies, its class's statics cell in H -/
def vx_L (C n d : String) (A : Nat → Prop) (U : State) (H : Heap) : Prop := ∃ (c : ClassId) (k : Class) (i : Nat) (f : Field) (a : Nat) (cell : Cell), U.vm.findClass C = some c ∧ U.fieldFound? C n d = some (c, k, i, f) ∧ f.isStatic = true ∧ k.statics = some a ∧ H[a]? = some cell ∧ cell.vm.isStatics = true ∧ cell.cls = c ∧ f.slot < cell.slots.size ∧ k.staticTypes[f.slot]? = some f.type ∧ ¬ A a
theorem vx_L.moved {C n d : String} {A : Nat → Prop} {u U : State} {H : Heap} (hvm : u.vm.Alike U.vm) (h : vx_L C n d A u H) : vx_L C n d A U H := by
  obtain ⟨c, k, i, f, a, cell, h1, h2, h3, h4, h5, h6, h7, h8, h9, h10⟩ := h
  obtain ⟨k', hi', he⟩ := State.fieldFound?_setVm hvm h2
  exact ⟨c, k', i, f, a, cell, by rw [hvm.findClass]; exact h1, hi', h3, by rw [he]; exact h4, h5, h6, h7, h8, by rw [he]; exact h9, h10⟩
theorem vx_L.kept {C n d : String} {A : Nat → Prop} {U : State} {H H1 : Heap} (h : vx_L C n d A U H) (hq : ∀ a : Nat, a < H.size → ¬ A a → H1[a]? = H[a]?) : vx_L C n d A U H1 := by
  obtain ⟨c, k, i, f, a, cell, h1, h2, h3, h4, h5, h6, h7, h8, h9, h10⟩ := h
  exact ⟨c, k, i, f, a, cell, h1, h2, h3, h4, by rw [hq a (Array.getElem?_eq_some_iff.mp h5).1 h10]; exact h5, h6, h7, h8, h9, h10⟩
theorem vx_L.narrow {C n d : String} {A B : Nat → Prop} {U : State} {H : Heap} (h : vx_L C n d A U H) (hAB : ∀ q, B q → A q) : vx_L C n d B U H := by
  obtain ⟨c, k, i, f, a, cell, h1, h2, h3, h4, h5, h6, h7, h8, h9, h10⟩ := h
  exact ⟨c, k, i, f, a, cell, h1, h2, h3, h4, h5, h6, h7, h8, h9, fun z => h10 (hAB _ z)⟩
theorem vx_L.word {C n d : String} {A : Nat → Prop} {s : State} {args : Array Value} (h : vx_L C n d A s s.heap) : (Cond.laysStatic C n d).before args s = true := by
  obtain ⟨c, k, i, f, a, cell, h1, h2, h3, h4, h5, h6, h7, h8, h9, -⟩ := h
  show (Cond.laysStatic C n d).holds args s none s [] = true
  exact Cond.laysStatic_of h1 h2 h3 h4 h5 h6 h7 h8 h9
/-- .. and what it holds: null or some reference -/
def vx_Zq (C n d : String) (A : Nat → Prop) (U : State) (H : Heap) : Prop := va_Zq C n d A U H ∧ vx_L C n d A U H
theorem vx_Zq.moved {C n d : String} {A : Nat → Prop} {u U : State} {H : Heap} (hvm : u.vm.Alike U.vm) (h : vx_Zq C n d A u H) : vx_Zq C n d A U H := ⟨va_Zq.moved hvm h.1, vx_L.moved hvm h.2⟩
theorem vx_Zq.kept {C n d : String} {A : Nat → Prop} {U : State} {H H1 : Heap} (h : vx_Zq C n d A U H) (hq : ∀ a : Nat, a < H.size → ¬ A a → H1[a]? = H[a]?) : vx_Zq C n d A U H1 := ⟨va_Zq.kept h.1 hq, vx_L.kept h.2 hq⟩
theorem vx_Zq.narrow {C n d : String} {A B : Nat → Prop} {U : State} {H : Heap} (h : vx_Zq C n d A U H) (hAB : ∀ q, B q → A q) : vx_Zq C n d B U H := ⟨va_Zq.narrow h.1 hAB, vx_L.narrow h.2 hAB⟩
theorem vx_Zqof {args : Array Value} {s : State} {C n d : String} {A : Nat → Prop} (hl : (Cond.laysStatic C n d).before args s = true) (hini : (Cond.initialized C).before args s = true) (h : (Cond.isRef (.static C n d)).before args s = true) (hA : ∀ a : Nat, a < s.heap.size → ¬ A a) : vx_Zq C n d A s s.heap := by
  refine ⟨va_Zqof hl hini h hA, ?_⟩
  obtain ⟨c, k, i, f, a, cell, h1, h2, h3, h4, h5, h6, h7, h8, h9⟩ := Cond.laysStatic_spec hl
  exact ⟨c, k, i, f, a, cell, h1, h2, h3, h4, h5, h6, h7, h8, h9, hA a (Array.getElem?_eq_some_iff.mp h5).1⟩
theorem vx_isRef {C n d : String} {v : Value} {A : Nat → Prop} {s : State} {args : Array Value} (h : va_Z C n d v A s s.heap) (hv : v.isRef = true) : (Cond.isRef (.static C n d)).before args s = true := by
  obtain ⟨cf, kf, fi, f, a, cell, h1, h2, h3, h4, h5, h6, h7, -⟩ := h
  have he : (Term.static C n d).eval args s none [] s = some v := by
    simp [Term.eval, State.fieldNamed?, h1, h2, h4, h5, h6, h7]
  simp only [Cond.before, Cond.holds, Cond.value, he]
  cases v <;> simp_all [Value.isRef]
theorem vx_isRefq {C n d : String} {A : Nat → Prop} {s : State} {args : Array Value} (h : va_Zq C n d A s s.heap) : (Cond.isRef (.static C n d)).before args s = true := by
  rcases h with h | ⟨t, h⟩
  · exact vx_isRef h rfl
  · exact vx_isRef h rfl
/-- the same frame, seen from here: as if the method were called anew in this heap -/
theorem vx_rebase {T : State} (X : Stand p l e R s m args below meth c T locs cells slots) {R' : Room} (hf : R'.frames ≤ R.frames) (hl : R'.locals ≤ R.locals) (hc : cells + R'.cells ≤ R.cells) (hs : slots + R'.slots ≤ R.slots) :
    Stand p l e R' ((T.setVm s.vm).setFrames (.invoking m args :: below)) m args below meth c T [] 0 0 := by
  have htop : (T.setVm s.vm).topJava?.isSome := X.here.top
  have hF : ((T.setVm s.vm).setFrames (.invoking m args :: below)).frames = .invoking m args :: below := State.frames_setFrames _ (State.cur_lt_of_top htop)
  obtain ⟨g₀, hg0⟩ := Option.isSome_iff_exists.mp htop
  obtain ⟨r, hr⟩ := State.topJava?_eq_some.mp hg0
  have hl9 : e.platform.stackLimits (T.setVm s.vm).me = e.platform.stackLimits s.me := X.limits
  have hb9 : (T.setVm s.vm).me.stackBytes = s.me.stackBytes := X.bytes
  refine ⟨X.admits, X.cas, X.clock, hF, ?_, X.hears, X.method, X.code, X.here, X.tail, X.warmed, ?_, ?_, ?_⟩
  · have h := X.room
    have hU : ((T.setVm s.vm).setFrames (.invoking m args :: below)).localsInUse = s.localsInUse := by
      rw [State.localsInUse_invoking hF (meth := meth) (c := c) X.method X.code, State.localsInUse_invoking X.frames X.method X.code]
    simp only [State.hasRoom, Bool.and_eq_true, decide_eq_true_eq] at h ⊢
    obtain ⟨⟨⟨⟨h1, h2, h3, h4, h5, h6⟩, h7⟩, h8⟩, h9⟩ := h
    rw [X.frames, List.length_cons] at h2 h3
    have q1 := X.heapSize
    have q2 := X.used
    simp only [hF, hU, List.length_cons, State.stackLimits_setFrames, State.stackBytes_setFrames, hl9, hb9]
    refine ⟨⟨⟨⟨by omega, by omega, by omega, by omega, by omega, h6⟩, ?_⟩, ?_⟩, X.book⟩
    · show T.heap.size + R'.cells ≤ e.platform.maxCells
      omega
    · show T.slotsUsed + R'.slots ≤ e.platform.maxSlots
      omega
  · rw [State.stackLimits_setFrames]; rfl
  · rw [State.stackBytes_setFrames]; rfl
  · refine ⟨?_, Nat.le_refl _, Nat.le_refl _, ?_, ?_, fun a c9 h9 => ⟨c9, h9, rfl, rfl, fun _ _ => rfl⟩⟩
    · obtain ⟨t, ht, -⟩ := State.frames_cons hr
      show T.setVm s.vm = { ((T.setVm s.vm).setFrames (.invoking m args :: below)).setFrames (T.setVm s.vm).frames with heap := T.heap, slotsUsed := T.slotsUsed }
      rw [State.setFrames_setFrames, State.setFrames_self ht]
      rfl
    · show T.slotsUsed = T.slotsUsed + ((T.heap.toList.drop T.heap.size).map (·.slots.size)).sum
      rw [List.drop_eq_nil_of_le (Nat.le_of_eq Array.length_toList)]
      rfl
    · show ((T.heap.toList.drop T.heap.size).map (·.slots.size)).sum ≤ 0
      rw [List.drop_eq_nil_of_le (Nat.le_of_eq Array.length_toList)]
      exact Nat.le_refl _
/-- 'throw new E()': new; dup; invokespecial; athrow -/
theorem vx_throw0 {cc : ByteArray} {pc : Nat} (hexec : p.tables.exec = Jvm.exec) (hb : c.code = cc) (hl : l.stackTraces = false) {own cls : String} {names : List String} {ik ic mc ms : Nat} {A : Nat → Prop}
    (hown : s.vm.findClass own = some m.cls) (hcls : Bundle.fit cls = true) (hnames : ∀ n ∈ names, Bundle.fit n = true)
    (hk : (Cond.classLink own ik cls).before args s = true) (hini : (Cond.initialized cls).before args s = true) (hat : ∀ w ∈ vx_at0 own ic cls names, w.before args s = true)
    (hgood : ∀ w ∈ Cond.classLink own ik cls :: Cond.initialized cls :: vx_at0 own ic cls names, vx_ot w = true)
    (hU : vx_Zq Bundle.tN "UNASSIGNED_STACK" Bundle.steD A s s.heap) (hN : vx_Zq Bundle.tN "SUPPRESSED_SENTINEL" Bundle.listD A s s.heap) (hS : va_S A s.heap H locs) (hsize : ls.size = c.maxLocals)
    (d0 : decode cc pc = .ok (.new ik, 3)) (d3 : decode cc (pc + 3) = .ok (.dup, 1)) (d4 : decode cc (pc + 4) = .ok (.invokespecial ic, 3)) (d7 : decode cc (pc + 7) = .ok (.athrow, 1))
    (hout : ∀ x ∈ c.exceptionTable.toList, covers x (pc + 7) = false)
    (hRframes : names.length + 3 < R.frames) (hRlocals : (rest.map fun v => v.category).sum + (13 * (names.length + 1) + 42) ≤ R.locals) (hRcells : cells + 1 ≤ R.cells) (hRslots : slots + 6 ≤ R.slots) (hlocks : meth.locks = false)
    (hx : ∀ t : State, s.vm.Alike t.vm → H.size ≤ t.heap.size → (∀ q : Nat, q < H.size → t.heap[q]? = H[q]?) → XC cls s t)
    (hf : ∀ z ∈ locs, free z.base) (hc : cells + 1 ≤ mc) (hs : slots + 6 ≤ ms) :
    W p l e R s m args below meth c H locs cells slots (vx_MQ below Qc XC args s mc ms free) (F0 m pc ls rest) := by
  intro T hT X
  have htr : e.platform.stackTraces = false := (show e.platform.stackTraces = l.stackTraces by rw [X.admits.platform]).trans hl
  have Y := vx_rebase X (R' := { frames := R.frames, locals := R.locals, cells := 1, slots := 6 }) (Nat.le_refl _) (Nat.le_refl _) hRcells hRslots
  obtain ⟨s', hA⟩ : ∃ z, z = (T.setVm s.vm).setFrames (.invoking m args :: below) := ⟨_, rfl⟩
  rw [← hA] at Y
  have hvm : s'.vm = s.vm := by rw [hA]; rfl
  have hhp : s'.heap = H := by rw [hA]; exact hT
  have hW0 : s.WarmedH s'.vm := by rw [hvm]; exact State.WarmedH.refl s
  have hat' : ∀ w ∈ vx_at0 own ic cls names, w.before args s' = true := fun w hw => vx_ot_at hW0 hvm.symm (hgood w (List.mem_cons_of_mem _ (List.mem_cons_of_mem _ hw))) (hat w hw)
  have hk' : (Cond.classLink own ik cls).before args s' = true := vx_ot_at hW0 hvm.symm (hgood _ List.mem_cons_self) hk
  have hini' : (Cond.initialized cls).before args s' = true := vx_ot_at hW0 hvm.symm (hgood _ (List.mem_cons_of_mem _ List.mem_cons_self)) hini
  have hU' : vx_Zq Bundle.tN "UNASSIGNED_STACK" Bundle.steD A s' s'.heap := by rw [hhp]; exact vx_Zq.moved hW0.alike (hU.kept hS.2.1)
  have hN' : vx_Zq Bundle.tN "SUPPRESSED_SENTINEL" Bundle.listD A s' s'.heap := by rw [hhp]; exact vx_Zq.moved hW0.alike (hN.kept hS.2.1)
  have h : ∀ w ∈ Bundle.ownAtoms0 own ic cls names, w.before args s' = true := vx_own hat' (vx_isRefq hU'.1) (vx_isRefq hN'.1) hU'.2.word hN'.2.word
  have hown' : s'.vm.findClass own = some m.cls := by rw [hvm]; exact hown
  have hins : (Cond.instantiable cls 6).before args s' = true := h _ (by simp [Bundle.ownAtoms0])
  obtain ⟨vm₁, cX, kX, hfX, hkX, -, -, X₁, st1⟩ := Y.newCold hexec (own := own) (C := cls) (index := ik) (n := 6) hown' hk' hins hini'
    (g := F0 m pc ls rest) rfl (by rw [hb]; exact d0) (Nat.le_refl _) (Nat.le_refl _)
  generalize hT1 : (T.setVm vm₁).pushCell { cls := cX, slots := kX.instanceTypes.map defaultValue, vm := .none } = T1 at X₁ st1
  have hcat : (Value.ref T.heap.size).category = 1 := rfl
  have hcellA : T1.heap[T.heap.size]? = some (freshCell cX kX) := by rw [← hT1]; exact State.heap_pushCell_size _ _
  have d3' : decode c.code (pc + 3) = .ok (.dup, 1) := by rw [hb]; exact d3
  obtain ⟨U, hsteps, hrun, hend, hW, hsame, ce, hce, hO⟩ := X₁.ctorThrow0 hexec htr (own := own) (cls := cls) (names := names) (ic := ic) hown' hcls hnames h (fun x hx => nomatch hx) hfX hkX hcellA (by rw [hhp, hT]; exact Nat.le_refl _)
    (g := { method := m, pc := pc + 4, locals := ls, stack := .ref T.heap.size :: .ref T.heap.size :: rest, locked := none }) rfl hsize rfl rfl (rest := rest) rfl
    (by rw [hb]; exact d4) (by rw [hb]; exact d7) hout hRframes (by simp only [List.map_cons, List.sum_cons, hcat]; omega) hlocks
  obtain ⟨f1, f2⟩ := vx_frame hsame
  rw [hhp] at f1 f2
  have hWs : s.WarmedH U.vm := State.WarmedH.trans hW0 hW
  have hcl : s.vm.findClass cls = some ce.cls := by
    have h9 := hO.cls
    rw [hvm] at h9
    exact h9
  have hall : s.sameButNew ({ U with vm := s.vm } : State) locs mc ms := by
    subst hA
    obtain ⟨e1, e2⟩ := hsame
    rw [State.setFrames_setFrames] at e1
    have h2 : (T.setVm s.vm).sameButNew ({ U with vm := s.vm } : State) [] (0 + 1) (0 + 6) := ⟨e1, e2⟩
    have h3 := X.same.trans h2
    rw [List.append_nil] at h3
    exact h3.mono hc hs
  refine ⟨U, ?_, .threw T.heap.size, hrun, hend, Or.inr ⟨T.heap.size, rfl, cls, ce, locs, hx U hWs.alike f1 (fun q hq => f2 q hq (fun z hz => nomatch hz)), hce, hO.vm, hcl, hWs, hall, hf⟩⟩
  refine st1 _ ?_
  show Steps p.tables e below (T1.setTop { method := m, pc := pc + 3, locals := ls, stack := .ref T.heap.size :: rest, locked := none }) _
  jvm_step X₁.here [X₁.here.top, hexec, d3', Value.category]
  exact hsteps
/-- 'throw new E("text")': new; dup; ldc; invokespecial; athrow -/
theorem vx_throwS {cc : ByteArray} {pc : Nat} (hexec : p.tables.exec = Jvm.exec) (hb : c.code = cc) (hl : l.stackTraces = false) {own cls text : String} {names : List String} {ik is ic mc ms sa : Nat} {A : Nat → Prop}
    (hown : s.vm.findClass own = some m.cls) (hcls : Bundle.fit cls = true) (hnames : ∀ n ∈ names, Bundle.fit n = true)
    (hk : (Cond.classLink own ik cls).before args s = true) (hini : (Cond.initialized cls).before args s = true) (hstr : vk_R own is text sa s) (hat : ∀ w ∈ vx_atS own ic cls names, w.before args s = true)
    (hgood : ∀ w ∈ Cond.classLink own ik cls :: Cond.initialized cls :: vx_atS own ic cls names, vx_ot w = true)
    (hU : vx_Zq Bundle.tN "UNASSIGNED_STACK" Bundle.steD A s s.heap) (hN : vx_Zq Bundle.tN "SUPPRESSED_SENTINEL" Bundle.listD A s s.heap) (hS : va_S A s.heap H locs) (hsize : ls.size = c.maxLocals)
    (d0 : decode cc pc = .ok (.new ik, 3)) (d3 : decode cc (pc + 3) = .ok (.dup, 1)) (d4 : decode cc (pc + 4) = .ok (.ldc is, 2)) (d6 : decode cc (pc + 6) = .ok (.invokespecial ic, 3)) (d9 : decode cc (pc + 9) = .ok (.athrow, 1))
    (hout : ∀ x ∈ c.exceptionTable.toList, covers x (pc + 9) = false)
    (hRframes : names.length + 3 < R.frames) (hRlocals : (rest.map fun v => v.category).sum + (13 * (names.length + 1) + 43) ≤ R.locals) (hRcells : cells + 1 ≤ R.cells) (hRslots : slots + 6 ≤ R.slots) (hlocks : meth.locks = false)
    (hx : ∀ t : State, s.vm.Alike t.vm → H.size ≤ t.heap.size → (∀ q : Nat, q < H.size → t.heap[q]? = H[q]?) → XC cls s t)
    (hf : ∀ z ∈ locs, free z.base) (hc : cells + 1 ≤ mc) (hs : slots + 6 ≤ ms) :
    W p l e R s m args below meth c H locs cells slots (vx_MQ below Qc XC args s mc ms free) (F0 m pc ls rest) := by
  intro T hT X
  have htr : e.platform.stackTraces = false := (show e.platform.stackTraces = l.stackTraces by rw [X.admits.platform]).trans hl
  have Y := vx_rebase X (R' := { frames := R.frames, locals := R.locals, cells := 1, slots := 6 }) (Nat.le_refl _) (Nat.le_refl _) hRcells hRslots
  obtain ⟨s', hA⟩ : ∃ z, z = (T.setVm s.vm).setFrames (.invoking m args :: below) := ⟨_, rfl⟩
  rw [← hA] at Y
  have hvm : s'.vm = s.vm := by rw [hA]; rfl
  have hhp : s'.heap = H := by rw [hA]; exact hT
  have hW0 : s.WarmedH s'.vm := by rw [hvm]; exact State.WarmedH.refl s
  have hat' : ∀ w ∈ vx_atS own ic cls names, w.before args s' = true := fun w hw => vx_ot_at hW0 hvm.symm (hgood w (List.mem_cons_of_mem _ (List.mem_cons_of_mem _ hw))) (hat w hw)
  have hk' : (Cond.classLink own ik cls).before args s' = true := vx_ot_at hW0 hvm.symm (hgood _ List.mem_cons_self) hk
  have hini' : (Cond.initialized cls).before args s' = true := vx_ot_at hW0 hvm.symm (hgood _ (List.mem_cons_of_mem _ List.mem_cons_self)) hini
  have hU' : vx_Zq Bundle.tN "UNASSIGNED_STACK" Bundle.steD A s' s'.heap := by rw [hhp]; exact vx_Zq.moved hW0.alike (hU.kept hS.2.1)
  have hN' : vx_Zq Bundle.tN "SUPPRESSED_SENTINEL" Bundle.listD A s' s'.heap := by rw [hhp]; exact vx_Zq.moved hW0.alike (hN.kept hS.2.1)
  have h : ∀ w ∈ Bundle.ownAtoms own ic cls names, w.before args s' = true := vx_own hat' (vx_isRefq hU'.1) (vx_isRefq hN'.1) hU'.2.word hN'.2.word
  have hown' : s'.vm.findClass own = some m.cls := by rw [hvm]; exact hown
  have hins : (Cond.instantiable cls 6).before args s' = true := h _ (by simp [Bundle.ownAtoms])
  obtain ⟨vm₁, cX, kX, hfX, hkX, -, -, X₁, st1⟩ := Y.newCold hexec (own := own) (C := cls) (index := ik) (n := 6) hown' hk' hins hini'
    (g := F0 m pc ls rest) rfl (by rw [hb]; exact d0) (Nat.le_refl _) (Nat.le_refl _)
  generalize hT1 : (T.setVm vm₁).pushCell { cls := cX, slots := kX.instanceTypes.map defaultValue, vm := .none } = T1 at X₁ st1
  have hcat : (Value.ref T.heap.size).category = 1 := rfl
  have hcellA : T1.heap[T.heap.size]? = some (freshCell cX kX) := by rw [← hT1]; exact State.heap_pushCell_size _ _
  have d3' : decode c.code (pc + 3) = .ok (.dup, 1) := by rw [hb]; exact d3
  have d4' : decode c.code (pc + 4) = .ok (.ldc is, 2) := by rw [hb]; exact d4
  have hstr' : vk_R own is text sa s' := vk_R.warm hW0 hstr
  obtain ⟨U, hsteps, hrun, hend, hW, hsame, ce, hce, hO⟩ := X₁.ctorThrowS hexec htr (own := own) (cls := cls) (names := names) (ic := ic) hown' hcls hnames h (fun x hx => nomatch hx) hfX hkX hcellA (by rw [hhp, hT]; exact Nat.le_refl _) (msg := .ref sa) rfl
    (g := { method := m, pc := pc + 6, locals := ls, stack := .ref sa :: .ref T.heap.size :: .ref T.heap.size :: rest, locked := none }) rfl hsize rfl rfl (rest := rest) rfl
    (by rw [hb]; exact d6) (by rw [hb]; exact d9) hout hRframes (by simp only [List.map_cons, List.sum_cons, hcat]; omega) hlocks
  obtain ⟨f1, f2⟩ := vx_frame hsame
  rw [hhp] at f1 f2
  have hWs : s.WarmedH U.vm := State.WarmedH.trans hW0 hW
  have hcl : s.vm.findClass cls = some ce.cls := by
    have h9 := hO.cls
    rw [hvm] at h9
    exact h9
  have hall : s.sameButNew ({ U with vm := s.vm } : State) locs mc ms := by
    subst hA
    obtain ⟨e1, e2⟩ := hsame
    rw [State.setFrames_setFrames] at e1
    have h2 : (T.setVm s.vm).sameButNew ({ U with vm := s.vm } : State) [] (0 + 1) (0 + 6) := ⟨e1, e2⟩
    have h3 := X.same.trans h2
    rw [List.append_nil] at h3
    exact h3.mono hc hs
  refine ⟨U, ?_, .threw T.heap.size, hrun, hend, Or.inr ⟨T.heap.size, rfl, cls, ce, locs, hx U hWs.alike f1 (fun q hq => f2 q hq (fun z hz => nomatch hz)), hce, hO.vm, hcl, hWs, hall, hf⟩⟩
  refine st1 _ ?_
  show Steps p.tables e below (T1.setTop { method := m, pc := pc + 3, locals := ls, stack := .ref T.heap.size :: rest, locked := none }) _
  jvm_step X₁.here [X₁.here.top, hexec, d3', Value.category]
  exact X₁.ldcString hexec (own := own) (text := text) (index := is) (a := sa) hown' hstr'.1 hstr'.2
    (g := { method := m, pc := pc + 4, locals := ls, stack := .ref T.heap.size :: .ref T.heap.size :: rest, locked := none }) rfl d4' _ hsteps
/-- 'throw new E("text")', the text by a wide index -/
theorem vx_throwSW {cc : ByteArray} {pc : Nat} (hexec : p.tables.exec = Jvm.exec) (hb : c.code = cc) (hl : l.stackTraces = false) {own cls text : String} {names : List String} {ik is ic mc ms sa : Nat} {A : Nat → Prop}
    (hown : s.vm.findClass own = some m.cls) (hcls : Bundle.fit cls = true) (hnames : ∀ n ∈ names, Bundle.fit n = true)
    (hk : (Cond.classLink own ik cls).before args s = true) (hini : (Cond.initialized cls).before args s = true) (hstr : vk_R own is text sa s) (hat : ∀ w ∈ vx_atS own ic cls names, w.before args s = true)
    (hgood : ∀ w ∈ Cond.classLink own ik cls :: Cond.initialized cls :: vx_atS own ic cls names, vx_ot w = true)
    (hU : vx_Zq Bundle.tN "UNASSIGNED_STACK" Bundle.steD A s s.heap) (hN : vx_Zq Bundle.tN "SUPPRESSED_SENTINEL" Bundle.listD A s s.heap) (hS : va_S A s.heap H locs) (hsize : ls.size = c.maxLocals)
    (d0 : decode cc pc = .ok (.new ik, 3)) (d3 : decode cc (pc + 3) = .ok (.dup, 1)) (d4 : decode cc (pc + 4) = .ok (.ldc_w is, 3)) (d7 : decode cc (pc + 7) = .ok (.invokespecial ic, 3)) (d10 : decode cc (pc + 10) = .ok (.athrow, 1))
    (hout : ∀ x ∈ c.exceptionTable.toList, covers x (pc + 10) = false)
    (hRframes : names.length + 3 < R.frames) (hRlocals : (rest.map fun v => v.category).sum + (13 * (names.length + 1) + 43) ≤ R.locals) (hRcells : cells + 1 ≤ R.cells) (hRslots : slots + 6 ≤ R.slots) (hlocks : meth.locks = false)
    (hx : ∀ t : State, s.vm.Alike t.vm → H.size ≤ t.heap.size → (∀ q : Nat, q < H.size → t.heap[q]? = H[q]?) → XC cls s t)
    (hf : ∀ z ∈ locs, free z.base) (hc : cells + 1 ≤ mc) (hs : slots + 6 ≤ ms) :
    W p l e R s m args below meth c H locs cells slots (vx_MQ below Qc XC args s mc ms free) (F0 m pc ls rest) := by
  intro T hT X
  have htr : e.platform.stackTraces = false := (show e.platform.stackTraces = l.stackTraces by rw [X.admits.platform]).trans hl
  have Y := vx_rebase X (R' := { frames := R.frames, locals := R.locals, cells := 1, slots := 6 }) (Nat.le_refl _) (Nat.le_refl _) hRcells hRslots
  obtain ⟨s', hA⟩ : ∃ z, z = (T.setVm s.vm).setFrames (.invoking m args :: below) := ⟨_, rfl⟩
  rw [← hA] at Y
  have hvm : s'.vm = s.vm := by rw [hA]; rfl
  have hhp : s'.heap = H := by rw [hA]; exact hT
  have hW0 : s.WarmedH s'.vm := by rw [hvm]; exact State.WarmedH.refl s
  have hat' : ∀ w ∈ vx_atS own ic cls names, w.before args s' = true := fun w hw => vx_ot_at hW0 hvm.symm (hgood w (List.mem_cons_of_mem _ (List.mem_cons_of_mem _ hw))) (hat w hw)
  have hk' : (Cond.classLink own ik cls).before args s' = true := vx_ot_at hW0 hvm.symm (hgood _ List.mem_cons_self) hk
  have hini' : (Cond.initialized cls).before args s' = true := vx_ot_at hW0 hvm.symm (hgood _ (List.mem_cons_of_mem _ List.mem_cons_self)) hini
  have hU' : vx_Zq Bundle.tN "UNASSIGNED_STACK" Bundle.steD A s' s'.heap := by rw [hhp]; exact vx_Zq.moved hW0.alike (hU.kept hS.2.1)
  have hN' : vx_Zq Bundle.tN "SUPPRESSED_SENTINEL" Bundle.listD A s' s'.heap := by rw [hhp]; exact vx_Zq.moved hW0.alike (hN.kept hS.2.1)
  have h : ∀ w ∈ Bundle.ownAtoms own ic cls names, w.before args s' = true := vx_own hat' (vx_isRefq hU'.1) (vx_isRefq hN'.1) hU'.2.word hN'.2.word
  have hown' : s'.vm.findClass own = some m.cls := by rw [hvm]; exact hown
  have hins : (Cond.instantiable cls 6).before args s' = true := h _ (by simp [Bundle.ownAtoms])
  obtain ⟨vm₁, cX, kX, hfX, hkX, -, -, X₁, st1⟩ := Y.newCold hexec (own := own) (C := cls) (index := ik) (n := 6) hown' hk' hins hini'
    (g := F0 m pc ls rest) rfl (by rw [hb]; exact d0) (Nat.le_refl _) (Nat.le_refl _)
  generalize hT1 : (T.setVm vm₁).pushCell { cls := cX, slots := kX.instanceTypes.map defaultValue, vm := .none } = T1 at X₁ st1
  have hcat : (Value.ref T.heap.size).category = 1 := rfl
  have hcellA : T1.heap[T.heap.size]? = some (freshCell cX kX) := by rw [← hT1]; exact State.heap_pushCell_size _ _
  have d3' : decode c.code (pc + 3) = .ok (.dup, 1) := by rw [hb]; exact d3
  have d4' : decode c.code (pc + 4) = .ok (.ldc_w is, 3) := by rw [hb]; exact d4
  have hstr' : vk_R own is text sa s' := vk_R.warm hW0 hstr
  obtain ⟨U, hsteps, hrun, hend, hW, hsame, ce, hce, hO⟩ := X₁.ctorThrowS hexec htr (own := own) (cls := cls) (names := names) (ic := ic) hown' hcls hnames h (fun x hx => nomatch hx) hfX hkX hcellA (by rw [hhp, hT]; exact Nat.le_refl _) (msg := .ref sa) rfl
    (g := { method := m, pc := pc + 7, locals := ls, stack := .ref sa :: .ref T.heap.size :: .ref T.heap.size :: rest, locked := none }) rfl hsize rfl rfl (rest := rest) rfl
    (by rw [hb]; exact d7) (by rw [hb]; exact d10) hout hRframes (by simp only [List.map_cons, List.sum_cons, hcat]; omega) hlocks
  obtain ⟨f1, f2⟩ := vx_frame hsame
  rw [hhp] at f1 f2
  have hWs : s.WarmedH U.vm := State.WarmedH.trans hW0 hW
  have hcl : s.vm.findClass cls = some ce.cls := by
    have h9 := hO.cls
    rw [hvm] at h9
    exact h9
  have hall : s.sameButNew ({ U with vm := s.vm } : State) locs mc ms := by
    subst hA
    obtain ⟨e1, e2⟩ := hsame
    rw [State.setFrames_setFrames] at e1
    have h2 : (T.setVm s.vm).sameButNew ({ U with vm := s.vm } : State) [] (0 + 1) (0 + 6) := ⟨e1, e2⟩
    have h3 := X.same.trans h2
    rw [List.append_nil] at h3
    exact h3.mono hc hs
  refine ⟨U, ?_, .threw T.heap.size, hrun, hend, Or.inr ⟨T.heap.size, rfl, cls, ce, locs, hx U hWs.alike f1 (fun q hq => f2 q hq (fun z hz => nomatch hz)), hce, hO.vm, hcl, hWs, hall, hf⟩⟩
  refine st1 _ ?_
  show Steps p.tables e below (T1.setTop { method := m, pc := pc + 3, locals := ls, stack := .ref T.heap.size :: rest, locked := none }) _
  jvm_step X₁.here [X₁.here.top, hexec, d3', Value.category]
  exact X₁.ldcStringW hexec (own := own) (text := text) (index := is) (a := sa) hown' hstr'.1 hstr'.2
    (g := { method := m, pc := pc + 4, locals := ls, stack := .ref T.heap.size :: .ref T.heap.size :: rest, locked := none }) rfl d4' _ hsteps
end Ends
section Bodies
variable {l : Launch}
theorem vx_ofW {y : MethodName} {ws ws' : List Cond} {rm : Room} {Pc : Array Value → State → Prop} {Qc : Array Value → State → Outcome → State → Prop} {XC : String → State → State → Prop} {mc ms : Nat} {free : Addr → Prop} {cc : ByteArray} {maxL : Nat} {ret : Option FieldType}
    (hy : plainName y.cls = true) (hw : ws = Cond.code y cc maxL ret :: ws')
    (body : ∀ p e s m args below meth c s₁, BodyLoose p l y (headSpec ws rm) cc maxL ret e s m args below meth c s₁ → c.maxLocals = maxL → (∀ x ∈ c.exceptionTable.toList, False) → Pc args s →
      W p l e (headSpec ws rm).room s m args below meth c s.heap [] 0 0 (vx_MQ below Qc XC args s mc ms free) (entryFrame m args maxL)) : vx_Met l y ws rm Pc Qc XC mc ms free := by
  refine MetFree.of_bodyS (code := cc) (maxLocals := maxL) (ret := ret) hy ?_ ?_
  · intro args s m h hn
    obtain ⟨meth, c, h1, h2, h3, h4, h5, h6, -, -⟩ := Cond.code_spec hn (atoms_spec (ws := ws) h _ (by rw [hw]; exact List.mem_cons_self))
    exact ⟨meth, c, h1, h2, h3, h4, h5, h6⟩
  · intro p e s m args below meth c s₁ B hml hP _
    have hh0 : s₁.heap = s.heap := by rw [B.state]; rfl
    have ht : ∀ x ∈ c.exceptionTable.toList, False := by
      obtain ⟨meth9, c9, h1, h2, -, -, -, -, h7, -⟩ := Cond.code_spec B.named (atoms_spec (ws := ws) B.pre _ (by rw [hw]; exact List.mem_cons_self))
      cases Option.some.inj (h1.symm.trans B.method)
      cases Option.some.inj (h2.symm.trans (Stand.of_body B).code)
      intro x hx
      rw [Array.isEmpty_iff.mp h7] at hx
      cases hx
    obtain ⟨t, a1, o, b1, b2, b3⟩ := body p e s m args below meth c s₁ B hml ht hP s₁ hh0 (Stand.of_body B)
    exact ⟨t, o, a1, b1, b2, b3⟩
/-- the table of a body with handlers -/
theorem vx_table {p : Program} {x y : MethodName} {S : Spec} {cc bytes : ByteArray} {maxL maxL' : Nat} {ret ret' : Option FieldType} {e : Env} {s s₁ : State} {m : MethodId} {args : Array Value} {below : List Frame} {meth : Method} {c : Code} {hh : List (Nat × Nat × Nat × Nat)}
    (B : BodyLoose p l y S cc maxL ret e s m args below meth c s₁) (h : (Cond.codeWith y bytes maxL' ret' hh).before args s = true) : c.exceptionTable.toList = tableOf hh := by
  obtain ⟨m9, meth9, c9, hn9, h1, h2, -, -, h6, -⟩ := Cond.codeWith_spec h
  cases Option.some.inj (hn9.symm.trans B.named)
  cases Option.some.inj (h1.symm.trans B.method)
  cases Option.some.inj (h2.symm.trans (Stand.of_body B).code)
  rw [← h6, table_eq]
end Bodies
end VXA
/-! ===== END ===== -/
/-! ===== BEGIN a static call of a method with an exception table ===== -/
section VXS
variable {p : Program} {l : Launch} {e : Env} {R : Room} {s : State} {m : MethodId} {args : Array Value} {below : List Frame} {meth : Method} {c : Code} {T : State} {H : Heap} {locs : List Loc} {cells slots : Nat}
abbrev vx_CSW (R : Room) (s : State) (args : Array Value) (own : String) (index : Nat) (y : MethodName) (bytes : ByteArray) (maxL : Nat) (ret : Option FieldType) (hh : List (Nat × Nat × Nat × Nat)) (ws : List Cond) (rm : Room) (mc ms n : Nat) : Prop :=
  (rm.cells = mc ∧ rm.slots = ms ∧ rm.frames + 1 ≤ R.frames ∧ 8 + (maxL + 11) + rm.locals ≤ R.locals ∧ (∀ w ∈ ws, ∀ (a' : Array Value) (U : State), s.WarmedH U.vm → w.before a' U = true) ∧ Cond.codeWith y bytes maxL ret hh ∈ ws) ∧
  (Cond.codeWith y bytes maxL ret hh).before args s = true ∧ (Cond.initialized y.cls).before args s = true ∧ (y.cls ≠ "java/lang/invoke/MethodHandle" ∧ y.cls ≠ "java/lang/invoke/VarHandle") ∧
  (∀ sig, parseMethodDescriptor y.desc = some sig → n = sig.parameters.length) ∧ (Cond.methodLink own index y).before args s = true ∧ (Cond.static y).before args s = true
theorem vx_cwSW {own : String} {index maxL mc ms : Nat} {y : MethodName} {bytes : ByteArray} {ret : Option FieldType} {hh : List (Nat × Nat × Nat × Nat)} {Ts ws ws' : List Cond} {rm : Room} (n : Nat) (ht : ∀ w ∈ Ts, w.before args s = true) (hT : GoodIn Ts (va_wsS own index y ws)) (hw : ws = Cond.codeWith y bytes maxL ret hh :: ws') (hrc : rm.cells = mc) (hrs : rm.slots = ms)
    (hd : y.cls ≠ "java/lang/invoke/MethodHandle" ∧ y.cls ≠ "java/lang/invoke/VarHandle" ∧ (parseMethodDescriptor y.desc).map (fun d => d.parameters.length) = some n) (hR : rm.frames + 1 ≤ R.frames ∧ 8 + (maxL + 11) + rm.locals ≤ R.locals) :
    vx_CSW R s args own index y bytes maxL ret hh ws rm mc ms n := by
  have ok : ∀ w ∈ va_wsS own index y ws, w.before args s = true := fun w h => ht w (hT w h).1
  have hG : GoodIn Ts ws := fun w h => hT w (by unfold va_wsS; exact List.mem_append_right _ h)
  have hc : Cond.codeWith y bytes maxL ret hh ∈ ws := by rw [hw]; exact List.mem_cons_self
  refine ⟨⟨hrc, hrs, hR.1, hR.2, pay_in ht hG, hc⟩, ht _ (hG _ hc).1, ok _ (by simp [va_wsS]), ⟨hd.1, hd.2.1⟩, fun sig h => ?_, ok _ (by simp [va_wsS]), ok _ (by simp [va_wsS])⟩
  have h2 := hd.2.2
  rw [h] at h2
  exact (Option.some.inj h2).symm
theorem vx_callSW (X : Stand p l e R s m args below meth c T locs cells slots) (hexec : p.tables.exec = Jvm.exec) {own : String} {index : Nat} {y : MethodName} {bytes : ByteArray} {maxL : Nat} {ret : Option FieldType} {hh : List (Nat × Nat × Nat × Nat)}
    (hown : s.vm.findClass own = some m.cls) (hlink : (Cond.methodLink own index y).before args s = true) (hstat : (Cond.static y).before args s = true) (hinit : (Cond.initialized y.cls).before args s = true)
    (hcode : (Cond.codeWith y bytes maxL ret hh).before args s = true) (hy : y.cls ≠ "java/lang/invoke/MethodHandle" ∧ y.cls ≠ "java/lang/invoke/VarHandle")
    {W9 : Nat} {Pre : Pt → Array Value → Prop} {Post : Pt → Array Value → Option Value → Pt → Prop} (hK : Back l R p e below s args y 3 W9 Pre Post)
    {g : JFrame} (hg : g.method = m) (hsize : g.locals.size = c.maxLocals) {argsL rest : List Value} (hlen : ∀ sig, parseMethodDescriptor y.desc = some sig → argsL.length = sig.parameters.length)
    (hstack : g.stack = argsL.reverse ++ rest) (hW : 2 * g.monitorRoom + (rest.map fun v => v.category).sum ≤ W9) (hdg : decode c.code g.pc = .ok (.invokestatic index, 3))
    (hpre : ∀ vm₁, s.WarmedH vm₁ → Pre ⟨T.setVm vm₁, locs, cells, slots⟩ argsL.toArray) :
    ∃ (v : Option Value) (vm₁ : Vm) (B : Pt), s.WarmedH vm₁ ∧ Stand p l e R s m args below meth c B.U B.locs B.cells B.slots ∧ Post ⟨T.setVm vm₁, locs, cells, slots⟩ argsL.toArray v B ∧
      ∀ target, Steps p.tables e below (B.U.setTop { g with pc := g.pc + 3, stack := v.toList ++ rest }) target → Steps p.tables e below (T.setTop g) target := by
  obtain ⟨mk, methM, cM, hnamed, hmethM, -, -, -, -, -, -, hsigM⟩ := Cond.codeWith_spec hcode
  have hstatic : methM.isStatic = true := Cond.static_spec hnamed hmethM hstat
  obtain ⟨kP, hkP, -⟩ := className_of_methodNamed hnamed
  have hinitP : kP.init = .initialized := Cond.initialized_spec (findClass_of_methodNamed hnamed) hkP hinit
  obtain ⟨vm₁, X₁, hstep₁⟩ := X.invokestatic hexec hown hlink hnamed hmethM hstatic hkP hinitP hy (g := g) hg (argsL := argsL) (rest := rest) (hlen _ hsigM) hstack hdg
  obtain ⟨v, B, X', hpost, hsteps⟩ := hK m meth c ⟨T.setVm vm₁, locs, cells, slots⟩ { g with stack := rest } (.invokestatic index) mk argsL.toArray X₁ hg hsize hdg hW (X₁.named hnamed) (hpre vm₁ X₁.warmed)
  exact ⟨v, vm₁, B, X₁.warmed, X', hpost, fun target h => hstep₁ _ fun acts => by rw [doInvoke_state]; exact hsteps.trans h⟩
theorem vx_runSW {y : MethodName} {bytes cc : ByteArray} {maxL nL mc ms n index : Nat} {ret : Option FieldType} {hh : List (Nat × Nat × Nat × Nat)} {ws : List Cond} {rm : Room} {Pc : Array Value → State → Prop} {Qc : Array Value → State → Outcome → State → Prop} {free : Addr → Prop} {Ts : List Cond} {own : String} {As rest : List Value} {g : JFrame}
    (S : CallFix p m c cc nL s args Ts own) (hM : Met l y ws rm Pc Qc mc ms free) (cw : vx_CSW R s args own index y bytes maxL ret hh ws rm mc ms n) (hp : PreS s H Pc As)
    (hg : g.method = m) (hn : As.length = n) (hsize : g.locals.size = nL) (hstack : g.stack = As.reverse ++ rest) (hW : 2 * g.monitorRoom + (rest.map fun v => v.category).sum ≤ 8) (hdg : decode cc g.pc = .ok (.invokestatic index, 3)) (hf : cells + mc ≤ R.cells ∧ slots + ms ≤ R.slots) :
    va_Run p l e R s m args below meth c H locs cells slots mc ms g rest (Qc As.toArray) (free) := by
  obtain ⟨⟨hrc, hrs, hfr, hlo, hws, hcw⟩, hcode, hini, hy, hlen, hl, hstt⟩ := cw
  have hK : Back l R p e below s args y 3 8 (PreOf R mc ms Pc) (PostOf Qc mc ms free) := va_backW (hh := hh) (bytes := bytes) (maxL := maxL) (ret := ret) hM hp.1 hrc hrs hfr hlo hws hcw (fun a' U hW => word_at hW (Or.inl (by first | rfl | simp [Cond.onTables, Cond.keeps, Cond.steady])) hini)
  obtain ⟨hx, hb, hml, ho, -⟩ := S
  intro T hT X
  obtain ⟨v, vm₁, ⟨U', l2, c2, s2⟩, hW₁, X', ⟨g', mk, t, L, e1, e2, hq, h1, hL, h2, h3⟩, st⟩ := vx_callSW X hx (hh := hh) (bytes := bytes) (maxL := maxL) (ret := ret) ho hl hstt hini hcode hy hK hg (hsize.trans hml.symm) (argsL := As) (rest := rest) (fun sig h => hn.trans (hlen sig h)) hstack hW (by rw [hb]; exact hdg)
    (fun vm₁ hW₁ => ⟨hf.1, hf.2, hp.2 (T.setVm vm₁) hT hW₁⟩)
  dsimp only [Pt.U, Pt.locs, Pt.cells, Pt.slots] at X' e1 e2 h1 h2 h3 st
  subst h1; subst h2; subst h3
  exact ⟨v, (T.setVm vm₁).calling g' mk As.toArray, t, U', L, hT, X', hL, e1, e2, hq, st⟩
/-- not caught here, past rows that name other classes: it goes on to the caller -/
theorem vx_outP {p : Program} {l : Launch} {e : Env} {R : Room} {s : State} {m : MethodId} {args : Array Value} {below : List Frame} {meth : Method} {c : Code} {H : Heap} {locs : List Loc} {cells slots : Nat} {free : Addr → Prop} {ls : Array Slot} {rest : List Value} {Qc : Array Value → State → Outcome → State → Prop} {XC : String → State → State → Prop}
    {pc : Nat} {own E : String} {ce : Cell} {q : Addr} {mc ms : Nat} (hown : s.vm.findClass own = some m.cls) (hlocks : meth.locks = false)
    (hpass : ∀ z ∈ c.exceptionTable.toList, covers z pc = false ∨ (z.catchType ≠ 0 ∧ ∃ nm : String, (Cond.classLink own z.catchType nm).before args s = true ∧ va_Nc E nm s)) (hcell : H[q]? = some ce) (hv : ce.vm = .none) (hcl : s.vm.findClass E = some ce.cls)
    (hx : ∀ t : State, t.heap = H → s.vm.Alike t.vm → XC E s t) (hf : ∀ z ∈ locs, free z.base) (hc : cells ≤ mc) (hs : slots ≤ ms) :
    vx_W p l e R s m args below meth c H locs cells slots (vx_MQ below Qc XC args s mc ms free) (F0 m pc ls rest) q := by
  intro T hT X
  have hpl : e.platform.magicAccessors = ({} : Platform).magicAccessors := by rw [X.admits.platform]
  obtain ⟨vm', hW', X', st⟩ := X.outThrough hlocks q (g := F0 m pc ls rest) rfl rfl rfl (cell := ce) (by rw [hT]; exact hcell) (by rw [hv]; rfl)
    (by obtain ⟨k9, h9, -⟩ := Vm.findClass_spec hcl; exact ⟨k9, h9⟩) (fun z hz => by
      rcases hpass z hz with h | ⟨hz0, nm, hl1, hn1⟩
      · exact Or.inl h
      · obtain ⟨c6, hc6, hcl6⟩ := Cond.classLink_spec hown hl1 e.platform hpl
        obtain ⟨a8, b8, h1, h2, h3⟩ := hn1
        cases Option.some.inj (h1.symm.trans hcl)
        cases Option.some.inj (h2.symm.trans hc6)
        exact Or.inr ⟨hz0, _, hcl6, h3⟩)
  obtain ⟨g₀, hfr⟩ := X'.frames_eq
  have hcell9 : ((T.setVm vm').setFrames (.throwing q :: below)).heap[q]? = some ce := by
    show T.heap[q]? = some ce
    rw [hT]; exact hcell
  have hend : Ended ((T.setVm vm').setFrames (.throwing q :: below)) below (.threw q) := State.frames_setFrames _ (State.cur_lt_of_frames hfr)
  refine ⟨(T.setVm vm').setFrames (.throwing q :: below), ?_, .threw q, X'.here.running, hend, Or.inr ⟨q, rfl, E, ce, locs, hx _ hT (X'.ends _).1.alike, hcell9, hv, hcl, (X'.ends _).1, (X'.ends _).2.mono hc hs, hf⟩⟩
  rw [X.pushThrowing_eq]
  exact st
/-- a thing of a world lies in the heap -/
theorem vx_lt {D : va_G} {cl : List vw_C} {ws : va_W} {H1 : Heap} (h : va_P D cl ws H1) {k : Nat} {q : Nat × va_E} (hk : ws[k]? = some q) : q.1 < H1.size := (h k q hk).lt
end VXS
/-! ===== END ===== -/
/-! ===== BEGIN methods with a table of their own: called by a name, returning or throwing ===== -/
section VXH
/-! vx_backW, vx_callVX, vx_callSX, vx_callVW, vx_runVW, vx_runVX, vx_runSX, vx_ofWH follow the same proofs as their sisters above (Free/Laws.lean, Shelf42/LK1.lean); vx_outP calls Shelf42/NT130.lean (outThrough). -/
section
variable {l : Launch} {R : Room} {p : Program} {e : Env} {below : List Frame} {s : State} {sargs : Array Value} {y : MethodName} {len W9 : Nat}
theorem vx_backW {ws : List Cond} {rm : Room} {Pc : Array Value → State → Prop} {Qc : Array Value → State → Outcome → State → Prop} {XC : String → State → State → Prop} {mc ms : Nat} {free : Addr → Prop} {bytes : ByteArray} {maxL : Nat} {ret : Option FieldType} {hh : List (Nat × Nat × Nat × Nat)}
    (hM : vx_Met l y ws rm Pc Qc XC mc ms free) (hblind : FrameBlind Pc) (hrc : rm.cells = mc) (hrs : rm.slots = ms)
    (hframes : rm.frames + 1 ≤ R.frames) (hlocals : W9 + (maxL + 11) + rm.locals ≤ R.locals)
    (hws : ∀ w ∈ ws, ∀ a' U, s.WarmedH U.vm → w.before a' U = true) (hcode : Cond.codeWith y bytes maxL ret hh ∈ ws) (hinit : ∀ a' U, s.WarmedH U.vm → (Cond.initialized y.cls).before a' U = true) :
    vx_Back l R p e below s sargs y len W9 (PreOf R mc ms Pc) (PostOf Qc mc ms free) (vx_Post XC mc ms free) := by
  intro m meth c A g ig mk a X hg hsize hdg hW hn hp
  have h1 : (headSpec ws rm).pre.before a A.U = true := atoms_intro fun w hw => hws w hw _ _ X.warmed
  have h2 : (Cond.codeWith y bytes maxL ret hh).before a A.U = true := hws _ hcode _ _ X.warmed
  have h3 : (Cond.initialized y.cls).before a A.U = true := hinit _ _ X.warmed
  have h4 : A.cells + (headSpec ws rm).room.cells ≤ R.cells := by rw [show (headSpec ws rm).room.cells = mc from hrc]; exact hp.1
  have h5 : A.slots + (headSpec ws rm).room.slots ≤ R.slots := by rw [show (headSpec ws rm).room.slots = ms from hrs]; exact hp.2.1
  have hPc : Pc a (A.U.calling g mk a) := hblind _ _ _ _ hp.2.2
  obtain ⟨U, Ls, c0, s0⟩ := A
  dsimp only [Pt.U, Pt.locs, Pt.cells, Pt.slots] at h1 h2 h3 h4 h5 X hn hPc ⊢
  obtain ⟨m9, methY, cY, hn9, hmY, hcY, -, hlY, -⟩ := Cond.codeWith_spec h2
  cases Option.some.inj (hn9.symm.trans hn)
  obtain ⟨kY, hkY, -⟩ := className_of_methodNamed hn
  have hinitY : kY.init = .initialized := Cond.initialized_spec (findClass_of_methodNamed hn) hkY h3
  have h : At U g.method c below := by rw [hg]; exact X.here
  have hlocals9 : W9 + (maxL + 11) + (headSpec ws rm).room.locals ≤ R.locals := hlocals
  have happ : (headSpec ws rm).appliesLoose y e.platform (U.calling g mk a) = true :=
    Spec.appliesLoose_calling (g := g) h hdg hn hkY hinitY
      (X.room_calling (g := g) (R' := (headSpec ws rm).room) hsize hmY hcY hframes (by rw [hlY]; omega) h4 h5) h1
  obtain ⟨mid, hmid⟩ := h.above
  have hfr : (U.setTop g).frames = (.java g :: mid) ++ below := by rw [State.frames_setTop' g h.top, hmid]; rfl
  obtain ⟨o, s₂, hsteps, -, hend, hq⟩ := Steps.callFree hM p X.admits X.cas X.clock (acts := []) hfr happ hPc trivial
  have hq' : vx_Q Qc XC mc ms free a (U.calling g mk a) o s₂ := hq
  rw [State.frames_setTop' g h.top] at hend
  obtain ⟨g₀, hg0⟩ := Option.isSome_iff_exists.mp h.top
  obtain ⟨r, hr⟩ := State.topJava?_eq_some.mp hg0
  have hr' : (({ U with heap := s₂.heap, slotsUsed := s₂.slotsUsed } : State).setVm s₂.vm).frames = .java g₀ :: r := hr
  rcases hq' with ⟨hqc, L, hfe, hL⟩ | ⟨q, rfl, E, ce, L, hx, hce, hcv, hcl, hW₂, hsm, hL⟩
  · obtain ⟨⟨v, rfl⟩, hW₂, e2, q2, q3, q4, q5, q6⟩ := id hfe
    have e3 : s₂ = ({ (U.calling g mk a).setFrames s₂.frames with heap := s₂.heap, slotsUsed := s₂.slotsUsed } : State).setVm s₂.vm := by
      have : s₂ = ({ s₂ with vm := (U.calling g mk a).vm } : State).setVm s₂.vm := rfl
      rw [e2] at this
      exact this
    obtain ⟨c₂, i₂, len₂, hc₂, hd₂, hf₂⟩ := hend
    have hW' : U.WarmedH s₂.vm := hW₂
    have hcc : c₂ = c := by
      have h1 : s₂.code? g.method = U.code? g.method := by
        rw [State.code?_eq, State.code?_eq, hW'.alike.method?]
      exact Option.some.inj (hc₂.symm.trans (h1.trans h.code))
    subst hcc
    have hlen : len₂ = len := by rw [hdg] at hd₂; cases hd₂; rfl
    subst hlen
    have hs₂ : s₂ = (({ U with heap := s₂.heap, slotsUsed := s₂.slotsUsed } : State).setVm s₂.vm).setTop { g with pc := g.pc + len₂, stack := v.toList ++ g.stack } := by
      refine e3.trans ?_
      rw [hf₂, State.calling_eq h.top, State.setFrames_setFrames, State.setTop_of_frames _ hr', hr]
      rfl
    have hsame : U.sameButNew ({ U with heap := s₂.heap, slotsUsed := s₂.slotsUsed } : State) L mc ms := by
      refine ⟨?_, q2, q3, q4, q5, q6⟩
      obtain ⟨t, ht, -⟩ := State.frames_cons hr
      show ({ U with heap := s₂.heap, slotsUsed := s₂.slotsUsed } : State) = { U.setFrames U.frames with heap := s₂.heap, slotsUsed := s₂.slotsUsed }
      rw [State.setFrames_self ht]
    subst hg
    refine Or.inl ⟨v, ⟨(({ U with heap := s₂.heap, slotsUsed := s₂.slotsUsed } : State).setVm s₂.vm), Ls ++ L, c0 + mc, s0 + ms⟩,
      ⟨X.admits, X.cas, X.clock, X.frames, X.room, X.hears, X.method, X.code, (X.here.setHeapUsed s₂.heap s₂.slotsUsed).setVm hW'.alike, X.tail, State.WarmedH.trans X.warmed hW', X.limits, X.bytes, X.same.trans (hsame.setVm s.vm)⟩,
      ⟨g, mk, s₂, L, rfl, rfl, hqc, rfl, hL, rfl, rfl⟩, ?_⟩
    show Steps p.tables e below _ ((({ U with heap := s₂.heap, slotsUsed := s₂.slotsUsed } : State).setVm s₂.vm).setTop { g with pc := g.pc + len₂, stack := v.toList ++ g.stack })
    rw [← hs₂]
    exact hsteps
  · obtain ⟨e2, q2, q3, q4, q5, q6⟩ := id hsm
    have e3 : s₂ = ({ (U.calling g mk a).setFrames s₂.frames with heap := s₂.heap, slotsUsed := s₂.slotsUsed } : State).setVm s₂.vm := by
      have : s₂ = ({ s₂ with vm := (U.calling g mk a).vm } : State).setVm s₂.vm := rfl
      rw [e2] at this
      exact this
    have hf₂ : s₂.frames = .throwing q :: .java g :: U.frames.tail := hend
    have hW' : U.WarmedH s₂.vm := hW₂
    have hs₂ : s₂ = ((({ U with heap := s₂.heap, slotsUsed := s₂.slotsUsed } : State).setVm s₂.vm).setTop g).pushFrame (.throwing q) := by
      refine e3.trans ?_
      rw [hf₂, State.calling_eq h.top, State.setFrames_setFrames, State.pushFrame, State.frames_setTop _ hr', State.setTop_of_frames _ hr', State.setFrames_setFrames, hr]
      rfl
    have hsame : U.sameButNew ({ U with heap := s₂.heap, slotsUsed := s₂.slotsUsed } : State) L mc ms := by
      refine ⟨?_, q2, q3, q4, q5, q6⟩
      obtain ⟨t, ht, -⟩ := State.frames_cons hr
      show ({ U with heap := s₂.heap, slotsUsed := s₂.slotsUsed } : State) = { U.setFrames U.frames with heap := s₂.heap, slotsUsed := s₂.slotsUsed }
      rw [State.setFrames_self ht]
    subst hg
    refine Or.inr ⟨q, ⟨(({ U with heap := s₂.heap, slotsUsed := s₂.slotsUsed } : State).setVm s₂.vm), Ls ++ L, c0 + mc, s0 + ms⟩,
      ⟨X.admits, X.cas, X.clock, X.frames, X.room, X.hears, X.method, X.code, (X.here.setHeapUsed s₂.heap s₂.slotsUsed).setVm hW'.alike, X.tail, State.WarmedH.trans X.warmed hW', X.limits, X.bytes, X.same.trans (hsame.setVm s.vm)⟩,
      ⟨g, mk, s₂, L, E, ce, rfl, rfl, hx, hce, hcv, hcl, rfl, hL, rfl, rfl⟩, ?_⟩
    show Steps p.tables e below _ (((({ U with heap := s₂.heap, slotsUsed := s₂.slotsUsed } : State).setVm s₂.vm).setTop g).pushFrame (.throwing q))
    rw [← hs₂]
    exact hsteps
end
variable {p : Program} {l : Launch} {e : Env} {R : Room} {s : State} {m : MethodId} {args : Array Value} {below : List Frame} {meth : Method} {c : Code} {T : State} {H : Heap} {locs : List Loc} {cells slots : Nat}
theorem vx_callVX (X : Stand p l e R s m args below meth c T locs cells slots) (hexec : p.tables.exec = Jvm.exec) {own C : String} {index : Nat} {y : MethodName} {bytes : ByteArray} {maxL : Nat} {ret : Option FieldType} {hh : List (Nat × Nat × Nat × Nat)}
    (hown : s.vm.findClass own = some m.cls) (hlink : (Cond.methodLink own index y).before args s = true) (hinst : (Cond.instanceMethod y).before args s = true) (hsel : (Cond.selects C y y).before args s = true)
    (hcode : (Cond.codeWith y bytes maxL ret hh).before args s = true) (hy : y.cls ≠ "java/lang/invoke/MethodHandle" ∧ y.cls ≠ "java/lang/invoke/VarHandle")
    {W9 : Nat} {Pre : Pt → Array Value → Prop} {Post : Pt → Array Value → Option Value → Pt → Prop} {PostX : Pt → Array Value → Addr → Pt → Prop} (hK : vx_Back l R p e below s args y 3 W9 Pre Post PostX)
    {b : Addr} {cellB : Cell} (hcell : T.heap[b]? = some cellB) (hobj : cellB.vm.isStatics = false) (hcls : s.vm.findClass C = some cellB.cls)
    {g : JFrame} (hg : g.method = m) (hsize : g.locals.size = c.maxLocals) {argsL rest : List Value} (hlen : ∀ sig, parseMethodDescriptor y.desc = some sig → argsL.length = sig.parameters.length)
    (hstack : g.stack = argsL.reverse ++ .ref b :: rest) (hW : 2 * g.monitorRoom + (rest.map fun v => v.category).sum ≤ W9) (hdg : decode c.code g.pc = .ok (.invokevirtual index, 3))
    (hpre : ∀ vm₁, s.WarmedH vm₁ → Pre ⟨T.setVm vm₁, locs, cells, slots⟩ (Value.ref b :: argsL).toArray) :
    (∃ (v : Option Value) (vm₁ : Vm) (B : Pt), s.WarmedH vm₁ ∧ Stand p l e R s m args below meth c B.U B.locs B.cells B.slots ∧ Post ⟨T.setVm vm₁, locs, cells, slots⟩ (Value.ref b :: argsL).toArray v B ∧
      ∀ target, Steps p.tables e below (B.U.setTop { g with pc := g.pc + 3, stack := v.toList ++ rest }) target → Steps p.tables e below (T.setTop g) target) ∨
    (∃ (q : Addr) (vm₁ : Vm) (B : Pt), s.WarmedH vm₁ ∧ Stand p l e R s m args below meth c B.U B.locs B.cells B.slots ∧ PostX ⟨T.setVm vm₁, locs, cells, slots⟩ (Value.ref b :: argsL).toArray q B ∧
      Steps p.tables e below (T.setTop g) ((B.U.setTop { g with stack := rest }).pushFrame (.throwing q))) := by
  obtain ⟨mk, methM, hnamed, hmethM, hstM, habM⟩ := Cond.instanceMethod_spec hinst
  obtain ⟨m8, methM', cM, hn8, hmethM', -, -, -, -, -, -, hsigM⟩ := Cond.codeWith_spec hcode
  cases Option.some.inj (hn8.symm.trans hnamed)
  cases hmethM.symm.trans hmethM'
  obtain ⟨c2, r2, m2, q1, q2, q3, q4, kP, hkP, hkPi⟩ := Cond.selects_spec hsel
  cases hcls.symm.trans q1
  cases (State.methodFound?_of_named hnamed hy).symm.trans q2
  cases hnamed.symm.trans q3
  have hselP : selectMethod e.platform s.vm cellB.cls mk = .method mk := by rw [Launch.admits_selectMethod X.admits]; exact q4
  obtain ⟨vm₁, X₁, hstep₁⟩ := X.invokevirtual hexec hown hlink hnamed hmethM hstM hkP hkPi hy (a := b) (cell := cellB) hcell
    (fun z h => by rw [h] at hobj; cases hobj) hselP hmethM habM hkP hkPi (g := g) hg (argsL := argsL) (rest := rest) (hlen _ hsigM) hstack hdg
  rcases hK m meth c ⟨T.setVm vm₁, locs, cells, slots⟩ { g with stack := rest } (.invokevirtual index) mk (Value.ref b :: argsL).toArray X₁ hg hsize hdg hW (X₁.named hnamed) (hpre vm₁ X₁.warmed) with ⟨v, B, X', hpost, hsteps⟩ | ⟨q, B, X', hpost, hsteps⟩
  · exact Or.inl ⟨v, vm₁, B, X₁.warmed, X', hpost, fun target h => hstep₁ _ fun acts => by rw [doInvoke_state]; exact hsteps.trans h⟩
  · exact Or.inr ⟨q, vm₁, B, X₁.warmed, X', hpost, hstep₁ _ fun acts => by rw [doInvoke_state]; exact hsteps⟩
theorem vx_callSX (X : Stand p l e R s m args below meth c T locs cells slots) (hexec : p.tables.exec = Jvm.exec) {own : String} {index : Nat} {y : MethodName} {bytes : ByteArray} {maxL : Nat} {ret : Option FieldType} {hh : List (Nat × Nat × Nat × Nat)}
    (hown : s.vm.findClass own = some m.cls) (hlink : (Cond.methodLink own index y).before args s = true) (hstat : (Cond.static y).before args s = true) (hinit : (Cond.initialized y.cls).before args s = true)
    (hcode : (Cond.codeWith y bytes maxL ret hh).before args s = true) (hy : y.cls ≠ "java/lang/invoke/MethodHandle" ∧ y.cls ≠ "java/lang/invoke/VarHandle")
    {W9 : Nat} {Pre : Pt → Array Value → Prop} {Post : Pt → Array Value → Option Value → Pt → Prop} {PostX : Pt → Array Value → Addr → Pt → Prop} (hK : vx_Back l R p e below s args y 3 W9 Pre Post PostX)
    {g : JFrame} (hg : g.method = m) (hsize : g.locals.size = c.maxLocals) {argsL rest : List Value} (hlen : ∀ sig, parseMethodDescriptor y.desc = some sig → argsL.length = sig.parameters.length)
    (hstack : g.stack = argsL.reverse ++ rest) (hW : 2 * g.monitorRoom + (rest.map fun v => v.category).sum ≤ W9) (hdg : decode c.code g.pc = .ok (.invokestatic index, 3))
    (hpre : ∀ vm₁, s.WarmedH vm₁ → Pre ⟨T.setVm vm₁, locs, cells, slots⟩ argsL.toArray) :
    (∃ (v : Option Value) (vm₁ : Vm) (B : Pt), s.WarmedH vm₁ ∧ Stand p l e R s m args below meth c B.U B.locs B.cells B.slots ∧ Post ⟨T.setVm vm₁, locs, cells, slots⟩ argsL.toArray v B ∧
      ∀ target, Steps p.tables e below (B.U.setTop { g with pc := g.pc + 3, stack := v.toList ++ rest }) target → Steps p.tables e below (T.setTop g) target) ∨
    (∃ (q : Addr) (vm₁ : Vm) (B : Pt), s.WarmedH vm₁ ∧ Stand p l e R s m args below meth c B.U B.locs B.cells B.slots ∧ PostX ⟨T.setVm vm₁, locs, cells, slots⟩ argsL.toArray q B ∧
      Steps p.tables e below (T.setTop g) ((B.U.setTop { g with stack := rest }).pushFrame (.throwing q))) := by
  obtain ⟨mk, methM, cM, hnamed, hmethM, -, -, -, -, -, -, hsigM⟩ := Cond.codeWith_spec hcode
  have hstatic : methM.isStatic = true := Cond.static_spec hnamed hmethM hstat
  obtain ⟨kP, hkP, -⟩ := className_of_methodNamed hnamed
  have hinitP : kP.init = .initialized := Cond.initialized_spec (findClass_of_methodNamed hnamed) hkP hinit
  obtain ⟨vm₁, X₁, hstep₁⟩ := X.invokestatic hexec hown hlink hnamed hmethM hstatic hkP hinitP hy (g := g) hg (argsL := argsL) (rest := rest) (hlen _ hsigM) hstack hdg
  rcases hK m meth c ⟨T.setVm vm₁, locs, cells, slots⟩ { g with stack := rest } (.invokestatic index) mk argsL.toArray X₁ hg hsize hdg hW (X₁.named hnamed) (hpre vm₁ X₁.warmed) with ⟨v, B, X', hpost, hsteps⟩ | ⟨q, B, X', hpost, hsteps⟩
  · exact Or.inl ⟨v, vm₁, B, X₁.warmed, X', hpost, fun target h => hstep₁ _ fun acts => by rw [doInvoke_state]; exact hsteps.trans h⟩
  · exact Or.inr ⟨q, vm₁, B, X₁.warmed, X', hpost, hstep₁ _ fun acts => by rw [doInvoke_state]; exact hsteps⟩
theorem vx_callVW (X : Stand p l e R s m args below meth c T locs cells slots) (hexec : p.tables.exec = Jvm.exec) {own C : String} {index : Nat} {y : MethodName} {bytes : ByteArray} {maxL : Nat} {ret : Option FieldType} {hh : List (Nat × Nat × Nat × Nat)}
    (hown : s.vm.findClass own = some m.cls) (hlink : (Cond.methodLink own index y).before args s = true) (hinst : (Cond.instanceMethod y).before args s = true) (hsel : (Cond.selects C y y).before args s = true)
    (hcode : (Cond.codeWith y bytes maxL ret hh).before args s = true) (hy : y.cls ≠ "java/lang/invoke/MethodHandle" ∧ y.cls ≠ "java/lang/invoke/VarHandle")
    {W9 : Nat} {Pre : Pt → Array Value → Prop} {Post : Pt → Array Value → Option Value → Pt → Prop} (hK : Back l R p e below s args y 3 W9 Pre Post)
    {b : Addr} {cellB : Cell} (hcell : T.heap[b]? = some cellB) (hobj : cellB.vm.isStatics = false) (hcls : s.vm.findClass C = some cellB.cls)
    {g : JFrame} (hg : g.method = m) (hsize : g.locals.size = c.maxLocals) {argsL rest : List Value} (hlen : ∀ sig, parseMethodDescriptor y.desc = some sig → argsL.length = sig.parameters.length)
    (hstack : g.stack = argsL.reverse ++ .ref b :: rest) (hW : 2 * g.monitorRoom + (rest.map fun v => v.category).sum ≤ W9) (hdg : decode c.code g.pc = .ok (.invokevirtual index, 3))
    (hpre : ∀ vm₁, s.WarmedH vm₁ → Pre ⟨T.setVm vm₁, locs, cells, slots⟩ (Value.ref b :: argsL).toArray) :
    ∃ (v : Option Value) (vm₁ : Vm) (B : Pt), s.WarmedH vm₁ ∧ Stand p l e R s m args below meth c B.U B.locs B.cells B.slots ∧ Post ⟨T.setVm vm₁, locs, cells, slots⟩ (Value.ref b :: argsL).toArray v B ∧
      ∀ target, Steps p.tables e below (B.U.setTop { g with pc := g.pc + 3, stack := v.toList ++ rest }) target → Steps p.tables e below (T.setTop g) target := by
  obtain ⟨mk, methM, hnamed, hmethM, hstM, habM⟩ := Cond.instanceMethod_spec hinst
  obtain ⟨m8, methM', cM, hn8, hmethM', -, -, -, -, -, -, hsigM⟩ := Cond.codeWith_spec hcode
  cases Option.some.inj (hn8.symm.trans hnamed)
  cases hmethM.symm.trans hmethM'
  obtain ⟨c2, r2, m2, q1, q2, q3, q4, kP, hkP, hkPi⟩ := Cond.selects_spec hsel
  cases hcls.symm.trans q1
  cases (State.methodFound?_of_named hnamed hy).symm.trans q2
  cases hnamed.symm.trans q3
  have hselP : selectMethod e.platform s.vm cellB.cls mk = .method mk := by rw [Launch.admits_selectMethod X.admits]; exact q4
  obtain ⟨vm₁, X₁, hstep₁⟩ := X.invokevirtual hexec hown hlink hnamed hmethM hstM hkP hkPi hy (a := b) (cell := cellB) hcell
    (fun z h => by rw [h] at hobj; cases hobj) hselP hmethM habM hkP hkPi (g := g) hg (argsL := argsL) (rest := rest) (hlen _ hsigM) hstack hdg
  obtain ⟨v, B, X', hpost, hsteps⟩ := hK m meth c ⟨T.setVm vm₁, locs, cells, slots⟩ { g with stack := rest } (.invokevirtual index) mk (Value.ref b :: argsL).toArray X₁ hg hsize hdg hW (X₁.named hnamed) (hpre vm₁ X₁.warmed)
  exact ⟨v, vm₁, B, X₁.warmed, X', hpost, fun target h => hstep₁ _ fun acts => by rw [doInvoke_state]; exact hsteps.trans h⟩
abbrev vx_CVW (R : Room) (s : State) (args : Array Value) (own C : String) (index : Nat) (y : MethodName) (bytes : ByteArray) (maxL : Nat) (ret : Option FieldType) (hh : List (Nat × Nat × Nat × Nat)) (ws : List Cond) (rm : Room) (mc ms n : Nat) : Prop :=
  (rm.cells = mc ∧ rm.slots = ms ∧ rm.frames + 1 ≤ R.frames ∧ 8 + (maxL + 11) + rm.locals ≤ R.locals ∧ (∀ w ∈ ws, ∀ (a' : Array Value) (U : State), s.WarmedH U.vm → w.before a' U = true) ∧ Cond.codeWith y bytes maxL ret hh ∈ ws) ∧
  (Cond.codeWith y bytes maxL ret hh).before args s = true ∧ (Cond.initialized y.cls).before args s = true ∧ (y.cls ≠ "java/lang/invoke/MethodHandle" ∧ y.cls ≠ "java/lang/invoke/VarHandle") ∧
  (∀ sig, parseMethodDescriptor y.desc = some sig → n = sig.parameters.length) ∧ (Cond.methodLink own index y).before args s = true ∧ (Cond.instanceMethod y).before args s = true ∧ (Cond.selects C y y).before args s = true
theorem vx_cwVW {own C : String} {index maxL mc ms : Nat} {y : MethodName} {bytes : ByteArray} {ret : Option FieldType} {hh : List (Nat × Nat × Nat × Nat)} {Ts ws ws' : List Cond} {rm : Room} (n : Nat) (ht : ∀ w ∈ Ts, w.before args s = true) (hT : GoodIn Ts (wsV own index C y ws)) (hw : ws = Cond.codeWith y bytes maxL ret hh :: ws') (hrc : rm.cells = mc) (hrs : rm.slots = ms)
    (hd : y.cls = C ∧ y.cls ≠ "java/lang/invoke/MethodHandle" ∧ y.cls ≠ "java/lang/invoke/VarHandle" ∧ (parseMethodDescriptor y.desc).map (fun d => d.parameters.length) = some n) (hR : rm.frames + 1 ≤ R.frames ∧ 8 + (maxL + 11) + rm.locals ≤ R.locals) :
    vx_CVW R s args own C index y bytes maxL ret hh ws rm mc ms n := by
  obtain ⟨hC, hd⟩ := hd
  subst hC
  have ok : ∀ w ∈ wsV own index y.cls y ws, w.before args s = true := fun w h => ht w (hT w h).1
  have hG : GoodIn Ts ws := fun w h => hT w (by unfold wsV; exact List.mem_append_right _ h)
  have hc : Cond.codeWith y bytes maxL ret hh ∈ ws := by rw [hw]; exact List.mem_cons_self
  refine ⟨⟨hrc, hrs, hR.1, hR.2, pay_in ht hG, hc⟩, ht _ (hG _ hc).1, ok _ (by simp [wsV]), ⟨hd.1, hd.2.1⟩, fun sig h => ?_, ok _ (by simp [wsV]), ok _ (by simp [wsV]), ok _ (by simp [wsV])⟩
  have h2 := hd.2.2
  rw [h] at h2
  exact (Option.some.inj h2).symm
theorem vx_runVW {y : MethodName} {bytes cc : ByteArray} {maxL nL mc ms n index : Nat} {ret : Option FieldType} {hh : List (Nat × Nat × Nat × Nat)} {ws : List Cond} {rm : Room} {Pc : Array Value → State → Prop} {Qc : Array Value → State → Outcome → State → Prop} {free : Addr → Prop} {Ts : List Cond} {own C : String} {b : Addr} {As rest : List Value} {g : JFrame}
    (S : CallFix p m c cc nL s args Ts own) (hM : Met l y ws rm Pc Qc mc ms free) (cw : vx_CVW R s args own C index y bytes maxL ret hh ws rm mc ms n) (hp : PreV s H C b Pc As)
    (hg : g.method = m) (hn : As.length = n) (hsize : g.locals.size = nL) (hstack : g.stack = As.reverse ++ .ref b :: rest) (hW : 2 * g.monitorRoom + (rest.map fun v => v.category).sum ≤ 8) (hdg : decode cc g.pc = .ok (.invokevirtual index, 3)) (hf : cells + mc ≤ R.cells ∧ slots + ms ≤ R.slots) :
    va_Run p l e R s m args below meth c H locs cells slots mc ms g rest (Qc (Value.ref b :: As).toArray) free := by
  obtain ⟨⟨hrc, hrs, hfr, hlo, hws, hcw⟩, hcode, hini, hy, hlen, hl, hin, hse⟩ := cw
  have hK : Back l R p e below s args y 3 8 (PreOf R mc ms Pc) (PostOf Qc mc ms free) := va_backW (hh := hh) (bytes := bytes) (maxL := maxL) (ret := ret) hM hp.1 hrc hrs hfr hlo hws hcw (fun a' U hW => word_at hW (Or.inl (by first | rfl | simp [Cond.onTables, Cond.keeps, Cond.steady])) hini)
  obtain ⟨hx, hb, hml, ho, -⟩ := S
  obtain ⟨-, ⟨cellB, hcB, hoB, hclB⟩, hPc⟩ := hp
  intro T hT X
  obtain ⟨v, vm₁, ⟨U', l2, c2, s2⟩, hW₁, X', ⟨g', mk, t, L, e1, e2, hq, h1, hL, h2, h3⟩, st⟩ := vx_callVW X hx (C := C) (hh := hh) (bytes := bytes) (maxL := maxL) (ret := ret) ho hl hin hse hcode hy hK (by rw [hT]; exact hcB) hoB hclB hg (hsize.trans hml.symm) (argsL := As) (rest := rest) (fun sig h => hn.trans (hlen sig h)) hstack hW (by rw [hb]; exact hdg)
    (fun vm₁ hW₁ => ⟨hf.1, hf.2, hPc (T.setVm vm₁) hT hW₁⟩)
  dsimp only [Pt.U, Pt.locs, Pt.cells, Pt.slots] at X' e1 e2 h1 h2 h3 st
  subst h1; subst h2; subst h3
  exact ⟨v, (T.setVm vm₁).calling g' mk (Value.ref b :: As).toArray, t, U', L, hT, X', hL, e1, e2, hq, st⟩
section
variable {y : MethodName} {bytes cc : ByteArray} {maxL nL mc ms n index : Nat} {ret : Option FieldType} {ws : List Cond} {rm : Room} {Pc : Array Value → State → Prop} {Qc : Array Value → State → Outcome → State → Prop} {XC : String → State → State → Prop} {free : Addr → Prop} {Ts : List Cond} {own C : String} {b : Addr} {As rest : List Value} {g : JFrame}
theorem vx_runVX {hh : List (Nat × Nat × Nat × Nat)} (S : CallFix p m c cc nL s args Ts own) (hM : vx_Met l y ws rm Pc Qc XC mc ms free) (cw : vx_CVW R s args own C index y bytes maxL ret hh ws rm mc ms n) (hp : PreV s H C b Pc As)
    (hg : g.method = m) (hn : As.length = n) (hsize : g.locals.size = nL) (hstack : g.stack = As.reverse ++ .ref b :: rest) (hW : 2 * g.monitorRoom + (rest.map fun v => v.category).sum ≤ 8) (hdg : decode cc g.pc = .ok (.invokevirtual index, 3)) (hf : cells + mc ≤ R.cells ∧ slots + ms ≤ R.slots) :
    vx_Run p l e R s m args below meth c H locs cells slots mc ms g rest (Qc (Value.ref b :: As).toArray) XC free := by
  obtain ⟨⟨hrc, hrs, hfr, hlo, hws, hcw⟩, hcode, hini, hy, hlen, hl, hin, hse⟩ := cw
  have hK : vx_Back l R p e below s args y 3 8 (PreOf R mc ms Pc) (PostOf Qc mc ms free) (vx_Post XC mc ms free) := vx_backW (hh := hh) (bytes := bytes) (maxL := maxL) (ret := ret) hM hp.1 hrc hrs hfr hlo hws hcw (fun a' U hW => word_at hW (Or.inl (by first | rfl | simp [Cond.onTables, Cond.keeps, Cond.steady])) hini)
  obtain ⟨hx, hb, hml, ho, -⟩ := S
  obtain ⟨-, ⟨cellB, hcB, hoB, hclB⟩, hPc⟩ := hp
  intro T hT X
  rcases vx_callVX X hx (C := C) (hh := hh) (bytes := bytes) (maxL := maxL) (ret := ret) ho hl hin hse hcode hy hK (by rw [hT]; exact hcB) hoB hclB hg (hsize.trans hml.symm) (argsL := As) (rest := rest) (fun sig h => hn.trans (hlen sig h)) hstack hW (by rw [hb]; exact hdg)
    (fun vm₁ hW₁ => ⟨hf.1, hf.2, hPc (T.setVm vm₁) hT hW₁⟩) with ⟨v, vm₁, ⟨U', l2, c2, s2⟩, hW₁, X', ⟨g', mk, t, L, e1, e2, hq, h1, hL, h2, h3⟩, st⟩ | ⟨q, vm₁, ⟨U', l2, c2, s2⟩, hW₁, X', ⟨g', mk, t, L, E, ce, e1, e2, hq, hce, hcv, hcl, h1, hL, h2, h3⟩, st⟩
  · dsimp only [Pt.U, Pt.locs, Pt.cells, Pt.slots] at X' e1 e2 h1 h2 h3 st
    subst h1; subst h2; subst h3
    exact Or.inl ⟨v, (T.setVm vm₁).calling g' mk (Value.ref b :: As).toArray, t, U', L, hT, X', hL, e1, e2, hq, st⟩
  · dsimp only [Pt.U, Pt.locs, Pt.cells, Pt.slots] at X' e1 e2 h1 h2 h3 st hcl
    subst h1; subst h2; subst h3
    exact Or.inr ⟨q, (T.setVm vm₁).calling g' mk (Value.ref b :: As).toArray, t, U', L, E, ce, hT, X', hL, e1, e2, hq, hce, hcv, vx_cls hW₁ hcl, st⟩
theorem vx_runSX {hh : List (Nat × Nat × Nat × Nat)} (S : CallFix p m c cc nL s args Ts own) (hM : vx_Met l y ws rm Pc Qc XC mc ms free) (cw : vx_CSW R s args own index y bytes maxL ret hh ws rm mc ms n) (hp : PreS s H Pc As)
    (hg : g.method = m) (hn : As.length = n) (hsize : g.locals.size = nL) (hstack : g.stack = As.reverse ++ rest) (hW : 2 * g.monitorRoom + (rest.map fun v => v.category).sum ≤ 8) (hdg : decode cc g.pc = .ok (.invokestatic index, 3)) (hf : cells + mc ≤ R.cells ∧ slots + ms ≤ R.slots) :
    vx_Run p l e R s m args below meth c H locs cells slots mc ms g rest (Qc As.toArray) XC free := by
  obtain ⟨⟨hrc, hrs, hfr, hlo, hws, hcw⟩, hcode, hini, hy, hlen, hl, hstt⟩ := cw
  have hK : vx_Back l R p e below s args y 3 8 (PreOf R mc ms Pc) (PostOf Qc mc ms free) (vx_Post XC mc ms free) := vx_backW (hh := hh) (bytes := bytes) (maxL := maxL) (ret := ret) hM hp.1 hrc hrs hfr hlo hws hcw (fun a' U hW => word_at hW (Or.inl (by first | rfl | simp [Cond.onTables, Cond.keeps, Cond.steady])) hini)
  obtain ⟨hx, hb, hml, ho, -⟩ := S
  intro T hT X
  rcases vx_callSX X hx (hh := hh) (bytes := bytes) (maxL := maxL) (ret := ret) ho hl hstt hini hcode hy hK hg (hsize.trans hml.symm) (argsL := As) (rest := rest) (fun sig h => hn.trans (hlen sig h)) hstack hW (by rw [hb]; exact hdg)
    (fun vm₁ hW₁ => ⟨hf.1, hf.2, hp.2 (T.setVm vm₁) hT hW₁⟩) with ⟨v, vm₁, ⟨U', l2, c2, s2⟩, hW₁, X', ⟨g', mk, t, L, e1, e2, hq, h1, hL, h2, h3⟩, st⟩ | ⟨q, vm₁, ⟨U', l2, c2, s2⟩, hW₁, X', ⟨g', mk, t, L, E, ce, e1, e2, hq, hce, hcv, hcl, h1, hL, h2, h3⟩, st⟩
  · dsimp only [Pt.U, Pt.locs, Pt.cells, Pt.slots] at X' e1 e2 h1 h2 h3 st
    subst h1; subst h2; subst h3
    exact Or.inl ⟨v, (T.setVm vm₁).calling g' mk As.toArray, t, U', L, hT, X', hL, e1, e2, hq, st⟩
  · dsimp only [Pt.U, Pt.locs, Pt.cells, Pt.slots] at X' e1 e2 h1 h2 h3 st hcl
    subst h1; subst h2; subst h3
    exact Or.inr ⟨q, (T.setVm vm₁).calling g' mk As.toArray, t, U', L, E, ce, hT, X', hL, e1, e2, hq, hce, hcv, vx_cls hW₁ hcl, st⟩
end
end VXH
theorem vx_ofWH {l : Launch} {y : MethodName} {ws ws' : List Cond} {rm : Room} {Pc : Array Value → State → Prop} {Qc : Array Value → State → Outcome → State → Prop} {XC : String → State → State → Prop} {mc ms : Nat} {free : Addr → Prop} {cc : ByteArray} {maxL : Nat} {ret : Option FieldType} {hh : List (Nat × Nat × Nat × Nat)}
    (hy : plainName y.cls = true) (hw : ws = Cond.codeWith y cc maxL ret hh :: ws')
    (body : ∀ p e s m args below meth c s₁, BodyLoose p l y (headSpec ws rm) cc maxL ret e s m args below meth c s₁ → c.maxLocals = maxL → Pc args s →
      W p l e (headSpec ws rm).room s m args below meth c s.heap [] 0 0 (vx_MQ below Qc XC args s mc ms free) (entryFrame m args maxL)) : vx_Met l y ws rm Pc Qc XC mc ms free := by
  refine MetFree.of_bodyS (code := cc) (maxLocals := maxL) (ret := ret) hy ?_ ?_
  · intro args s m h hn
    obtain ⟨m9, meth, c, hn9, h1, h2, h3, h4, -, h5, h6, -⟩ := Cond.codeWith_spec (atoms_spec (ws := ws) h _ (by rw [hw]; exact List.mem_cons_self))
    cases hn.symm.trans hn9
    exact ⟨meth, c, h1, h2, h3, h4, h5, h6⟩
  · intro p e s m args below meth c s₁ B hml hP _
    have hh0 : s₁.heap = s.heap := by rw [B.state]; rfl
    obtain ⟨t, a1, o, b1, b2, b3⟩ := body p e s m args below meth c s₁ B hml hP s₁ hh0 (Stand.of_body B)
    exact ⟨t, o, a1, b1, b2, b3⟩
/-! ===== END ===== -/
end
section
abbrev CE : Type := Nat × Instr × Nat × Nat × Nat × Nat × Nat
def T0 : List CE := [(0, .aload_n 0, 1, 0, 0, 0, 0), (1, .invokespecial 1, 3, 393, 0, 0, 16), (4, .aload_n 0, 1, 0, 0, 0, 0), (5, .iconst 0, 1, 0, 0, 0, 0), (6, .putfield 7, 3, 394, 0, 0, 0), (9, .aload_n 0, 1, 0, 0, 0, 0), (10, .bipush 6, 2, 0, 0, 0, 0), (12, .newarray .int, 2, 0, 0, 0, 0), (14, .putfield 13, 3, 396, 0, 1, 3), (17, .aload_n 0, 1, 0, 0, 0, 0), (18, .lconst 0, 1, 0, 0, 0, 0), (19, .putfield 17, 3, 398, 0, 2, 1), (22, .aload_n 0, 1, 0, 0, 0, 0), (23, .lconst 1, 1, 0, 0, 0, 0), (24, .putfield 21, 3, 400, 0, 3, 1), (27, .aload_n 0, 1, 0, 0, 0, 0), (28, .bipush 6, 2, 0, 0, 0, 0), (30, .newarray .int, 2, 0, 0, 0, 0), (32, .putfield 24, 3, 402, 0, 4, 3), (35, .aload_n 0, 1, 0, 0, 0, 0), (36, .bipush 64, 2, 0, 0, 0, 0), (38, .newarray .long, 2, 0, 0, 0, 0), (40, .putfield 27, 3, 403, 0, 5, 3), (43, .aload_n 0, 1, 0, 0, 0, 0), (44, .bipush 64, 2, 0, 0, 0, 0), (46, .newarray .long, 2, 0, 0, 0, 0), (48, .putfield 31, 3, 404, 0, 6, 3), (51, .return_, 1, 0, 0, 0, 0)]
def T1 : List CE := [(0, .iload_n 3, 1, 0, 0, 0, 0), (1, .invokestatic 34, 3, 974, 239, 1, 1), (4, .istore 5, 2, 0, 0, 0, 0), (6, .iload 5, 2, 0, 0, 0, 0), (8, .iconst 2, 1, 0, 0, 0, 0), (9, .if_icmp .lt 19, 3, 28, 0, 0, 0), (12, .iload 5, 2, 0, 0, 0, 0), (14, .bipush 6, 2, 0, 0, 0, 0), (16, .if_icmp .gt 12, 3, 28, 0, 0, 0), (19, .iload_n 3, 1, 0, 0, 0, 0), (20, .aload_n 1, 1, 0, 0, 0, 0), (21, .getfield 40, 3, 146, 6, 2, 0), (24, .iushr, 1, 0, 0, 0, 0), (25, .ifCond .eq 5, 3, 30, 0, 0, 0), (28, .iconst 0, 1, 0, 0, 0, 0), (29, .ireturn, 1, 0, 0, 0, 0), (30, .aload_n 0, 1, 0, 0, 0, 0), (31, .iconst 0, 1, 0, 0, 0, 0), (32, .putfield 7, 3, 394, 0, 0, 0), (35, .iconst 0, 1, 0, 0, 0, 0), (36, .istore 6, 2, 0, 0, 0, 0), (38, .iload 6, 2, 0, 0, 0, 0), (40, .aload_n 1, 1, 0, 0, 0, 0), (41, .getfield 40, 3, 146, 6, 2, 0), (44, .if_icmp .ge 59, 3, 103, 0, 0, 0), (47, .iload_n 3, 1, 0, 0, 0, 0), (48, .iload 6, 2, 0, 0, 0, 0), (50, .ishr, 1, 0, 0, 0, 0), (51, .iconst 1, 1, 0, 0, 0, 0), (52, .iand, 1, 0, 0, 0, 0), (53, .iconst 1, 1, 0, 0, 0, 0), (54, .if_icmp .ne 43, 3, 97, 0, 0, 0), (57, .aload_n 2, 1, 0, 0, 0, 0), (58, .getfield 44, 3, 268, 5, 2, 3), (61, .iload 6, 2, 0, 0, 0, 0), (63, .iaload, 1, 0, 0, 0, 0), (64, .ifCond .le 33, 3, 97, 0, 0, 0), (67, .aload_n 0, 1, 0, 0, 0, 0), (68, .getfield 7, 3, 394, 0, 0, 0), (71, .bipush 6, 2, 0, 0, 0, 0), (73, .if_icmp .ge 24, 3, 97, 0, 0, 0), (76, .aload_n 0, 1, 0, 0, 0, 0), (77, .getfield 24, 3, 402, 0, 4, 3), (80, .aload_n 0, 1, 0, 0, 0, 0), (81, .getfield 7, 3, 394, 0, 0, 0), (84, .iload 6, 2, 0, 0, 0, 0), (86, .iastore, 1, 0, 0, 0, 0), (87, .aload_n 0, 1, 0, 0, 0, 0), (88, .dup, 1, 0, 0, 0, 0), (89, .getfield 7, 3, 394, 0, 0, 0), (92, .iconst 1, 1, 0, 0, 0, 0), (93, .iadd, 1, 0, 0, 0, 0), (94, .putfield 7, 3, 394, 0, 0, 0), (97, .iinc 6 1, 3, 0, 0, 0, 0), (100, .goto (-62), 3, 38, 0, 0, 0), (103, .aload_n 0, 1, 0, 0, 0, 0), (104, .getfield 7, 3, 394, 0, 0, 0), (107, .ifCond .ne 5, 3, 112, 0, 0, 0), (110, .iconst 0, 1, 0, 0, 0, 0), (111, .ireturn, 1, 0, 0, 0, 0), (112, .iconst 1, 1, 0, 0, 0, 0), (113, .aload_n 0, 1, 0, 0, 0, 0), (114, .getfield 7, 3, 394, 0, 0, 0), (117, .ishl, 1, 0, 0, 0, 0), (118, .iconst 1, 1, 0, 0, 0, 0), (119, .isub, 1, 0, 0, 0, 0), (120, .istore 6, 2, 0, 0, 0, 0), (122, .iload 6, 2, 0, 0, 0, 0), (124, .istore 7, 2, 0, 0, 0, 0), (126, .iload 7, 2, 0, 0, 0, 0), (128, .ifCond .le 38, 3, 166, 0, 0, 0), (131, .aload_n 0, 1, 0, 0, 0, 0), (132, .aload_n 1, 1, 0, 0, 0, 0), (133, .aload_n 2, 1, 0, 0, 0, 0), (134, .iload 7, 2, 0, 0, 0, 0), (136, .iload 4, 2, 0, 0, 0, 0), (138, .invokevirtual 49, 3, 980, 2, 4, 0), (141, .iload 7, 2, 0, 0, 0, 0), (143, .iload 6, 2, 0, 0, 0, 0), (145, .if_icmp .eq 15, 3, 160, 0, 0, 0), (148, .aload_n 0, 1, 0, 0, 0, 0), (149, .iload 7, 2, 0, 0, 0, 0), (151, .aload_n 0, 1, 0, 0, 0, 0), (152, .iload 7, 2, 0, 0, 0, 0), (154, .invokevirtual 53, 3, 987, 3, 1, 0), (157, .invokevirtual 56, 3, 995, 5, 2, 0), (160, .iinc 7 (-1), 3, 0, 0, 0, 0), (163, .goto (-37), 3, 126, 0, 0, 0), (166, .aload_n 0, 1, 0, 0, 0, 0), (167, .invokevirtual 60, 3, 999, 6, 0, 0), (170, .iconst 1, 1, 0, 0, 0, 0), (171, .ireturn, 1, 0, 0, 0, 0)]
def T2 : List CE := [(0, .lconst 0, 1, 0, 0, 0, 0), (1, .lstore 5, 2, 0, 0, 0, 0), (3, .lconst 0, 1, 0, 0, 0, 0), (4, .lstore 7, 2, 0, 0, 0, 0), (6, .iconst 0, 1, 0, 0, 0, 0), (7, .istore 9, 2, 0, 0, 0, 0), (9, .iload 9, 2, 0, 0, 0, 0), (11, .aload_n 0, 1, 0, 0, 0, 0), (12, .getfield 7, 3, 394, 0, 0, 0), (15, .if_icmp .ge 62, 3, 77, 0, 0, 0), (18, .iload_n 3, 1, 0, 0, 0, 0), (19, .iload 9, 2, 0, 0, 0, 0), (21, .ishr, 1, 0, 0, 0, 0), (22, .iconst 1, 1, 0, 0, 0, 0), (23, .iand, 1, 0, 0, 0, 0), (24, .iconst 1, 1, 0, 0, 0, 0), (25, .if_icmp .ne 46, 3, 71, 0, 0, 0), (28, .aload_n 2, 1, 0, 0, 0, 0), (29, .getfield 44, 3, 268, 5, 2, 3), (32, .aload_n 0, 1, 0, 0, 0, 0), (33, .getfield 24, 3, 402, 0, 4, 3), (36, .iload 9, 2, 0, 0, 0, 0), (38, .iaload, 1, 0, 0, 0, 0), (39, .iaload, 1, 0, 0, 0, 0), (40, .i2l, 1, 0, 0, 0, 0), (41, .lstore 10, 2, 0, 0, 0, 0), (43, .lload 7, 2, 0, 0, 0, 0), (45, .lload 10, 2, 0, 0, 0, 0), (47, .ladd, 1, 0, 0, 0, 0), (48, .lstore 7, 2, 0, 0, 0, 0), (50, .lload 5, 2, 0, 0, 0, 0), (52, .lload 10, 2, 0, 0, 0, 0), (54, .aload_n 1, 1, 0, 0, 0, 0), (55, .getfield 63, 3, 161, 6, 6, 3), (58, .aload_n 0, 1, 0, 0, 0, 0), (59, .getfield 24, 3, 402, 0, 4, 3), (62, .iload 9, 2, 0, 0, 0, 0), (64, .iaload, 1, 0, 0, 0, 0), (65, .iaload, 1, 0, 0, 0, 0), (66, .i2l, 1, 0, 0, 0, 0), (67, .lmul, 1, 0, 0, 0, 0), (68, .ladd, 1, 0, 0, 0, 0), (69, .lstore 5, 2, 0, 0, 0, 0), (71, .iinc 9 1, 3, 0, 0, 0, 0), (74, .goto (-65), 3, 9, 0, 0, 0), (77, .aload_n 0, 1, 0, 0, 0, 0), (78, .getfield 27, 3, 403, 0, 5, 3), (81, .iload_n 3, 1, 0, 0, 0, 0), (82, .lload 5, 2, 0, 0, 0, 0), (84, .iload 4, 2, 0, 0, 0, 0), (86, .i2l, 1, 0, 0, 0, 0), (87, .lload 7, 2, 0, 0, 0, 0), (89, .lmul, 1, 0, 0, 0, 0), (90, .lsub, 1, 0, 0, 0, 0), (91, .invokestatic 66, 3, 984, 0, 1, 13), (94, .lastore, 1, 0, 0, 0, 0), (95, .aload_n 0, 1, 0, 0, 0, 0), (96, .getfield 31, 3, 404, 0, 6, 3), (99, .iload_n 3, 1, 0, 0, 0, 0), (100, .lload 7, 2, 0, 0, 0, 0), (102, .lastore, 1, 0, 0, 0, 0), (103, .return_, 1, 0, 0, 0, 0)]
def T3 : List CE := [(0, .iconst 0, 1, 0, 0, 0, 0), (1, .istore_n 2, 1, 0, 0, 0, 0), (2, .iconst 0, 1, 0, 0, 0, 0), (3, .istore_n 3, 1, 0, 0, 0, 0), (4, .iload_n 3, 1, 0, 0, 0, 0), (5, .aload_n 0, 1, 0, 0, 0, 0), (6, .getfield 7, 3, 394, 0, 0, 0), (9, .if_icmp .ge 39, 3, 48, 0, 0, 0), (12, .iload_n 1, 1, 0, 0, 0, 0), (13, .iconst 1, 1, 0, 0, 0, 0), (14, .iload_n 3, 1, 0, 0, 0, 0), (15, .ishl, 1, 0, 0, 0, 0), (16, .ior, 1, 0, 0, 0, 0), (17, .istore 4, 2, 0, 0, 0, 0), (19, .iload 4, 2, 0, 0, 0, 0), (21, .iload_n 1, 1, 0, 0, 0, 0), (22, .if_icmp .eq 20, 3, 42, 0, 0, 0), (25, .iload_n 2, 1, 0, 0, 0, 0), (26, .ifCond .eq 13, 3, 39, 0, 0, 0), (29, .aload_n 0, 1, 0, 0, 0, 0), (30, .iload 4, 2, 0, 0, 0, 0), (32, .iload_n 2, 1, 0, 0, 0, 0), (33, .invokevirtual 72, 3, 991, 4, 2, 0), (36, .ifCond .eq 6, 3, 42, 0, 0, 0), (39, .iload 4, 2, 0, 0, 0, 0), (41, .istore_n 2, 1, 0, 0, 0, 0), (42, .iinc 3 1, 3, 0, 0, 0, 0), (45, .goto (-41), 3, 4, 0, 0, 0), (48, .iload_n 2, 1, 0, 0, 0, 0), (49, .ireturn, 1, 0, 0, 0, 0)]
def T4 : List CE := [(0, .aload_n 0, 1, 0, 0, 0, 0), (1, .getfield 27, 3, 403, 0, 5, 3), (4, .iload_n 1, 1, 0, 0, 0, 0), (5, .laload, 1, 0, 0, 0, 0), (6, .aload_n 0, 1, 0, 0, 0, 0), (7, .getfield 31, 3, 404, 0, 6, 3), (10, .iload_n 2, 1, 0, 0, 0, 0), (11, .laload, 1, 0, 0, 0, 0), (12, .lmul, 1, 0, 0, 0, 0), (13, .aload_n 0, 1, 0, 0, 0, 0), (14, .getfield 27, 3, 403, 0, 5, 3), (17, .iload_n 2, 1, 0, 0, 0, 0), (18, .laload, 1, 0, 0, 0, 0), (19, .aload_n 0, 1, 0, 0, 0, 0), (20, .getfield 31, 3, 404, 0, 6, 3), (23, .iload_n 1, 1, 0, 0, 0, 0), (24, .laload, 1, 0, 0, 0, 0), (25, .lmul, 1, 0, 0, 0, 0), (26, .lcmp, 1, 0, 0, 0, 0), (27, .ifCond .ge 7, 3, 34, 0, 0, 0), (30, .iconst 1, 1, 0, 0, 0, 0), (31, .goto 4, 3, 35, 0, 0, 0), (34, .iconst 0, 1, 0, 0, 0, 0), (35, .ireturn, 1, 0, 0, 0, 0)]
def T5 : List CE := [(0, .aload_n 0, 1, 0, 0, 0, 0), (1, .iload_n 1, 1, 0, 0, 0, 0), (2, .iload_n 2, 1, 0, 0, 0, 0), (3, .invokevirtual 72, 3, 991, 4, 2, 0), (6, .ifCond .eq 27, 3, 33, 0, 0, 0), (9, .aload_n 0, 1, 0, 0, 0, 0), (10, .getfield 27, 3, 403, 0, 5, 3), (13, .iload_n 1, 1, 0, 0, 0, 0), (14, .aload_n 0, 1, 0, 0, 0, 0), (15, .getfield 27, 3, 403, 0, 5, 3), (18, .iload_n 2, 1, 0, 0, 0, 0), (19, .laload, 1, 0, 0, 0, 0), (20, .lastore, 1, 0, 0, 0, 0), (21, .aload_n 0, 1, 0, 0, 0, 0), (22, .getfield 31, 3, 404, 0, 6, 3), (25, .iload_n 1, 1, 0, 0, 0, 0), (26, .aload_n 0, 1, 0, 0, 0, 0), (27, .getfield 31, 3, 404, 0, 6, 3), (30, .iload_n 2, 1, 0, 0, 0, 0), (31, .laload, 1, 0, 0, 0, 0), (32, .lastore, 1, 0, 0, 0, 0), (33, .return_, 1, 0, 0, 0, 0)]
def T6 : List CE := [(0, .aload_n 0, 1, 0, 0, 0, 0), (1, .iconst 0, 1, 0, 0, 0, 0), (2, .invokevirtual 53, 3, 987, 3, 1, 0), (5, .istore_n 1, 1, 0, 0, 0, 0), (6, .aload_n 0, 1, 0, 0, 0, 0), (7, .aload_n 0, 1, 0, 0, 0, 0), (8, .getfield 27, 3, 403, 0, 5, 3), (11, .iload_n 1, 1, 0, 0, 0, 0), (12, .laload, 1, 0, 0, 0, 0), (13, .putfield 17, 3, 398, 0, 2, 1), (16, .aload_n 0, 1, 0, 0, 0, 0), (17, .aload_n 0, 1, 0, 0, 0, 0), (18, .getfield 31, 3, 404, 0, 6, 3), (21, .iload_n 1, 1, 0, 0, 0, 0), (22, .laload, 1, 0, 0, 0, 0), (23, .putfield 21, 3, 400, 0, 3, 1), (26, .iconst 0, 1, 0, 0, 0, 0), (27, .istore_n 2, 1, 0, 0, 0, 0), (28, .iconst 0, 1, 0, 0, 0, 0), (29, .istore_n 3, 1, 0, 0, 0, 0), (30, .iload_n 3, 1, 0, 0, 0, 0), (31, .aload_n 0, 1, 0, 0, 0, 0), (32, .getfield 7, 3, 394, 0, 0, 0), (35, .if_icmp .ge 36, 3, 71, 0, 0, 0), (38, .aload_n 0, 1, 0, 0, 0, 0), (39, .iload_n 2, 1, 0, 0, 0, 0), (40, .invokevirtual 76, 3, 1003, 7, 1, 0), (43, .istore 4, 2, 0, 0, 0, 0), (45, .aload_n 0, 1, 0, 0, 0, 0), (46, .getfield 13, 3, 396, 0, 1, 3), (49, .iload_n 3, 1, 0, 0, 0, 0), (50, .aload_n 0, 1, 0, 0, 0, 0), (51, .getfield 24, 3, 402, 0, 4, 3), (54, .iload 4, 2, 0, 0, 0, 0), (56, .iaload, 1, 0, 0, 0, 0), (57, .iastore, 1, 0, 0, 0, 0), (58, .iload_n 2, 1, 0, 0, 0, 0), (59, .iconst 1, 1, 0, 0, 0, 0), (60, .iload 4, 2, 0, 0, 0, 0), (62, .ishl, 1, 0, 0, 0, 0), (63, .ior, 1, 0, 0, 0, 0), (64, .istore_n 2, 1, 0, 0, 0, 0), (65, .iinc 3 1, 3, 0, 0, 0, 0), (68, .goto (-38), 3, 30, 0, 0, 0), (71, .return_, 1, 0, 0, 0, 0)]
def T7 : List CE := [(0, .iconst 0, 1, 0, 0, 0, 0), (1, .istore_n 2, 1, 0, 0, 0, 0), (2, .iload_n 2, 1, 0, 0, 0, 0), (3, .aload_n 0, 1, 0, 0, 0, 0), (4, .getfield 7, 3, 394, 0, 0, 0), (7, .if_icmp .ge 48, 3, 55, 0, 0, 0), (10, .iload_n 1, 1, 0, 0, 0, 0), (11, .iconst 1, 1, 0, 0, 0, 0), (12, .iload_n 2, 1, 0, 0, 0, 0), (13, .ishl, 1, 0, 0, 0, 0), (14, .ior, 1, 0, 0, 0, 0), (15, .istore_n 3, 1, 0, 0, 0, 0), (16, .iload_n 3, 1, 0, 0, 0, 0), (17, .iload_n 1, 1, 0, 0, 0, 0), (18, .if_icmp .eq 31, 3, 49, 0, 0, 0), (21, .aload_n 0, 1, 0, 0, 0, 0), (22, .getfield 27, 3, 403, 0, 5, 3), (25, .iload_n 3, 1, 0, 0, 0, 0), (26, .laload, 1, 0, 0, 0, 0), (27, .aload_n 0, 1, 0, 0, 0, 0), (28, .getfield 21, 3, 400, 0, 3, 1), (31, .lmul, 1, 0, 0, 0, 0), (32, .aload_n 0, 1, 0, 0, 0, 0), (33, .getfield 17, 3, 398, 0, 2, 1), (36, .aload_n 0, 1, 0, 0, 0, 0), (37, .getfield 31, 3, 404, 0, 6, 3), (40, .iload_n 3, 1, 0, 0, 0, 0), (41, .laload, 1, 0, 0, 0, 0), (42, .lmul, 1, 0, 0, 0, 0), (43, .lcmp, 1, 0, 0, 0, 0), (44, .ifCond .gt 5, 3, 49, 0, 0, 0), (47, .iload_n 2, 1, 0, 0, 0, 0), (48, .ireturn, 1, 0, 0, 0, 0), (49, .iinc 2 1, 3, 0, 0, 0, 0), (52, .goto (-50), 3, 2, 0, 0, 0), (55, .iconst 0, 1, 0, 0, 0, 0), (56, .ireturn, 1, 0, 0, 0, 0)]
def T8 : List CE := [(0, .aload_n 0, 1, 0, 0, 0, 0), (1, .invokespecial 1, 3, 338, 0, 0, 16), (4, .aload_n 0, 1, 0, 0, 0, 0), (5, .bipush 12, 2, 0, 0, 0, 0), (7, .anewarray 9, 3, 339, 0, 0, 0), (10, .putfield 11, 3, 341, 1, 0, 3), (13, .aload_n 0, 1, 0, 0, 0, 0), (14, .iconst 0, 1, 0, 0, 0, 0), (15, .putfield 15, 3, 342, 1, 1, 0), (18, .aload_n 0, 1, 0, 0, 0, 0), (19, .iconst 0, 1, 0, 0, 0, 0), (20, .putfield 19, 3, 343, 1, 2, 0), (23, .aload_n 0, 1, 0, 0, 0, 0), (24, .iconst 2, 1, 0, 0, 0, 0), (25, .anewarray 9, 3, 339, 0, 0, 0), (28, .putfield 22, 3, 345, 1, 3, 3), (31, .aload_n 0, 1, 0, 0, 0, 0), (32, .iconst 2, 1, 0, 0, 0, 0), (33, .newarray .boolean, 2, 0, 0, 0, 0), (35, .putfield 25, 3, 346, 1, 4, 3), (38, .return_, 1, 0, 0, 0, 0)]
def T9 : List CE := [(0, .aload_n 0, 1, 0, 0, 0, 0), (1, .iconst 0, 1, 0, 0, 0, 0), (2, .putfield 19, 3, 343, 1, 2, 0), (5, .iconst 0, 1, 0, 0, 0, 0), (6, .istore_n 1, 1, 0, 0, 0, 0), (7, .iload_n 1, 1, 0, 0, 0, 0), (8, .iconst 2, 1, 0, 0, 0, 0), (9, .if_icmp .ge 16, 3, 25, 0, 0, 0), (12, .aload_n 0, 1, 0, 0, 0, 0), (13, .getfield 25, 3, 346, 1, 4, 3), (16, .iload_n 1, 1, 0, 0, 0, 0), (17, .iconst 0, 1, 0, 0, 0, 0), (18, .bastore, 1, 0, 0, 0, 0), (19, .iinc 1 1, 3, 0, 0, 0, 0), (22, .goto (-15), 3, 7, 0, 0, 0), (25, .return_, 1, 0, 0, 0, 0)]
def T10 : List CE := [(0, .iconst 0, 1, 0, 0, 0, 0), (1, .istore_n 1, 1, 0, 0, 0, 0), (2, .iconst 0, 1, 0, 0, 0, 0), (3, .istore_n 2, 1, 0, 0, 0, 0), (4, .iload_n 2, 1, 0, 0, 0, 0), (5, .iconst 2, 1, 0, 0, 0, 0), (6, .if_icmp .ge 26, 3, 32, 0, 0, 0), (9, .iload_n 1, 1, 0, 0, 0, 0), (10, .aload_n 0, 1, 0, 0, 0, 0), (11, .getfield 25, 3, 346, 1, 4, 3), (14, .iload_n 2, 1, 0, 0, 0, 0), (15, .baload, 1, 0, 0, 0, 0), (16, .ifCond .eq 7, 3, 23, 0, 0, 0), (19, .iconst 1, 1, 0, 0, 0, 0), (20, .goto 4, 3, 24, 0, 0, 0), (23, .iconst 0, 1, 0, 0, 0, 0), (24, .iadd, 1, 0, 0, 0, 0), (25, .istore_n 1, 1, 0, 0, 0, 0), (26, .iinc 2 1, 3, 0, 0, 0, 0), (29, .goto (-25), 3, 4, 0, 0, 0), (32, .iload_n 1, 1, 0, 0, 0, 0), (33, .ireturn, 1, 0, 0, 0, 0)]
def T11 : List CE := [(0, .aload_n 0, 1, 0, 0, 0, 0), (1, .getfield 15, 3, 342, 1, 1, 0), (4, .aload_n 0, 1, 0, 0, 0, 0), (5, .getfield 19, 3, 343, 1, 2, 0), (8, .iadd, 1, 0, 0, 0, 0), (9, .bipush 12, 2, 0, 0, 0, 0), (11, .irem, 1, 0, 0, 0, 0), (12, .istore_n 2, 1, 0, 0, 0, 0), (13, .aload_n 0, 1, 0, 0, 0, 0), (14, .getfield 19, 3, 343, 1, 2, 0), (17, .bipush 12, 2, 0, 0, 0, 0), (19, .if_icmp .ne 19, 3, 38, 0, 0, 0), (22, .aload_n 0, 1, 0, 0, 0, 0), (23, .aload_n 0, 1, 0, 0, 0, 0), (24, .getfield 15, 3, 342, 1, 1, 0), (27, .iconst 1, 1, 0, 0, 0, 0), (28, .iadd, 1, 0, 0, 0, 0), (29, .bipush 12, 2, 0, 0, 0, 0), (31, .irem, 1, 0, 0, 0, 0), (32, .putfield 15, 3, 342, 1, 1, 0), (35, .goto 13, 3, 48, 0, 0, 0), (38, .aload_n 0, 1, 0, 0, 0, 0), (39, .dup, 1, 0, 0, 0, 0), (40, .getfield 19, 3, 343, 1, 2, 0), (43, .iconst 1, 1, 0, 0, 0, 0), (44, .iadd, 1, 0, 0, 0, 0), (45, .putfield 19, 3, 343, 1, 2, 0), (48, .aload_n 0, 1, 0, 0, 0, 0), (49, .getfield 11, 3, 341, 1, 0, 3), (52, .iload_n 2, 1, 0, 0, 0, 0), (53, .aaload, 1, 0, 0, 0, 0), (54, .ifnonnull 16, 3, 70, 0, 0, 0), (57, .aload_n 0, 1, 0, 0, 0, 0), (58, .getfield 11, 3, 341, 1, 0, 3), (61, .iload_n 2, 1, 0, 0, 0, 0), (62, .new 9, 3, 339, 5, 15, 0), (65, .dup, 1, 0, 0, 0, 0), (66, .invokespecial 29, 3, 761, 47, 0, 3), (69, .aastore, 1, 0, 0, 0, 0), (70, .aload_n 0, 1, 0, 0, 0, 0), (71, .getfield 11, 3, 341, 1, 0, 3), (74, .iload_n 2, 1, 0, 0, 0, 0), (75, .aaload, 1, 0, 0, 0, 0), (76, .aload_n 1, 1, 0, 0, 0, 0), (77, .invokevirtual 30, 3, 762, 49, 1, 0), (80, .return_, 1, 0, 0, 0, 0)]
def T12 : List CE := [(0, .aload_n 0, 1, 0, 0, 0, 0), (1, .getfield 19, 3, 343, 1, 2, 0), (4, .ifCond .ne 5, 3, 9, 0, 0, 0), (7, .iconst 0, 1, 0, 0, 0, 0), (8, .ireturn, 1, 0, 0, 0, 0), (9, .aload_n 0, 1, 0, 0, 0, 0), (10, .getfield 11, 3, 341, 1, 0, 3), (13, .aload_n 0, 1, 0, 0, 0, 0), (14, .getfield 15, 3, 342, 1, 1, 0), (17, .aload_n 0, 1, 0, 0, 0, 0), (18, .getfield 19, 3, 343, 1, 2, 0), (21, .iadd, 1, 0, 0, 0, 0), (22, .iconst 1, 1, 0, 0, 0, 0), (23, .isub, 1, 0, 0, 0, 0), (24, .bipush 12, 2, 0, 0, 0, 0), (26, .irem, 1, 0, 0, 0, 0), (27, .aaload, 1, 0, 0, 0, 0), (28, .astore_n 2, 1, 0, 0, 0, 0), (29, .aload_n 2, 1, 0, 0, 0, 0), (30, .ifnonnull 5, 3, 35, 0, 0, 0), (33, .iconst 0, 1, 0, 0, 0, 0), (34, .ireturn, 1, 0, 0, 0, 0), (35, .aload_n 0, 1, 0, 0, 0, 0), (36, .dup, 1, 0, 0, 0, 0), (37, .getfield 19, 3, 343, 1, 2, 0), (40, .iconst 1, 1, 0, 0, 0, 0), (41, .isub, 1, 0, 0, 0, 0), (42, .putfield 19, 3, 343, 1, 2, 0), (45, .aload_n 1, 1, 0, 0, 0, 0), (46, .aload_n 2, 1, 0, 0, 0, 0), (47, .invokevirtual 30, 3, 762, 49, 1, 0), (50, .iconst 1, 1, 0, 0, 0, 0), (51, .ireturn, 1, 0, 0, 0, 0)]
def T13 : List CE := [(0, .iload_n 1, 1, 0, 0, 0, 0), (1, .ifCond .lt 8, 3, 9, 0, 0, 0), (4, .iload_n 1, 1, 0, 0, 0, 0), (5, .iconst 2, 1, 0, 0, 0, 0), (6, .if_icmp .lt 5, 3, 11, 0, 0, 0), (9, .iconst 0, 1, 0, 0, 0, 0), (10, .ireturn, 1, 0, 0, 0, 0), (11, .aload_n 0, 1, 0, 0, 0, 0), (12, .getfield 22, 3, 345, 1, 3, 3), (15, .iload_n 1, 1, 0, 0, 0, 0), (16, .aaload, 1, 0, 0, 0, 0), (17, .ifnonnull 16, 3, 33, 0, 0, 0), (20, .aload_n 0, 1, 0, 0, 0, 0), (21, .getfield 22, 3, 345, 1, 3, 3), (24, .iload_n 1, 1, 0, 0, 0, 0), (25, .new 9, 3, 339, 5, 15, 0), (28, .dup, 1, 0, 0, 0, 0), (29, .invokespecial 29, 3, 761, 47, 0, 3), (32, .aastore, 1, 0, 0, 0, 0), (33, .aload_n 0, 1, 0, 0, 0, 0), (34, .getfield 22, 3, 345, 1, 3, 3), (37, .iload_n 1, 1, 0, 0, 0, 0), (38, .aaload, 1, 0, 0, 0, 0), (39, .aload_n 2, 1, 0, 0, 0, 0), (40, .invokevirtual 30, 3, 762, 49, 1, 0), (43, .aload_n 0, 1, 0, 0, 0, 0), (44, .getfield 25, 3, 346, 1, 4, 3), (47, .iload_n 1, 1, 0, 0, 0, 0), (48, .iconst 1, 1, 0, 0, 0, 0), (49, .bastore, 1, 0, 0, 0, 0), (50, .iconst 1, 1, 0, 0, 0, 0), (51, .ireturn, 1, 0, 0, 0, 0)]
def T14 : List CE := [(0, .iload_n 1, 1, 0, 0, 0, 0), (1, .ifCond .lt 26, 3, 27, 0, 0, 0), (4, .iload_n 1, 1, 0, 0, 0, 0), (5, .iconst 2, 1, 0, 0, 0, 0), (6, .if_icmp .ge 21, 3, 27, 0, 0, 0), (9, .aload_n 0, 1, 0, 0, 0, 0), (10, .getfield 25, 3, 346, 1, 4, 3), (13, .iload_n 1, 1, 0, 0, 0, 0), (14, .baload, 1, 0, 0, 0, 0), (15, .ifCond .eq 12, 3, 27, 0, 0, 0), (18, .aload_n 0, 1, 0, 0, 0, 0), (19, .getfield 22, 3, 345, 1, 3, 3), (22, .iload_n 1, 1, 0, 0, 0, 0), (23, .aaload, 1, 0, 0, 0, 0), (24, .ifnonnull 5, 3, 29, 0, 0, 0), (27, .iconst 0, 1, 0, 0, 0, 0), (28, .ireturn, 1, 0, 0, 0, 0), (29, .aload_n 2, 1, 0, 0, 0, 0), (30, .aload_n 0, 1, 0, 0, 0, 0), (31, .getfield 22, 3, 345, 1, 3, 3), (34, .iload_n 1, 1, 0, 0, 0, 0), (35, .aaload, 1, 0, 0, 0, 0), (36, .invokevirtual 30, 3, 762, 49, 1, 0), (39, .aload_n 0, 1, 0, 0, 0, 0), (40, .iconst 0, 1, 0, 0, 0, 0), (41, .putfield 19, 3, 343, 1, 2, 0), (44, .iconst 1, 1, 0, 0, 0, 0), (45, .ireturn, 1, 0, 0, 0, 0)]
def T15 : List CE := [(0, .aload_n 0, 1, 0, 0, 0, 0), (1, .invokespecial 3, 3, 364, 0, 0, 16), (4, .aload_n 0, 1, 0, 0, 0, 0), (5, .iconst 0, 1, 0, 0, 0, 0), (6, .putfield 9, 3, 365, 2, 0, 0), (9, .aload_n 0, 1, 0, 0, 0, 0), (10, .iconst 0, 1, 0, 0, 0, 0), (11, .putfield 15, 3, 367, 2, 1, 0), (14, .aload_n 0, 1, 0, 0, 0, 0), (15, .bipush 8, 2, 0, 0, 0, 0), (17, .newarray .int, 2, 0, 0, 0, 0), (19, .putfield 18, 3, 369, 2, 2, 3), (22, .aload_n 0, 1, 0, 0, 0, 0), (23, .bipush 8, 2, 0, 0, 0, 0), (25, .newarray .int, 2, 0, 0, 0, 0), (27, .putfield 22, 3, 371, 2, 3, 3), (30, .aload_n 0, 1, 0, 0, 0, 0), (31, .bipush 8, 2, 0, 0, 0, 0), (33, .newarray .int, 2, 0, 0, 0, 0), (35, .putfield 25, 3, 373, 2, 4, 3), (38, .aload_n 0, 1, 0, 0, 0, 0), (39, .bipush 8, 2, 0, 0, 0, 0), (41, .newarray .boolean, 2, 0, 0, 0, 0), (43, .putfield 28, 3, 374, 2, 5, 3), (46, .return_, 1, 0, 0, 0, 0)]
def T16 : List CE := [(0, .aload_n 0, 1, 0, 0, 0, 0), (1, .aload_n 1, 1, 0, 0, 0, 0), (2, .aload_n 2, 1, 0, 0, 0, 0), (3, .invokevirtual 32, 3, 1062, 17, 2, 0), (6, .aload_n 0, 1, 0, 0, 0, 0), (7, .iconst 0, 1, 0, 0, 0, 0), (8, .putfield 15, 3, 367, 2, 1, 0), (11, .aload_n 2, 1, 0, 0, 0, 0), (12, .getfield 36, 3, 262, 5, 0, 0), (15, .iconst 1, 1, 0, 0, 0, 0), (16, .isub, 1, 0, 0, 0, 0), (17, .istore_n 3, 1, 0, 0, 0, 0), (18, .iconst 0, 1, 0, 0, 0, 0), (19, .istore 4, 2, 0, 0, 0, 0), (21, .iload 4, 2, 0, 0, 0, 0), (23, .aload_n 0, 1, 0, 0, 0, 0), (24, .getfield 9, 3, 365, 2, 0, 0), (27, .if_icmp .ge 84, 3, 111, 0, 0, 0), (30, .aload_n 0, 1, 0, 0, 0, 0), (31, .getfield 25, 3, 373, 2, 4, 3), (34, .iload 4, 2, 0, 0, 0, 0), (36, .iaload, 1, 0, 0, 0, 0), (37, .istore 5, 2, 0, 0, 0, 0), (39, .aload_n 0, 1, 0, 0, 0, 0), (40, .getfield 28, 3, 374, 2, 5, 3), (43, .iload 5, 2, 0, 0, 0, 0), (45, .iconst 1, 1, 0, 0, 0, 0), (46, .bastore, 1, 0, 0, 0, 0), (47, .iload_n 3, 1, 0, 0, 0, 0), (48, .aload_n 1, 1, 0, 0, 0, 0), (49, .getfield 41, 3, 186, 6, 12, 3), (52, .iload 5, 2, 0, 0, 0, 0), (54, .iaload, 1, 0, 0, 0, 0), (55, .iadd, 1, 0, 0, 0, 0), (56, .istore_n 3, 1, 0, 0, 0, 0), (57, .iload_n 3, 1, 0, 0, 0, 0), (58, .aload_n 1, 1, 0, 0, 0, 0), (59, .getfield 46, 3, 182, 6, 11, 3), (62, .iload 5, 2, 0, 0, 0, 0), (64, .iaload, 1, 0, 0, 0, 0), (65, .if_icmp .le 40, 3, 105, 0, 0, 0), (68, .aload_n 0, 1, 0, 0, 0, 0), (69, .aload_n 1, 1, 0, 0, 0, 0), (70, .iload 4, 2, 0, 0, 0, 0), (72, .invokevirtual 49, 3, 1066, 18, 2, 0), (75, .istore 6, 2, 0, 0, 0, 0), (77, .aload_n 0, 1, 0, 0, 0, 0), (78, .getfield 28, 3, 374, 2, 5, 3), (81, .iload 6, 2, 0, 0, 0, 0), (83, .iconst 0, 1, 0, 0, 0, 0), (84, .bastore, 1, 0, 0, 0, 0), (85, .iload_n 3, 1, 0, 0, 0, 0), (86, .aload_n 1, 1, 0, 0, 0, 0), (87, .getfield 41, 3, 186, 6, 12, 3), (90, .iload 6, 2, 0, 0, 0, 0), (92, .iaload, 1, 0, 0, 0, 0), (93, .isub, 1, 0, 0, 0, 0), (94, .istore_n 3, 1, 0, 0, 0, 0), (95, .aload_n 0, 1, 0, 0, 0, 0), (96, .dup, 1, 0, 0, 0, 0), (97, .getfield 15, 3, 367, 2, 1, 0), (100, .iconst 1, 1, 0, 0, 0, 0), (101, .iadd, 1, 0, 0, 0, 0), (102, .putfield 15, 3, 367, 2, 1, 0), (105, .iinc 4 1, 3, 0, 0, 0, 0), (108, .goto (-87), 3, 21, 0, 0, 0), (111, .aload_n 0, 1, 0, 0, 0, 0), (112, .aload_n 1, 1, 0, 0, 0, 0), (113, .aload_n 2, 1, 0, 0, 0, 0), (114, .invokevirtual 53, 3, 1070, 19, 2, 0), (117, .return_, 1, 0, 0, 0, 0)]
def T17 : List CE := [(0, .aload_n 0, 1, 0, 0, 0, 0), (1, .iconst 0, 1, 0, 0, 0, 0), (2, .putfield 9, 3, 365, 2, 0, 0), (5, .iconst 0, 1, 0, 0, 0, 0), (6, .istore_n 3, 1, 0, 0, 0, 0), (7, .iload_n 3, 1, 0, 0, 0, 0), (8, .aload_n 1, 1, 0, 0, 0, 0), (9, .getfield 56, 3, 153, 6, 4, 0), (12, .if_icmp .ge 93, 3, 105, 0, 0, 0), (15, .aload_n 2, 1, 0, 0, 0, 0), (16, .getfield 59, 3, 285, 5, 8, 3), (19, .iload_n 3, 1, 0, 0, 0, 0), (20, .iaload, 1, 0, 0, 0, 0), (21, .iconst (-1), 1, 0, 0, 0, 0), (22, .if_icmp .ne 77, 3, 99, 0, 0, 0), (25, .aload_n 0, 1, 0, 0, 0, 0), (26, .getfield 9, 3, 365, 2, 0, 0), (29, .istore 4, 2, 0, 0, 0, 0), (31, .iload 4, 2, 0, 0, 0, 0), (33, .ifCond .le 48, 3, 81, 0, 0, 0), (36, .aload_n 1, 1, 0, 0, 0, 0), (37, .getfield 46, 3, 182, 6, 11, 3), (40, .aload_n 0, 1, 0, 0, 0, 0), (41, .getfield 25, 3, 373, 2, 4, 3), (44, .iload 4, 2, 0, 0, 0, 0), (46, .iconst 1, 1, 0, 0, 0, 0), (47, .isub, 1, 0, 0, 0, 0), (48, .iaload, 1, 0, 0, 0, 0), (49, .iaload, 1, 0, 0, 0, 0), (50, .aload_n 1, 1, 0, 0, 0, 0), (51, .getfield 46, 3, 182, 6, 11, 3), (54, .iload_n 3, 1, 0, 0, 0, 0), (55, .iaload, 1, 0, 0, 0, 0), (56, .if_icmp .le 25, 3, 81, 0, 0, 0), (59, .aload_n 0, 1, 0, 0, 0, 0), (60, .getfield 25, 3, 373, 2, 4, 3), (63, .iload 4, 2, 0, 0, 0, 0), (65, .aload_n 0, 1, 0, 0, 0, 0), (66, .getfield 25, 3, 373, 2, 4, 3), (69, .iload 4, 2, 0, 0, 0, 0), (71, .iconst 1, 1, 0, 0, 0, 0), (72, .isub, 1, 0, 0, 0, 0), (73, .iaload, 1, 0, 0, 0, 0), (74, .iastore, 1, 0, 0, 0, 0), (75, .iinc 4 (-1), 3, 0, 0, 0, 0), (78, .goto (-47), 3, 31, 0, 0, 0), (81, .aload_n 0, 1, 0, 0, 0, 0), (82, .getfield 25, 3, 373, 2, 4, 3), (85, .iload 4, 2, 0, 0, 0, 0), (87, .iload_n 3, 1, 0, 0, 0, 0), (88, .iastore, 1, 0, 0, 0, 0), (89, .aload_n 0, 1, 0, 0, 0, 0), (90, .dup, 1, 0, 0, 0, 0), (91, .getfield 9, 3, 365, 2, 0, 0), (94, .iconst 1, 1, 0, 0, 0, 0), (95, .iadd, 1, 0, 0, 0, 0), (96, .putfield 9, 3, 365, 2, 0, 0), (99, .iinc 3 1, 3, 0, 0, 0, 0), (102, .goto (-95), 3, 7, 0, 0, 0), (105, .return_, 1, 0, 0, 0, 0)]
def T18 : List CE := [(0, .aload_n 0, 1, 0, 0, 0, 0), (1, .getfield 25, 3, 373, 2, 4, 3), (4, .iload_n 2, 1, 0, 0, 0, 0), (5, .iaload, 1, 0, 0, 0, 0), (6, .istore_n 3, 1, 0, 0, 0, 0), (7, .iconst 0, 1, 0, 0, 0, 0), (8, .istore 4, 2, 0, 0, 0, 0), (10, .iload 4, 2, 0, 0, 0, 0), (12, .iload_n 2, 1, 0, 0, 0, 0), (13, .if_icmp .ge 93, 3, 106, 0, 0, 0), (16, .aload_n 0, 1, 0, 0, 0, 0), (17, .getfield 25, 3, 373, 2, 4, 3), (20, .iload 4, 2, 0, 0, 0, 0), (22, .iaload, 1, 0, 0, 0, 0), (23, .istore 5, 2, 0, 0, 0, 0), (25, .aload_n 1, 1, 0, 0, 0, 0), (26, .getfield 41, 3, 186, 6, 12, 3), (29, .iload 5, 2, 0, 0, 0, 0), (31, .iaload, 1, 0, 0, 0, 0), (32, .aload_n 1, 1, 0, 0, 0, 0), (33, .getfield 41, 3, 186, 6, 12, 3), (36, .iload_n 3, 1, 0, 0, 0, 0), (37, .iaload, 1, 0, 0, 0, 0), (38, .if_icmp .le 7, 3, 45, 0, 0, 0), (41, .iconst 1, 1, 0, 0, 0, 0), (42, .goto 4, 3, 46, 0, 0, 0), (45, .iconst 0, 1, 0, 0, 0, 0), (46, .istore 6, 2, 0, 0, 0, 0), (48, .aload_n 1, 1, 0, 0, 0, 0), (49, .getfield 41, 3, 186, 6, 12, 3), (52, .iload 5, 2, 0, 0, 0, 0), (54, .iaload, 1, 0, 0, 0, 0), (55, .aload_n 1, 1, 0, 0, 0, 0), (56, .getfield 41, 3, 186, 6, 12, 3), (59, .iload_n 3, 1, 0, 0, 0, 0), (60, .iaload, 1, 0, 0, 0, 0), (61, .if_icmp .ne 13, 3, 74, 0, 0, 0), (64, .iload 5, 2, 0, 0, 0, 0), (66, .iload_n 3, 1, 0, 0, 0, 0), (67, .if_icmp .le 7, 3, 74, 0, 0, 0), (70, .iconst 1, 1, 0, 0, 0, 0), (71, .goto 4, 3, 75, 0, 0, 0), (74, .iconst 0, 1, 0, 0, 0, 0), (75, .istore 7, 2, 0, 0, 0, 0), (77, .aload_n 0, 1, 0, 0, 0, 0), (78, .getfield 28, 3, 374, 2, 5, 3), (81, .iload 5, 2, 0, 0, 0, 0), (83, .baload, 1, 0, 0, 0, 0), (84, .ifCond .eq 16, 3, 100, 0, 0, 0), (87, .iload 6, 2, 0, 0, 0, 0), (89, .ifCond .ne 8, 3, 97, 0, 0, 0), (92, .iload 7, 2, 0, 0, 0, 0), (94, .ifCond .eq 6, 3, 100, 0, 0, 0), (97, .iload 5, 2, 0, 0, 0, 0), (99, .istore_n 3, 1, 0, 0, 0, 0), (100, .iinc 4 1, 3, 0, 0, 0, 0), (103, .goto (-93), 3, 10, 0, 0, 0), (106, .iload_n 3, 1, 0, 0, 0, 0), (107, .ireturn, 1, 0, 0, 0, 0)]
def T19 : List CE := [(0, .iconst 0, 1, 0, 0, 0, 0), (1, .istore_n 3, 1, 0, 0, 0, 0), (2, .iconst 0, 1, 0, 0, 0, 0), (3, .istore 4, 2, 0, 0, 0, 0), (5, .iload 4, 2, 0, 0, 0, 0), (7, .aload_n 0, 1, 0, 0, 0, 0), (8, .getfield 9, 3, 365, 2, 0, 0), (11, .if_icmp .ge 40, 3, 51, 0, 0, 0), (14, .aload_n 0, 1, 0, 0, 0, 0), (15, .getfield 28, 3, 374, 2, 5, 3), (18, .aload_n 0, 1, 0, 0, 0, 0), (19, .getfield 25, 3, 373, 2, 4, 3), (22, .iload 4, 2, 0, 0, 0, 0), (24, .iaload, 1, 0, 0, 0, 0), (25, .baload, 1, 0, 0, 0, 0), (26, .ifCond .eq 19, 3, 45, 0, 0, 0), (29, .aload_n 0, 1, 0, 0, 0, 0), (30, .getfield 18, 3, 369, 2, 2, 3), (33, .iload_n 3, 1, 0, 0, 0, 0), (34, .aload_n 0, 1, 0, 0, 0, 0), (35, .getfield 25, 3, 373, 2, 4, 3), (38, .iload 4, 2, 0, 0, 0, 0), (40, .iaload, 1, 0, 0, 0, 0), (41, .iastore, 1, 0, 0, 0, 0), (42, .iinc 3 1, 3, 0, 0, 0, 0), (45, .iinc 4 1, 3, 0, 0, 0, 0), (48, .goto (-43), 3, 5, 0, 0, 0), (51, .iconst 0, 1, 0, 0, 0, 0), (52, .istore 4, 2, 0, 0, 0, 0), (54, .iload 4, 2, 0, 0, 0, 0), (56, .aload_n 1, 1, 0, 0, 0, 0), (57, .getfield 56, 3, 153, 6, 4, 0), (60, .if_icmp .ge 41, 3, 101, 0, 0, 0), (63, .aload_n 2, 1, 0, 0, 0, 0), (64, .getfield 59, 3, 285, 5, 8, 3), (67, .iload 4, 2, 0, 0, 0, 0), (69, .iaload, 1, 0, 0, 0, 0), (70, .iconst (-1), 1, 0, 0, 0, 0), (71, .if_icmp .ne 24, 3, 95, 0, 0, 0), (74, .aload_n 0, 1, 0, 0, 0, 0), (75, .getfield 28, 3, 374, 2, 5, 3), (78, .iload 4, 2, 0, 0, 0, 0), (80, .baload, 1, 0, 0, 0, 0), (81, .ifCond .ne 14, 3, 95, 0, 0, 0), (84, .aload_n 0, 1, 0, 0, 0, 0), (85, .getfield 18, 3, 369, 2, 2, 3), (88, .iload_n 3, 1, 0, 0, 0, 0), (89, .iload 4, 2, 0, 0, 0, 0), (91, .iastore, 1, 0, 0, 0, 0), (92, .iinc 3 1, 3, 0, 0, 0, 0), (95, .iinc 4 1, 3, 0, 0, 0, 0), (98, .goto (-44), 3, 54, 0, 0, 0), (101, .aload_n 2, 1, 0, 0, 0, 0), (102, .getfield 36, 3, 262, 5, 0, 0), (105, .iconst 1, 1, 0, 0, 0, 0), (106, .isub, 1, 0, 0, 0, 0), (107, .istore 4, 2, 0, 0, 0, 0), (109, .iconst 0, 1, 0, 0, 0, 0), (110, .istore 5, 2, 0, 0, 0, 0), (112, .iload 5, 2, 0, 0, 0, 0), (114, .aload_n 0, 1, 0, 0, 0, 0), (115, .getfield 9, 3, 365, 2, 0, 0), (118, .if_icmp .ge 40, 3, 158, 0, 0, 0), (121, .iload 4, 2, 0, 0, 0, 0), (123, .aload_n 1, 1, 0, 0, 0, 0), (124, .getfield 41, 3, 186, 6, 12, 3), (127, .aload_n 0, 1, 0, 0, 0, 0), (128, .getfield 18, 3, 369, 2, 2, 3), (131, .iload 5, 2, 0, 0, 0, 0), (133, .iaload, 1, 0, 0, 0, 0), (134, .iaload, 1, 0, 0, 0, 0), (135, .iadd, 1, 0, 0, 0, 0), (136, .istore 4, 2, 0, 0, 0, 0), (138, .aload_n 0, 1, 0, 0, 0, 0), (139, .getfield 22, 3, 371, 2, 3, 3), (142, .aload_n 0, 1, 0, 0, 0, 0), (143, .getfield 18, 3, 369, 2, 2, 3), (146, .iload 5, 2, 0, 0, 0, 0), (148, .iaload, 1, 0, 0, 0, 0), (149, .iload 4, 2, 0, 0, 0, 0), (151, .iastore, 1, 0, 0, 0, 0), (152, .iinc 5 1, 3, 0, 0, 0, 0), (155, .goto (-43), 3, 112, 0, 0, 0), (158, .return_, 1, 0, 0, 0, 0)]
def T20 : List CE := [(0, .aload_n 1, 1, 0, 0, 0, 0), (1, .getfield 9, 3, 298, 5, 13, 3), (4, .iconst 0, 1, 0, 0, 0, 0), (5, .iaload, 1, 0, 0, 0, 0), (6, .ifCond .le 7, 3, 13, 0, 0, 0), (9, .iconst 1, 1, 0, 0, 0, 0), (10, .goto 4, 3, 14, 0, 0, 0), (13, .iconst 0, 1, 0, 0, 0, 0), (14, .istore_n 2, 1, 0, 0, 0, 0), (15, .aload_n 1, 1, 0, 0, 0, 0), (16, .getfield 9, 3, 298, 5, 13, 3), (19, .iconst 1, 1, 0, 0, 0, 0), (20, .iaload, 1, 0, 0, 0, 0), (21, .ifCond .le 7, 3, 28, 0, 0, 0), (24, .iconst 1, 1, 0, 0, 0, 0), (25, .goto 4, 3, 29, 0, 0, 0), (28, .iconst 0, 1, 0, 0, 0, 0), (29, .istore_n 3, 1, 0, 0, 0, 0), (30, .iload_n 3, 1, 0, 0, 0, 0), (31, .ifCond .eq 16, 3, 47, 0, 0, 0), (34, .aload_n 0, 1, 0, 0, 0, 0), (35, .aload_n 1, 1, 0, 0, 0, 0), (36, .iconst 1, 1, 0, 0, 0, 0), (37, .invokestatic 15, 3, 853, 21, 3, 1), (40, .ifCond .eq 7, 3, 47, 0, 0, 0), (43, .iconst 1, 1, 0, 0, 0, 0), (44, .goto 4, 3, 48, 0, 0, 0), (47, .iconst 0, 1, 0, 0, 0, 0), (48, .istore 4, 2, 0, 0, 0, 0), (50, .iload_n 2, 1, 0, 0, 0, 0), (51, .ifCond .eq 16, 3, 67, 0, 0, 0), (54, .aload_n 0, 1, 0, 0, 0, 0), (55, .aload_n 1, 1, 0, 0, 0, 0), (56, .iconst 0, 1, 0, 0, 0, 0), (57, .invokestatic 15, 3, 853, 21, 3, 1), (60, .ifCond .eq 7, 3, 67, 0, 0, 0), (63, .iconst 1, 1, 0, 0, 0, 0), (64, .goto 4, 3, 68, 0, 0, 0), (67, .iconst 0, 1, 0, 0, 0, 0), (68, .istore 5, 2, 0, 0, 0, 0), (70, .aload_n 1, 1, 0, 0, 0, 0), (71, .getfield 21, 3, 295, 5, 12, 3), (74, .iconst 1, 1, 0, 0, 0, 0), (75, .dup2, 1, 0, 0, 0, 0), (76, .iaload, 1, 0, 0, 0, 0), (77, .iload 4, 2, 0, 0, 0, 0), (79, .ifCond .eq 7, 3, 86, 0, 0, 0), (82, .iconst 1, 1, 0, 0, 0, 0), (83, .goto 4, 3, 87, 0, 0, 0), (86, .iconst 0, 1, 0, 0, 0, 0), (87, .iadd, 1, 0, 0, 0, 0), (88, .iastore, 1, 0, 0, 0, 0), (89, .aload_n 1, 1, 0, 0, 0, 0), (90, .getfield 21, 3, 295, 5, 12, 3), (93, .iconst 0, 1, 0, 0, 0, 0), (94, .dup2, 1, 0, 0, 0, 0), (95, .iaload, 1, 0, 0, 0, 0), (96, .iload 5, 2, 0, 0, 0, 0), (98, .ifCond .eq 7, 3, 105, 0, 0, 0), (101, .iconst 1, 1, 0, 0, 0, 0), (102, .goto 4, 3, 106, 0, 0, 0), (105, .iconst 0, 1, 0, 0, 0, 0), (106, .iadd, 1, 0, 0, 0, 0), (107, .iastore, 1, 0, 0, 0, 0), (108, .aload_n 1, 1, 0, 0, 0, 0), (109, .dup, 1, 0, 0, 0, 0), (110, .getfield 24, 3, 265, 5, 1, 0), (113, .iconst 1, 1, 0, 0, 0, 0), (114, .iadd, 1, 0, 0, 0, 0), (115, .putfield 24, 3, 265, 5, 1, 0), (118, .iload 4, 2, 0, 0, 0, 0), (120, .ifCond .ne 7, 3, 127, 0, 0, 0), (123, .iload_n 3, 1, 0, 0, 0, 0), (124, .ifCond .ne 7, 3, 131, 0, 0, 0), (127, .iconst 1, 1, 0, 0, 0, 0), (128, .goto 4, 3, 132, 0, 0, 0), (131, .iconst 0, 1, 0, 0, 0, 0), (132, .istore 6, 2, 0, 0, 0, 0), (134, .iload 5, 2, 0, 0, 0, 0), (136, .ifCond .ne 7, 3, 143, 0, 0, 0), (139, .iload_n 2, 1, 0, 0, 0, 0), (140, .ifCond .ne 7, 3, 147, 0, 0, 0), (143, .iconst 1, 1, 0, 0, 0, 0), (144, .goto 4, 3, 148, 0, 0, 0), (147, .iconst 0, 1, 0, 0, 0, 0), (148, .istore 7, 2, 0, 0, 0, 0), (150, .iload 6, 2, 0, 0, 0, 0), (152, .ifCond .eq 22, 3, 174, 0, 0, 0), (155, .iload 7, 2, 0, 0, 0, 0), (157, .ifCond .eq 17, 3, 174, 0, 0, 0), (160, .iload 4, 2, 0, 0, 0, 0), (162, .ifCond .ne 8, 3, 170, 0, 0, 0), (165, .iload 5, 2, 0, 0, 0, 0), (167, .ifCond .eq 7, 3, 174, 0, 0, 0), (170, .iconst 1, 1, 0, 0, 0, 0), (171, .goto 4, 3, 175, 0, 0, 0), (174, .iconst 0, 1, 0, 0, 0, 0), (175, .ireturn, 1, 0, 0, 0, 0)]
def T21 : List CE := [(0, .iload_n 2, 1, 0, 0, 0, 0), (1, .invokestatic 28, 3, 856, 65, 1, 1), (4, .istore_n 3, 1, 0, 0, 0, 0), (5, .aload_n 1, 1, 0, 0, 0, 0), (6, .getfield 32, 3, 301, 5, 14, 3), (9, .iload_n 3, 1, 0, 0, 0, 0), (10, .iconst 0, 1, 0, 0, 0, 0), (11, .iadd, 1, 0, 0, 0, 0), (12, .iaload, 1, 0, 0, 0, 0), (13, .istore 4, 2, 0, 0, 0, 0), (15, .aload_n 1, 1, 0, 0, 0, 0), (16, .getfield 32, 3, 301, 5, 14, 3), (19, .iload_n 3, 1, 0, 0, 0, 0), (20, .iconst 2, 1, 0, 0, 0, 0), (21, .iadd, 1, 0, 0, 0, 0), (22, .iaload, 1, 0, 0, 0, 0), (23, .istore 5, 2, 0, 0, 0, 0), (25, .aload_n 1, 1, 0, 0, 0, 0), (26, .iload_n 2, 1, 0, 0, 0, 0), (27, .invokevirtual 35, 3, 857, 52, 1, 0), (30, .iload 4, 2, 0, 0, 0, 0), (32, .if_icmp .eq 22, 3, 54, 0, 0, 0), (35, .aload_n 0, 1, 0, 0, 0, 0), (36, .aload_n 1, 1, 0, 0, 0, 0), (37, .iload_n 2, 1, 0, 0, 0, 0), (38, .iload 4, 2, 0, 0, 0, 0), (40, .iload 5, 2, 0, 0, 0, 0), (42, .invokestatic 38, 3, 858, 22, 5, 1), (45, .ifCond .ne 7, 3, 52, 0, 0, 0), (48, .iconst 1, 1, 0, 0, 0, 0), (49, .goto 4, 3, 53, 0, 0, 0), (52, .iconst 0, 1, 0, 0, 0, 0), (53, .ireturn, 1, 0, 0, 0, 0), (54, .aload_n 1, 1, 0, 0, 0, 0), (55, .iload_n 2, 1, 0, 0, 0, 0), (56, .invokevirtual 42, 3, 869, 53, 1, 0), (59, .istore 6, 2, 0, 0, 0, 0), (61, .iload 6, 2, 0, 0, 0, 0), (63, .iload 5, 2, 0, 0, 0, 0), (65, .if_icmp .eq 38, 3, 103, 0, 0, 0), (68, .aload_n 0, 1, 0, 0, 0, 0), (69, .aload_n 1, 1, 0, 0, 0, 0), (70, .iload_n 2, 1, 0, 0, 0, 0), (71, .iload 4, 2, 0, 0, 0, 0), (73, .iload 6, 2, 0, 0, 0, 0), (75, .iload 5, 2, 0, 0, 0, 0), (77, .if_icmp .ge 10, 3, 87, 0, 0, 0), (80, .iload 6, 2, 0, 0, 0, 0), (82, .iconst 1, 1, 0, 0, 0, 0), (83, .iadd, 1, 0, 0, 0, 0), (84, .goto 7, 3, 91, 0, 0, 0), (87, .iload 6, 2, 0, 0, 0, 0), (89, .iconst 1, 1, 0, 0, 0, 0), (90, .isub, 1, 0, 0, 0, 0), (91, .invokestatic 45, 3, 861, 23, 5, 1), (94, .ifCond .ne 7, 3, 101, 0, 0, 0), (97, .iconst 1, 1, 0, 0, 0, 0), (98, .goto 4, 3, 102, 0, 0, 0), (101, .iconst 0, 1, 0, 0, 0, 0), (102, .ireturn, 1, 0, 0, 0, 0), (103, .iload_n 2, 1, 0, 0, 0, 0), (104, .iconst 1, 1, 0, 0, 0, 0), (105, .if_icmp .ne 15, 3, 120, 0, 0, 0), (108, .aload_n 0, 1, 0, 0, 0, 0), (109, .aload_n 1, 1, 0, 0, 0, 0), (110, .iload 4, 2, 0, 0, 0, 0), (112, .iload 5, 2, 0, 0, 0, 0), (114, .invokestatic 48, 3, 870, 24, 4, 1), (117, .goto 12, 3, 129, 0, 0, 0), (120, .aload_n 0, 1, 0, 0, 0, 0), (121, .aload_n 1, 1, 0, 0, 0, 0), (122, .iload 4, 2, 0, 0, 0, 0), (124, .iload 5, 2, 0, 0, 0, 0), (126, .invokestatic 52, 3, 879, 25, 4, 1), (129, .iconst 0, 1, 0, 0, 0, 0), (130, .ireturn, 1, 0, 0, 0, 0)]
def T22 : List CE := [(0, .aload_n 1, 1, 0, 0, 0, 0), (1, .getfield 55, 3, 292, 5, 11, 3), (4, .iload_n 2, 1, 0, 0, 0, 0), (5, .iaload, 1, 0, 0, 0, 0), (6, .bipush 10, 2, 0, 0, 0, 0), (8, .if_icmp .lt 7, 3, 15, 0, 0, 0), (11, .iconst 1, 1, 0, 0, 0, 0), (12, .goto 4, 3, 16, 0, 0, 0), (15, .iconst 0, 1, 0, 0, 0, 0), (16, .istore 5, 2, 0, 0, 0, 0), (18, .iload 5, 2, 0, 0, 0, 0), (20, .ifCond .ne 13, 3, 33, 0, 0, 0), (23, .aload_n 1, 1, 0, 0, 0, 0), (24, .getfield 55, 3, 292, 5, 11, 3), (27, .iload_n 2, 1, 0, 0, 0, 0), (28, .dup2, 1, 0, 0, 0, 0), (29, .iaload, 1, 0, 0, 0, 0), (30, .iconst 1, 1, 0, 0, 0, 0), (31, .iadd, 1, 0, 0, 0, 0), (32, .iastore, 1, 0, 0, 0, 0), (33, .aload_n 1, 1, 0, 0, 0, 0), (34, .getfield 55, 3, 292, 5, 11, 3), (37, .iload_n 2, 1, 0, 0, 0, 0), (38, .iaload, 1, 0, 0, 0, 0), (39, .bipush 10, 2, 0, 0, 0, 0), (41, .if_icmp .lt 24, 3, 65, 0, 0, 0), (44, .aload_n 0, 1, 0, 0, 0, 0), (45, .aload_n 1, 1, 0, 0, 0, 0), (46, .iload_n 2, 1, 0, 0, 0, 0), (47, .iload_n 3, 1, 0, 0, 0, 0), (48, .iload 4, 2, 0, 0, 0, 0), (50, .invokestatic 45, 3, 861, 23, 5, 1), (53, .ifCond .eq 12, 3, 65, 0, 0, 0), (56, .aload_n 1, 1, 0, 0, 0, 0), (57, .getfield 55, 3, 292, 5, 11, 3), (60, .iload_n 2, 1, 0, 0, 0, 0), (61, .iconst 0, 1, 0, 0, 0, 0), (62, .iastore, 1, 0, 0, 0, 0), (63, .iconst 1, 1, 0, 0, 0, 0), (64, .ireturn, 1, 0, 0, 0, 0), (65, .iload 5, 2, 0, 0, 0, 0), (67, .ifCond .ne 7, 3, 74, 0, 0, 0), (70, .iconst 1, 1, 0, 0, 0, 0), (71, .goto 4, 3, 75, 0, 0, 0), (74, .iconst 0, 1, 0, 0, 0, 0), (75, .ireturn, 1, 0, 0, 0, 0)]
def T23 : List CE := [(0, .aload_n 1, 1, 0, 0, 0, 0), (1, .aload_n 0, 1, 0, 0, 0, 0), (2, .iload_n 2, 1, 0, 0, 0, 0), (3, .iload_n 3, 1, 0, 0, 0, 0), (4, .iload 4, 2, 0, 0, 0, 0), (6, .invokevirtual 58, 3, 864, 55, 4, 0), (9, .ifCond .ne 5, 3, 14, 0, 0, 0), (12, .iconst 0, 1, 0, 0, 0, 0), (13, .ireturn, 1, 0, 0, 0, 0), (14, .aload_n 1, 1, 0, 0, 0, 0), (15, .iload_n 2, 1, 0, 0, 0, 0), (16, .iload_n 3, 1, 0, 0, 0, 0), (17, .iload 4, 2, 0, 0, 0, 0), (19, .invokevirtual 62, 3, 868, 54, 3, 0), (22, .iconst 1, 1, 0, 0, 0, 0), (23, .ireturn, 1, 0, 0, 0, 0)]
def T24 : List CE := [(0, .aload_n 1, 1, 0, 0, 0, 0), (1, .getfield 32, 3, 301, 5, 14, 3), (4, .iconst 1, 1, 0, 0, 0, 0), (5, .invokestatic 28, 3, 856, 65, 1, 1), (8, .iconst 1, 1, 0, 0, 0, 0), (9, .iadd, 1, 0, 0, 0, 0), (10, .iaload, 1, 0, 0, 0, 0), (11, .istore 4, 2, 0, 0, 0, 0), (13, .aload_n 1, 1, 0, 0, 0, 0), (14, .aload_n 0, 1, 0, 0, 0, 0), (15, .iload 4, 2, 0, 0, 0, 0), (17, .invokevirtual 66, 3, 873, 62, 2, 0), (20, .ifCond .eq 13, 3, 33, 0, 0, 0), (23, .aload_n 1, 1, 0, 0, 0, 0), (24, .aload_n 0, 1, 0, 0, 0, 0), (25, .iload_n 2, 1, 0, 0, 0, 0), (26, .iload_n 3, 1, 0, 0, 0, 0), (27, .iload 4, 2, 0, 0, 0, 0), (29, .invokevirtual 70, 3, 874, 63, 4, 0), (32, .pop, 1, 0, 0, 0, 0), (33, .aload_n 1, 1, 0, 0, 0, 0), (34, .iconst 1, 1, 0, 0, 0, 0), (35, .invokevirtual 74, 3, 875, 67, 1, 0), (38, .return_, 1, 0, 0, 0, 0)]
def T25 : List CE := [(0, .iconst 0, 1, 0, 0, 0, 0), (1, .invokestatic 28, 3, 856, 65, 1, 1), (4, .istore 4, 2, 0, 0, 0, 0), (6, .aload_n 1, 1, 0, 0, 0, 0), (7, .getfield 32, 3, 301, 5, 14, 3), (10, .iload 4, 2, 0, 0, 0, 0), (12, .iconst 1, 1, 0, 0, 0, 0), (13, .iadd, 1, 0, 0, 0, 0), (14, .iaload, 1, 0, 0, 0, 0), (15, .istore 5, 2, 0, 0, 0, 0), (17, .aload_n 1, 1, 0, 0, 0, 0), (18, .getfield 32, 3, 301, 5, 14, 3), (21, .iload 4, 2, 0, 0, 0, 0), (23, .iconst 3, 1, 0, 0, 0, 0), (24, .iadd, 1, 0, 0, 0, 0), (25, .iaload, 1, 0, 0, 0, 0), (26, .istore 6, 2, 0, 0, 0, 0), (28, .aload_n 1, 1, 0, 0, 0, 0), (29, .getfield 32, 3, 301, 5, 14, 3), (32, .iload 4, 2, 0, 0, 0, 0), (34, .iconst 5, 1, 0, 0, 0, 0), (35, .iadd, 1, 0, 0, 0, 0), (36, .iaload, 1, 0, 0, 0, 0), (37, .istore 7, 2, 0, 0, 0, 0), (39, .aload_n 1, 1, 0, 0, 0, 0), (40, .getfield 32, 3, 301, 5, 14, 3), (43, .iload 4, 2, 0, 0, 0, 0), (45, .iconst 4, 1, 0, 0, 0, 0), (46, .iadd, 1, 0, 0, 0, 0), (47, .iaload, 1, 0, 0, 0, 0), (48, .aload_n 1, 1, 0, 0, 0, 0), (49, .getfield 78, 3, 270, 5, 2, 3), (52, .iload 5, 2, 0, 0, 0, 0), (54, .iaload, 1, 0, 0, 0, 0), (55, .invokestatic 81, 3, 882, 0, 2, 11), (58, .istore 8, 2, 0, 0, 0, 0), (60, .iload 8, 2, 0, 0, 0, 0), (62, .ifCond .eq 20, 3, 82, 0, 0, 0), (65, .iload 7, 2, 0, 0, 0, 0), (67, .iconst (-1), 1, 0, 0, 0, 0), (68, .if_icmp .ne 20, 3, 88, 0, 0, 0), (71, .aload_n 1, 1, 0, 0, 0, 0), (72, .getfield 87, 3, 273, 5, 3, 3), (75, .iload_n 2, 1, 0, 0, 0, 0), (76, .iaload, 1, 0, 0, 0, 0), (77, .bipush 60, 2, 0, 0, 0, 0), (79, .if_icmp .lt 9, 3, 88, 0, 0, 0), (82, .aload_n 1, 1, 0, 0, 0, 0), (83, .iconst 0, 1, 0, 0, 0, 0), (84, .invokevirtual 74, 3, 875, 67, 1, 0), (87, .return_, 1, 0, 0, 0, 0), (88, .iload 7, 2, 0, 0, 0, 0), (90, .iconst (-1), 1, 0, 0, 0, 0), (91, .if_icmp .ne 23, 3, 114, 0, 0, 0), (94, .aload_n 1, 1, 0, 0, 0, 0), (95, .iload_n 2, 1, 0, 0, 0, 0), (96, .iload 5, 2, 0, 0, 0, 0), (98, .invokevirtual 90, 3, 883, 60, 2, 0), (101, .istore 7, 2, 0, 0, 0, 0), (103, .aload_n 1, 1, 0, 0, 0, 0), (104, .getfield 32, 3, 301, 5, 14, 3), (107, .iload 4, 2, 0, 0, 0, 0), (109, .iconst 5, 1, 0, 0, 0, 0), (110, .iadd, 1, 0, 0, 0, 0), (111, .iload 7, 2, 0, 0, 0, 0), (113, .iastore, 1, 0, 0, 0, 0), (114, .aload_n 1, 1, 0, 0, 0, 0), (115, .iload_n 2, 1, 0, 0, 0, 0), (116, .iload 7, 2, 0, 0, 0, 0), (118, .iload_n 3, 1, 0, 0, 0, 0), (119, .iload 8, 2, 0, 0, 0, 0), (121, .invokevirtual 93, 3, 884, 61, 4, 0), (124, .iload_n 3, 1, 0, 0, 0, 0), (125, .iload 6, 2, 0, 0, 0, 0), (127, .if_icmp .ne 9, 3, 136, 0, 0, 0), (130, .aload_n 1, 1, 0, 0, 0, 0), (131, .iconst 0, 1, 0, 0, 0, 0), (132, .invokevirtual 74, 3, 875, 67, 1, 0), (135, .return_, 1, 0, 0, 0, 0), (136, .iload_n 3, 1, 0, 0, 0, 0), (137, .iload 6, 2, 0, 0, 0, 0), (139, .if_icmp .ge 9, 3, 148, 0, 0, 0), (142, .iload_n 3, 1, 0, 0, 0, 0), (143, .iconst 1, 1, 0, 0, 0, 0), (144, .iadd, 1, 0, 0, 0, 0), (145, .goto 6, 3, 151, 0, 0, 0), (148, .iload_n 3, 1, 0, 0, 0, 0), (149, .iconst 1, 1, 0, 0, 0, 0), (150, .isub, 1, 0, 0, 0, 0), (151, .istore 9, 2, 0, 0, 0, 0), (153, .aload_n 1, 1, 0, 0, 0, 0), (154, .getfield 32, 3, 301, 5, 14, 3), (157, .iload 4, 2, 0, 0, 0, 0), (159, .iconst 2, 1, 0, 0, 0, 0), (160, .iadd, 1, 0, 0, 0, 0), (161, .iload 9, 2, 0, 0, 0, 0), (163, .iastore, 1, 0, 0, 0, 0), (164, .aload_n 0, 1, 0, 0, 0, 0), (165, .aload_n 1, 1, 0, 0, 0, 0), (166, .iconst 0, 1, 0, 0, 0, 0), (167, .iload_n 2, 1, 0, 0, 0, 0), (168, .iload 9, 2, 0, 0, 0, 0), (170, .invokestatic 45, 3, 861, 23, 5, 1), (173, .pop, 1, 0, 0, 0, 0), (174, .return_, 1, 0, 0, 0, 0)]
def T26 : List CE := [(0, .aload_n 0, 1, 0, 0, 0, 0), (1, .invokespecial 3, 3, 131, 0, 0, 16), (4, .aload_n 0, 1, 0, 0, 0, 0), (5, .iconst 0, 1, 0, 0, 0, 0), (6, .newarray .int, 2, 0, 0, 0, 0), (8, .putfield 9, 3, 222, 3, 0, 3), (11, .aload_n 0, 1, 0, 0, 0, 0), (12, .iconst 0, 1, 0, 0, 0, 0), (13, .putfield 15, 3, 223, 3, 1, 0), (16, .aload_n 0, 1, 0, 0, 0, 0), (17, .iconst 0, 1, 0, 0, 0, 0), (18, .putfield 19, 3, 224, 3, 2, 0), (21, .aload_n 0, 1, 0, 0, 0, 0), (22, .iconst 0, 1, 0, 0, 0, 0), (23, .putfield 22, 3, 225, 3, 3, 0), (26, .aload_n 0, 1, 0, 0, 0, 0), (27, .iconst 0, 1, 0, 0, 0, 0), (28, .putfield 25, 3, 226, 3, 4, 0), (31, .aload_n 0, 1, 0, 0, 0, 0), (32, .iconst 0, 1, 0, 0, 0, 0), (33, .putfield 28, 3, 227, 3, 5, 0), (36, .aload_n 0, 1, 0, 0, 0, 0), (37, .iconst 0, 1, 0, 0, 0, 0), (38, .putfield 31, 3, 228, 3, 6, 2), (41, .aload_n 0, 1, 0, 0, 0, 0), (42, .new 35, 3, 132, 6, 14, 0), (45, .dup, 1, 0, 0, 0, 0), (46, .invokespecial 37, 3, 134, 68, 0, 3), (49, .putfield 38, 3, 229, 3, 7, 3), (52, .aload_n 0, 1, 0, 0, 0, 0), (53, .bipush 23, 2, 0, 0, 0, 0), (55, .newarray .int, 2, 0, 0, 0, 0), (57, .putfield 42, 3, 230, 3, 8, 3), (60, .aload_n 0, 1, 0, 0, 0, 0), (61, .iconst 0, 1, 0, 0, 0, 0), (62, .putfield 45, 3, 231, 3, 9, 0), (65, .return_, 1, 0, 0, 0, 0)]
def T27 : List CE := [(0, .aload_n 0, 1, 0, 0, 0, 0), (1, .aload_n 1, 1, 0, 0, 0, 0), (2, .putfield 9, 3, 222, 3, 0, 3), (5, .aload_n 0, 1, 0, 0, 0, 0), (6, .iload_n 2, 1, 0, 0, 0, 0), (7, .aload_n 1, 1, 0, 0, 0, 0), (8, .arraylength, 1, 0, 0, 0, 0), (9, .invokestatic 48, 3, 517, 0, 2, 11), (12, .putfield 15, 3, 223, 3, 1, 0), (15, .aload_n 0, 1, 0, 0, 0, 0), (16, .iconst 0, 1, 0, 0, 0, 0), (17, .putfield 22, 3, 225, 3, 3, 0), (20, .aload_n 0, 1, 0, 0, 0, 0), (21, .iconst 0, 1, 0, 0, 0, 0), (22, .putfield 28, 3, 227, 3, 5, 0), (25, .aload_n 0, 1, 0, 0, 0, 0), (26, .iconst 0, 1, 0, 0, 0, 0), (27, .putfield 31, 3, 228, 3, 6, 2), (30, .aload_n 0, 1, 0, 0, 0, 0), (31, .aload_n 3, 1, 0, 0, 0, 0), (32, .putfield 38, 3, 229, 3, 7, 3), (35, .aload_n 0, 1, 0, 0, 0, 0), (36, .iconst 0, 1, 0, 0, 0, 0), (37, .putfield 45, 3, 231, 3, 9, 0), (40, .aload_n 3, 1, 0, 0, 0, 0), (41, .invokevirtual 54, 3, 520, 69, 0, 0), (44, .aload_n 0, 1, 0, 0, 0, 0), (45, .invokevirtual 57, 3, 524, 39, 0, 0), (48, .iconst 0, 1, 0, 0, 0, 0), (49, .istore 4, 2, 0, 0, 0, 0), (51, .iload 4, 2, 0, 0, 0, 0), (53, .sipush 600, 3, 0, 0, 0, 0), (56, .if_icmp .ge 37, 3, 93, 0, 0, 0), (59, .aload_n 0, 1, 0, 0, 0, 0), (60, .getfield 25, 3, 226, 3, 4, 0), (63, .ifCond .eq 30, 3, 93, 0, 0, 0), (66, .aload_n 0, 1, 0, 0, 0, 0), (67, .getfield 28, 3, 227, 3, 5, 0), (70, .ifCond .ne 23, 3, 93, 0, 0, 0), (73, .aload_n 0, 1, 0, 0, 0, 0), (74, .invokevirtual 60, 3, 536, 28, 0, 0), (77, .aload_n 3, 1, 0, 0, 0, 0), (78, .dup, 1, 0, 0, 0, 0), (79, .getfield 63, 3, 139, 6, 0, 0), (82, .iconst 1, 1, 0, 0, 0, 0), (83, .iadd, 1, 0, 0, 0, 0), (84, .putfield 63, 3, 139, 6, 0, 0), (87, .iinc 4 1, 3, 0, 0, 0, 0), (90, .goto (-39), 3, 51, 0, 0, 0), (93, .aload_n 0, 1, 0, 0, 0, 0), (94, .getfield 28, 3, 227, 3, 5, 0), (97, .ireturn, 1, 0, 0, 0, 0)]
def T28 : List CE := [(0, .aload_n 0, 1, 0, 0, 0, 0), (1, .ldc 66, 2, 540, 0, 0, 1), (3, .invokevirtual 68, 3, 541, 37, 1, 0), (6, .ifCond .eq 10, 3, 16, 0, 0, 0), (9, .aload_n 0, 1, 0, 0, 0, 0), (10, .invokevirtual 72, 3, 593, 29, 0, 0), (13, .goto 56, 3, 69, 0, 0, 0), (16, .aload_n 0, 1, 0, 0, 0, 0), (17, .ldc 75, 2, 609, 1, 0, 1), (19, .invokevirtual 68, 3, 541, 37, 1, 0), (22, .ifCond .eq 10, 3, 32, 0, 0, 0), (25, .aload_n 0, 1, 0, 0, 0, 0), (26, .invokevirtual 77, 3, 629, 30, 0, 0), (29, .goto 40, 3, 69, 0, 0, 0), (32, .aload_n 0, 1, 0, 0, 0, 0), (33, .ldc 80, 2, 610, 2, 0, 1), (35, .invokevirtual 68, 3, 541, 37, 1, 0), (38, .ifCond .eq 10, 3, 48, 0, 0, 0), (41, .aload_n 0, 1, 0, 0, 0, 0), (42, .invokevirtual 82, 3, 633, 31, 0, 0), (45, .goto 24, 3, 69, 0, 0, 0), (48, .aload_n 0, 1, 0, 0, 0, 0), (49, .ldc 85, 2, 611, 3, 0, 1), (51, .invokevirtual 68, 3, 541, 37, 1, 0), (54, .ifCond .eq 10, 3, 64, 0, 0, 0), (57, .aload_n 0, 1, 0, 0, 0, 0), (58, .invokevirtual 87, 3, 637, 32, 0, 0), (61, .goto 8, 3, 69, 0, 0, 0), (64, .aload_n 0, 1, 0, 0, 0, 0), (65, .iconst 1, 1, 0, 0, 0, 0), (66, .invokevirtual 90, 3, 597, 36, 1, 0), (69, .aload_n 0, 1, 0, 0, 0, 0), (70, .getfield 28, 3, 227, 3, 5, 0), (73, .ifCond .ne 18, 3, 91, 0, 0, 0), (76, .aload_n 0, 1, 0, 0, 0, 0), (77, .getfield 25, 3, 226, 3, 4, 0), (80, .iconst 3, 1, 0, 0, 0, 0), (81, .if_icmp .ne 10, 3, 91, 0, 0, 0), (84, .aload_n 0, 1, 0, 0, 0, 0), (85, .invokevirtual 57, 3, 524, 39, 0, 0), (88, .goto 8, 3, 96, 0, 0, 0), (91, .aload_n 0, 1, 0, 0, 0, 0), (92, .iconst 1, 1, 0, 0, 0, 0), (93, .invokevirtual 90, 3, 597, 36, 1, 0), (96, .return_, 1, 0, 0, 0, 0)]
def T29 : List CE := [(0, .aload_n 0, 1, 0, 0, 0, 0), (1, .getfield 38, 3, 229, 3, 7, 3), (4, .getfield 94, 3, 147, 6, 2, 0), (7, .bipush 12, 2, 0, 0, 0, 0), (9, .if_icmp .lt 9, 3, 18, 0, 0, 0), (12, .aload_n 0, 1, 0, 0, 0, 0), (13, .iconst 4, 1, 0, 0, 0, 0), (14, .invokevirtual 90, 3, 597, 36, 1, 0), (17, .return_, 1, 0, 0, 0, 0), (18, .aload_n 0, 1, 0, 0, 0, 0), (19, .invokevirtual 57, 3, 524, 39, 0, 0), (22, .aload_n 0, 1, 0, 0, 0, 0), (23, .invokevirtual 97, 3, 601, 33, 0, 0), (26, .aload_n 0, 1, 0, 0, 0, 0), (27, .getfield 38, 3, 229, 3, 7, 3), (30, .getfield 100, 3, 158, 6, 5, 3), (33, .aload_n 0, 1, 0, 0, 0, 0), (34, .getfield 38, 3, 229, 3, 7, 3), (37, .getfield 94, 3, 147, 6, 2, 0), (40, .aload_n 0, 1, 0, 0, 0, 0), (41, .ldc 103, 2, 612, 4, 0, 1), (43, .iconst 1, 1, 0, 0, 0, 0), (44, .sipush 9999, 3, 0, 0, 0, 0), (47, .invokevirtual 105, 3, 621, 34, 3, 0), (50, .iastore, 1, 0, 0, 0, 0), (51, .aload_n 0, 1, 0, 0, 0, 0), (52, .getfield 38, 3, 229, 3, 7, 3), (55, .getfield 109, 3, 162, 6, 6, 3), (58, .aload_n 0, 1, 0, 0, 0, 0), (59, .getfield 38, 3, 229, 3, 7, 3), (62, .getfield 94, 3, 147, 6, 2, 0), (65, .aload_n 0, 1, 0, 0, 0, 0), (66, .ldc 112, 2, 613, 5, 0, 1), (68, .iconst 0, 1, 0, 0, 0, 0), (69, .sipush 999, 3, 0, 0, 0, 0), (72, .invokevirtual 105, 3, 621, 34, 3, 0), (75, .iastore, 1, 0, 0, 0, 0), (76, .aload_n 0, 1, 0, 0, 0, 0), (77, .getfield 38, 3, 229, 3, 7, 3), (80, .dup, 1, 0, 0, 0, 0), (81, .getfield 94, 3, 147, 6, 2, 0), (84, .iconst 1, 1, 0, 0, 0, 0), (85, .iadd, 1, 0, 0, 0, 0), (86, .putfield 94, 3, 147, 6, 2, 0), (89, .return_, 1, 0, 0, 0, 0)]
def T30 : List CE := [(0, .aload_n 0, 1, 0, 0, 0, 0), (1, .getfield 38, 3, 229, 3, 7, 3), (4, .getfield 114, 3, 151, 6, 3, 0), (7, .iconst 3, 1, 0, 0, 0, 0), (8, .if_icmp .lt 9, 3, 17, 0, 0, 0), (11, .aload_n 0, 1, 0, 0, 0, 0), (12, .iconst 4, 1, 0, 0, 0, 0), (13, .invokevirtual 90, 3, 597, 36, 1, 0), (16, .return_, 1, 0, 0, 0, 0), (17, .aload_n 0, 1, 0, 0, 0, 0), (18, .invokevirtual 57, 3, 524, 39, 0, 0), (21, .aload_n 0, 1, 0, 0, 0, 0), (22, .invokevirtual 97, 3, 601, 33, 0, 0), (25, .aload_n 0, 1, 0, 0, 0, 0), (26, .getfield 38, 3, 229, 3, 7, 3), (29, .getfield 117, 3, 167, 6, 7, 3), (32, .aload_n 0, 1, 0, 0, 0, 0), (33, .getfield 38, 3, 229, 3, 7, 3), (36, .getfield 114, 3, 151, 6, 3, 0), (39, .aload_n 0, 1, 0, 0, 0, 0), (40, .ldc 120, 2, 614, 6, 0, 1), (42, .iconst 2, 1, 0, 0, 0, 0), (43, .bipush 12, 2, 0, 0, 0, 0), (45, .invokevirtual 105, 3, 621, 34, 3, 0), (48, .iastore, 1, 0, 0, 0, 0), (49, .aload_n 0, 1, 0, 0, 0, 0), (50, .getfield 38, 3, 229, 3, 7, 3), (53, .dup, 1, 0, 0, 0, 0), (54, .getfield 114, 3, 151, 6, 3, 0), (57, .iconst 1, 1, 0, 0, 0, 0), (58, .iadd, 1, 0, 0, 0, 0), (59, .putfield 114, 3, 151, 6, 3, 0), (62, .return_, 1, 0, 0, 0, 0)]
def T31 : List CE := [(0, .aload_n 0, 1, 0, 0, 0, 0), (1, .getfield 38, 3, 229, 3, 7, 3), (4, .getfield 121, 3, 155, 6, 4, 0), (7, .bipush 8, 2, 0, 0, 0, 0), (9, .if_icmp .lt 9, 3, 18, 0, 0, 0), (12, .aload_n 0, 1, 0, 0, 0, 0), (13, .iconst 4, 1, 0, 0, 0, 0), (14, .invokevirtual 90, 3, 597, 36, 1, 0), (17, .return_, 1, 0, 0, 0, 0), (18, .aload_n 0, 1, 0, 0, 0, 0), (19, .getfield 38, 3, 229, 3, 7, 3), (22, .getfield 121, 3, 155, 6, 4, 0), (25, .istore_n 1, 1, 0, 0, 0, 0), (26, .aload_n 0, 1, 0, 0, 0, 0), (27, .invokevirtual 57, 3, 524, 39, 0, 0), (30, .aload_n 0, 1, 0, 0, 0, 0), (31, .invokevirtual 97, 3, 601, 33, 0, 0), (34, .aload_n 0, 1, 0, 0, 0, 0), (35, .getfield 38, 3, 229, 3, 7, 3), (38, .getfield 124, 3, 172, 6, 8, 3), (41, .iload_n 1, 1, 0, 0, 0, 0), (42, .aload_n 0, 1, 0, 0, 0, 0), (43, .ldc 127, 2, 615, 7, 0, 1), (45, .iconst 1, 1, 0, 0, 0, 0), (46, .sipush 999, 3, 0, 0, 0, 0), (49, .invokevirtual 105, 3, 621, 34, 3, 0), (52, .iastore, 1, 0, 0, 0, 0), (53, .aload_n 0, 1, 0, 0, 0, 0), (54, .getfield 38, 3, 229, 3, 7, 3), (57, .getfield 128, 3, 176, 6, 9, 3), (60, .iload_n 1, 1, 0, 0, 0, 0), (61, .aload_n 0, 1, 0, 0, 0, 0), (62, .ldc 131, 2, 616, 8, 0, 1), (64, .iconst 0, 1, 0, 0, 0, 0), (65, .sipush 999, 3, 0, 0, 0, 0), (68, .invokevirtual 105, 3, 621, 34, 3, 0), (71, .iastore, 1, 0, 0, 0, 0), (72, .aload_n 0, 1, 0, 0, 0, 0), (73, .getfield 38, 3, 229, 3, 7, 3), (76, .getfield 133, 3, 179, 6, 10, 3), (79, .iload_n 1, 1, 0, 0, 0, 0), (80, .aload_n 0, 1, 0, 0, 0, 0), (81, .ldc 136, 2, 617, 9, 0, 1), (83, .aload_n 0, 1, 0, 0, 0, 0), (84, .getfield 38, 3, 229, 3, 7, 3), (87, .getfield 128, 3, 176, 6, 9, 3), (90, .iload_n 1, 1, 0, 0, 0, 0), (91, .iaload, 1, 0, 0, 0, 0), (92, .sipush 999, 3, 0, 0, 0, 0), (95, .invokevirtual 105, 3, 621, 34, 3, 0), (98, .iastore, 1, 0, 0, 0, 0), (99, .aload_n 0, 1, 0, 0, 0, 0), (100, .getfield 38, 3, 229, 3, 7, 3), (103, .getfield 138, 3, 183, 6, 11, 3), (106, .iload_n 1, 1, 0, 0, 0, 0), (107, .aload_n 0, 1, 0, 0, 0, 0), (108, .ldc 141, 2, 618, 10, 0, 1), (110, .iconst 1, 1, 0, 0, 0, 0), (111, .bipush 99, 2, 0, 0, 0, 0), (113, .invokevirtual 105, 3, 621, 34, 3, 0), (116, .iastore, 1, 0, 0, 0, 0), (117, .aload_n 0, 1, 0, 0, 0, 0), (118, .getfield 38, 3, 229, 3, 7, 3), (121, .getfield 142, 3, 187, 6, 12, 3), (124, .iload_n 1, 1, 0, 0, 0, 0), (125, .aload_n 0, 1, 0, 0, 0, 0), (126, .ldc 145, 2, 619, 11, 0, 1), (128, .iconst 1, 1, 0, 0, 0, 0), (129, .bipush 20, 2, 0, 0, 0, 0), (131, .invokevirtual 105, 3, 621, 34, 3, 0), (134, .iastore, 1, 0, 0, 0, 0), (135, .aload_n 0, 1, 0, 0, 0, 0), (136, .getfield 38, 3, 229, 3, 7, 3), (139, .getfield 146, 3, 191, 6, 13, 3), (142, .iload_n 1, 1, 0, 0, 0, 0), (143, .aload_n 0, 1, 0, 0, 0, 0), (144, .ldc 149, 2, 620, 12, 0, 1), (146, .invokevirtual 68, 3, 541, 37, 1, 0), (149, .ifCond .eq 16, 3, 165, 0, 0, 0), (152, .aload_n 0, 1, 0, 0, 0, 0), (153, .ldc 149, 2, 620, 12, 0, 1), (155, .iconst 0, 1, 0, 0, 0, 0), (156, .sipush 999, 3, 0, 0, 0, 0), (159, .invokevirtual 105, 3, 621, 34, 3, 0), (162, .goto 4, 3, 166, 0, 0, 0), (165, .iconst 0, 1, 0, 0, 0, 0), (166, .iastore, 1, 0, 0, 0, 0), (167, .aload_n 0, 1, 0, 0, 0, 0), (168, .getfield 38, 3, 229, 3, 7, 3), (171, .dup, 1, 0, 0, 0, 0), (172, .getfield 121, 3, 155, 6, 4, 0), (175, .iconst 1, 1, 0, 0, 0, 0), (176, .iadd, 1, 0, 0, 0, 0), (177, .putfield 121, 3, 155, 6, 4, 0), (180, .return_, 1, 0, 0, 0, 0)]
def T32 : List CE := [(0, .aload_n 0, 1, 0, 0, 0, 0), (1, .getfield 31, 3, 228, 3, 6, 2), (4, .ifCond .eq 9, 3, 13, 0, 0, 0), (7, .aload_n 0, 1, 0, 0, 0, 0), (8, .iconst 2, 1, 0, 0, 0, 0), (9, .invokevirtual 90, 3, 597, 36, 1, 0), (12, .return_, 1, 0, 0, 0, 0), (13, .aload_n 0, 1, 0, 0, 0, 0), (14, .iconst 1, 1, 0, 0, 0, 0), (15, .putfield 31, 3, 228, 3, 6, 2), (18, .aload_n 0, 1, 0, 0, 0, 0), (19, .getfield 38, 3, 229, 3, 7, 3), (22, .aload_n 0, 1, 0, 0, 0, 0), (23, .ldc 85, 2, 611, 3, 0, 1), (25, .iconst 0, 1, 0, 0, 0, 0), (26, .iconst 3, 1, 0, 0, 0, 0), (27, .invokevirtual 105, 3, 621, 34, 3, 0), (30, .putfield 150, 3, 143, 6, 1, 0), (33, .return_, 1, 0, 0, 0, 0)]
def T33 : List CE := [(0, .aload_n 0, 1, 0, 0, 0, 0), (1, .getfield 28, 3, 227, 3, 5, 0), (4, .ifCond .eq 4, 3, 8, 0, 0, 0), (7, .return_, 1, 0, 0, 0, 0), (8, .aload_n 0, 1, 0, 0, 0, 0), (9, .getfield 25, 3, 226, 3, 4, 0), (12, .iconst 1, 1, 0, 0, 0, 0), (13, .if_icmp .ne 24, 3, 37, 0, 0, 0), (16, .aload_n 0, 1, 0, 0, 0, 0), (17, .getfield 22, 3, 225, 3, 3, 0), (20, .aload_n 0, 1, 0, 0, 0, 0), (21, .getfield 19, 3, 224, 3, 2, 0), (24, .isub, 1, 0, 0, 0, 0), (25, .bipush 6, 2, 0, 0, 0, 0), (27, .if_icmp .gt 10, 3, 37, 0, 0, 0), (30, .aload_n 0, 1, 0, 0, 0, 0), (31, .invokevirtual 152, 3, 605, 38, 0, 0), (34, .ifCond .eq 9, 3, 43, 0, 0, 0), (37, .aload_n 0, 1, 0, 0, 0, 0), (38, .iconst 1, 1, 0, 0, 0, 0), (39, .invokevirtual 90, 3, 597, 36, 1, 0), (42, .return_, 1, 0, 0, 0, 0), (43, .iconst 0, 1, 0, 0, 0, 0), (44, .istore_n 1, 1, 0, 0, 0, 0), (45, .aload_n 0, 1, 0, 0, 0, 0), (46, .getfield 19, 3, 224, 3, 2, 0), (49, .istore_n 2, 1, 0, 0, 0, 0), (50, .iload_n 2, 1, 0, 0, 0, 0), (51, .aload_n 0, 1, 0, 0, 0, 0), (52, .getfield 22, 3, 225, 3, 3, 0), (55, .if_icmp .ge 26, 3, 81, 0, 0, 0), (58, .iload_n 1, 1, 0, 0, 0, 0), (59, .bipush 27, 2, 0, 0, 0, 0), (61, .imul, 1, 0, 0, 0, 0), (62, .aload_n 0, 1, 0, 0, 0, 0), (63, .getfield 9, 3, 222, 3, 0, 3), (66, .iload_n 2, 1, 0, 0, 0, 0), (67, .iaload, 1, 0, 0, 0, 0), (68, .iadd, 1, 0, 0, 0, 0), (69, .bipush 97, 2, 0, 0, 0, 0), (71, .isub, 1, 0, 0, 0, 0), (72, .iconst 1, 1, 0, 0, 0, 0), (73, .iadd, 1, 0, 0, 0, 0), (74, .istore_n 1, 1, 0, 0, 0, 0), (75, .iinc 2 1, 3, 0, 0, 0, 0), (78, .goto (-28), 3, 50, 0, 0, 0), (81, .iconst 0, 1, 0, 0, 0, 0), (82, .istore_n 2, 1, 0, 0, 0, 0), (83, .iload_n 2, 1, 0, 0, 0, 0), (84, .aload_n 0, 1, 0, 0, 0, 0), (85, .getfield 45, 3, 231, 3, 9, 0), (88, .if_icmp .ge 25, 3, 113, 0, 0, 0), (91, .aload_n 0, 1, 0, 0, 0, 0), (92, .getfield 42, 3, 230, 3, 8, 3), (95, .iload_n 2, 1, 0, 0, 0, 0), (96, .iaload, 1, 0, 0, 0, 0), (97, .iload_n 1, 1, 0, 0, 0, 0), (98, .if_icmp .ne 9, 3, 107, 0, 0, 0), (101, .aload_n 0, 1, 0, 0, 0, 0), (102, .iconst 2, 1, 0, 0, 0, 0), (103, .invokevirtual 90, 3, 597, 36, 1, 0), (106, .return_, 1, 0, 0, 0, 0), (107, .iinc 2 1, 3, 0, 0, 0, 0), (110, .goto (-27), 3, 83, 0, 0, 0), (113, .aload_n 0, 1, 0, 0, 0, 0), (114, .getfield 45, 3, 231, 3, 9, 0), (117, .aload_n 0, 1, 0, 0, 0, 0), (118, .getfield 42, 3, 230, 3, 8, 3), (121, .arraylength, 1, 0, 0, 0, 0), (122, .if_icmp .ge 23, 3, 145, 0, 0, 0), (125, .aload_n 0, 1, 0, 0, 0, 0), (126, .getfield 42, 3, 230, 3, 8, 3), (129, .aload_n 0, 1, 0, 0, 0, 0), (130, .getfield 45, 3, 231, 3, 9, 0), (133, .iload_n 1, 1, 0, 0, 0, 0), (134, .iastore, 1, 0, 0, 0, 0), (135, .aload_n 0, 1, 0, 0, 0, 0), (136, .dup, 1, 0, 0, 0, 0), (137, .getfield 45, 3, 231, 3, 9, 0), (140, .iconst 1, 1, 0, 0, 0, 0), (141, .iadd, 1, 0, 0, 0, 0), (142, .putfield 45, 3, 231, 3, 9, 0), (145, .aload_n 0, 1, 0, 0, 0, 0), (146, .invokevirtual 57, 3, 524, 39, 0, 0), (149, .return_, 1, 0, 0, 0, 0)]
def T34 : List CE := [(0, .aload_n 0, 1, 0, 0, 0, 0), (1, .getfield 28, 3, 227, 3, 5, 0), (4, .ifCond .ne 16, 3, 20, 0, 0, 0), (7, .aload_n 0, 1, 0, 0, 0, 0), (8, .aload_n 1, 1, 0, 0, 0, 0), (9, .invokevirtual 68, 3, 541, 37, 1, 0), (12, .ifCond .ne 8, 3, 20, 0, 0, 0), (15, .aload_n 0, 1, 0, 0, 0, 0), (16, .iconst 1, 1, 0, 0, 0, 0), (17, .invokevirtual 90, 3, 597, 36, 1, 0), (20, .aload_n 0, 1, 0, 0, 0, 0), (21, .getfield 28, 3, 227, 3, 5, 0), (24, .ifCond .eq 5, 3, 29, 0, 0, 0), (27, .iconst (-1), 1, 0, 0, 0, 0), (28, .ireturn, 1, 0, 0, 0, 0), (29, .aload_n 0, 1, 0, 0, 0, 0), (30, .invokevirtual 57, 3, 524, 39, 0, 0), (33, .aload_n 0, 1, 0, 0, 0, 0), (34, .getfield 25, 3, 226, 3, 4, 0), (37, .iconst 2, 1, 0, 0, 0, 0), (38, .if_icmp .eq 10, 3, 48, 0, 0, 0), (41, .aload_n 0, 1, 0, 0, 0, 0), (42, .iconst 1, 1, 0, 0, 0, 0), (43, .invokevirtual 90, 3, 597, 36, 1, 0), (46, .iconst (-1), 1, 0, 0, 0, 0), (47, .ireturn, 1, 0, 0, 0, 0), (48, .aload_n 0, 1, 0, 0, 0, 0), (49, .getfield 22, 3, 225, 3, 3, 0), (52, .aload_n 0, 1, 0, 0, 0, 0), (53, .getfield 19, 3, 224, 3, 2, 0), (56, .isub, 1, 0, 0, 0, 0), (57, .iconst 4, 1, 0, 0, 0, 0), (58, .if_icmp .le 7, 3, 65, 0, 0, 0), (61, .iconst (-1), 1, 0, 0, 0, 0), (62, .goto 7, 3, 69, 0, 0, 0), (65, .aload_n 0, 1, 0, 0, 0, 0), (66, .invokevirtual 156, 3, 625, 35, 0, 0), (69, .istore 4, 2, 0, 0, 0, 0), (71, .iload 4, 2, 0, 0, 0, 0), (73, .iload_n 2, 1, 0, 0, 0, 0), (74, .if_icmp .lt 9, 3, 83, 0, 0, 0), (77, .iload 4, 2, 0, 0, 0, 0), (79, .iload_n 3, 1, 0, 0, 0, 0), (80, .if_icmp .le 10, 3, 90, 0, 0, 0), (83, .aload_n 0, 1, 0, 0, 0, 0), (84, .iconst 3, 1, 0, 0, 0, 0), (85, .invokevirtual 90, 3, 597, 36, 1, 0), (88, .iconst (-1), 1, 0, 0, 0, 0), (89, .ireturn, 1, 0, 0, 0, 0), (90, .aload_n 0, 1, 0, 0, 0, 0), (91, .invokevirtual 57, 3, 524, 39, 0, 0), (94, .iload 4, 2, 0, 0, 0, 0), (96, .ireturn, 1, 0, 0, 0, 0)]
def T35 : List CE := [(0, .iconst 0, 1, 0, 0, 0, 0), (1, .istore_n 1, 1, 0, 0, 0, 0), (2, .aload_n 0, 1, 0, 0, 0, 0), (3, .getfield 19, 3, 224, 3, 2, 0), (6, .istore_n 2, 1, 0, 0, 0, 0), (7, .iload_n 2, 1, 0, 0, 0, 0), (8, .aload_n 0, 1, 0, 0, 0, 0), (9, .getfield 22, 3, 225, 3, 3, 0), (12, .if_icmp .ge 24, 3, 36, 0, 0, 0), (15, .iload_n 1, 1, 0, 0, 0, 0), (16, .bipush 10, 2, 0, 0, 0, 0), (18, .imul, 1, 0, 0, 0, 0), (19, .aload_n 0, 1, 0, 0, 0, 0), (20, .getfield 9, 3, 222, 3, 0, 3), (23, .iload_n 2, 1, 0, 0, 0, 0), (24, .iaload, 1, 0, 0, 0, 0), (25, .iadd, 1, 0, 0, 0, 0), (26, .bipush 48, 2, 0, 0, 0, 0), (28, .isub, 1, 0, 0, 0, 0), (29, .istore_n 1, 1, 0, 0, 0, 0), (30, .iinc 2 1, 3, 0, 0, 0, 0), (33, .goto (-26), 3, 7, 0, 0, 0), (36, .iload_n 1, 1, 0, 0, 0, 0), (37, .ireturn, 1, 0, 0, 0, 0)]
def T36 : List CE := [(0, .aload_n 0, 1, 0, 0, 0, 0), (1, .getfield 28, 3, 227, 3, 5, 0), (4, .ifCond .ne 16, 3, 20, 0, 0, 0), (7, .aload_n 0, 1, 0, 0, 0, 0), (8, .bipush 8, 2, 0, 0, 0, 0), (10, .aload_n 0, 1, 0, 0, 0, 0), (11, .getfield 19, 3, 224, 3, 2, 0), (14, .imul, 1, 0, 0, 0, 0), (15, .iload_n 1, 1, 0, 0, 0, 0), (16, .iadd, 1, 0, 0, 0, 0), (17, .putfield 28, 3, 227, 3, 5, 0), (20, .return_, 1, 0, 0, 0, 0)]
def T37 : List CE := [(0, .aload_n 0, 1, 0, 0, 0, 0), (1, .getfield 25, 3, 226, 3, 4, 0), (4, .iconst 1, 1, 0, 0, 0, 0), (5, .if_icmp .ne 19, 3, 24, 0, 0, 0), (8, .aload_n 0, 1, 0, 0, 0, 0), (9, .getfield 22, 3, 225, 3, 3, 0), (12, .aload_n 0, 1, 0, 0, 0, 0), (13, .getfield 19, 3, 224, 3, 2, 0), (16, .isub, 1, 0, 0, 0, 0), (17, .aload_n 1, 1, 0, 0, 0, 0), (18, .invokevirtual 160, 3, 545, 0, 0, 17), (21, .if_icmp .eq 5, 3, 26, 0, 0, 0), (24, .iconst 0, 1, 0, 0, 0, 0), (25, .ireturn, 1, 0, 0, 0, 0), (26, .iconst 0, 1, 0, 0, 0, 0), (27, .istore_n 2, 1, 0, 0, 0, 0), (28, .iload_n 2, 1, 0, 0, 0, 0), (29, .aload_n 1, 1, 0, 0, 0, 0), (30, .invokevirtual 160, 3, 545, 0, 0, 17), (33, .if_icmp .ge 30, 3, 63, 0, 0, 0), (36, .aload_n 0, 1, 0, 0, 0, 0), (37, .getfield 9, 3, 222, 3, 0, 3), (40, .aload_n 0, 1, 0, 0, 0, 0), (41, .getfield 19, 3, 224, 3, 2, 0), (44, .iload_n 2, 1, 0, 0, 0, 0), (45, .iadd, 1, 0, 0, 0, 0), (46, .iaload, 1, 0, 0, 0, 0), (47, .aload_n 1, 1, 0, 0, 0, 0), (48, .iload_n 2, 1, 0, 0, 0, 0), (49, .invokevirtual 164, 3, 555, 0, 1, 18), (52, .if_icmp .eq 5, 3, 57, 0, 0, 0), (55, .iconst 0, 1, 0, 0, 0, 0), (56, .ireturn, 1, 0, 0, 0, 0), (57, .iinc 2 1, 3, 0, 0, 0, 0), (60, .goto (-32), 3, 28, 0, 0, 0), (63, .iconst 1, 1, 0, 0, 0, 0), (64, .ireturn, 1, 0, 0, 0, 0)]
def T38 : List CE := [(0, .aload_n 0, 1, 0, 0, 0, 0), (1, .ldc 66, 2, 540, 0, 0, 1), (3, .invokevirtual 68, 3, 541, 37, 1, 0), (6, .ifCond .ne 111, 3, 117, 0, 0, 0), (9, .aload_n 0, 1, 0, 0, 0, 0), (10, .ldc 75, 2, 609, 1, 0, 1), (12, .invokevirtual 68, 3, 541, 37, 1, 0), (15, .ifCond .ne 102, 3, 117, 0, 0, 0), (18, .aload_n 0, 1, 0, 0, 0, 0), (19, .ldc 80, 2, 610, 2, 0, 1), (21, .invokevirtual 68, 3, 541, 37, 1, 0), (24, .ifCond .ne 93, 3, 117, 0, 0, 0), (27, .aload_n 0, 1, 0, 0, 0, 0), (28, .ldc 85, 2, 611, 3, 0, 1), (30, .invokevirtual 68, 3, 541, 37, 1, 0), (33, .ifCond .ne 84, 3, 117, 0, 0, 0), (36, .aload_n 0, 1, 0, 0, 0, 0), (37, .ldc 103, 2, 612, 4, 0, 1), (39, .invokevirtual 68, 3, 541, 37, 1, 0), (42, .ifCond .ne 75, 3, 117, 0, 0, 0), (45, .aload_n 0, 1, 0, 0, 0, 0), (46, .ldc 112, 2, 613, 5, 0, 1), (48, .invokevirtual 68, 3, 541, 37, 1, 0), (51, .ifCond .ne 66, 3, 117, 0, 0, 0), (54, .aload_n 0, 1, 0, 0, 0, 0), (55, .ldc 120, 2, 614, 6, 0, 1), (57, .invokevirtual 68, 3, 541, 37, 1, 0), (60, .ifCond .ne 57, 3, 117, 0, 0, 0), (63, .aload_n 0, 1, 0, 0, 0, 0), (64, .ldc 127, 2, 615, 7, 0, 1), (66, .invokevirtual 68, 3, 541, 37, 1, 0), (69, .ifCond .ne 48, 3, 117, 0, 0, 0), (72, .aload_n 0, 1, 0, 0, 0, 0), (73, .ldc 131, 2, 616, 8, 0, 1), (75, .invokevirtual 68, 3, 541, 37, 1, 0), (78, .ifCond .ne 39, 3, 117, 0, 0, 0), (81, .aload_n 0, 1, 0, 0, 0, 0), (82, .ldc 136, 2, 617, 9, 0, 1), (84, .invokevirtual 68, 3, 541, 37, 1, 0), (87, .ifCond .ne 30, 3, 117, 0, 0, 0), (90, .aload_n 0, 1, 0, 0, 0, 0), (91, .ldc 141, 2, 618, 10, 0, 1), (93, .invokevirtual 68, 3, 541, 37, 1, 0), (96, .ifCond .ne 21, 3, 117, 0, 0, 0), (99, .aload_n 0, 1, 0, 0, 0, 0), (100, .ldc 145, 2, 619, 11, 0, 1), (102, .invokevirtual 68, 3, 541, 37, 1, 0), (105, .ifCond .ne 12, 3, 117, 0, 0, 0), (108, .aload_n 0, 1, 0, 0, 0, 0), (109, .ldc 149, 2, 620, 12, 0, 1), (111, .invokevirtual 68, 3, 541, 37, 1, 0), (114, .ifCond .eq 7, 3, 121, 0, 0, 0), (117, .iconst 1, 1, 0, 0, 0, 0), (118, .goto 4, 3, 122, 0, 0, 0), (121, .iconst 0, 1, 0, 0, 0, 0), (122, .ireturn, 1, 0, 0, 0, 0)]
def T39 : List CE := [(0, .aload_n 0, 1, 0, 0, 0, 0), (1, .aload_n 0, 1, 0, 0, 0, 0), (2, .getfield 22, 3, 225, 3, 3, 0), (5, .putfield 19, 3, 224, 3, 2, 0), (8, .aload_n 0, 1, 0, 0, 0, 0), (9, .getfield 19, 3, 224, 3, 2, 0), (12, .aload_n 0, 1, 0, 0, 0, 0), (13, .getfield 15, 3, 223, 3, 1, 0), (16, .if_icmp .ge 44, 3, 60, 0, 0, 0), (19, .aload_n 0, 1, 0, 0, 0, 0), (20, .getfield 9, 3, 222, 3, 0, 3), (23, .aload_n 0, 1, 0, 0, 0, 0), (24, .getfield 19, 3, 224, 3, 2, 0), (27, .iaload, 1, 0, 0, 0, 0), (28, .bipush 32, 2, 0, 0, 0, 0), (30, .if_icmp .eq 17, 3, 47, 0, 0, 0), (33, .aload_n 0, 1, 0, 0, 0, 0), (34, .getfield 9, 3, 222, 3, 0, 3), (37, .aload_n 0, 1, 0, 0, 0, 0), (38, .getfield 19, 3, 224, 3, 2, 0), (41, .iaload, 1, 0, 0, 0, 0), (42, .bipush 10, 2, 0, 0, 0, 0), (44, .if_icmp .ne 16, 3, 60, 0, 0, 0), (47, .aload_n 0, 1, 0, 0, 0, 0), (48, .dup, 1, 0, 0, 0, 0), (49, .getfield 19, 3, 224, 3, 2, 0), (52, .iconst 1, 1, 0, 0, 0, 0), (53, .iadd, 1, 0, 0, 0, 0), (54, .putfield 19, 3, 224, 3, 2, 0), (57, .goto (-49), 3, 8, 0, 0, 0), (60, .aload_n 0, 1, 0, 0, 0, 0), (61, .aload_n 0, 1, 0, 0, 0, 0), (62, .getfield 19, 3, 224, 3, 2, 0), (65, .putfield 22, 3, 225, 3, 3, 0), (68, .aload_n 0, 1, 0, 0, 0, 0), (69, .getfield 19, 3, 224, 3, 2, 0), (72, .aload_n 0, 1, 0, 0, 0, 0), (73, .getfield 15, 3, 223, 3, 1, 0), (76, .if_icmp .lt 11, 3, 87, 0, 0, 0), (79, .aload_n 0, 1, 0, 0, 0, 0), (80, .iconst 0, 1, 0, 0, 0, 0), (81, .putfield 25, 3, 226, 3, 4, 0), (84, .goto 138, 3, 222, 0, 0, 0), (87, .aload_n 0, 1, 0, 0, 0, 0), (88, .aload_n 0, 1, 0, 0, 0, 0), (89, .getfield 19, 3, 224, 3, 2, 0), (92, .invokevirtual 168, 3, 528, 40, 1, 0), (95, .ifCond .eq 43, 3, 138, 0, 0, 0), (98, .aload_n 0, 1, 0, 0, 0, 0), (99, .iconst 1, 1, 0, 0, 0, 0), (100, .putfield 25, 3, 226, 3, 4, 0), (103, .aload_n 0, 1, 0, 0, 0, 0), (104, .getfield 22, 3, 225, 3, 3, 0), (107, .aload_n 0, 1, 0, 0, 0, 0), (108, .getfield 15, 3, 223, 3, 1, 0), (111, .if_icmp .ge 111, 3, 222, 0, 0, 0), (114, .aload_n 0, 1, 0, 0, 0, 0), (115, .aload_n 0, 1, 0, 0, 0, 0), (116, .getfield 22, 3, 225, 3, 3, 0), (119, .invokevirtual 168, 3, 528, 40, 1, 0), (122, .ifCond .eq 100, 3, 222, 0, 0, 0), (125, .aload_n 0, 1, 0, 0, 0, 0), (126, .dup, 1, 0, 0, 0, 0), (127, .getfield 22, 3, 225, 3, 3, 0), (130, .iconst 1, 1, 0, 0, 0, 0), (131, .iadd, 1, 0, 0, 0, 0), (132, .putfield 22, 3, 225, 3, 3, 0), (135, .goto (-32), 3, 103, 0, 0, 0), (138, .aload_n 0, 1, 0, 0, 0, 0), (139, .aload_n 0, 1, 0, 0, 0, 0), (140, .getfield 19, 3, 224, 3, 2, 0), (143, .invokevirtual 172, 3, 532, 41, 1, 0), (146, .ifCond .eq 43, 3, 189, 0, 0, 0), (149, .aload_n 0, 1, 0, 0, 0, 0), (150, .iconst 2, 1, 0, 0, 0, 0), (151, .putfield 25, 3, 226, 3, 4, 0), (154, .aload_n 0, 1, 0, 0, 0, 0), (155, .getfield 22, 3, 225, 3, 3, 0), (158, .aload_n 0, 1, 0, 0, 0, 0), (159, .getfield 15, 3, 223, 3, 1, 0), (162, .if_icmp .ge 60, 3, 222, 0, 0, 0), (165, .aload_n 0, 1, 0, 0, 0, 0), (166, .aload_n 0, 1, 0, 0, 0, 0), (167, .getfield 22, 3, 225, 3, 3, 0), (170, .invokevirtual 172, 3, 532, 41, 1, 0), (173, .ifCond .eq 49, 3, 222, 0, 0, 0), (176, .aload_n 0, 1, 0, 0, 0, 0), (177, .dup, 1, 0, 0, 0, 0), (178, .getfield 22, 3, 225, 3, 3, 0), (181, .iconst 1, 1, 0, 0, 0, 0), (182, .iadd, 1, 0, 0, 0, 0), (183, .putfield 22, 3, 225, 3, 3, 0), (186, .goto (-32), 3, 154, 0, 0, 0), (189, .aload_n 0, 1, 0, 0, 0, 0), (190, .aload_n 0, 1, 0, 0, 0, 0), (191, .getfield 9, 3, 222, 3, 0, 3), (194, .aload_n 0, 1, 0, 0, 0, 0), (195, .getfield 19, 3, 224, 3, 2, 0), (198, .iaload, 1, 0, 0, 0, 0), (199, .bipush 59, 2, 0, 0, 0, 0), (201, .if_icmp .ne 7, 3, 208, 0, 0, 0), (204, .iconst 3, 1, 0, 0, 0, 0), (205, .goto 4, 3, 209, 0, 0, 0), (208, .iconst 4, 1, 0, 0, 0, 0), (209, .putfield 25, 3, 226, 3, 4, 0), (212, .aload_n 0, 1, 0, 0, 0, 0), (213, .dup, 1, 0, 0, 0, 0), (214, .getfield 22, 3, 225, 3, 3, 0), (217, .iconst 1, 1, 0, 0, 0, 0), (218, .iadd, 1, 0, 0, 0, 0), (219, .putfield 22, 3, 225, 3, 3, 0), (222, .return_, 1, 0, 0, 0, 0)]
def T40 : List CE := [(0, .aload_n 0, 1, 0, 0, 0, 0), (1, .getfield 9, 3, 222, 3, 0, 3), (4, .iload_n 1, 1, 0, 0, 0, 0), (5, .iaload, 1, 0, 0, 0, 0), (6, .bipush 97, 2, 0, 0, 0, 0), (8, .if_icmp .lt 18, 3, 26, 0, 0, 0), (11, .aload_n 0, 1, 0, 0, 0, 0), (12, .getfield 9, 3, 222, 3, 0, 3), (15, .iload_n 1, 1, 0, 0, 0, 0), (16, .iaload, 1, 0, 0, 0, 0), (17, .bipush 122, 2, 0, 0, 0, 0), (19, .if_icmp .gt 7, 3, 26, 0, 0, 0), (22, .iconst 1, 1, 0, 0, 0, 0), (23, .goto 4, 3, 27, 0, 0, 0), (26, .iconst 0, 1, 0, 0, 0, 0), (27, .ireturn, 1, 0, 0, 0, 0)]
def T41 : List CE := [(0, .aload_n 0, 1, 0, 0, 0, 0), (1, .getfield 9, 3, 222, 3, 0, 3), (4, .iload_n 1, 1, 0, 0, 0, 0), (5, .iaload, 1, 0, 0, 0, 0), (6, .bipush 48, 2, 0, 0, 0, 0), (8, .if_icmp .lt 18, 3, 26, 0, 0, 0), (11, .aload_n 0, 1, 0, 0, 0, 0), (12, .getfield 9, 3, 222, 3, 0, 3), (15, .iload_n 1, 1, 0, 0, 0, 0), (16, .iaload, 1, 0, 0, 0, 0), (17, .bipush 57, 2, 0, 0, 0, 0), (19, .if_icmp .gt 7, 3, 26, 0, 0, 0), (22, .iconst 1, 1, 0, 0, 0, 0), (23, .goto 4, 3, 27, 0, 0, 0), (26, .iconst 0, 1, 0, 0, 0, 0), (27, .ireturn, 1, 0, 0, 0, 0)]
def T42 : List CE := [(0, .aload_n 0, 1, 0, 0, 0, 0), (1, .invokespecial 3, 3, 426, 0, 0, 16), (4, .aload_n 0, 1, 0, 0, 0, 0), (5, .iconst 0, 1, 0, 0, 0, 0), (6, .putfield 9, 3, 427, 4, 0, 0), (9, .aload_n 0, 1, 0, 0, 0, 0), (10, .iconst 0, 1, 0, 0, 0, 0), (11, .putfield 15, 3, 429, 4, 1, 0), (14, .aload_n 0, 1, 0, 0, 0, 0), (15, .iconst 0, 1, 0, 0, 0, 0), (16, .putfield 18, 3, 431, 4, 2, 0), (19, .aload_n 0, 1, 0, 0, 0, 0), (20, .bipush 12, 2, 0, 0, 0, 0), (22, .newarray .int, 2, 0, 0, 0, 0), (24, .putfield 21, 3, 433, 4, 3, 3), (27, .aload_n 0, 1, 0, 0, 0, 0), (28, .bipush 12, 2, 0, 0, 0, 0), (30, .newarray .int, 2, 0, 0, 0, 0), (32, .putfield 25, 3, 434, 4, 4, 3), (35, .aload_n 0, 1, 0, 0, 0, 0), (36, .bipush 12, 2, 0, 0, 0, 0), (38, .newarray .int, 2, 0, 0, 0, 0), (40, .putfield 28, 3, 435, 4, 5, 3), (43, .aload_n 0, 1, 0, 0, 0, 0), (44, .iconst (-1), 1, 0, 0, 0, 0), (45, .putfield 31, 3, 436, 4, 6, 0), (48, .aload_n 0, 1, 0, 0, 0, 0), (49, .iconst 0, 1, 0, 0, 0, 0), (50, .putfield 34, 3, 437, 4, 7, 0), (53, .aload_n 0, 1, 0, 0, 0, 0), (54, .iconst 0, 1, 0, 0, 0, 0), (55, .putfield 37, 3, 438, 4, 8, 0), (58, .return_, 1, 0, 0, 0, 0)]
def T43 : List CE := [(0, .aload_n 0, 1, 0, 0, 0, 0), (1, .iconst 0, 1, 0, 0, 0, 0), (2, .putfield 15, 3, 429, 4, 1, 0), (5, .aload_n 0, 1, 0, 0, 0, 0), (6, .aload_n 2, 1, 0, 0, 0, 0), (7, .iconst 1, 1, 0, 0, 0, 0), (8, .invokevirtual 40, 3, 1027, 52, 1, 0), (11, .iload 4, 2, 0, 0, 0, 0), (13, .if_icmp .ne 11, 3, 24, 0, 0, 0), (16, .aload_n 2, 1, 0, 0, 0, 0), (17, .iconst 1, 1, 0, 0, 0, 0), (18, .invokevirtual 46, 3, 1028, 53, 1, 0), (21, .goto 4, 3, 25, 0, 0, 0), (24, .iconst (-1), 1, 0, 0, 0, 0), (25, .putfield 31, 3, 436, 4, 6, 0), (28, .aload_n 0, 1, 0, 0, 0, 0), (29, .aload_n 2, 1, 0, 0, 0, 0), (30, .getfield 49, 3, 279, 5, 6, 3), (33, .iload_n 3, 1, 0, 0, 0, 0), (34, .iaload, 1, 0, 0, 0, 0), (35, .putfield 34, 3, 437, 4, 7, 0), (38, .aload_n 0, 1, 0, 0, 0, 0), (39, .aload_n 2, 1, 0, 0, 0, 0), (40, .getfield 51, 3, 282, 5, 7, 3), (43, .iload_n 3, 1, 0, 0, 0, 0), (44, .iaload, 1, 0, 0, 0, 0), (45, .putfield 37, 3, 438, 4, 8, 0), (48, .aload_n 0, 1, 0, 0, 0, 0), (49, .aload_n 1, 1, 0, 0, 0, 0), (50, .aload_n 2, 1, 0, 0, 0, 0), (51, .iload 4, 2, 0, 0, 0, 0), (53, .invokevirtual 53, 3, 1029, 44, 3, 0), (56, .istore 5, 2, 0, 0, 0, 0), (58, .iconst 0, 1, 0, 0, 0, 0), (59, .istore 6, 2, 0, 0, 0, 0), (61, .iconst 1, 1, 0, 0, 0, 0), (62, .istore 7, 2, 0, 0, 0, 0), (64, .iload 7, 2, 0, 0, 0, 0), (66, .iconst 1, 1, 0, 0, 0, 0), (67, .iload 5, 2, 0, 0, 0, 0), (69, .ishl, 1, 0, 0, 0, 0), (70, .if_icmp .ge 127, 3, 197, 0, 0, 0), (73, .aload_n 0, 1, 0, 0, 0, 0), (74, .getfield 21, 3, 433, 4, 3, 3), (77, .iload 7, 2, 0, 0, 0, 0), (79, .invokestatic 57, 3, 1035, 238, 1, 1), (82, .iaload, 1, 0, 0, 0, 0), (83, .istore 8, 2, 0, 0, 0, 0), (85, .iload 6, 2, 0, 0, 0, 0), (87, .iconst 1, 1, 0, 0, 0, 0), (88, .iload 8, 2, 0, 0, 0, 0), (90, .ishl, 1, 0, 0, 0, 0), (91, .ixor, 1, 0, 0, 0, 0), (92, .istore 6, 2, 0, 0, 0, 0), (94, .iload 6, 2, 0, 0, 0, 0), (96, .iload 8, 2, 0, 0, 0, 0), (98, .ishr, 1, 0, 0, 0, 0), (99, .iconst 1, 1, 0, 0, 0, 0), (100, .iand, 1, 0, 0, 0, 0), (101, .iconst 1, 1, 0, 0, 0, 0), (102, .if_icmp .ne 7, 3, 109, 0, 0, 0), (105, .iconst 1, 1, 0, 0, 0, 0), (106, .goto 4, 3, 110, 0, 0, 0), (109, .iconst (-1), 1, 0, 0, 0, 0), (110, .istore 9, 2, 0, 0, 0, 0), (112, .aload_n 0, 1, 0, 0, 0, 0), (113, .dup, 1, 0, 0, 0, 0), (114, .getfield 34, 3, 437, 4, 7, 0), (117, .iload 9, 2, 0, 0, 0, 0), (119, .aload_n 0, 1, 0, 0, 0, 0), (120, .getfield 25, 3, 434, 4, 4, 3), (123, .iload 8, 2, 0, 0, 0, 0), (125, .iaload, 1, 0, 0, 0, 0), (126, .imul, 1, 0, 0, 0, 0), (127, .iadd, 1, 0, 0, 0, 0), (128, .putfield 34, 3, 437, 4, 7, 0), (131, .aload_n 0, 1, 0, 0, 0, 0), (132, .dup, 1, 0, 0, 0, 0), (133, .getfield 37, 3, 438, 4, 8, 0), (136, .iload 9, 2, 0, 0, 0, 0), (138, .aload_n 0, 1, 0, 0, 0, 0), (139, .getfield 28, 3, 435, 4, 5, 3), (142, .iload 8, 2, 0, 0, 0, 0), (144, .iaload, 1, 0, 0, 0, 0), (145, .imul, 1, 0, 0, 0, 0), (146, .iadd, 1, 0, 0, 0, 0), (147, .putfield 37, 3, 438, 4, 8, 0), (150, .aload_n 0, 1, 0, 0, 0, 0), (151, .getfield 34, 3, 437, 4, 7, 0), (154, .aload_n 1, 1, 0, 0, 0, 0), (155, .getfield 62, 3, 171, 6, 8, 3), (158, .iload_n 3, 1, 0, 0, 0, 0), (159, .iaload, 1, 0, 0, 0, 0), (160, .if_icmp .lt 31, 3, 191, 0, 0, 0), (163, .aload_n 1, 1, 0, 0, 0, 0), (164, .iload_n 3, 1, 0, 0, 0, 0), (165, .aload_n 0, 1, 0, 0, 0, 0), (166, .getfield 34, 3, 437, 4, 7, 0), (169, .aload_n 0, 1, 0, 0, 0, 0), (170, .getfield 37, 3, 438, 4, 8, 0), (173, .invokevirtual 67, 3, 1039, 74, 3, 0), (176, .ifCond .eq 15, 3, 191, 0, 0, 0), (179, .aload_n 0, 1, 0, 0, 0, 0), (180, .iload 6, 2, 0, 0, 0, 0), (182, .aload_n 1, 1, 0, 0, 0, 0), (183, .getfield 62, 3, 171, 6, 8, 3), (186, .iload_n 3, 1, 0, 0, 0, 0), (187, .iaload, 1, 0, 0, 0, 0), (188, .invokevirtual 71, 3, 1040, 45, 2, 0), (191, .iinc 7 1, 3, 0, 0, 0, 0), (194, .goto (-130), 3, 64, 0, 0, 0), (197, .aload_n 0, 1, 0, 0, 0, 0), (198, .getfield 15, 3, 429, 4, 1, 0), (201, .ifCond .eq 7, 3, 208, 0, 0, 0), (204, .iconst 1, 1, 0, 0, 0, 0), (205, .goto 4, 3, 209, 0, 0, 0), (208, .iconst 0, 1, 0, 0, 0, 0), (209, .ireturn, 1, 0, 0, 0, 0)]
def T44 : List CE := [(0, .iconst 0, 1, 0, 0, 0, 0), (1, .istore 4, 2, 0, 0, 0, 0), (3, .iconst 0, 1, 0, 0, 0, 0), (4, .istore 5, 2, 0, 0, 0, 0), (6, .iload 5, 2, 0, 0, 0, 0), (8, .aload_n 1, 1, 0, 0, 0, 0), (9, .getfield 75, 3, 166, 6, 7, 3), (12, .iload_n 3, 1, 0, 0, 0, 0), (13, .iaload, 1, 0, 0, 0, 0), (14, .if_icmp .ge 60, 3, 74, 0, 0, 0), (17, .aload_n 0, 1, 0, 0, 0, 0), (18, .getfield 25, 3, 434, 4, 4, 3), (21, .iload 5, 2, 0, 0, 0, 0), (23, .aload_n 2, 1, 0, 0, 0, 0), (24, .iload_n 3, 1, 0, 0, 0, 0), (25, .iload 5, 2, 0, 0, 0, 0), (27, .invokevirtual 78, 3, 1033, 56, 2, 0), (30, .iastore, 1, 0, 0, 0, 0), (31, .aload_n 0, 1, 0, 0, 0, 0), (32, .getfield 28, 3, 435, 4, 5, 3), (35, .iload 5, 2, 0, 0, 0, 0), (37, .aload_n 2, 1, 0, 0, 0, 0), (38, .aload_n 1, 1, 0, 0, 0, 0), (39, .iload_n 3, 1, 0, 0, 0, 0), (40, .iload 5, 2, 0, 0, 0, 0), (42, .invokevirtual 82, 3, 1034, 57, 3, 0), (45, .iastore, 1, 0, 0, 0, 0), (46, .aload_n 0, 1, 0, 0, 0, 0), (47, .getfield 25, 3, 434, 4, 4, 3), (50, .iload 5, 2, 0, 0, 0, 0), (52, .iaload, 1, 0, 0, 0, 0), (53, .ifCond .le 15, 3, 68, 0, 0, 0), (56, .aload_n 0, 1, 0, 0, 0, 0), (57, .getfield 21, 3, 433, 4, 3, 3), (60, .iload 4, 2, 0, 0, 0, 0), (62, .iload 5, 2, 0, 0, 0, 0), (64, .iastore, 1, 0, 0, 0, 0), (65, .iinc 4 1, 3, 0, 0, 0, 0), (68, .iinc 5 1, 3, 0, 0, 0, 0), (71, .goto (-65), 3, 6, 0, 0, 0), (74, .iload 4, 2, 0, 0, 0, 0), (76, .ireturn, 1, 0, 0, 0, 0)]
def T45 : List CE := [(0, .iload_n 1, 1, 0, 0, 0, 0), (1, .invokestatic 57, 3, 1035, 238, 1, 1), (4, .istore_n 3, 1, 0, 0, 0, 0), (5, .bipush 31, 2, 0, 0, 0, 0), (7, .iload_n 1, 1, 0, 0, 0, 0), (8, .invokestatic 86, 3, 1044, 237, 1, 1), (11, .isub, 1, 0, 0, 0, 0), (12, .istore 4, 2, 0, 0, 0, 0), (14, .iload_n 3, 1, 0, 0, 0, 0), (15, .ifCond .lt 10, 3, 25, 0, 0, 0), (18, .iload 4, 2, 0, 0, 0, 0), (20, .bipush 12, 2, 0, 0, 0, 0), (22, .if_icmp .lt 4, 3, 26, 0, 0, 0), (25, .return_, 1, 0, 0, 0, 0), (26, .aload_n 0, 1, 0, 0, 0, 0), (27, .getfield 31, 3, 436, 4, 6, 0), (30, .iconst (-1), 1, 0, 0, 0, 0), (31, .if_icmp .ne 8, 3, 39, 0, 0, 0), (34, .bipush 10, 2, 0, 0, 0, 0), (36, .goto 12, 3, 48, 0, 0, 0), (39, .aload_n 0, 1, 0, 0, 0, 0), (40, .getfield 31, 3, 436, 4, 6, 0), (43, .iload_n 3, 1, 0, 0, 0, 0), (44, .isub, 1, 0, 0, 0, 0), (45, .invokestatic 89, 3, 1047, 0, 1, 12), (48, .istore 5, 2, 0, 0, 0, 0), (50, .aload_n 0, 1, 0, 0, 0, 0), (51, .getfield 31, 3, 436, 4, 6, 0), (54, .iconst (-1), 1, 0, 0, 0, 0), (55, .if_icmp .ne 8, 3, 63, 0, 0, 0), (58, .bipush 10, 2, 0, 0, 0, 0), (60, .goto 13, 3, 73, 0, 0, 0), (63, .aload_n 0, 1, 0, 0, 0, 0), (64, .getfield 31, 3, 436, 4, 6, 0), (67, .iload 4, 2, 0, 0, 0, 0), (69, .isub, 1, 0, 0, 0, 0), (70, .invokestatic 89, 3, 1047, 0, 1, 12), (73, .istore 6, 2, 0, 0, 0, 0), (75, .iload 5, 2, 0, 0, 0, 0), (77, .iload 6, 2, 0, 0, 0, 0), (79, .if_icmp .gt 8, 3, 87, 0, 0, 0), (82, .iload 4, 2, 0, 0, 0, 0), (84, .goto 4, 3, 88, 0, 0, 0), (87, .iload_n 3, 1, 0, 0, 0, 0), (88, .istore 7, 2, 0, 0, 0, 0), (90, .iload 5, 2, 0, 0, 0, 0), (92, .iload 6, 2, 0, 0, 0, 0), (94, .invokestatic 94, 3, 1048, 0, 2, 11), (97, .iload 4, 2, 0, 0, 0, 0), (99, .iadd, 1, 0, 0, 0, 0), (100, .iload_n 3, 1, 0, 0, 0, 0), (101, .isub, 1, 0, 0, 0, 0), (102, .istore 8, 2, 0, 0, 0, 0), (104, .aload_n 0, 1, 0, 0, 0, 0), (105, .getfield 34, 3, 437, 4, 7, 0), (108, .aload_n 0, 1, 0, 0, 0, 0), (109, .getfield 25, 3, 434, 4, 4, 3), (112, .iload 7, 2, 0, 0, 0, 0), (114, .iaload, 1, 0, 0, 0, 0), (115, .isub, 1, 0, 0, 0, 0), (116, .iload_n 2, 1, 0, 0, 0, 0), (117, .if_icmp .ge 32, 3, 149, 0, 0, 0), (120, .aload_n 0, 1, 0, 0, 0, 0), (121, .iload 8, 2, 0, 0, 0, 0), (123, .iload_n 1, 1, 0, 0, 0, 0), (124, .invokevirtual 97, 3, 1049, 46, 2, 0), (127, .ifCond .eq 22, 3, 149, 0, 0, 0), (130, .aload_n 0, 1, 0, 0, 0, 0), (131, .iload 8, 2, 0, 0, 0, 0), (133, .putfield 9, 3, 427, 4, 0, 0), (136, .aload_n 0, 1, 0, 0, 0, 0), (137, .iload_n 1, 1, 0, 0, 0, 0), (138, .putfield 15, 3, 429, 4, 1, 0), (141, .aload_n 0, 1, 0, 0, 0, 0), (142, .aload_n 0, 1, 0, 0, 0, 0), (143, .getfield 34, 3, 437, 4, 7, 0), (146, .putfield 18, 3, 431, 4, 2, 0), (149, .return_, 1, 0, 0, 0, 0)]
def T46 : List CE := [(0, .aload_n 0, 1, 0, 0, 0, 0), (1, .getfield 15, 3, 429, 4, 1, 0), (4, .ifCond .eq 11, 3, 15, 0, 0, 0), (7, .iload_n 1, 1, 0, 0, 0, 0), (8, .aload_n 0, 1, 0, 0, 0, 0), (9, .getfield 9, 3, 427, 4, 0, 0), (12, .if_icmp .eq 24, 3, 36, 0, 0, 0), (15, .aload_n 0, 1, 0, 0, 0, 0), (16, .getfield 15, 3, 429, 4, 1, 0), (19, .ifCond .eq 11, 3, 30, 0, 0, 0), (22, .iload_n 1, 1, 0, 0, 0, 0), (23, .aload_n 0, 1, 0, 0, 0, 0), (24, .getfield 9, 3, 427, 4, 0, 0), (27, .if_icmp .ge 7, 3, 34, 0, 0, 0), (30, .iconst 1, 1, 0, 0, 0, 0), (31, .goto 4, 3, 35, 0, 0, 0), (34, .iconst 0, 1, 0, 0, 0, 0), (35, .ireturn, 1, 0, 0, 0, 0), (36, .iload_n 2, 1, 0, 0, 0, 0), (37, .invokestatic 101, 3, 1053, 239, 1, 1), (40, .aload_n 0, 1, 0, 0, 0, 0), (41, .getfield 15, 3, 429, 4, 1, 0), (44, .invokestatic 101, 3, 1053, 239, 1, 1), (47, .isub, 1, 0, 0, 0, 0), (48, .istore_n 3, 1, 0, 0, 0, 0), (49, .iload_n 3, 1, 0, 0, 0, 0), (50, .ifCond .lt 15, 3, 65, 0, 0, 0), (53, .iload_n 3, 1, 0, 0, 0, 0), (54, .ifCond .ne 15, 3, 69, 0, 0, 0), (57, .iload_n 2, 1, 0, 0, 0, 0), (58, .aload_n 0, 1, 0, 0, 0, 0), (59, .getfield 15, 3, 429, 4, 1, 0), (62, .if_icmp .ge 7, 3, 69, 0, 0, 0), (65, .iconst 1, 1, 0, 0, 0, 0), (66, .goto 4, 3, 70, 0, 0, 0), (69, .iconst 0, 1, 0, 0, 0, 0), (70, .ireturn, 1, 0, 0, 0, 0)]
def T47 : List CE := [(0, .aload_n 0, 1, 0, 0, 0, 0), (1, .invokespecial 3, 3, 260, 0, 0, 16), (4, .aload_n 0, 1, 0, 0, 0, 0), (5, .iconst 0, 1, 0, 0, 0, 0), (6, .putfield 9, 3, 261, 5, 0, 0), (9, .aload_n 0, 1, 0, 0, 0, 0), (10, .iconst 0, 1, 0, 0, 0, 0), (11, .putfield 15, 3, 264, 5, 1, 0), (14, .aload_n 0, 1, 0, 0, 0, 0), (15, .bipush 12, 2, 0, 0, 0, 0), (17, .newarray .int, 2, 0, 0, 0, 0), (19, .putfield 18, 3, 267, 5, 2, 3), (22, .aload_n 0, 1, 0, 0, 0, 0), (23, .iconst 3, 1, 0, 0, 0, 0), (24, .newarray .int, 2, 0, 0, 0, 0), (26, .putfield 22, 3, 271, 5, 3, 3), (29, .aload_n 0, 1, 0, 0, 0, 0), (30, .sipush 180, 3, 0, 0, 0, 0), (33, .newarray .int, 2, 0, 0, 0, 0), (35, .putfield 25, 3, 274, 5, 4, 3), (38, .aload_n 0, 1, 0, 0, 0, 0), (39, .sipush 2160, 3, 0, 0, 0, 0), (42, .newarray .int, 2, 0, 0, 0, 0), (44, .putfield 28, 3, 276, 5, 5, 3), (47, .aload_n 0, 1, 0, 0, 0, 0), (48, .bipush 8, 2, 0, 0, 0, 0), (50, .newarray .int, 2, 0, 0, 0, 0), (52, .putfield 31, 3, 278, 5, 6, 3), (55, .aload_n 0, 1, 0, 0, 0, 0), (56, .bipush 8, 2, 0, 0, 0, 0), (58, .newarray .int, 2, 0, 0, 0, 0), (60, .putfield 34, 3, 281, 5, 7, 3), (63, .aload_n 0, 1, 0, 0, 0, 0), (64, .bipush 8, 2, 0, 0, 0, 0), (66, .newarray .int, 2, 0, 0, 0, 0), (68, .putfield 37, 3, 284, 5, 8, 3), (71, .aload_n 0, 1, 0, 0, 0, 0), (72, .iconst 2, 1, 0, 0, 0, 0), (73, .newarray .int, 2, 0, 0, 0, 0), (75, .dup, 1, 0, 0, 0, 0), (76, .iconst 0, 1, 0, 0, 0, 0), (77, .iconst (-1), 1, 0, 0, 0, 0), (78, .iastore, 1, 0, 0, 0, 0), (79, .dup, 1, 0, 0, 0, 0), (80, .iconst 1, 1, 0, 0, 0, 0), (81, .iconst (-1), 1, 0, 0, 0, 0), (82, .iastore, 1, 0, 0, 0, 0), (83, .putfield 40, 3, 287, 5, 9, 3), (86, .aload_n 0, 1, 0, 0, 0, 0), (87, .iconst 2, 1, 0, 0, 0, 0), (88, .newarray .int, 2, 0, 0, 0, 0), (90, .putfield 43, 3, 289, 5, 10, 3), (93, .aload_n 0, 1, 0, 0, 0, 0), (94, .iconst 2, 1, 0, 0, 0, 0), (95, .newarray .int, 2, 0, 0, 0, 0), (97, .putfield 46, 3, 291, 5, 11, 3), (100, .aload_n 0, 1, 0, 0, 0, 0), (101, .iconst 2, 1, 0, 0, 0, 0), (102, .newarray .int, 2, 0, 0, 0, 0), (104, .putfield 49, 3, 294, 5, 12, 3), (107, .aload_n 0, 1, 0, 0, 0, 0), (108, .iconst 2, 1, 0, 0, 0, 0), (109, .newarray .int, 2, 0, 0, 0, 0), (111, .putfield 52, 3, 297, 5, 13, 3), (114, .aload_n 0, 1, 0, 0, 0, 0), (115, .bipush 96, 2, 0, 0, 0, 0), (117, .newarray .int, 2, 0, 0, 0, 0), (119, .putfield 55, 3, 300, 5, 14, 3), (122, .return_, 1, 0, 0, 0, 0)]
def T48 : List CE := [(0, .aload_n 0, 1, 0, 0, 0, 0), (1, .iconst 0, 1, 0, 0, 0, 0), (2, .putfield 9, 3, 261, 5, 0, 0), (5, .aload_n 0, 1, 0, 0, 0, 0), (6, .iconst 0, 1, 0, 0, 0, 0), (7, .putfield 15, 3, 264, 5, 1, 0), (10, .iconst 0, 1, 0, 0, 0, 0), (11, .istore_n 2, 1, 0, 0, 0, 0), (12, .iload_n 2, 1, 0, 0, 0, 0), (13, .bipush 12, 2, 0, 0, 0, 0), (15, .if_icmp .ge 21, 3, 36, 0, 0, 0), (18, .aload_n 0, 1, 0, 0, 0, 0), (19, .getfield 18, 3, 267, 5, 2, 3), (22, .iload_n 2, 1, 0, 0, 0, 0), (23, .aload_n 1, 1, 0, 0, 0, 0), (24, .getfield 58, 3, 157, 6, 5, 3), (27, .iload_n 2, 1, 0, 0, 0, 0), (28, .iaload, 1, 0, 0, 0, 0), (29, .iastore, 1, 0, 0, 0, 0), (30, .iinc 2 1, 3, 0, 0, 0, 0), (33, .goto (-21), 3, 12, 0, 0, 0), (36, .iconst 0, 1, 0, 0, 0, 0), (37, .istore_n 2, 1, 0, 0, 0, 0), (38, .iload_n 2, 1, 0, 0, 0, 0), (39, .iconst 3, 1, 0, 0, 0, 0), (40, .if_icmp .ge 16, 3, 56, 0, 0, 0), (43, .aload_n 0, 1, 0, 0, 0, 0), (44, .getfield 22, 3, 271, 5, 3, 3), (47, .iload_n 2, 1, 0, 0, 0, 0), (48, .iconst 0, 1, 0, 0, 0, 0), (49, .iastore, 1, 0, 0, 0, 0), (50, .iinc 2 1, 3, 0, 0, 0, 0), (53, .goto (-15), 3, 38, 0, 0, 0), (56, .iconst 0, 1, 0, 0, 0, 0), (57, .istore_n 2, 1, 0, 0, 0, 0), (58, .iload_n 2, 1, 0, 0, 0, 0), (59, .bipush 8, 2, 0, 0, 0, 0), (61, .if_icmp .ge 30, 3, 91, 0, 0, 0), (64, .aload_n 0, 1, 0, 0, 0, 0), (65, .getfield 31, 3, 278, 5, 6, 3), (68, .iload_n 2, 1, 0, 0, 0, 0), (69, .iconst 0, 1, 0, 0, 0, 0), (70, .iastore, 1, 0, 0, 0, 0), (71, .aload_n 0, 1, 0, 0, 0, 0), (72, .getfield 34, 3, 281, 5, 7, 3), (75, .iload_n 2, 1, 0, 0, 0, 0), (76, .iconst 0, 1, 0, 0, 0, 0), (77, .iastore, 1, 0, 0, 0, 0), (78, .aload_n 0, 1, 0, 0, 0, 0), (79, .getfield 37, 3, 284, 5, 8, 3), (82, .iload_n 2, 1, 0, 0, 0, 0), (83, .iconst (-1), 1, 0, 0, 0, 0), (84, .iastore, 1, 0, 0, 0, 0), (85, .iinc 2 1, 3, 0, 0, 0, 0), (88, .goto (-30), 3, 58, 0, 0, 0), (91, .iconst 0, 1, 0, 0, 0, 0), (92, .istore_n 2, 1, 0, 0, 0, 0), (93, .iload_n 2, 1, 0, 0, 0, 0), (94, .iconst 2, 1, 0, 0, 0, 0), (95, .if_icmp .ge 44, 3, 139, 0, 0, 0), (98, .aload_n 0, 1, 0, 0, 0, 0), (99, .getfield 40, 3, 287, 5, 9, 3), (102, .iload_n 2, 1, 0, 0, 0, 0), (103, .iconst (-1), 1, 0, 0, 0, 0), (104, .iastore, 1, 0, 0, 0, 0), (105, .aload_n 0, 1, 0, 0, 0, 0), (106, .getfield 43, 3, 289, 5, 10, 3), (109, .iload_n 2, 1, 0, 0, 0, 0), (110, .iconst 0, 1, 0, 0, 0, 0), (111, .iastore, 1, 0, 0, 0, 0), (112, .aload_n 0, 1, 0, 0, 0, 0), (113, .getfield 46, 3, 291, 5, 11, 3), (116, .iload_n 2, 1, 0, 0, 0, 0), (117, .iconst 0, 1, 0, 0, 0, 0), (118, .iastore, 1, 0, 0, 0, 0), (119, .aload_n 0, 1, 0, 0, 0, 0), (120, .getfield 49, 3, 294, 5, 12, 3), (123, .iload_n 2, 1, 0, 0, 0, 0), (124, .iconst 0, 1, 0, 0, 0, 0), (125, .iastore, 1, 0, 0, 0, 0), (126, .aload_n 0, 1, 0, 0, 0, 0), (127, .getfield 52, 3, 297, 5, 13, 3), (130, .iload_n 2, 1, 0, 0, 0, 0), (131, .iconst 0, 1, 0, 0, 0, 0), (132, .iastore, 1, 0, 0, 0, 0), (133, .iinc 2 1, 3, 0, 0, 0, 0), (136, .goto (-43), 3, 93, 0, 0, 0), (139, .return_, 1, 0, 0, 0, 0)]
def T49 : List CE := [(0, .aload_n 0, 1, 0, 0, 0, 0), (1, .aload_n 1, 1, 0, 0, 0, 0), (2, .getfield 9, 3, 261, 5, 0, 0), (5, .putfield 9, 3, 261, 5, 0, 0), (8, .aload_n 0, 1, 0, 0, 0, 0), (9, .aload_n 1, 1, 0, 0, 0, 0), (10, .getfield 15, 3, 264, 5, 1, 0), (13, .putfield 15, 3, 264, 5, 1, 0), (16, .aload_n 1, 1, 0, 0, 0, 0), (17, .getfield 18, 3, 267, 5, 2, 3), (20, .iconst 0, 1, 0, 0, 0, 0), (21, .aload_n 0, 1, 0, 0, 0, 0), (22, .getfield 18, 3, 267, 5, 2, 3), (25, .iconst 0, 1, 0, 0, 0, 0), (26, .bipush 12, 2, 0, 0, 0, 0), (28, .invokestatic 63, 3, 766, 0, 5, 15), (31, .aload_n 1, 1, 0, 0, 0, 0), (32, .getfield 22, 3, 271, 5, 3, 3), (35, .iconst 0, 1, 0, 0, 0, 0), (36, .aload_n 0, 1, 0, 0, 0, 0), (37, .getfield 22, 3, 271, 5, 3, 3), (40, .iconst 0, 1, 0, 0, 0, 0), (41, .iconst 3, 1, 0, 0, 0, 0), (42, .invokestatic 63, 3, 766, 0, 5, 15), (45, .iconst 0, 1, 0, 0, 0, 0), (46, .istore_n 2, 1, 0, 0, 0, 0), (47, .iload_n 2, 1, 0, 0, 0, 0), (48, .iconst 3, 1, 0, 0, 0, 0), (49, .if_icmp .ge 66, 3, 115, 0, 0, 0), (52, .iload_n 2, 1, 0, 0, 0, 0), (53, .iconst 0, 1, 0, 0, 0, 0), (54, .invokestatic 69, 3, 769, 50, 2, 1), (57, .istore_n 3, 1, 0, 0, 0, 0), (58, .aload_n 1, 1, 0, 0, 0, 0), (59, .getfield 25, 3, 274, 5, 4, 3), (62, .iload_n 3, 1, 0, 0, 0, 0), (63, .aload_n 0, 1, 0, 0, 0, 0), (64, .getfield 25, 3, 274, 5, 4, 3), (67, .iload_n 3, 1, 0, 0, 0, 0), (68, .aload_n 0, 1, 0, 0, 0, 0), (69, .getfield 22, 3, 271, 5, 3, 3), (72, .iload_n 2, 1, 0, 0, 0, 0), (73, .iaload, 1, 0, 0, 0, 0), (74, .invokestatic 63, 3, 766, 0, 5, 15), (77, .iload_n 2, 1, 0, 0, 0, 0), (78, .iconst 0, 1, 0, 0, 0, 0), (79, .iconst 0, 1, 0, 0, 0, 0), (80, .invokestatic 73, 3, 689, 51, 3, 1), (83, .istore 4, 2, 0, 0, 0, 0), (85, .aload_n 1, 1, 0, 0, 0, 0), (86, .getfield 28, 3, 276, 5, 5, 3), (89, .iload 4, 2, 0, 0, 0, 0), (91, .aload_n 0, 1, 0, 0, 0, 0), (92, .getfield 28, 3, 276, 5, 5, 3), (95, .iload 4, 2, 0, 0, 0, 0), (97, .aload_n 0, 1, 0, 0, 0, 0), (98, .getfield 22, 3, 271, 5, 3, 3), (101, .iload_n 2, 1, 0, 0, 0, 0), (102, .iaload, 1, 0, 0, 0, 0), (103, .bipush 12, 2, 0, 0, 0, 0), (105, .imul, 1, 0, 0, 0, 0), (106, .invokestatic 63, 3, 766, 0, 5, 15), (109, .iinc 2 1, 3, 0, 0, 0, 0), (112, .goto (-65), 3, 47, 0, 0, 0), (115, .aload_n 1, 1, 0, 0, 0, 0), (116, .getfield 31, 3, 278, 5, 6, 3), (119, .iconst 0, 1, 0, 0, 0, 0), (120, .aload_n 0, 1, 0, 0, 0, 0), (121, .getfield 31, 3, 278, 5, 6, 3), (124, .iconst 0, 1, 0, 0, 0, 0), (125, .bipush 8, 2, 0, 0, 0, 0), (127, .invokestatic 63, 3, 766, 0, 5, 15), (130, .aload_n 1, 1, 0, 0, 0, 0), (131, .getfield 34, 3, 281, 5, 7, 3), (134, .iconst 0, 1, 0, 0, 0, 0), (135, .aload_n 0, 1, 0, 0, 0, 0), (136, .getfield 34, 3, 281, 5, 7, 3), (139, .iconst 0, 1, 0, 0, 0, 0), (140, .bipush 8, 2, 0, 0, 0, 0), (142, .invokestatic 63, 3, 766, 0, 5, 15), (145, .aload_n 1, 1, 0, 0, 0, 0), (146, .getfield 37, 3, 284, 5, 8, 3), (149, .iconst 0, 1, 0, 0, 0, 0), (150, .aload_n 0, 1, 0, 0, 0, 0), (151, .getfield 37, 3, 284, 5, 8, 3), (154, .iconst 0, 1, 0, 0, 0, 0), (155, .bipush 8, 2, 0, 0, 0, 0), (157, .invokestatic 63, 3, 766, 0, 5, 15), (160, .aload_n 1, 1, 0, 0, 0, 0), (161, .getfield 40, 3, 287, 5, 9, 3), (164, .iconst 0, 1, 0, 0, 0, 0), (165, .aload_n 0, 1, 0, 0, 0, 0), (166, .getfield 40, 3, 287, 5, 9, 3), (169, .iconst 0, 1, 0, 0, 0, 0), (170, .iconst 2, 1, 0, 0, 0, 0), (171, .invokestatic 63, 3, 766, 0, 5, 15), (174, .aload_n 1, 1, 0, 0, 0, 0), (175, .getfield 43, 3, 289, 5, 10, 3), (178, .iconst 0, 1, 0, 0, 0, 0), (179, .aload_n 0, 1, 0, 0, 0, 0), (180, .getfield 43, 3, 289, 5, 10, 3), (183, .iconst 0, 1, 0, 0, 0, 0), (184, .iconst 2, 1, 0, 0, 0, 0), (185, .invokestatic 63, 3, 766, 0, 5, 15), (188, .aload_n 1, 1, 0, 0, 0, 0), (189, .getfield 46, 3, 291, 5, 11, 3), (192, .iconst 0, 1, 0, 0, 0, 0), (193, .aload_n 0, 1, 0, 0, 0, 0), (194, .getfield 46, 3, 291, 5, 11, 3), (197, .iconst 0, 1, 0, 0, 0, 0), (198, .iconst 2, 1, 0, 0, 0, 0), (199, .invokestatic 63, 3, 766, 0, 5, 15), (202, .aload_n 1, 1, 0, 0, 0, 0), (203, .getfield 49, 3, 294, 5, 12, 3), (206, .iconst 0, 1, 0, 0, 0, 0), (207, .aload_n 0, 1, 0, 0, 0, 0), (208, .getfield 49, 3, 294, 5, 12, 3), (211, .iconst 0, 1, 0, 0, 0, 0), (212, .iconst 2, 1, 0, 0, 0, 0), (213, .invokestatic 63, 3, 766, 0, 5, 15), (216, .aload_n 1, 1, 0, 0, 0, 0), (217, .getfield 52, 3, 297, 5, 13, 3), (220, .iconst 0, 1, 0, 0, 0, 0), (221, .aload_n 0, 1, 0, 0, 0, 0), (222, .getfield 52, 3, 297, 5, 13, 3), (225, .iconst 0, 1, 0, 0, 0, 0), (226, .iconst 2, 1, 0, 0, 0, 0), (227, .invokestatic 63, 3, 766, 0, 5, 15), (230, .aload_n 1, 1, 0, 0, 0, 0), (231, .getfield 55, 3, 300, 5, 14, 3), (234, .iconst 0, 1, 0, 0, 0, 0), (235, .aload_n 0, 1, 0, 0, 0, 0), (236, .getfield 55, 3, 300, 5, 14, 3), (239, .iconst 0, 1, 0, 0, 0, 0), (240, .aload_n 0, 1, 0, 0, 0, 0), (241, .getfield 55, 3, 300, 5, 14, 3), (244, .arraylength, 1, 0, 0, 0, 0), (245, .invokestatic 63, 3, 766, 0, 5, 15), (248, .return_, 1, 0, 0, 0, 0)]
def T50 : List CE := [(0, .iload_n 0, 1, 0, 0, 0, 0), (1, .bipush 60, 2, 0, 0, 0, 0), (3, .imul, 1, 0, 0, 0, 0), (4, .iload_n 1, 1, 0, 0, 0, 0), (5, .iadd, 1, 0, 0, 0, 0), (6, .ireturn, 1, 0, 0, 0, 0)]
def T51 : List CE := [(0, .iload_n 0, 1, 0, 0, 0, 0), (1, .bipush 60, 2, 0, 0, 0, 0), (3, .imul, 1, 0, 0, 0, 0), (4, .iload_n 1, 1, 0, 0, 0, 0), (5, .iadd, 1, 0, 0, 0, 0), (6, .bipush 12, 2, 0, 0, 0, 0), (8, .imul, 1, 0, 0, 0, 0), (9, .iload_n 2, 1, 0, 0, 0, 0), (10, .iadd, 1, 0, 0, 0, 0), (11, .ireturn, 1, 0, 0, 0, 0)]
def T52 : List CE := [(0, .aload_n 0, 1, 0, 0, 0, 0), (1, .getfield 40, 3, 287, 5, 9, 3), (4, .iload_n 1, 1, 0, 0, 0, 0), (5, .iaload, 1, 0, 0, 0, 0), (6, .iconst (-1), 1, 0, 0, 0, 0), (7, .if_icmp .ne 7, 3, 14, 0, 0, 0), (10, .iconst (-1), 1, 0, 0, 0, 0), (11, .goto 12, 3, 23, 0, 0, 0), (14, .aload_n 0, 1, 0, 0, 0, 0), (15, .getfield 40, 3, 287, 5, 9, 3), (18, .iload_n 1, 1, 0, 0, 0, 0), (19, .iaload, 1, 0, 0, 0, 0), (20, .bipush 100, 2, 0, 0, 0, 0), (22, .idiv, 1, 0, 0, 0, 0), (23, .ireturn, 1, 0, 0, 0, 0)]
def T53 : List CE := [(0, .aload_n 0, 1, 0, 0, 0, 0), (1, .getfield 40, 3, 287, 5, 9, 3), (4, .iload_n 1, 1, 0, 0, 0, 0), (5, .iaload, 1, 0, 0, 0, 0), (6, .iconst (-1), 1, 0, 0, 0, 0), (7, .if_icmp .ne 7, 3, 14, 0, 0, 0), (10, .iconst (-1), 1, 0, 0, 0, 0), (11, .goto 12, 3, 23, 0, 0, 0), (14, .aload_n 0, 1, 0, 0, 0, 0), (15, .getfield 40, 3, 287, 5, 9, 3), (18, .iload_n 1, 1, 0, 0, 0, 0), (19, .iaload, 1, 0, 0, 0, 0), (20, .bipush 100, 2, 0, 0, 0, 0), (22, .irem, 1, 0, 0, 0, 0), (23, .ireturn, 1, 0, 0, 0, 0)]
def T54 : List CE := [(0, .aload_n 0, 1, 0, 0, 0, 0), (1, .iload_n 1, 1, 0, 0, 0, 0), (2, .invokevirtual 77, 3, 774, 52, 1, 0), (5, .iload_n 2, 1, 0, 0, 0, 0), (6, .if_icmp .ne 7, 3, 13, 0, 0, 0), (9, .iconst 1, 1, 0, 0, 0, 0), (10, .goto 4, 3, 14, 0, 0, 0), (13, .iconst 0, 1, 0, 0, 0, 0), (14, .istore 4, 2, 0, 0, 0, 0), (16, .aload_n 0, 1, 0, 0, 0, 0), (17, .getfield 43, 3, 289, 5, 10, 3), (20, .iload_n 1, 1, 0, 0, 0, 0), (21, .dup2, 1, 0, 0, 0, 0), (22, .iaload, 1, 0, 0, 0, 0), (23, .iload 4, 2, 0, 0, 0, 0), (25, .ifCond .eq 16, 3, 41, 0, 0, 0), (28, .aload_n 0, 1, 0, 0, 0, 0), (29, .iload_n 1, 1, 0, 0, 0, 0), (30, .invokevirtual 81, 3, 775, 53, 1, 0), (33, .iload_n 3, 1, 0, 0, 0, 0), (34, .isub, 1, 0, 0, 0, 0), (35, .invokestatic 84, 3, 776, 0, 1, 12), (38, .goto 5, 3, 43, 0, 0, 0), (41, .bipush 10, 2, 0, 0, 0, 0), (43, .iadd, 1, 0, 0, 0, 0), (44, .iastore, 1, 0, 0, 0, 0), (45, .aload_n 0, 1, 0, 0, 0, 0), (46, .getfield 40, 3, 287, 5, 9, 3), (49, .iload_n 1, 1, 0, 0, 0, 0), (50, .bipush 100, 2, 0, 0, 0, 0), (52, .iload_n 2, 1, 0, 0, 0, 0), (53, .imul, 1, 0, 0, 0, 0), (54, .iload_n 3, 1, 0, 0, 0, 0), (55, .iadd, 1, 0, 0, 0, 0), (56, .iastore, 1, 0, 0, 0, 0), (57, .return_, 1, 0, 0, 0, 0)]
def T55 : List CE := [(0, .iconst 1, 1, 0, 0, 0, 0), (1, .iload_n 2, 1, 0, 0, 0, 0), (2, .isub, 1, 0, 0, 0, 0), (3, .istore 5, 2, 0, 0, 0, 0), (5, .aload_n 0, 1, 0, 0, 0, 0), (6, .iload 5, 2, 0, 0, 0, 0), (8, .invokevirtual 77, 3, 774, 52, 1, 0), (11, .iload_n 3, 1, 0, 0, 0, 0), (12, .if_icmp .ne 22, 3, 34, 0, 0, 0), (15, .aload_n 0, 1, 0, 0, 0, 0), (16, .iload 5, 2, 0, 0, 0, 0), (18, .invokevirtual 81, 3, 775, 53, 1, 0), (21, .iload 4, 2, 0, 0, 0, 0), (23, .isub, 1, 0, 0, 0, 0), (24, .invokestatic 84, 3, 776, 0, 1, 12), (27, .aload_n 1, 1, 0, 0, 0, 0), (28, .getfield 89, 3, 144, 6, 1, 0), (31, .if_icmp .le 7, 3, 38, 0, 0, 0), (34, .iconst 1, 1, 0, 0, 0, 0), (35, .goto 4, 3, 39, 0, 0, 0), (38, .iconst 0, 1, 0, 0, 0, 0), (39, .ireturn, 1, 0, 0, 0, 0)]
def T56 : List CE := [(0, .iconst 0, 1, 0, 0, 0, 0), (1, .istore_n 3, 1, 0, 0, 0, 0), (2, .iconst 0, 1, 0, 0, 0, 0), (3, .istore 4, 2, 0, 0, 0, 0), (5, .iload 4, 2, 0, 0, 0, 0), (7, .aload_n 0, 1, 0, 0, 0, 0), (8, .getfield 22, 3, 271, 5, 3, 3), (11, .iload_n 1, 1, 0, 0, 0, 0), (12, .iaload, 1, 0, 0, 0, 0), (13, .if_icmp .ge 24, 3, 37, 0, 0, 0), (16, .iload_n 3, 1, 0, 0, 0, 0), (17, .aload_n 0, 1, 0, 0, 0, 0), (18, .getfield 28, 3, 276, 5, 5, 3), (21, .iload_n 1, 1, 0, 0, 0, 0), (22, .iload 4, 2, 0, 0, 0, 0), (24, .iload_n 2, 1, 0, 0, 0, 0), (25, .invokestatic 73, 3, 689, 51, 3, 1), (28, .iaload, 1, 0, 0, 0, 0), (29, .iadd, 1, 0, 0, 0, 0), (30, .istore_n 3, 1, 0, 0, 0, 0), (31, .iinc 4 1, 3, 0, 0, 0, 0), (34, .goto (-29), 3, 5, 0, 0, 0), (37, .iload_n 3, 1, 0, 0, 0, 0), (38, .ireturn, 1, 0, 0, 0, 0)]
def T57 : List CE := [(0, .iconst 0, 1, 0, 0, 0, 0), (1, .istore 4, 2, 0, 0, 0, 0), (3, .iconst 0, 1, 0, 0, 0, 0), (4, .istore 5, 2, 0, 0, 0, 0), (6, .iload 5, 2, 0, 0, 0, 0), (8, .aload_n 0, 1, 0, 0, 0, 0), (9, .getfield 22, 3, 271, 5, 3, 3), (12, .iload_n 2, 1, 0, 0, 0, 0), (13, .iaload, 1, 0, 0, 0, 0), (14, .if_icmp .ge 43, 3, 57, 0, 0, 0), (17, .iload 4, 2, 0, 0, 0, 0), (19, .aload_n 0, 1, 0, 0, 0, 0), (20, .getfield 28, 3, 276, 5, 5, 3), (23, .iload_n 2, 1, 0, 0, 0, 0), (24, .iload 5, 2, 0, 0, 0, 0), (26, .iload_n 3, 1, 0, 0, 0, 0), (27, .invokestatic 73, 3, 689, 51, 3, 1), (30, .iaload, 1, 0, 0, 0, 0), (31, .aload_n 1, 1, 0, 0, 0, 0), (32, .getfield 92, 3, 164, 6, 6, 3), (35, .aload_n 0, 1, 0, 0, 0, 0), (36, .getfield 25, 3, 274, 5, 4, 3), (39, .iload_n 2, 1, 0, 0, 0, 0), (40, .iload 5, 2, 0, 0, 0, 0), (42, .invokestatic 69, 3, 769, 50, 2, 1), (45, .iaload, 1, 0, 0, 0, 0), (46, .iaload, 1, 0, 0, 0, 0), (47, .imul, 1, 0, 0, 0, 0), (48, .iadd, 1, 0, 0, 0, 0), (49, .istore 4, 2, 0, 0, 0, 0), (51, .iinc 5 1, 3, 0, 0, 0, 0), (54, .goto (-48), 3, 6, 0, 0, 0), (57, .iload 4, 2, 0, 0, 0, 0), (59, .ireturn, 1, 0, 0, 0, 0)]
def T58 : List CE := [(0, .iconst 0, 1, 0, 0, 0, 0), (1, .istore_n 3, 1, 0, 0, 0, 0), (2, .iconst 0, 1, 0, 0, 0, 0), (3, .istore 4, 2, 0, 0, 0, 0), (5, .iload 4, 2, 0, 0, 0, 0), (7, .aload_n 1, 1, 0, 0, 0, 0), (8, .getfield 95, 3, 169, 6, 7, 3), (11, .iload_n 2, 1, 0, 0, 0, 0), (12, .iaload, 1, 0, 0, 0, 0), (13, .if_icmp .ge 19, 3, 32, 0, 0, 0), (16, .iload_n 3, 1, 0, 0, 0, 0), (17, .aload_n 0, 1, 0, 0, 0, 0), (18, .iload_n 2, 1, 0, 0, 0, 0), (19, .iload 4, 2, 0, 0, 0, 0), (21, .invokevirtual 98, 3, 685, 56, 2, 0), (24, .iadd, 1, 0, 0, 0, 0), (25, .istore_n 3, 1, 0, 0, 0, 0), (26, .iinc 4 1, 3, 0, 0, 0, 0), (29, .goto (-24), 3, 5, 0, 0, 0), (32, .iload_n 3, 1, 0, 0, 0, 0), (33, .ireturn, 1, 0, 0, 0, 0)]
def T59 : List CE := [(0, .iconst 0, 1, 0, 0, 0, 0), (1, .istore_n 3, 1, 0, 0, 0, 0), (2, .iconst 0, 1, 0, 0, 0, 0), (3, .istore 4, 2, 0, 0, 0, 0), (5, .iload 4, 2, 0, 0, 0, 0), (7, .aload_n 1, 1, 0, 0, 0, 0), (8, .getfield 95, 3, 169, 6, 7, 3), (11, .iload_n 2, 1, 0, 0, 0, 0), (12, .iaload, 1, 0, 0, 0, 0), (13, .if_icmp .ge 20, 3, 33, 0, 0, 0), (16, .iload_n 3, 1, 0, 0, 0, 0), (17, .aload_n 0, 1, 0, 0, 0, 0), (18, .aload_n 1, 1, 0, 0, 0, 0), (19, .iload_n 2, 1, 0, 0, 0, 0), (20, .iload 4, 2, 0, 0, 0, 0), (22, .invokevirtual 101, 3, 807, 57, 3, 0), (25, .iadd, 1, 0, 0, 0, 0), (26, .istore_n 3, 1, 0, 0, 0, 0), (27, .iinc 4 1, 3, 0, 0, 0, 0), (30, .goto (-25), 3, 5, 0, 0, 0), (33, .iload_n 3, 1, 0, 0, 0, 0), (34, .ireturn, 1, 0, 0, 0, 0)]
def T60 : List CE := [(0, .aload_n 0, 1, 0, 0, 0, 0), (1, .getfield 22, 3, 271, 5, 3, 3), (4, .iload_n 1, 1, 0, 0, 0, 0), (5, .iaload, 1, 0, 0, 0, 0), (6, .istore_n 3, 1, 0, 0, 0, 0), (7, .aload_n 0, 1, 0, 0, 0, 0), (8, .getfield 25, 3, 274, 5, 4, 3), (11, .iload_n 1, 1, 0, 0, 0, 0), (12, .iload_n 3, 1, 0, 0, 0, 0), (13, .invokestatic 69, 3, 769, 50, 2, 1), (16, .iload_n 2, 1, 0, 0, 0, 0), (17, .iastore, 1, 0, 0, 0, 0), (18, .iconst 0, 1, 0, 0, 0, 0), (19, .istore 4, 2, 0, 0, 0, 0), (21, .iload 4, 2, 0, 0, 0, 0), (23, .bipush 12, 2, 0, 0, 0, 0), (25, .if_icmp .ge 22, 3, 47, 0, 0, 0), (28, .aload_n 0, 1, 0, 0, 0, 0), (29, .getfield 28, 3, 276, 5, 5, 3), (32, .iload_n 1, 1, 0, 0, 0, 0), (33, .iload_n 3, 1, 0, 0, 0, 0), (34, .iload 4, 2, 0, 0, 0, 0), (36, .invokestatic 73, 3, 689, 51, 3, 1), (39, .iconst 0, 1, 0, 0, 0, 0), (40, .iastore, 1, 0, 0, 0, 0), (41, .iinc 4 1, 3, 0, 0, 0, 0), (44, .goto (-23), 3, 21, 0, 0, 0), (47, .aload_n 0, 1, 0, 0, 0, 0), (48, .getfield 22, 3, 271, 5, 3, 3), (51, .iload_n 1, 1, 0, 0, 0, 0), (52, .dup2, 1, 0, 0, 0, 0), (53, .iaload, 1, 0, 0, 0, 0), (54, .iconst 1, 1, 0, 0, 0, 0), (55, .iadd, 1, 0, 0, 0, 0), (56, .iastore, 1, 0, 0, 0, 0), (57, .iload_n 3, 1, 0, 0, 0, 0), (58, .ireturn, 1, 0, 0, 0, 0)]
def T61 : List CE := [(0, .aload_n 0, 1, 0, 0, 0, 0), (1, .getfield 28, 3, 276, 5, 5, 3), (4, .iload_n 1, 1, 0, 0, 0, 0), (5, .iload_n 2, 1, 0, 0, 0, 0), (6, .iload_n 3, 1, 0, 0, 0, 0), (7, .invokestatic 73, 3, 689, 51, 3, 1), (10, .dup2, 1, 0, 0, 0, 0), (11, .iaload, 1, 0, 0, 0, 0), (12, .iload 4, 2, 0, 0, 0, 0), (14, .iadd, 1, 0, 0, 0, 0), (15, .iastore, 1, 0, 0, 0, 0), (16, .aload_n 0, 1, 0, 0, 0, 0), (17, .getfield 18, 3, 267, 5, 2, 3), (20, .aload_n 0, 1, 0, 0, 0, 0), (21, .getfield 25, 3, 274, 5, 4, 3), (24, .iload_n 1, 1, 0, 0, 0, 0), (25, .iload_n 2, 1, 0, 0, 0, 0), (26, .invokestatic 69, 3, 769, 50, 2, 1), (29, .iaload, 1, 0, 0, 0, 0), (30, .dup2, 1, 0, 0, 0, 0), (31, .iaload, 1, 0, 0, 0, 0), (32, .iload 4, 2, 0, 0, 0, 0), (34, .isub, 1, 0, 0, 0, 0), (35, .iastore, 1, 0, 0, 0, 0), (36, .return_, 1, 0, 0, 0, 0)]
def T62 : List CE := [(0, .aload_n 0, 1, 0, 0, 0, 0), (1, .getfield 37, 3, 284, 5, 8, 3), (4, .iload_n 2, 1, 0, 0, 0, 0), (5, .iaload, 1, 0, 0, 0, 0), (6, .iconst (-1), 1, 0, 0, 0, 0), (7, .if_icmp .ne 22, 3, 29, 0, 0, 0), (10, .aload_n 0, 1, 0, 0, 0, 0), (11, .getfield 31, 3, 278, 5, 6, 3), (14, .iload_n 2, 1, 0, 0, 0, 0), (15, .iaload, 1, 0, 0, 0, 0), (16, .aload_n 1, 1, 0, 0, 0, 0), (17, .getfield 105, 3, 174, 6, 8, 3), (20, .iload_n 2, 1, 0, 0, 0, 0), (21, .iaload, 1, 0, 0, 0, 0), (22, .if_icmp .ge 7, 3, 29, 0, 0, 0), (25, .iconst 1, 1, 0, 0, 0, 0), (26, .goto 4, 3, 30, 0, 0, 0), (29, .iconst 0, 1, 0, 0, 0, 0), (30, .ireturn, 1, 0, 0, 0, 0)]
def T63 : List CE := [(0, .aload_n 0, 1, 0, 0, 0, 0), (1, .iload_n 2, 1, 0, 0, 0, 0), (2, .iload_n 3, 1, 0, 0, 0, 0), (3, .invokevirtual 98, 3, 685, 56, 2, 0), (6, .istore 5, 2, 0, 0, 0, 0), (8, .aload_n 0, 1, 0, 0, 0, 0), (9, .getfield 34, 3, 281, 5, 7, 3), (12, .iload 4, 2, 0, 0, 0, 0), (14, .dup2, 1, 0, 0, 0, 0), (15, .iaload, 1, 0, 0, 0, 0), (16, .aload_n 0, 1, 0, 0, 0, 0), (17, .aload_n 1, 1, 0, 0, 0, 0), (18, .iload_n 2, 1, 0, 0, 0, 0), (19, .iload_n 3, 1, 0, 0, 0, 0), (20, .invokevirtual 101, 3, 807, 57, 3, 0), (23, .iadd, 1, 0, 0, 0, 0), (24, .iastore, 1, 0, 0, 0, 0), (25, .aload_n 0, 1, 0, 0, 0, 0), (26, .getfield 31, 3, 278, 5, 6, 3), (29, .iload 4, 2, 0, 0, 0, 0), (31, .dup2, 1, 0, 0, 0, 0), (32, .iaload, 1, 0, 0, 0, 0), (33, .iload 5, 2, 0, 0, 0, 0), (35, .iadd, 1, 0, 0, 0, 0), (36, .iastore, 1, 0, 0, 0, 0), (37, .iconst 0, 1, 0, 0, 0, 0), (38, .istore 6, 2, 0, 0, 0, 0), (40, .iload 6, 2, 0, 0, 0, 0), (42, .aload_n 0, 1, 0, 0, 0, 0), (43, .getfield 22, 3, 271, 5, 3, 3), (46, .iload_n 2, 1, 0, 0, 0, 0), (47, .iaload, 1, 0, 0, 0, 0), (48, .if_icmp .ge 22, 3, 70, 0, 0, 0), (51, .aload_n 0, 1, 0, 0, 0, 0), (52, .getfield 28, 3, 276, 5, 5, 3), (55, .iload_n 2, 1, 0, 0, 0, 0), (56, .iload 6, 2, 0, 0, 0, 0), (58, .iload_n 3, 1, 0, 0, 0, 0), (59, .invokestatic 73, 3, 689, 51, 3, 1), (62, .iconst 0, 1, 0, 0, 0, 0), (63, .iastore, 1, 0, 0, 0, 0), (64, .iinc 6 1, 3, 0, 0, 0, 0), (67, .goto (-27), 3, 40, 0, 0, 0), (70, .iload 5, 2, 0, 0, 0, 0), (72, .ireturn, 1, 0, 0, 0, 0)]
def T64 : List CE := [(0, .aload_n 0, 1, 0, 0, 0, 0), (1, .getfield 52, 3, 297, 5, 13, 3), (4, .iconst 0, 1, 0, 0, 0, 0), (5, .iaload, 1, 0, 0, 0, 0), (6, .ifCond .gt 12, 3, 18, 0, 0, 0), (9, .aload_n 0, 1, 0, 0, 0, 0), (10, .getfield 52, 3, 297, 5, 13, 3), (13, .iconst 1, 1, 0, 0, 0, 0), (14, .iaload, 1, 0, 0, 0, 0), (15, .ifCond .le 7, 3, 22, 0, 0, 0), (18, .iconst 1, 1, 0, 0, 0, 0), (19, .goto 4, 3, 23, 0, 0, 0), (22, .iconst 0, 1, 0, 0, 0, 0), (23, .ireturn, 1, 0, 0, 0, 0)]
def T65 : List CE := [(0, .iload_n 0, 1, 0, 0, 0, 0), (1, .bipush 8, 2, 0, 0, 0, 0), (3, .imul, 1, 0, 0, 0, 0), (4, .bipush 6, 2, 0, 0, 0, 0), (6, .imul, 1, 0, 0, 0, 0), (7, .ireturn, 1, 0, 0, 0, 0)]
def T66 : List CE := [(0, .iload_n 1, 1, 0, 0, 0, 0), (1, .invokestatic 108, 3, 835, 65, 1, 1), (4, .aload_n 0, 1, 0, 0, 0, 0), (5, .getfield 52, 3, 297, 5, 13, 3), (8, .iload_n 1, 1, 0, 0, 0, 0), (9, .iaload, 1, 0, 0, 0, 0), (10, .bipush 6, 2, 0, 0, 0, 0), (12, .imul, 1, 0, 0, 0, 0), (13, .iadd, 1, 0, 0, 0, 0), (14, .istore 7, 2, 0, 0, 0, 0), (16, .aload_n 0, 1, 0, 0, 0, 0), (17, .getfield 55, 3, 300, 5, 14, 3), (20, .iload 7, 2, 0, 0, 0, 0), (22, .iconst 0, 1, 0, 0, 0, 0), (23, .iadd, 1, 0, 0, 0, 0), (24, .iload_n 2, 1, 0, 0, 0, 0), (25, .iastore, 1, 0, 0, 0, 0), (26, .aload_n 0, 1, 0, 0, 0, 0), (27, .getfield 55, 3, 300, 5, 14, 3), (30, .iload 7, 2, 0, 0, 0, 0), (32, .iconst 1, 1, 0, 0, 0, 0), (33, .iadd, 1, 0, 0, 0, 0), (34, .iload_n 3, 1, 0, 0, 0, 0), (35, .iastore, 1, 0, 0, 0, 0), (36, .aload_n 0, 1, 0, 0, 0, 0), (37, .getfield 55, 3, 300, 5, 14, 3), (40, .iload 7, 2, 0, 0, 0, 0), (42, .iconst 2, 1, 0, 0, 0, 0), (43, .iadd, 1, 0, 0, 0, 0), (44, .iload 4, 2, 0, 0, 0, 0), (46, .iastore, 1, 0, 0, 0, 0), (47, .aload_n 0, 1, 0, 0, 0, 0), (48, .getfield 55, 3, 300, 5, 14, 3), (51, .iload 7, 2, 0, 0, 0, 0), (53, .iconst 3, 1, 0, 0, 0, 0), (54, .iadd, 1, 0, 0, 0, 0), (55, .iload 5, 2, 0, 0, 0, 0), (57, .iastore, 1, 0, 0, 0, 0), (58, .aload_n 0, 1, 0, 0, 0, 0), (59, .getfield 55, 3, 300, 5, 14, 3), (62, .iload 7, 2, 0, 0, 0, 0), (64, .iconst 4, 1, 0, 0, 0, 0), (65, .iadd, 1, 0, 0, 0, 0), (66, .iload 6, 2, 0, 0, 0, 0), (68, .iastore, 1, 0, 0, 0, 0), (69, .aload_n 0, 1, 0, 0, 0, 0), (70, .getfield 55, 3, 300, 5, 14, 3), (73, .iload 7, 2, 0, 0, 0, 0), (75, .iconst 5, 1, 0, 0, 0, 0), (76, .iadd, 1, 0, 0, 0, 0), (77, .iconst (-1), 1, 0, 0, 0, 0), (78, .iastore, 1, 0, 0, 0, 0), (79, .aload_n 0, 1, 0, 0, 0, 0), (80, .getfield 52, 3, 297, 5, 13, 3), (83, .iload_n 1, 1, 0, 0, 0, 0), (84, .dup2, 1, 0, 0, 0, 0), (85, .iaload, 1, 0, 0, 0, 0), (86, .iconst 1, 1, 0, 0, 0, 0), (87, .iadd, 1, 0, 0, 0, 0), (88, .iastore, 1, 0, 0, 0, 0), (89, .return_, 1, 0, 0, 0, 0)]
def T67 : List CE := [(0, .iload_n 1, 1, 0, 0, 0, 0), (1, .invokestatic 108, 3, 835, 65, 1, 1), (4, .istore_n 2, 1, 0, 0, 0, 0), (5, .aload_n 0, 1, 0, 0, 0, 0), (6, .getfield 52, 3, 297, 5, 13, 3), (9, .iload_n 1, 1, 0, 0, 0, 0), (10, .dup2, 1, 0, 0, 0, 0), (11, .iaload, 1, 0, 0, 0, 0), (12, .iconst 1, 1, 0, 0, 0, 0), (13, .isub, 1, 0, 0, 0, 0), (14, .iastore, 1, 0, 0, 0, 0), (15, .aload_n 0, 1, 0, 0, 0, 0), (16, .getfield 52, 3, 297, 5, 13, 3), (19, .iload_n 1, 1, 0, 0, 0, 0), (20, .iaload, 1, 0, 0, 0, 0), (21, .bipush 6, 2, 0, 0, 0, 0), (23, .imul, 1, 0, 0, 0, 0), (24, .istore_n 3, 1, 0, 0, 0, 0), (25, .iload_n 2, 1, 0, 0, 0, 0), (26, .istore 4, 2, 0, 0, 0, 0), (28, .iload 4, 2, 0, 0, 0, 0), (30, .iload_n 2, 1, 0, 0, 0, 0), (31, .iload_n 3, 1, 0, 0, 0, 0), (32, .iadd, 1, 0, 0, 0, 0), (33, .if_icmp .ge 26, 3, 59, 0, 0, 0), (36, .aload_n 0, 1, 0, 0, 0, 0), (37, .getfield 55, 3, 300, 5, 14, 3), (40, .iload 4, 2, 0, 0, 0, 0), (42, .aload_n 0, 1, 0, 0, 0, 0), (43, .getfield 55, 3, 300, 5, 14, 3), (46, .iload 4, 2, 0, 0, 0, 0), (48, .bipush 6, 2, 0, 0, 0, 0), (50, .iadd, 1, 0, 0, 0, 0), (51, .iaload, 1, 0, 0, 0, 0), (52, .iastore, 1, 0, 0, 0, 0), (53, .iinc 4 1, 3, 0, 0, 0, 0), (56, .goto (-28), 3, 28, 0, 0, 0), (59, .aload_n 0, 1, 0, 0, 0, 0), (60, .getfield 46, 3, 291, 5, 11, 3), (63, .iload_n 1, 1, 0, 0, 0, 0), (64, .iconst 0, 1, 0, 0, 0, 0), (65, .iastore, 1, 0, 0, 0, 0), (66, .return_, 1, 0, 0, 0, 0)]
def T68 : List CE := [(0, .aload_n 0, 1, 0, 0, 0, 0), (1, .invokespecial 3, 3, 137, 0, 0, 16), (4, .aload_n 0, 1, 0, 0, 0, 0), (5, .iconst 0, 1, 0, 0, 0, 0), (6, .putfield 9, 3, 138, 6, 0, 0), (9, .aload_n 0, 1, 0, 0, 0, 0), (10, .iconst 1, 1, 0, 0, 0, 0), (11, .putfield 15, 3, 141, 6, 1, 0), (14, .aload_n 0, 1, 0, 0, 0, 0), (15, .iconst 0, 1, 0, 0, 0, 0), (16, .putfield 18, 3, 145, 6, 2, 0), (19, .aload_n 0, 1, 0, 0, 0, 0), (20, .iconst 0, 1, 0, 0, 0, 0), (21, .putfield 21, 3, 149, 6, 3, 0), (24, .aload_n 0, 1, 0, 0, 0, 0), (25, .iconst 0, 1, 0, 0, 0, 0), (26, .putfield 24, 3, 152, 6, 4, 0), (29, .aload_n 0, 1, 0, 0, 0, 0), (30, .bipush 12, 2, 0, 0, 0, 0), (32, .newarray .int, 2, 0, 0, 0, 0), (34, .putfield 27, 3, 156, 6, 5, 3), (37, .aload_n 0, 1, 0, 0, 0, 0), (38, .bipush 12, 2, 0, 0, 0, 0), (40, .newarray .int, 2, 0, 0, 0, 0), (42, .putfield 31, 3, 160, 6, 6, 3), (45, .aload_n 0, 1, 0, 0, 0, 0), (46, .iconst 3, 1, 0, 0, 0, 0), (47, .newarray .int, 2, 0, 0, 0, 0), (49, .putfield 34, 3, 165, 6, 7, 3), (52, .aload_n 0, 1, 0, 0, 0, 0), (53, .bipush 8, 2, 0, 0, 0, 0), (55, .newarray .int, 2, 0, 0, 0, 0), (57, .putfield 37, 3, 170, 6, 8, 3), (60, .aload_n 0, 1, 0, 0, 0, 0), (61, .bipush 8, 2, 0, 0, 0, 0), (63, .newarray .int, 2, 0, 0, 0, 0), (65, .putfield 40, 3, 175, 6, 9, 3), (68, .aload_n 0, 1, 0, 0, 0, 0), (69, .bipush 8, 2, 0, 0, 0, 0), (71, .newarray .int, 2, 0, 0, 0, 0), (73, .putfield 43, 3, 178, 6, 10, 3), (76, .aload_n 0, 1, 0, 0, 0, 0), (77, .bipush 8, 2, 0, 0, 0, 0), (79, .newarray .int, 2, 0, 0, 0, 0), (81, .putfield 46, 3, 181, 6, 11, 3), (84, .aload_n 0, 1, 0, 0, 0, 0), (85, .bipush 8, 2, 0, 0, 0, 0), (87, .newarray .int, 2, 0, 0, 0, 0), (89, .putfield 49, 3, 185, 6, 12, 3), (92, .aload_n 0, 1, 0, 0, 0, 0), (93, .bipush 8, 2, 0, 0, 0, 0), (95, .newarray .int, 2, 0, 0, 0, 0), (97, .putfield 52, 3, 189, 6, 13, 3), (100, .return_, 1, 0, 0, 0, 0)]
def T69 : List CE := [(0, .aload_n 0, 1, 0, 0, 0, 0), (1, .iconst 0, 1, 0, 0, 0, 0), (2, .putfield 9, 3, 138, 6, 0, 0), (5, .aload_n 0, 1, 0, 0, 0, 0), (6, .iconst 1, 1, 0, 0, 0, 0), (7, .putfield 15, 3, 141, 6, 1, 0), (10, .aload_n 0, 1, 0, 0, 0, 0), (11, .iconst 0, 1, 0, 0, 0, 0), (12, .putfield 18, 3, 145, 6, 2, 0), (15, .aload_n 0, 1, 0, 0, 0, 0), (16, .iconst 0, 1, 0, 0, 0, 0), (17, .putfield 21, 3, 149, 6, 3, 0), (20, .aload_n 0, 1, 0, 0, 0, 0), (21, .iconst 0, 1, 0, 0, 0, 0), (22, .putfield 24, 3, 152, 6, 4, 0), (25, .return_, 1, 0, 0, 0, 0)]
def T70 : List CE := [(0, .iload_n 1, 1, 0, 0, 0, 0), (1, .ifCond .lt 15, 3, 16, 0, 0, 0), (4, .iload_n 1, 1, 0, 0, 0, 0), (5, .aload_n 0, 1, 0, 0, 0, 0), (6, .getfield 18, 3, 145, 6, 2, 0), (9, .if_icmp .ge 7, 3, 16, 0, 0, 0), (12, .iconst 1, 1, 0, 0, 0, 0), (13, .goto 4, 3, 17, 0, 0, 0), (16, .iconst 0, 1, 0, 0, 0, 0), (17, .ireturn, 1, 0, 0, 0, 0)]
def T71 : List CE := [(0, .iload_n 1, 1, 0, 0, 0, 0), (1, .ifCond .lt 15, 3, 16, 0, 0, 0), (4, .iload_n 1, 1, 0, 0, 0, 0), (5, .aload_n 0, 1, 0, 0, 0, 0), (6, .getfield 21, 3, 149, 6, 3, 0), (9, .if_icmp .ge 7, 3, 16, 0, 0, 0), (12, .iconst 1, 1, 0, 0, 0, 0), (13, .goto 4, 3, 17, 0, 0, 0), (16, .iconst 0, 1, 0, 0, 0, 0), (17, .ireturn, 1, 0, 0, 0, 0)]
def T72 : List CE := [(0, .aload_n 0, 1, 0, 0, 0, 0), (1, .iload_n 1, 1, 0, 0, 0, 0), (2, .invokevirtual 55, 3, 712, 71, 1, 0), (5, .ifCond .eq 21, 3, 26, 0, 0, 0), (8, .iload_n 2, 1, 0, 0, 0, 0), (9, .ifCond .lt 17, 3, 26, 0, 0, 0), (12, .iload_n 2, 1, 0, 0, 0, 0), (13, .aload_n 0, 1, 0, 0, 0, 0), (14, .getfield 34, 3, 165, 6, 7, 3), (17, .iload_n 1, 1, 0, 0, 0, 0), (18, .iaload, 1, 0, 0, 0, 0), (19, .if_icmp .ge 7, 3, 26, 0, 0, 0), (22, .iconst 1, 1, 0, 0, 0, 0), (23, .goto 4, 3, 27, 0, 0, 0), (26, .iconst 0, 1, 0, 0, 0, 0), (27, .ireturn, 1, 0, 0, 0, 0)]
def T73 : List CE := [(0, .iload_n 1, 1, 0, 0, 0, 0), (1, .ifCond .lt 15, 3, 16, 0, 0, 0), (4, .iload_n 1, 1, 0, 0, 0, 0), (5, .aload_n 0, 1, 0, 0, 0, 0), (6, .getfield 24, 3, 152, 6, 4, 0), (9, .if_icmp .ge 7, 3, 16, 0, 0, 0), (12, .iconst 1, 1, 0, 0, 0, 0), (13, .goto 4, 3, 17, 0, 0, 0), (16, .iconst 0, 1, 0, 0, 0, 0), (17, .ireturn, 1, 0, 0, 0, 0)]
def T74 : List CE := [(0, .iload_n 3, 1, 0, 0, 0, 0), (1, .aload_n 0, 1, 0, 0, 0, 0), (2, .getfield 40, 3, 175, 6, 9, 3), (5, .iload_n 1, 1, 0, 0, 0, 0), (6, .iaload, 1, 0, 0, 0, 0), (7, .iload_n 2, 1, 0, 0, 0, 0), (8, .imul, 1, 0, 0, 0, 0), (9, .if_icmp .lt 19, 3, 28, 0, 0, 0), (12, .iload_n 3, 1, 0, 0, 0, 0), (13, .aload_n 0, 1, 0, 0, 0, 0), (14, .getfield 43, 3, 178, 6, 10, 3), (17, .iload_n 1, 1, 0, 0, 0, 0), (18, .iaload, 1, 0, 0, 0, 0), (19, .iload_n 2, 1, 0, 0, 0, 0), (20, .imul, 1, 0, 0, 0, 0), (21, .if_icmp .gt 7, 3, 28, 0, 0, 0), (24, .iconst 1, 1, 0, 0, 0, 0), (25, .goto 4, 3, 29, 0, 0, 0), (28, .iconst 0, 1, 0, 0, 0, 0), (29, .ireturn, 1, 0, 0, 0, 0)]
def T75 : List CE := [(0, .aload_n 0, 1, 0, 0, 0, 0), (1, .invokespecial 1, 3, 123, 0, 0, 16), (4, .aload_n 0, 1, 0, 0, 0, 0), (5, .sipush 600, 3, 0, 0, 0, 0), (8, .newarray .int, 2, 0, 0, 0, 0), (10, .putfield 9, 3, 458, 7, 0, 3), (13, .aload_n 0, 1, 0, 0, 0, 0), (14, .iconst 0, 1, 0, 0, 0, 0), (15, .putfield 13, 3, 459, 7, 1, 0), (18, .aload_n 0, 1, 0, 0, 0, 0), (19, .new 17, 3, 126, 3, 10, 0), (22, .dup, 1, 0, 0, 0, 0), (23, .invokespecial 19, 3, 128, 26, 0, 3), (26, .putfield 20, 3, 460, 7, 2, 3), (29, .aload_n 0, 1, 0, 0, 0, 0), (30, .new 24, 3, 253, 6, 14, 0), (33, .dup, 1, 0, 0, 0, 0), (34, .invokespecial 26, 3, 254, 68, 0, 3), (37, .putfield 27, 3, 461, 7, 3, 3), (40, .aload_n 0, 1, 0, 0, 0, 0), (41, .new 24, 3, 253, 6, 14, 0), (44, .dup, 1, 0, 0, 0, 0), (45, .invokespecial 26, 3, 254, 68, 0, 3), (48, .putfield 31, 3, 462, 7, 4, 3), (51, .aload_n 0, 1, 0, 0, 0, 0), (52, .new 34, 3, 255, 5, 15, 0), (55, .dup, 1, 0, 0, 0, 0), (56, .invokespecial 36, 3, 257, 47, 0, 3), (59, .putfield 37, 3, 463, 7, 5, 3), (62, .aload_n 0, 1, 0, 0, 0, 0), (63, .new 34, 3, 255, 5, 15, 0), (66, .dup, 1, 0, 0, 0, 0), (67, .invokespecial 36, 3, 257, 47, 0, 3), (70, .putfield 41, 3, 464, 7, 6, 3), (73, .aload_n 0, 1, 0, 0, 0, 0), (74, .new 44, 3, 333, 1, 5, 0), (77, .dup, 1, 0, 0, 0, 0), (78, .invokespecial 46, 3, 335, 8, 0, 3), (81, .putfield 47, 3, 465, 7, 7, 3), (84, .aload_n 0, 1, 0, 0, 0, 0), (85, .new 51, 3, 359, 2, 6, 0), (88, .dup, 1, 0, 0, 0, 0), (89, .invokespecial 53, 3, 361, 15, 0, 3), (92, .putfield 54, 3, 466, 7, 8, 3), (95, .aload_n 0, 1, 0, 0, 0, 0), (96, .new 58, 3, 388, 0, 7, 0), (99, .dup, 1, 0, 0, 0, 0), (100, .invokespecial 60, 3, 390, 0, 0, 3), (103, .putfield 61, 3, 467, 7, 9, 3), (106, .aload_n 0, 1, 0, 0, 0, 0), (107, .new 65, 3, 421, 4, 9, 0), (110, .dup, 1, 0, 0, 0, 0), (111, .invokespecial 67, 3, 423, 42, 0, 3), (114, .putfield 68, 3, 468, 7, 10, 3), (117, .aload_n 0, 1, 0, 0, 0, 0), (118, .iconst 1, 1, 0, 0, 0, 0), (119, .putfield 72, 3, 469, 7, 11, 0), (122, .aload_n 0, 1, 0, 0, 0, 0), (123, .lconst 1, 1, 0, 0, 0, 0), (124, .putfield 75, 3, 470, 7, 12, 1), (127, .aload_n 0, 1, 0, 0, 0, 0), (128, .lconst 1, 1, 0, 0, 0, 0), (129, .putfield 79, 3, 471, 7, 13, 1), (132, .return_, 1, 0, 0, 0, 0)]
def T76 : List CE := [(0, .aload_n 0, 1, 0, 0, 0, 0), (1, .getfield 13, 3, 459, 7, 1, 0), (4, .bipush 20, 2, 0, 0, 0, 0), (6, .iadd, 1, 0, 0, 0, 0), (7, .sipush 600, 3, 0, 0, 0, 0), (10, .if_icmp .le 5, 3, 15, 0, 0, 0), (13, .iconst (-1), 1, 0, 0, 0, 0), (14, .ireturn, 1, 0, 0, 0, 0), (15, .aload_n 0, 1, 0, 0, 0, 0), (16, .iload_n 1, 1, 0, 0, 0, 0), (17, .invokevirtual 82, 3, 505, 117, 1, 0), (20, .aload_n 0, 1, 0, 0, 0, 0), (21, .iload_n 2, 1, 0, 0, 0, 0), (22, .invokevirtual 82, 3, 505, 117, 1, 0), (25, .aload_n 0, 1, 0, 0, 0, 0), (26, .iload_n 3, 1, 0, 0, 0, 0), (27, .invokevirtual 82, 3, 505, 117, 1, 0), (30, .aload_n 0, 1, 0, 0, 0, 0), (31, .iload 4, 2, 0, 0, 0, 0), (33, .invokevirtual 82, 3, 505, 117, 1, 0), (36, .aload_n 0, 1, 0, 0, 0, 0), (37, .iload 5, 2, 0, 0, 0, 0), (39, .invokevirtual 82, 3, 505, 117, 1, 0), (42, .aload_n 0, 1, 0, 0, 0, 0), (43, .getfield 13, 3, 459, 7, 1, 0), (46, .ireturn, 1, 0, 0, 0, 0)]
def T77 : List CE := [(0, .iload_n 1, 1, 0, 0, 0, 0), (1, .ifCond .lt 11, 3, 12, 0, 0, 0), (4, .iload_n 1, 1, 0, 0, 0, 0), (5, .aload_n 0, 1, 0, 0, 0, 0), (6, .getfield 13, 3, 459, 7, 1, 0), (9, .if_icmp .le 5, 3, 14, 0, 0, 0), (12, .iconst (-1), 1, 0, 0, 0, 0), (13, .ireturn, 1, 0, 0, 0, 0), (14, .aload_n 0, 1, 0, 0, 0, 0), (15, .iconst 0, 1, 0, 0, 0, 0), (16, .putfield 13, 3, 459, 7, 1, 0), (19, .aload_n 0, 1, 0, 0, 0, 0), (20, .getfield 20, 3, 460, 7, 2, 3), (23, .aload_n 0, 1, 0, 0, 0, 0), (24, .getfield 9, 3, 458, 7, 0, 3), (27, .iload_n 1, 1, 0, 0, 0, 0), (28, .aload_n 0, 1, 0, 0, 0, 0), (29, .getfield 31, 3, 462, 7, 4, 3), (32, .invokevirtual 86, 3, 513, 27, 3, 0), (35, .istore_n 2, 1, 0, 0, 0, 0), (36, .iload_n 2, 1, 0, 0, 0, 0), (37, .ifCond .eq 8, 3, 45, 0, 0, 0), (40, .bipush (-2), 2, 0, 0, 0, 0), (42, .iload_n 2, 1, 0, 0, 0, 0), (43, .isub, 1, 0, 0, 0, 0), (44, .ireturn, 1, 0, 0, 0, 0), (45, .aload_n 0, 1, 0, 0, 0, 0), (46, .getfield 27, 3, 461, 7, 3, 3), (49, .astore_n 3, 1, 0, 0, 0, 0), (50, .aload_n 0, 1, 0, 0, 0, 0), (51, .aload_n 0, 1, 0, 0, 0, 0), (52, .getfield 31, 3, 462, 7, 4, 3), (55, .putfield 27, 3, 461, 7, 3, 3), (58, .aload_n 0, 1, 0, 0, 0, 0), (59, .aload_n 3, 1, 0, 0, 0, 0), (60, .putfield 31, 3, 462, 7, 4, 3), (63, .aload_n 0, 1, 0, 0, 0, 0), (64, .getfield 37, 3, 463, 7, 5, 3), (67, .aload_n 0, 1, 0, 0, 0, 0), (68, .getfield 27, 3, 461, 7, 3, 3), (71, .invokevirtual 90, 3, 641, 48, 1, 0), (74, .aload_n 0, 1, 0, 0, 0, 0), (75, .getfield 47, 3, 465, 7, 7, 3), (78, .invokevirtual 94, 3, 645, 9, 0, 0), (81, .aload_n 0, 1, 0, 0, 0, 0), (82, .iconst 1, 1, 0, 0, 0, 0), (83, .putfield 72, 3, 469, 7, 11, 0), (86, .aload_n 0, 1, 0, 0, 0, 0), (87, .lconst 1, 1, 0, 0, 0, 0), (88, .putfield 75, 3, 470, 7, 12, 1), (91, .aload_n 0, 1, 0, 0, 0, 0), (92, .lconst 1, 1, 0, 0, 0, 0), (93, .putfield 79, 3, 471, 7, 13, 1), (96, .aload_n 0, 1, 0, 0, 0, 0), (97, .getfield 27, 3, 461, 7, 3, 3), (100, .getfield 97, 3, 140, 6, 0, 0), (103, .ireturn, 1, 0, 0, 0, 0)]
def T78 : List CE := [(0, .iload_n 1, 1, 0, 0, 0, 0), (1, .tableswitch 222 0 16 #[83, 91, 99, 107, 115, 123, 128, 138, 148, 156, 164, 169, 174, 184, 194, 204, 214], 83, 223, 0, 0, 0), (84, .aload_n 0, 1, 0, 0, 0, 0), (85, .getfield 27, 3, 461, 7, 3, 3), (88, .getfield 100, 3, 148, 6, 2, 0), (91, .ireturn, 1, 0, 0, 0, 0), (92, .aload_n 0, 1, 0, 0, 0, 0), (93, .getfield 27, 3, 461, 7, 3, 3), (96, .getfield 103, 3, 150, 6, 3, 0), (99, .ireturn, 1, 0, 0, 0, 0), (100, .aload_n 0, 1, 0, 0, 0, 0), (101, .getfield 27, 3, 461, 7, 3, 3), (104, .getfield 106, 3, 154, 6, 4, 0), (107, .ireturn, 1, 0, 0, 0, 0), (108, .aload_n 0, 1, 0, 0, 0, 0), (109, .getfield 27, 3, 461, 7, 3, 3), (112, .getfield 109, 3, 142, 6, 1, 0), (115, .ireturn, 1, 0, 0, 0, 0), (116, .aload_n 0, 1, 0, 0, 0, 0), (117, .getfield 37, 3, 463, 7, 5, 3), (120, .getfield 112, 3, 263, 5, 0, 0), (123, .ireturn, 1, 0, 0, 0, 0), (124, .aload_n 0, 1, 0, 0, 0, 0), (125, .invokevirtual 115, 3, 654, 123, 0, 0), (128, .ireturn, 1, 0, 0, 0, 0), (129, .aload_n 0, 1, 0, 0, 0, 0), (130, .getfield 37, 3, 463, 7, 5, 3), (133, .getfield 119, 3, 290, 5, 10, 3), (136, .iconst 0, 1, 0, 0, 0, 0), (137, .iaload, 1, 0, 0, 0, 0), (138, .ireturn, 1, 0, 0, 0, 0), (139, .aload_n 0, 1, 0, 0, 0, 0), (140, .getfield 37, 3, 463, 7, 5, 3), (143, .getfield 119, 3, 290, 5, 10, 3), (146, .iconst 1, 1, 0, 0, 0, 0), (147, .iaload, 1, 0, 0, 0, 0), (148, .ireturn, 1, 0, 0, 0, 0), (149, .aload_n 0, 1, 0, 0, 0, 0), (150, .getfield 47, 3, 465, 7, 7, 3), (153, .getfield 122, 3, 344, 1, 2, 0), (156, .ireturn, 1, 0, 0, 0, 0), (157, .aload_n 0, 1, 0, 0, 0, 0), (158, .getfield 47, 3, 465, 7, 7, 3), (161, .invokevirtual 125, 3, 658, 10, 0, 0), (164, .ireturn, 1, 0, 0, 0, 0), (165, .aload_n 0, 1, 0, 0, 0, 0), (166, .getfield 13, 3, 459, 7, 1, 0), (169, .ireturn, 1, 0, 0, 0, 0), (170, .aload_n 0, 1, 0, 0, 0, 0), (171, .invokevirtual 128, 3, 662, 124, 0, 0), (174, .ireturn, 1, 0, 0, 0, 0), (175, .aload_n 0, 1, 0, 0, 0, 0), (176, .getfield 37, 3, 463, 7, 5, 3), (179, .getfield 131, 3, 299, 5, 13, 3), (182, .iconst 0, 1, 0, 0, 0, 0), (183, .iaload, 1, 0, 0, 0, 0), (184, .ireturn, 1, 0, 0, 0, 0), (185, .aload_n 0, 1, 0, 0, 0, 0), (186, .getfield 37, 3, 463, 7, 5, 3), (189, .getfield 131, 3, 299, 5, 13, 3), (192, .iconst 1, 1, 0, 0, 0, 0), (193, .iaload, 1, 0, 0, 0, 0), (194, .ireturn, 1, 0, 0, 0, 0), (195, .aload_n 0, 1, 0, 0, 0, 0), (196, .getfield 37, 3, 463, 7, 5, 3), (199, .getfield 134, 3, 296, 5, 12, 3), (202, .iconst 0, 1, 0, 0, 0, 0), (203, .iaload, 1, 0, 0, 0, 0), (204, .ireturn, 1, 0, 0, 0, 0), (205, .aload_n 0, 1, 0, 0, 0, 0), (206, .getfield 37, 3, 463, 7, 5, 3), (209, .getfield 134, 3, 296, 5, 12, 3), (212, .iconst 1, 1, 0, 0, 0, 0), (213, .iaload, 1, 0, 0, 0, 0), (214, .ireturn, 1, 0, 0, 0, 0), (215, .aload_n 0, 1, 0, 0, 0, 0), (216, .getfield 37, 3, 463, 7, 5, 3), (219, .getfield 137, 3, 266, 5, 1, 0), (222, .ireturn, 1, 0, 0, 0, 0), (223, .iconst (-1), 1, 0, 0, 0, 0), (224, .ireturn, 1, 0, 0, 0, 0)]
def T79 : List CE := [(0, .aload_n 0, 1, 0, 0, 0, 0), (1, .getfield 27, 3, 461, 7, 3, 3), (4, .iload_n 1, 1, 0, 0, 0, 0), (5, .invokevirtual 140, 3, 743, 70, 1, 0), (8, .ifCond .eq 12, 3, 20, 0, 0, 0), (11, .iload_n 2, 1, 0, 0, 0, 0), (12, .ifCond .lt 8, 3, 20, 0, 0, 0), (15, .iload_n 2, 1, 0, 0, 0, 0), (16, .iconst 2, 1, 0, 0, 0, 0), (17, .if_icmp .le 11, 3, 28, 0, 0, 0), (20, .new 144, 3, 1094, 0, 0, 99), (23, .dup, 1, 0, 0, 0, 0), (24, .invokespecial 146, 3, 1133, 0, 0, 98), (27, .athrow, 1, 0, 0, 0, 0), (28, .iload_n 2, 1, 0, 0, 0, 0), (29, .ifCond .ne 13, 3, 42, 0, 0, 0), (32, .aload_n 0, 1, 0, 0, 0, 0), (33, .getfield 27, 3, 461, 7, 3, 3), (36, .getfield 147, 3, 159, 6, 5, 3), (39, .iload_n 1, 1, 0, 0, 0, 0), (40, .iaload, 1, 0, 0, 0, 0), (41, .ireturn, 1, 0, 0, 0, 0), (42, .iload_n 2, 1, 0, 0, 0, 0), (43, .iconst 1, 1, 0, 0, 0, 0), (44, .if_icmp .ne 15, 3, 59, 0, 0, 0), (47, .aload_n 0, 1, 0, 0, 0, 0), (48, .getfield 27, 3, 461, 7, 3, 3), (51, .getfield 150, 3, 163, 6, 6, 3), (54, .iload_n 1, 1, 0, 0, 0, 0), (55, .iaload, 1, 0, 0, 0, 0), (56, .goto 12, 3, 68, 0, 0, 0), (59, .aload_n 0, 1, 0, 0, 0, 0), (60, .getfield 37, 3, 463, 7, 5, 3), (63, .getfield 153, 3, 269, 5, 2, 3), (66, .iload_n 1, 1, 0, 0, 0, 0), (67, .iaload, 1, 0, 0, 0, 0), (68, .ireturn, 1, 0, 0, 0, 0)]
def T80 : List CE := [(0, .aload_n 0, 1, 0, 0, 0, 0), (1, .getfield 27, 3, 461, 7, 3, 3), (4, .iload_n 1, 1, 0, 0, 0, 0), (5, .invokevirtual 156, 3, 789, 73, 1, 0), (8, .ifCond .eq 13, 3, 21, 0, 0, 0), (11, .iload_n 2, 1, 0, 0, 0, 0), (12, .ifCond .lt 9, 3, 21, 0, 0, 0), (15, .iload_n 2, 1, 0, 0, 0, 0), (16, .bipush 9, 2, 0, 0, 0, 0), (18, .if_icmp .le 11, 3, 29, 0, 0, 0), (21, .new 144, 3, 1094, 0, 0, 99), (24, .dup, 1, 0, 0, 0, 0), (25, .invokespecial 146, 3, 1133, 0, 0, 98), (28, .athrow, 1, 0, 0, 0, 0), (29, .iload_n 2, 1, 0, 0, 0, 0), (30, .tableswitch 136 0 8 #[50, 60, 70, 80, 90, 100, 110, 120, 130], 50, 166, 0, 0, 0), (80, .aload_n 0, 1, 0, 0, 0, 0), (81, .getfield 27, 3, 461, 7, 3, 3), (84, .getfield 159, 3, 173, 6, 8, 3), (87, .iload_n 1, 1, 0, 0, 0, 0), (88, .iaload, 1, 0, 0, 0, 0), (89, .ireturn, 1, 0, 0, 0, 0), (90, .aload_n 0, 1, 0, 0, 0, 0), (91, .getfield 27, 3, 461, 7, 3, 3), (94, .getfield 162, 3, 177, 6, 9, 3), (97, .iload_n 1, 1, 0, 0, 0, 0), (98, .iaload, 1, 0, 0, 0, 0), (99, .ireturn, 1, 0, 0, 0, 0), (100, .aload_n 0, 1, 0, 0, 0, 0), (101, .getfield 27, 3, 461, 7, 3, 3), (104, .getfield 165, 3, 180, 6, 10, 3), (107, .iload_n 1, 1, 0, 0, 0, 0), (108, .iaload, 1, 0, 0, 0, 0), (109, .ireturn, 1, 0, 0, 0, 0), (110, .aload_n 0, 1, 0, 0, 0, 0), (111, .getfield 27, 3, 461, 7, 3, 3), (114, .getfield 168, 3, 184, 6, 11, 3), (117, .iload_n 1, 1, 0, 0, 0, 0), (118, .iaload, 1, 0, 0, 0, 0), (119, .ireturn, 1, 0, 0, 0, 0), (120, .aload_n 0, 1, 0, 0, 0, 0), (121, .getfield 27, 3, 461, 7, 3, 3), (124, .getfield 171, 3, 188, 6, 12, 3), (127, .iload_n 1, 1, 0, 0, 0, 0), (128, .iaload, 1, 0, 0, 0, 0), (129, .ireturn, 1, 0, 0, 0, 0), (130, .aload_n 0, 1, 0, 0, 0, 0), (131, .getfield 27, 3, 461, 7, 3, 3), (134, .getfield 174, 3, 190, 6, 13, 3), (137, .iload_n 1, 1, 0, 0, 0, 0), (138, .iaload, 1, 0, 0, 0, 0), (139, .ireturn, 1, 0, 0, 0, 0), (140, .aload_n 0, 1, 0, 0, 0, 0), (141, .getfield 37, 3, 463, 7, 5, 3), (144, .getfield 177, 3, 280, 5, 6, 3), (147, .iload_n 1, 1, 0, 0, 0, 0), (148, .iaload, 1, 0, 0, 0, 0), (149, .ireturn, 1, 0, 0, 0, 0), (150, .aload_n 0, 1, 0, 0, 0, 0), (151, .getfield 37, 3, 463, 7, 5, 3), (154, .getfield 180, 3, 286, 5, 8, 3), (157, .iload_n 1, 1, 0, 0, 0, 0), (158, .iaload, 1, 0, 0, 0, 0), (159, .ireturn, 1, 0, 0, 0, 0), (160, .aload_n 0, 1, 0, 0, 0, 0), (161, .iload_n 1, 1, 0, 0, 0, 0), (162, .invokevirtual 183, 3, 666, 125, 1, 0), (165, .ireturn, 1, 0, 0, 0, 0), (166, .aload_n 0, 1, 0, 0, 0, 0), (167, .iload_n 1, 1, 0, 0, 0, 0), (168, .invokevirtual 183, 3, 666, 125, 1, 0), (171, .aload_n 0, 1, 0, 0, 0, 0), (172, .getfield 27, 3, 461, 7, 3, 3), (175, .getfield 174, 3, 190, 6, 13, 3), (178, .iload_n 1, 1, 0, 0, 0, 0), (179, .iaload, 1, 0, 0, 0, 0), (180, .imul, 1, 0, 0, 0, 0), (181, .ireturn, 1, 0, 0, 0, 0)]
def T81 : List CE := [(0, .aload_n 0, 1, 0, 0, 0, 0), (1, .getfield 27, 3, 461, 7, 3, 3), (4, .iload_n 1, 1, 0, 0, 0, 0), (5, .invokevirtual 187, 3, 677, 71, 1, 0), (8, .ifCond .eq 12, 3, 20, 0, 0, 0), (11, .iload_n 2, 1, 0, 0, 0, 0), (12, .ifCond .lt 8, 3, 20, 0, 0, 0), (15, .iload_n 2, 1, 0, 0, 0, 0), (16, .iconst 2, 1, 0, 0, 0, 0), (17, .if_icmp .le 6, 3, 23, 0, 0, 0), (20, .bipush (-2), 2, 0, 0, 0, 0), (22, .ireturn, 1, 0, 0, 0, 0), (23, .iload_n 2, 1, 0, 0, 0, 0), (24, .ifCond .ne 13, 3, 37, 0, 0, 0), (27, .aload_n 0, 1, 0, 0, 0, 0), (28, .getfield 27, 3, 461, 7, 3, 3), (31, .getfield 190, 3, 168, 6, 7, 3), (34, .iload_n 1, 1, 0, 0, 0, 0), (35, .iaload, 1, 0, 0, 0, 0), (36, .ireturn, 1, 0, 0, 0, 0), (37, .iload_n 2, 1, 0, 0, 0, 0), (38, .iconst 1, 1, 0, 0, 0, 0), (39, .if_icmp .ne 15, 3, 54, 0, 0, 0), (42, .aload_n 0, 1, 0, 0, 0, 0), (43, .getfield 37, 3, 463, 7, 5, 3), (46, .getfield 193, 3, 272, 5, 3, 3), (49, .iload_n 1, 1, 0, 0, 0, 0), (50, .iaload, 1, 0, 0, 0, 0), (51, .goto 15, 3, 66, 0, 0, 0), (54, .aload_n 0, 1, 0, 0, 0, 0), (55, .getfield 37, 3, 463, 7, 5, 3), (58, .aload_n 0, 1, 0, 0, 0, 0), (59, .getfield 27, 3, 461, 7, 3, 3), (62, .iload_n 1, 1, 0, 0, 0, 0), (63, .invokevirtual 196, 3, 681, 58, 2, 0), (66, .ireturn, 1, 0, 0, 0, 0)]
def T82 : List CE := [(0, .aload_n 0, 1, 0, 0, 0, 0), (1, .iload_n 1, 1, 0, 0, 0, 0), (2, .iload_n 2, 1, 0, 0, 0, 0), (3, .invokevirtual 200, 3, 696, 120, 2, 0), (6, .ifCond .eq 12, 3, 18, 0, 0, 0), (9, .iload_n 3, 1, 0, 0, 0, 0), (10, .ifCond .lt 8, 3, 18, 0, 0, 0), (13, .iload_n 3, 1, 0, 0, 0, 0), (14, .iconst 2, 1, 0, 0, 0, 0), (15, .if_icmp .le 6, 3, 21, 0, 0, 0), (18, .bipush (-2), 2, 0, 0, 0, 0), (20, .ireturn, 1, 0, 0, 0, 0), (21, .iload_n 3, 1, 0, 0, 0, 0), (22, .ifCond .ne 17, 3, 39, 0, 0, 0), (25, .aload_n 0, 1, 0, 0, 0, 0), (26, .getfield 37, 3, 463, 7, 5, 3), (29, .getfield 204, 3, 275, 5, 4, 3), (32, .iload_n 1, 1, 0, 0, 0, 0), (33, .iload_n 2, 1, 0, 0, 0, 0), (34, .invokestatic 207, 3, 700, 50, 2, 1), (37, .iaload, 1, 0, 0, 0, 0), (38, .ireturn, 1, 0, 0, 0, 0), (39, .iconst 0, 1, 0, 0, 0, 0), (40, .istore 4, 2, 0, 0, 0, 0), (42, .iconst 0, 1, 0, 0, 0, 0), (43, .istore 5, 2, 0, 0, 0, 0), (45, .iconst 0, 1, 0, 0, 0, 0), (46, .istore 6, 2, 0, 0, 0, 0), (48, .iload 6, 2, 0, 0, 0, 0), (50, .aload_n 0, 1, 0, 0, 0, 0), (51, .getfield 27, 3, 461, 7, 3, 3), (54, .getfield 190, 3, 168, 6, 7, 3), (57, .iload_n 1, 1, 0, 0, 0, 0), (58, .iaload, 1, 0, 0, 0, 0), (59, .if_icmp .ge 51, 3, 110, 0, 0, 0), (62, .aload_n 0, 1, 0, 0, 0, 0), (63, .getfield 37, 3, 463, 7, 5, 3), (66, .getfield 211, 3, 277, 5, 5, 3), (69, .iload_n 1, 1, 0, 0, 0, 0), (70, .iload_n 2, 1, 0, 0, 0, 0), (71, .iload 6, 2, 0, 0, 0, 0), (73, .invokestatic 214, 3, 703, 51, 3, 1), (76, .iaload, 1, 0, 0, 0, 0), (77, .istore 7, 2, 0, 0, 0, 0), (79, .iload 4, 2, 0, 0, 0, 0), (81, .iload 7, 2, 0, 0, 0, 0), (83, .iadd, 1, 0, 0, 0, 0), (84, .istore 4, 2, 0, 0, 0, 0), (86, .iload 5, 2, 0, 0, 0, 0), (88, .iload 7, 2, 0, 0, 0, 0), (90, .ifCond .le 10, 3, 100, 0, 0, 0), (93, .iconst 1, 1, 0, 0, 0, 0), (94, .iload 6, 2, 0, 0, 0, 0), (96, .ishl, 1, 0, 0, 0, 0), (97, .goto 4, 3, 101, 0, 0, 0), (100, .iconst 0, 1, 0, 0, 0, 0), (101, .ior, 1, 0, 0, 0, 0), (102, .istore 5, 2, 0, 0, 0, 0), (104, .iinc 6 1, 3, 0, 0, 0, 0), (107, .goto (-59), 3, 48, 0, 0, 0), (110, .iload_n 3, 1, 0, 0, 0, 0), (111, .iconst 1, 1, 0, 0, 0, 0), (112, .if_icmp .ne 8, 3, 120, 0, 0, 0), (115, .iload 4, 2, 0, 0, 0, 0), (117, .goto 5, 3, 122, 0, 0, 0), (120, .iload 5, 2, 0, 0, 0, 0), (122, .ireturn, 1, 0, 0, 0, 0)]
def T83 : List CE := [(0, .aload_n 0, 1, 0, 0, 0, 0), (1, .iload_n 1, 1, 0, 0, 0, 0), (2, .iload_n 2, 1, 0, 0, 0, 0), (3, .invokevirtual 200, 3, 696, 120, 2, 0), (6, .ifCond .eq 15, 3, 21, 0, 0, 0), (9, .aload_n 0, 1, 0, 0, 0, 0), (10, .getfield 27, 3, 461, 7, 3, 3), (13, .iload_n 1, 1, 0, 0, 0, 0), (14, .iload_n 3, 1, 0, 0, 0, 0), (15, .invokevirtual 218, 3, 708, 72, 2, 0), (18, .ifCond .ne 6, 3, 24, 0, 0, 0), (21, .bipush (-2), 2, 0, 0, 0, 0), (23, .ireturn, 1, 0, 0, 0, 0), (24, .aload_n 0, 1, 0, 0, 0, 0), (25, .getfield 37, 3, 463, 7, 5, 3), (28, .getfield 211, 3, 277, 5, 5, 3), (31, .iload_n 1, 1, 0, 0, 0, 0), (32, .iload_n 2, 1, 0, 0, 0, 0), (33, .iload_n 3, 1, 0, 0, 0, 0), (34, .invokestatic 214, 3, 703, 51, 3, 1), (37, .iaload, 1, 0, 0, 0, 0), (38, .ireturn, 1, 0, 0, 0, 0)]
def T84 : List CE := [(0, .iload_n 1, 1, 0, 0, 0, 0), (1, .invokestatic 221, 3, 717, 118, 1, 1), (4, .ifCond .eq 15, 3, 19, 0, 0, 0), (7, .aload_n 0, 1, 0, 0, 0, 0), (8, .getfield 37, 3, 463, 7, 5, 3), (11, .getfield 224, 3, 288, 5, 9, 3), (14, .iload_n 1, 1, 0, 0, 0, 0), (15, .iaload, 1, 0, 0, 0, 0), (16, .goto 5, 3, 21, 0, 0, 0), (19, .bipush (-2), 2, 0, 0, 0, 0), (21, .ireturn, 1, 0, 0, 0, 0)]
def T85 : List CE := [(0, .aload_n 0, 1, 0, 0, 0, 0), (1, .getfield 37, 3, 463, 7, 5, 3), (4, .iconst 0, 1, 0, 0, 0, 0), (5, .invokevirtual 227, 3, 724, 52, 1, 0), (8, .istore_n 1, 1, 0, 0, 0, 0), (9, .iload_n 1, 1, 0, 0, 0, 0), (10, .iconst (-1), 1, 0, 0, 0, 0), (11, .if_icmp .eq 15, 3, 26, 0, 0, 0), (14, .aload_n 0, 1, 0, 0, 0, 0), (15, .getfield 37, 3, 463, 7, 5, 3), (18, .iconst 1, 1, 0, 0, 0, 0), (19, .invokevirtual 227, 3, 724, 52, 1, 0), (22, .iload_n 1, 1, 0, 0, 0, 0), (23, .if_icmp .eq 6, 3, 29, 0, 0, 0), (26, .bipush (-2), 2, 0, 0, 0, 0), (28, .ireturn, 1, 0, 0, 0, 0), (29, .aload_n 0, 1, 0, 0, 0, 0), (30, .getfield 37, 3, 463, 7, 5, 3), (33, .iconst 0, 1, 0, 0, 0, 0), (34, .invokevirtual 230, 3, 728, 53, 1, 0), (37, .aload_n 0, 1, 0, 0, 0, 0), (38, .getfield 37, 3, 463, 7, 5, 3), (41, .iconst 1, 1, 0, 0, 0, 0), (42, .invokevirtual 230, 3, 728, 53, 1, 0), (45, .isub, 1, 0, 0, 0, 0), (46, .invokestatic 233, 3, 732, 0, 1, 12), (49, .ireturn, 1, 0, 0, 0, 0)]
def T86 : List CE := [(0, .aload_n 0, 1, 0, 0, 0, 0), (1, .iload_n 1, 1, 0, 0, 0, 0), (2, .iload_n 2, 1, 0, 0, 0, 0), (3, .iload_n 3, 1, 0, 0, 0, 0), (4, .iload 4, 2, 0, 0, 0, 0), (6, .iload 5, 2, 0, 0, 0, 0), (8, .invokevirtual 238, 3, 739, 121, 5, 0), (11, .ifCond .ne 5, 3, 16, 0, 0, 0), (14, .iconst 1, 1, 0, 0, 0, 0), (15, .ireturn, 1, 0, 0, 0, 0), (16, .iload 5, 2, 0, 0, 0, 0), (18, .iload 4, 2, 0, 0, 0, 0), (20, .iload_n 3, 1, 0, 0, 0, 0), (21, .isub, 1, 0, 0, 0, 0), (22, .invokestatic 233, 3, 732, 0, 1, 12), (25, .iconst 1, 1, 0, 0, 0, 0), (26, .iadd, 1, 0, 0, 0, 0), (27, .imul, 1, 0, 0, 0, 0), (28, .aload_n 0, 1, 0, 0, 0, 0), (29, .getfield 37, 3, 463, 7, 5, 3), (32, .getfield 153, 3, 269, 5, 2, 3), (35, .iload_n 2, 1, 0, 0, 0, 0), (36, .iaload, 1, 0, 0, 0, 0), (37, .if_icmp .le 5, 3, 42, 0, 0, 0), (40, .iconst 2, 1, 0, 0, 0, 0), (41, .ireturn, 1, 0, 0, 0, 0), (42, .aload_n 0, 1, 0, 0, 0, 0), (43, .iconst 0, 1, 0, 0, 0, 0), (44, .iload_n 1, 1, 0, 0, 0, 0), (45, .iload_n 3, 1, 0, 0, 0, 0), (46, .iload 4, 2, 0, 0, 0, 0), (48, .invokevirtual 242, 3, 747, 122, 4, 0), (51, .ifCond .ne 5, 3, 56, 0, 0, 0), (54, .iconst 4, 1, 0, 0, 0, 0), (55, .ireturn, 1, 0, 0, 0, 0), (56, .aload_n 0, 1, 0, 0, 0, 0), (57, .getfield 37, 3, 463, 7, 5, 3), (60, .getfield 193, 3, 272, 5, 3, 3), (63, .iload_n 1, 1, 0, 0, 0, 0), (64, .iaload, 1, 0, 0, 0, 0), (65, .bipush 60, 2, 0, 0, 0, 0), (67, .if_icmp .lt 7, 3, 74, 0, 0, 0), (70, .iconst 5, 1, 0, 0, 0, 0), (71, .goto 4, 3, 75, 0, 0, 0), (74, .iconst 0, 1, 0, 0, 0, 0), (75, .ireturn, 1, 0, 0, 0, 0)]
def T87 : List CE := [(0, .aload_n 0, 1, 0, 0, 0, 0), (1, .iload_n 1, 1, 0, 0, 0, 0), (2, .iload_n 2, 1, 0, 0, 0, 0), (3, .iload_n 3, 1, 0, 0, 0, 0), (4, .iload 4, 2, 0, 0, 0, 0), (6, .iload 5, 2, 0, 0, 0, 0), (8, .invokevirtual 246, 3, 756, 86, 5, 0), (11, .ifCond .eq 5, 3, 16, 0, 0, 0), (14, .iconst (-1), 1, 0, 0, 0, 0), (15, .ireturn, 1, 0, 0, 0, 0), (16, .aload_n 0, 1, 0, 0, 0, 0), (17, .getfield 47, 3, 465, 7, 7, 3), (20, .aload_n 0, 1, 0, 0, 0, 0), (21, .getfield 37, 3, 463, 7, 5, 3), (24, .invokevirtual 250, 3, 757, 11, 1, 0), (27, .aload_n 0, 1, 0, 0, 0, 0), (28, .getfield 37, 3, 463, 7, 5, 3), (31, .getfield 119, 3, 290, 5, 10, 3), (34, .iconst 0, 1, 0, 0, 0, 0), (35, .iaload, 1, 0, 0, 0, 0), (36, .istore 6, 2, 0, 0, 0, 0), (38, .aload_n 0, 1, 0, 0, 0, 0), (39, .getfield 37, 3, 463, 7, 5, 3), (42, .iconst 0, 1, 0, 0, 0, 0), (43, .iload_n 1, 1, 0, 0, 0, 0), (44, .iload_n 3, 1, 0, 0, 0, 0), (45, .invokevirtual 254, 3, 770, 54, 3, 0), (48, .aload_n 0, 1, 0, 0, 0, 0), (49, .getfield 37, 3, 463, 7, 5, 3), (52, .iconst 0, 1, 0, 0, 0, 0), (53, .iload_n 1, 1, 0, 0, 0, 0), (54, .iload 4, 2, 0, 0, 0, 0), (56, .invokevirtual 254, 3, 770, 54, 3, 0), (59, .aload_n 0, 1, 0, 0, 0, 0), (60, .getfield 37, 3, 463, 7, 5, 3), (63, .iload_n 1, 1, 0, 0, 0, 0), (64, .iload_n 2, 1, 0, 0, 0, 0), (65, .invokevirtual 258, 3, 777, 60, 2, 0), (68, .istore 7, 2, 0, 0, 0, 0), (70, .iload_n 3, 1, 0, 0, 0, 0), (71, .iload 4, 2, 0, 0, 0, 0), (73, .invokestatic 261, 3, 670, 0, 2, 10), (76, .istore 8, 2, 0, 0, 0, 0), (78, .iload_n 3, 1, 0, 0, 0, 0), (79, .iload 4, 2, 0, 0, 0, 0), (81, .invokestatic 264, 3, 751, 0, 2, 11), (84, .istore 9, 2, 0, 0, 0, 0), (86, .iload 9, 2, 0, 0, 0, 0), (88, .iload 8, 2, 0, 0, 0, 0), (90, .if_icmp .gt 23, 3, 113, 0, 0, 0), (93, .aload_n 0, 1, 0, 0, 0, 0), (94, .getfield 37, 3, 463, 7, 5, 3), (97, .iload_n 1, 1, 0, 0, 0, 0), (98, .iload 7, 2, 0, 0, 0, 0), (100, .iload 9, 2, 0, 0, 0, 0), (102, .iload 5, 2, 0, 0, 0, 0), (104, .invokevirtual 267, 3, 781, 61, 4, 0), (107, .iinc 9 1, 3, 0, 0, 0, 0), (110, .goto (-24), 3, 86, 0, 0, 0), (113, .aload_n 0, 1, 0, 0, 0, 0), (114, .getfield 37, 3, 463, 7, 5, 3), (117, .getfield 271, 3, 293, 5, 11, 3), (120, .iconst 0, 1, 0, 0, 0, 0), (121, .iconst 0, 1, 0, 0, 0, 0), (122, .iastore, 1, 0, 0, 0, 0), (123, .aload_n 0, 1, 0, 0, 0, 0), (124, .getfield 37, 3, 463, 7, 5, 3), (127, .getfield 119, 3, 290, 5, 10, 3), (130, .iconst 0, 1, 0, 0, 0, 0), (131, .iaload, 1, 0, 0, 0, 0), (132, .iload 6, 2, 0, 0, 0, 0), (134, .isub, 1, 0, 0, 0, 0), (135, .ireturn, 1, 0, 0, 0, 0)]
def T88 : List CE := [(0, .aload_n 0, 1, 0, 0, 0, 0), (1, .getfield 27, 3, 461, 7, 3, 3), (4, .iload_n 1, 1, 0, 0, 0, 0), (5, .iload_n 2, 1, 0, 0, 0, 0), (6, .invokevirtual 218, 3, 708, 72, 2, 0), (9, .ifCond .eq 14, 3, 23, 0, 0, 0), (12, .aload_n 0, 1, 0, 0, 0, 0), (13, .getfield 27, 3, 461, 7, 3, 3), (16, .iload_n 3, 1, 0, 0, 0, 0), (17, .invokevirtual 156, 3, 789, 73, 1, 0), (20, .ifCond .ne 5, 3, 25, 0, 0, 0), (23, .iconst 1, 1, 0, 0, 0, 0), (24, .ireturn, 1, 0, 0, 0, 0), (25, .aload_n 0, 1, 0, 0, 0, 0), (26, .getfield 37, 3, 463, 7, 5, 3), (29, .iload_n 1, 1, 0, 0, 0, 0), (30, .iload_n 2, 1, 0, 0, 0, 0), (31, .invokevirtual 274, 3, 793, 56, 2, 0), (34, .ifCond .ne 5, 3, 39, 0, 0, 0), (37, .iconst 2, 1, 0, 0, 0, 0), (38, .ireturn, 1, 0, 0, 0, 0), (39, .aload_n 0, 1, 0, 0, 0, 0), (40, .getfield 37, 3, 463, 7, 5, 3), (43, .aload_n 0, 1, 0, 0, 0, 0), (44, .getfield 27, 3, 461, 7, 3, 3), (47, .iload_n 3, 1, 0, 0, 0, 0), (48, .invokevirtual 277, 3, 794, 62, 2, 0), (51, .ifCond .ne 5, 3, 56, 0, 0, 0), (54, .iconst 3, 1, 0, 0, 0, 0), (55, .ireturn, 1, 0, 0, 0, 0), (56, .aload_n 0, 1, 0, 0, 0, 0), (57, .iconst 1, 1, 0, 0, 0, 0), (58, .iload_n 1, 1, 0, 0, 0, 0), (59, .iload_n 2, 1, 0, 0, 0, 0), (60, .iload_n 2, 1, 0, 0, 0, 0), (61, .invokevirtual 242, 3, 747, 122, 4, 0), (64, .ifCond .eq 7, 3, 71, 0, 0, 0), (67, .iconst 0, 1, 0, 0, 0, 0), (68, .goto 4, 3, 72, 0, 0, 0), (71, .iconst 4, 1, 0, 0, 0, 0), (72, .ireturn, 1, 0, 0, 0, 0)]
def T89 : List CE := [(0, .aload_n 0, 1, 0, 0, 0, 0), (1, .iload_n 1, 1, 0, 0, 0, 0), (2, .iload_n 2, 1, 0, 0, 0, 0), (3, .iload_n 3, 1, 0, 0, 0, 0), (4, .invokevirtual 281, 3, 802, 88, 3, 0), (7, .ifCond .eq 5, 3, 12, 0, 0, 0), (10, .iconst (-1), 1, 0, 0, 0, 0), (11, .ireturn, 1, 0, 0, 0, 0), (12, .aload_n 0, 1, 0, 0, 0, 0), (13, .getfield 47, 3, 465, 7, 7, 3), (16, .aload_n 0, 1, 0, 0, 0, 0), (17, .getfield 37, 3, 463, 7, 5, 3), (20, .invokevirtual 250, 3, 757, 11, 1, 0), (23, .aload_n 0, 1, 0, 0, 0, 0), (24, .getfield 37, 3, 463, 7, 5, 3), (27, .iconst 1, 1, 0, 0, 0, 0), (28, .iload_n 1, 1, 0, 0, 0, 0), (29, .iload_n 2, 1, 0, 0, 0, 0), (30, .invokevirtual 254, 3, 770, 54, 3, 0), (33, .aload_n 0, 1, 0, 0, 0, 0), (34, .getfield 37, 3, 463, 7, 5, 3), (37, .getfield 271, 3, 293, 5, 11, 3), (40, .iconst 1, 1, 0, 0, 0, 0), (41, .iconst 0, 1, 0, 0, 0, 0), (42, .iastore, 1, 0, 0, 0, 0), (43, .aload_n 0, 1, 0, 0, 0, 0), (44, .getfield 37, 3, 463, 7, 5, 3), (47, .aload_n 0, 1, 0, 0, 0, 0), (48, .getfield 27, 3, 461, 7, 3, 3), (51, .iload_n 1, 1, 0, 0, 0, 0), (52, .iload_n 2, 1, 0, 0, 0, 0), (53, .iload_n 3, 1, 0, 0, 0, 0), (54, .invokevirtual 284, 3, 803, 63, 4, 0), (57, .ireturn, 1, 0, 0, 0, 0)]
def T90 : List CE := [(0, .iload_n 1, 1, 0, 0, 0, 0), (1, .invokestatic 221, 3, 717, 118, 1, 1), (4, .ifCond .eq 16, 3, 20, 0, 0, 0), (7, .aload_n 0, 1, 0, 0, 0, 0), (8, .getfield 37, 3, 463, 7, 5, 3), (11, .getfield 224, 3, 288, 5, 9, 3), (14, .iload_n 1, 1, 0, 0, 0, 0), (15, .iaload, 1, 0, 0, 0, 0), (16, .iconst (-1), 1, 0, 0, 0, 0), (17, .if_icmp .ne 5, 3, 22, 0, 0, 0), (20, .iconst 0, 1, 0, 0, 0, 0), (21, .ireturn, 1, 0, 0, 0, 0), (22, .aload_n 0, 1, 0, 0, 0, 0), (23, .getfield 47, 3, 465, 7, 7, 3), (26, .aload_n 0, 1, 0, 0, 0, 0), (27, .getfield 37, 3, 463, 7, 5, 3), (30, .invokevirtual 250, 3, 757, 11, 1, 0), (33, .aload_n 0, 1, 0, 0, 0, 0), (34, .getfield 37, 3, 463, 7, 5, 3), (37, .getfield 224, 3, 288, 5, 9, 3), (40, .iload_n 1, 1, 0, 0, 0, 0), (41, .iconst (-1), 1, 0, 0, 0, 0), (42, .iastore, 1, 0, 0, 0, 0), (43, .aload_n 0, 1, 0, 0, 0, 0), (44, .getfield 37, 3, 463, 7, 5, 3), (47, .getfield 271, 3, 293, 5, 11, 3), (50, .iload_n 1, 1, 0, 0, 0, 0), (51, .iconst 0, 1, 0, 0, 0, 0), (52, .iastore, 1, 0, 0, 0, 0), (53, .iconst 1, 1, 0, 0, 0, 0), (54, .ireturn, 1, 0, 0, 0, 0)]
def T91 : List CE := [(0, .aload_n 0, 1, 0, 0, 0, 0), (1, .getfield 27, 3, 461, 7, 3, 3), (4, .iload_n 1, 1, 0, 0, 0, 0), (5, .invokevirtual 156, 3, 789, 73, 1, 0), (8, .ifCond .eq 31, 3, 39, 0, 0, 0), (11, .aload_n 0, 1, 0, 0, 0, 0), (12, .getfield 37, 3, 463, 7, 5, 3), (15, .getfield 180, 3, 286, 5, 8, 3), (18, .iload_n 1, 1, 0, 0, 0, 0), (19, .iaload, 1, 0, 0, 0, 0), (20, .iconst (-1), 1, 0, 0, 0, 0), (21, .if_icmp .ne 18, 3, 39, 0, 0, 0), (24, .aload_n 0, 1, 0, 0, 0, 0), (25, .getfield 37, 3, 463, 7, 5, 3), (28, .aload_n 0, 1, 0, 0, 0, 0), (29, .getfield 27, 3, 461, 7, 3, 3), (32, .iload_n 1, 1, 0, 0, 0, 0), (33, .invokevirtual 277, 3, 794, 62, 2, 0), (36, .ifCond .eq 5, 3, 41, 0, 0, 0), (39, .iconst (-1), 1, 0, 0, 0, 0), (40, .ireturn, 1, 0, 0, 0, 0), (41, .aload_n 0, 1, 0, 0, 0, 0), (42, .getfield 27, 3, 461, 7, 3, 3), (45, .iload_n 1, 1, 0, 0, 0, 0), (46, .aload_n 0, 1, 0, 0, 0, 0), (47, .getfield 37, 3, 463, 7, 5, 3), (50, .getfield 177, 3, 280, 5, 6, 3), (53, .iload_n 1, 1, 0, 0, 0, 0), (54, .iaload, 1, 0, 0, 0, 0), (55, .aload_n 0, 1, 0, 0, 0, 0), (56, .getfield 37, 3, 463, 7, 5, 3), (59, .getfield 288, 3, 283, 5, 7, 3), (62, .iload_n 1, 1, 0, 0, 0, 0), (63, .iaload, 1, 0, 0, 0, 0), (64, .invokevirtual 291, 3, 819, 74, 3, 0), (67, .ifCond .ne 5, 3, 72, 0, 0, 0), (70, .iconst (-1), 1, 0, 0, 0, 0), (71, .ireturn, 1, 0, 0, 0, 0), (72, .aload_n 0, 1, 0, 0, 0, 0), (73, .getfield 47, 3, 465, 7, 7, 3), (76, .aload_n 0, 1, 0, 0, 0, 0), (77, .getfield 37, 3, 463, 7, 5, 3), (80, .invokevirtual 250, 3, 757, 11, 1, 0), (83, .aload_n 0, 1, 0, 0, 0, 0), (84, .getfield 37, 3, 463, 7, 5, 3), (87, .getfield 180, 3, 286, 5, 8, 3), (90, .iload_n 1, 1, 0, 0, 0, 0), (91, .aload_n 0, 1, 0, 0, 0, 0), (92, .getfield 37, 3, 463, 7, 5, 3), (95, .getfield 112, 3, 263, 5, 0, 0), (98, .iastore, 1, 0, 0, 0, 0), (99, .aload_n 0, 1, 0, 0, 0, 0), (100, .iload_n 1, 1, 0, 0, 0, 0), (101, .invokevirtual 183, 3, 666, 125, 1, 0), (104, .ireturn, 1, 0, 0, 0, 0)]
def T92 : List CE := [(0, .iload_n 1, 1, 0, 0, 0, 0), (1, .iconst 1, 1, 0, 0, 0, 0), (2, .if_icmp .lt 24, 3, 26, 0, 0, 0), (5, .iload_n 1, 1, 0, 0, 0, 0), (6, .bipush 99, 2, 0, 0, 0, 0), (8, .if_icmp .gt 18, 3, 26, 0, 0, 0), (11, .aload_n 0, 1, 0, 0, 0, 0), (12, .getfield 37, 3, 463, 7, 5, 3), (15, .getfield 112, 3, 263, 5, 0, 0), (18, .iload_n 1, 1, 0, 0, 0, 0), (19, .iadd, 1, 0, 0, 0, 0), (20, .sipush 999, 3, 0, 0, 0, 0), (23, .if_icmp .le 5, 3, 28, 0, 0, 0), (26, .iconst (-1), 1, 0, 0, 0, 0), (27, .ireturn, 1, 0, 0, 0, 0), (28, .aload_n 0, 1, 0, 0, 0, 0), (29, .getfield 47, 3, 465, 7, 7, 3), (32, .aload_n 0, 1, 0, 0, 0, 0), (33, .getfield 37, 3, 463, 7, 5, 3), (36, .invokevirtual 250, 3, 757, 11, 1, 0), (39, .aload_n 0, 1, 0, 0, 0, 0), (40, .getfield 37, 3, 463, 7, 5, 3), (43, .dup, 1, 0, 0, 0, 0), (44, .getfield 112, 3, 263, 5, 0, 0), (47, .iload_n 1, 1, 0, 0, 0, 0), (48, .iadd, 1, 0, 0, 0, 0), (49, .putfield 112, 3, 263, 5, 0, 0), (52, .aload_n 0, 1, 0, 0, 0, 0), (53, .getfield 37, 3, 463, 7, 5, 3), (56, .getfield 112, 3, 263, 5, 0, 0), (59, .ireturn, 1, 0, 0, 0, 0)]
def T93 : List CE := [(0, .aload_n 0, 1, 0, 0, 0, 0), (1, .iload_n 1, 1, 0, 0, 0, 0), (2, .iload_n 2, 1, 0, 0, 0, 0), (3, .iload_n 3, 1, 0, 0, 0, 0), (4, .iload 4, 2, 0, 0, 0, 0), (6, .iload 5, 2, 0, 0, 0, 0), (8, .invokevirtual 238, 3, 739, 121, 5, 0), (11, .ifCond .eq 17, 3, 28, 0, 0, 0), (14, .aload_n 0, 1, 0, 0, 0, 0), (15, .getfield 37, 3, 463, 7, 5, 3), (18, .getfield 131, 3, 299, 5, 13, 3), (21, .iconst 0, 1, 0, 0, 0, 0), (22, .iaload, 1, 0, 0, 0, 0), (23, .bipush 8, 2, 0, 0, 0, 0), (25, .if_icmp .lt 5, 3, 30, 0, 0, 0), (28, .iconst (-1), 1, 0, 0, 0, 0), (29, .ireturn, 1, 0, 0, 0, 0), (30, .aload_n 0, 1, 0, 0, 0, 0), (31, .getfield 47, 3, 465, 7, 7, 3), (34, .aload_n 0, 1, 0, 0, 0, 0), (35, .getfield 37, 3, 463, 7, 5, 3), (38, .invokevirtual 250, 3, 757, 11, 1, 0), (41, .aload_n 0, 1, 0, 0, 0, 0), (42, .getfield 37, 3, 463, 7, 5, 3), (45, .iconst 0, 1, 0, 0, 0, 0), (46, .iload_n 1, 1, 0, 0, 0, 0), (47, .iload_n 2, 1, 0, 0, 0, 0), (48, .iload_n 3, 1, 0, 0, 0, 0), (49, .iload 4, 2, 0, 0, 0, 0), (51, .iload 5, 2, 0, 0, 0, 0), (53, .invokevirtual 295, 3, 831, 66, 6, 0), (56, .aload_n 0, 1, 0, 0, 0, 0), (57, .getfield 37, 3, 463, 7, 5, 3), (60, .getfield 131, 3, 299, 5, 13, 3), (63, .iconst 0, 1, 0, 0, 0, 0), (64, .iaload, 1, 0, 0, 0, 0), (65, .ireturn, 1, 0, 0, 0, 0)]
def T94 : List CE := [(0, .aload_n 0, 1, 0, 0, 0, 0), (1, .getfield 27, 3, 461, 7, 3, 3), (4, .iload_n 1, 1, 0, 0, 0, 0), (5, .iload_n 2, 1, 0, 0, 0, 0), (6, .invokevirtual 218, 3, 708, 72, 2, 0), (9, .ifCond .eq 28, 3, 37, 0, 0, 0), (12, .aload_n 0, 1, 0, 0, 0, 0), (13, .getfield 27, 3, 461, 7, 3, 3), (16, .iload_n 3, 1, 0, 0, 0, 0), (17, .invokevirtual 156, 3, 789, 73, 1, 0), (20, .ifCond .eq 17, 3, 37, 0, 0, 0), (23, .aload_n 0, 1, 0, 0, 0, 0), (24, .getfield 37, 3, 463, 7, 5, 3), (27, .getfield 131, 3, 299, 5, 13, 3), (30, .iconst 1, 1, 0, 0, 0, 0), (31, .iaload, 1, 0, 0, 0, 0), (32, .bipush 8, 2, 0, 0, 0, 0), (34, .if_icmp .lt 5, 3, 39, 0, 0, 0), (37, .iconst (-1), 1, 0, 0, 0, 0), (38, .ireturn, 1, 0, 0, 0, 0), (39, .aload_n 0, 1, 0, 0, 0, 0), (40, .getfield 47, 3, 465, 7, 7, 3), (43, .aload_n 0, 1, 0, 0, 0, 0), (44, .getfield 37, 3, 463, 7, 5, 3), (47, .invokevirtual 250, 3, 757, 11, 1, 0), (50, .aload_n 0, 1, 0, 0, 0, 0), (51, .getfield 37, 3, 463, 7, 5, 3), (54, .iconst 1, 1, 0, 0, 0, 0), (55, .iload_n 1, 1, 0, 0, 0, 0), (56, .iload_n 3, 1, 0, 0, 0, 0), (57, .iload_n 2, 1, 0, 0, 0, 0), (58, .iload_n 2, 1, 0, 0, 0, 0), (59, .iconst 0, 1, 0, 0, 0, 0), (60, .invokevirtual 295, 3, 831, 66, 6, 0), (63, .aload_n 0, 1, 0, 0, 0, 0), (64, .getfield 37, 3, 463, 7, 5, 3), (67, .getfield 131, 3, 299, 5, 13, 3), (70, .iconst 1, 1, 0, 0, 0, 0), (71, .iaload, 1, 0, 0, 0, 0), (72, .ireturn, 1, 0, 0, 0, 0)]
def T95 : List CE := [(0, .iload_n 1, 1, 0, 0, 0, 0), (1, .invokestatic 221, 3, 717, 118, 1, 1), (4, .ifCond .eq 15, 3, 19, 0, 0, 0), (7, .aload_n 0, 1, 0, 0, 0, 0), (8, .getfield 37, 3, 463, 7, 5, 3), (11, .getfield 131, 3, 299, 5, 13, 3), (14, .iload_n 1, 1, 0, 0, 0, 0), (15, .iaload, 1, 0, 0, 0, 0), (16, .ifCond .ne 5, 3, 21, 0, 0, 0), (19, .iconst (-1), 1, 0, 0, 0, 0), (20, .ireturn, 1, 0, 0, 0, 0), (21, .aload_n 0, 1, 0, 0, 0, 0), (22, .getfield 47, 3, 465, 7, 7, 3), (25, .aload_n 0, 1, 0, 0, 0, 0), (26, .getfield 37, 3, 463, 7, 5, 3), (29, .invokevirtual 250, 3, 757, 11, 1, 0), (32, .aload_n 0, 1, 0, 0, 0, 0), (33, .getfield 37, 3, 463, 7, 5, 3), (36, .getfield 131, 3, 299, 5, 13, 3), (39, .iload_n 1, 1, 0, 0, 0, 0), (40, .iaload, 1, 0, 0, 0, 0), (41, .istore_n 2, 1, 0, 0, 0, 0), (42, .aload_n 0, 1, 0, 0, 0, 0), (43, .getfield 37, 3, 463, 7, 5, 3), (46, .getfield 131, 3, 299, 5, 13, 3), (49, .iload_n 1, 1, 0, 0, 0, 0), (50, .iconst 0, 1, 0, 0, 0, 0), (51, .iastore, 1, 0, 0, 0, 0), (52, .aload_n 0, 1, 0, 0, 0, 0), (53, .getfield 37, 3, 463, 7, 5, 3), (56, .getfield 271, 3, 293, 5, 11, 3), (59, .iload_n 1, 1, 0, 0, 0, 0), (60, .iconst 0, 1, 0, 0, 0, 0), (61, .iastore, 1, 0, 0, 0, 0), (62, .iload_n 2, 1, 0, 0, 0, 0), (63, .ireturn, 1, 0, 0, 0, 0)]
def T96 : List CE := [(0, .iload_n 1, 1, 0, 0, 0, 0), (1, .iconst 1, 1, 0, 0, 0, 0), (2, .if_icmp .lt 10, 3, 12, 0, 0, 0), (5, .iload_n 1, 1, 0, 0, 0, 0), (6, .sipush 200, 3, 0, 0, 0, 0), (9, .if_icmp .le 5, 3, 14, 0, 0, 0), (12, .iconst (-1), 1, 0, 0, 0, 0), (13, .ireturn, 1, 0, 0, 0, 0), (14, .aload_n 0, 1, 0, 0, 0, 0), (15, .getfield 47, 3, 465, 7, 7, 3), (18, .aload_n 0, 1, 0, 0, 0, 0), (19, .getfield 37, 3, 463, 7, 5, 3), (22, .invokevirtual 250, 3, 757, 11, 1, 0), (25, .iconst 0, 1, 0, 0, 0, 0), (26, .istore_n 2, 1, 0, 0, 0, 0), (27, .iconst 0, 1, 0, 0, 0, 0), (28, .istore_n 3, 1, 0, 0, 0, 0), (29, .iload_n 3, 1, 0, 0, 0, 0), (30, .iload_n 1, 1, 0, 0, 0, 0), (31, .if_icmp .ge 26, 3, 57, 0, 0, 0), (34, .aload_n 0, 1, 0, 0, 0, 0), (35, .getfield 27, 3, 461, 7, 3, 3), (38, .aload_n 0, 1, 0, 0, 0, 0), (39, .getfield 37, 3, 463, 7, 5, 3), (42, .invokestatic 299, 3, 850, 20, 2, 1), (45, .ifCond .eq 6, 3, 51, 0, 0, 0), (48, .iinc 2 1, 3, 0, 0, 0, 0), (51, .iinc 3 1, 3, 0, 0, 0, 0), (54, .goto (-25), 3, 29, 0, 0, 0), (57, .iload_n 2, 1, 0, 0, 0, 0), (58, .ireturn, 1, 0, 0, 0, 0)]
def T97 : List CE := [(0, .aload_n 0, 1, 0, 0, 0, 0), (1, .getfield 41, 3, 464, 7, 6, 3), (4, .aload_n 0, 1, 0, 0, 0, 0), (5, .getfield 37, 3, 463, 7, 5, 3), (8, .invokevirtual 305, 3, 889, 49, 1, 0), (11, .iconst 0, 1, 0, 0, 0, 0), (12, .istore_n 1, 1, 0, 0, 0, 0), (13, .iload_n 1, 1, 0, 0, 0, 0), (14, .sipush 500, 3, 0, 0, 0, 0), (17, .if_icmp .ge 33, 3, 50, 0, 0, 0), (20, .aload_n 0, 1, 0, 0, 0, 0), (21, .getfield 41, 3, 464, 7, 6, 3), (24, .invokevirtual 308, 3, 890, 64, 0, 0), (27, .ifCond .ne 5, 3, 32, 0, 0, 0), (30, .iload_n 1, 1, 0, 0, 0, 0), (31, .ireturn, 1, 0, 0, 0, 0), (32, .aload_n 0, 1, 0, 0, 0, 0), (33, .getfield 27, 3, 461, 7, 3, 3), (36, .aload_n 0, 1, 0, 0, 0, 0), (37, .getfield 41, 3, 464, 7, 6, 3), (40, .invokestatic 299, 3, 850, 20, 2, 1), (43, .pop, 1, 0, 0, 0, 0), (44, .iinc 1 1, 3, 0, 0, 0, 0), (47, .goto (-34), 3, 13, 0, 0, 0), (50, .aload_n 0, 1, 0, 0, 0, 0), (51, .getfield 41, 3, 464, 7, 6, 3), (54, .invokevirtual 308, 3, 890, 64, 0, 0), (57, .ifCond .eq 8, 3, 65, 0, 0, 0), (60, .bipush (-2), 2, 0, 0, 0, 0), (62, .goto 6, 3, 68, 0, 0, 0), (65, .sipush 500, 3, 0, 0, 0, 0), (68, .ireturn, 1, 0, 0, 0, 0)]
def T98 : List CE := [(0, .aload_n 0, 1, 0, 0, 0, 0), (1, .getfield 47, 3, 465, 7, 7, 3), (4, .aload_n 0, 1, 0, 0, 0, 0), (5, .getfield 37, 3, 463, 7, 5, 3), (8, .invokevirtual 312, 3, 898, 12, 1, 0), (11, .ifCond .eq 13, 3, 24, 0, 0, 0), (14, .aload_n 0, 1, 0, 0, 0, 0), (15, .getfield 47, 3, 465, 7, 7, 3), (18, .getfield 122, 3, 344, 1, 2, 0), (21, .goto 4, 3, 25, 0, 0, 0), (24, .iconst (-1), 1, 0, 0, 0, 0), (25, .ireturn, 1, 0, 0, 0, 0)]
def T99 : List CE := [(0, .iload_n 2, 1, 0, 0, 0, 0), (1, .ifCond .eq 18, 3, 19, 0, 0, 0), (4, .aload_n 0, 1, 0, 0, 0, 0), (5, .getfield 47, 3, 465, 7, 7, 3), (8, .iload_n 1, 1, 0, 0, 0, 0), (9, .aload_n 0, 1, 0, 0, 0, 0), (10, .getfield 37, 3, 463, 7, 5, 3), (13, .invokevirtual 316, 3, 906, 14, 2, 0), (16, .goto 15, 3, 31, 0, 0, 0), (19, .aload_n 0, 1, 0, 0, 0, 0), (20, .getfield 47, 3, 465, 7, 7, 3), (23, .iload_n 1, 1, 0, 0, 0, 0), (24, .aload_n 0, 1, 0, 0, 0, 0), (25, .getfield 37, 3, 463, 7, 5, 3), (28, .invokevirtual 320, 3, 910, 13, 2, 0), (31, .ireturn, 1, 0, 0, 0, 0)]
def T100 : List CE := [(0, .aload_n 0, 1, 0, 0, 0, 0), (1, .getfield 27, 3, 461, 7, 3, 3), (4, .iload_n 1, 1, 0, 0, 0, 0), (5, .iload_n 2, 1, 0, 0, 0, 0), (6, .invokevirtual 218, 3, 708, 72, 2, 0), (9, .ifCond .ne 5, 3, 14, 0, 0, 0), (12, .iconst (-1), 1, 0, 0, 0, 0), (13, .ireturn, 1, 0, 0, 0, 0), (14, .aload_n 0, 1, 0, 0, 0, 0), (15, .aload_n 0, 1, 0, 0, 0, 0), (16, .getfield 37, 3, 463, 7, 5, 3), (19, .iload_n 1, 1, 0, 0, 0, 0), (20, .iload_n 2, 1, 0, 0, 0, 0), (21, .invokevirtual 274, 3, 793, 56, 2, 0), (24, .aload_n 0, 1, 0, 0, 0, 0), (25, .getfield 37, 3, 463, 7, 5, 3), (28, .aload_n 0, 1, 0, 0, 0, 0), (29, .getfield 27, 3, 461, 7, 3, 3), (32, .iload_n 1, 1, 0, 0, 0, 0), (33, .iload_n 2, 1, 0, 0, 0, 0), (34, .invokevirtual 323, 3, 918, 57, 3, 0), (37, .invokevirtual 327, 3, 919, 126, 2, 0), (40, .ireturn, 1, 0, 0, 0, 0)]
def T101 : List CE := [(0, .aload_n 0, 1, 0, 0, 0, 0), (1, .getfield 27, 3, 461, 7, 3, 3), (4, .iload_n 1, 1, 0, 0, 0, 0), (5, .invokevirtual 187, 3, 677, 71, 1, 0), (8, .ifCond .ne 5, 3, 13, 0, 0, 0), (11, .iconst (-1), 1, 0, 0, 0, 0), (12, .ireturn, 1, 0, 0, 0, 0), (13, .aload_n 0, 1, 0, 0, 0, 0), (14, .aload_n 0, 1, 0, 0, 0, 0), (15, .getfield 37, 3, 463, 7, 5, 3), (18, .aload_n 0, 1, 0, 0, 0, 0), (19, .getfield 27, 3, 461, 7, 3, 3), (22, .iload_n 1, 1, 0, 0, 0, 0), (23, .invokevirtual 196, 3, 681, 58, 2, 0), (26, .aload_n 0, 1, 0, 0, 0, 0), (27, .getfield 37, 3, 463, 7, 5, 3), (30, .aload_n 0, 1, 0, 0, 0, 0), (31, .getfield 27, 3, 461, 7, 3, 3), (34, .iload_n 1, 1, 0, 0, 0, 0), (35, .invokevirtual 330, 3, 933, 59, 2, 0), (38, .invokevirtual 327, 3, 919, 126, 2, 0), (41, .ireturn, 1, 0, 0, 0, 0)]
def T102 : List CE := [(0, .aload_n 0, 1, 0, 0, 0, 0), (1, .getfield 27, 3, 461, 7, 3, 3), (4, .iload_n 1, 1, 0, 0, 0, 0), (5, .invokevirtual 156, 3, 789, 73, 1, 0), (8, .ifCond .ne 5, 3, 13, 0, 0, 0), (11, .iconst (-1), 1, 0, 0, 0, 0), (12, .ireturn, 1, 0, 0, 0, 0), (13, .aload_n 0, 1, 0, 0, 0, 0), (14, .aload_n 0, 1, 0, 0, 0, 0), (15, .getfield 37, 3, 463, 7, 5, 3), (18, .getfield 177, 3, 280, 5, 6, 3), (21, .iload_n 1, 1, 0, 0, 0, 0), (22, .iaload, 1, 0, 0, 0, 0), (23, .aload_n 0, 1, 0, 0, 0, 0), (24, .getfield 37, 3, 463, 7, 5, 3), (27, .getfield 288, 3, 283, 5, 7, 3), (30, .iload_n 1, 1, 0, 0, 0, 0), (31, .iaload, 1, 0, 0, 0, 0), (32, .invokevirtual 327, 3, 919, 126, 2, 0), (35, .ireturn, 1, 0, 0, 0, 0)]
def T103 : List CE := [(0, .aload_n 0, 1, 0, 0, 0, 0), (1, .getfield 72, 3, 469, 7, 11, 0), (4, .ireturn, 1, 0, 0, 0, 0)]
def T104 : List CE := [(0, .aload_n 0, 1, 0, 0, 0, 0), (1, .getfield 27, 3, 461, 7, 3, 3), (4, .iload_n 1, 1, 0, 0, 0, 0), (5, .invokevirtual 187, 3, 677, 71, 1, 0), (8, .ifCond .eq 22, 3, 30, 0, 0, 0), (11, .iload_n 2, 1, 0, 0, 0, 0), (12, .invokestatic 333, 3, 949, 119, 1, 1), (15, .ifCond .eq 15, 3, 30, 0, 0, 0), (18, .iload_n 3, 1, 0, 0, 0, 0), (19, .invokestatic 333, 3, 949, 119, 1, 1), (22, .ifCond .eq 8, 3, 30, 0, 0, 0), (25, .iload_n 2, 1, 0, 0, 0, 0), (26, .iload_n 3, 1, 0, 0, 0, 0), (27, .if_icmp .le 5, 3, 32, 0, 0, 0), (30, .iconst (-1), 1, 0, 0, 0, 0), (31, .ireturn, 1, 0, 0, 0, 0), (32, .iconst 0, 1, 0, 0, 0, 0), (33, .istore 4, 2, 0, 0, 0, 0), (35, .iconst 0, 1, 0, 0, 0, 0), (36, .istore 5, 2, 0, 0, 0, 0), (38, .iload 5, 2, 0, 0, 0, 0), (40, .aload_n 0, 1, 0, 0, 0, 0), (41, .getfield 27, 3, 461, 7, 3, 3), (44, .getfield 190, 3, 168, 6, 7, 3), (47, .iload_n 1, 1, 0, 0, 0, 0), (48, .iaload, 1, 0, 0, 0, 0), (49, .if_icmp .ge 69, 3, 118, 0, 0, 0), (52, .aload_n 0, 1, 0, 0, 0, 0), (53, .getfield 37, 3, 463, 7, 5, 3), (56, .iload_n 1, 1, 0, 0, 0, 0), (57, .iload 5, 2, 0, 0, 0, 0), (59, .invokevirtual 274, 3, 793, 56, 2, 0), (62, .istore 6, 2, 0, 0, 0, 0), (64, .aload_n 0, 1, 0, 0, 0, 0), (65, .getfield 37, 3, 463, 7, 5, 3), (68, .aload_n 0, 1, 0, 0, 0, 0), (69, .getfield 27, 3, 461, 7, 3, 3), (72, .iload_n 1, 1, 0, 0, 0, 0), (73, .iload 5, 2, 0, 0, 0, 0), (75, .invokevirtual 323, 3, 918, 57, 3, 0), (78, .istore 7, 2, 0, 0, 0, 0), (80, .iload 6, 2, 0, 0, 0, 0), (82, .ifCond .le 30, 3, 112, 0, 0, 0), (85, .iload 7, 2, 0, 0, 0, 0), (87, .iload_n 2, 1, 0, 0, 0, 0), (88, .iload 6, 2, 0, 0, 0, 0), (90, .imul, 1, 0, 0, 0, 0), (91, .if_icmp .lt 21, 3, 112, 0, 0, 0), (94, .iload 7, 2, 0, 0, 0, 0), (96, .iload_n 3, 1, 0, 0, 0, 0), (97, .iload 6, 2, 0, 0, 0, 0), (99, .imul, 1, 0, 0, 0, 0), (100, .if_icmp .gt 12, 3, 112, 0, 0, 0), (103, .iload 4, 2, 0, 0, 0, 0), (105, .iconst 1, 1, 0, 0, 0, 0), (106, .iload 5, 2, 0, 0, 0, 0), (108, .ishl, 1, 0, 0, 0, 0), (109, .ior, 1, 0, 0, 0, 0), (110, .istore 4, 2, 0, 0, 0, 0), (112, .iinc 5 1, 3, 0, 0, 0, 0), (115, .goto (-77), 3, 38, 0, 0, 0), (118, .iload 4, 2, 0, 0, 0, 0), (120, .ireturn, 1, 0, 0, 0, 0)]
def T105 : List CE := [(0, .aload_n 0, 1, 0, 0, 0, 0), (1, .getfield 27, 3, 461, 7, 3, 3), (4, .iload_n 1, 1, 0, 0, 0, 0), (5, .invokevirtual 187, 3, 677, 71, 1, 0), (8, .ifCond .ne 7, 3, 15, 0, 0, 0), (11, .ldc2_w 336, 3, 956, 18446744073709551615, 0, 0), (14, .lreturn, 1, 0, 0, 0, 0), (15, .lconst 0, 1, 0, 0, 0, 0), (16, .lstore_n 2, 1, 0, 0, 0, 0), (17, .lconst 0, 1, 0, 0, 0, 0), (18, .lstore 4, 2, 0, 0, 0, 0), (20, .lconst 0, 1, 0, 0, 0, 0), (21, .lstore 6, 2, 0, 0, 0, 0), (23, .lconst 0, 1, 0, 0, 0, 0), (24, .lstore 8, 2, 0, 0, 0, 0), (26, .iconst 0, 1, 0, 0, 0, 0), (27, .istore 10, 2, 0, 0, 0, 0), (29, .iload 10, 2, 0, 0, 0, 0), (31, .aload_n 0, 1, 0, 0, 0, 0), (32, .getfield 27, 3, 461, 7, 3, 3), (35, .getfield 190, 3, 168, 6, 7, 3), (38, .iload_n 1, 1, 0, 0, 0, 0), (39, .iaload, 1, 0, 0, 0, 0), (40, .if_icmp .ge 109, 3, 149, 0, 0, 0), (43, .aload_n 0, 1, 0, 0, 0, 0), (44, .getfield 37, 3, 463, 7, 5, 3), (47, .iload_n 1, 1, 0, 0, 0, 0), (48, .iload 10, 2, 0, 0, 0, 0), (50, .invokevirtual 274, 3, 793, 56, 2, 0), (53, .i2l, 1, 0, 0, 0, 0), (54, .lstore 11, 2, 0, 0, 0, 0), (56, .aload_n 0, 1, 0, 0, 0, 0), (57, .getfield 37, 3, 463, 7, 5, 3), (60, .aload_n 0, 1, 0, 0, 0, 0), (61, .getfield 27, 3, 461, 7, 3, 3), (64, .iload_n 1, 1, 0, 0, 0, 0), (65, .iload 10, 2, 0, 0, 0, 0), (67, .invokevirtual 323, 3, 918, 57, 3, 0), (70, .i2l, 1, 0, 0, 0, 0), (71, .lstore 13, 2, 0, 0, 0, 0), (73, .lload 11, 2, 0, 0, 0, 0), (75, .lconst 0, 1, 0, 0, 0, 0), (76, .lcmp, 1, 0, 0, 0, 0), (77, .ifCond .le 30, 3, 107, 0, 0, 0), (80, .lload 4, 2, 0, 0, 0, 0), (82, .lconst 0, 1, 0, 0, 0, 0), (83, .lcmp, 1, 0, 0, 0, 0), (84, .ifCond .eq 16, 3, 100, 0, 0, 0), (87, .lload 13, 2, 0, 0, 0, 0), (89, .lload 4, 2, 0, 0, 0, 0), (91, .lmul, 1, 0, 0, 0, 0), (92, .lload_n 2, 1, 0, 0, 0, 0), (93, .lload 11, 2, 0, 0, 0, 0), (95, .lmul, 1, 0, 0, 0, 0), (96, .lcmp, 1, 0, 0, 0, 0), (97, .ifCond .ge 10, 3, 107, 0, 0, 0), (100, .lload 13, 2, 0, 0, 0, 0), (102, .lstore_n 2, 1, 0, 0, 0, 0), (103, .lload 11, 2, 0, 0, 0, 0), (105, .lstore 4, 2, 0, 0, 0, 0), (107, .lload 11, 2, 0, 0, 0, 0), (109, .lconst 0, 1, 0, 0, 0, 0), (110, .lcmp, 1, 0, 0, 0, 0), (111, .ifCond .le 32, 3, 143, 0, 0, 0), (114, .lload 8, 2, 0, 0, 0, 0), (116, .lconst 0, 1, 0, 0, 0, 0), (117, .lcmp, 1, 0, 0, 0, 0), (118, .ifCond .eq 17, 3, 135, 0, 0, 0), (121, .lload 13, 2, 0, 0, 0, 0), (123, .lload 8, 2, 0, 0, 0, 0), (125, .lmul, 1, 0, 0, 0, 0), (126, .lload 6, 2, 0, 0, 0, 0), (128, .lload 11, 2, 0, 0, 0, 0), (130, .lmul, 1, 0, 0, 0, 0), (131, .lcmp, 1, 0, 0, 0, 0), (132, .ifCond .le 11, 3, 143, 0, 0, 0), (135, .lload 13, 2, 0, 0, 0, 0), (137, .lstore 6, 2, 0, 0, 0, 0), (139, .lload 11, 2, 0, 0, 0, 0), (141, .lstore 8, 2, 0, 0, 0, 0), (143, .iinc 10 1, 3, 0, 0, 0, 0), (146, .goto (-117), 3, 29, 0, 0, 0), (149, .lload 4, 2, 0, 0, 0, 0), (151, .lconst 0, 1, 0, 0, 0, 0), (152, .lcmp, 1, 0, 0, 0, 0), (153, .ifCond .ne 7, 3, 160, 0, 0, 0), (156, .ldc2_w 338, 3, 957, 18446744073709551614, 0, 0), (159, .lreturn, 1, 0, 0, 0, 0), (160, .lload 6, 2, 0, 0, 0, 0), (162, .lload 4, 2, 0, 0, 0, 0), (164, .lmul, 1, 0, 0, 0, 0), (165, .lload_n 2, 1, 0, 0, 0, 0), (166, .lload 8, 2, 0, 0, 0, 0), (168, .lmul, 1, 0, 0, 0, 0), (169, .lsub, 1, 0, 0, 0, 0), (170, .lstore 10, 2, 0, 0, 0, 0), (172, .lload 10, 2, 0, 0, 0, 0), (174, .lload 8, 2, 0, 0, 0, 0), (176, .lload 4, 2, 0, 0, 0, 0), (178, .lmul, 1, 0, 0, 0, 0), (179, .invokestatic 340, 3, 923, 127, 2, 1), (182, .lstore 12, 2, 0, 0, 0, 0), (184, .aload_n 0, 1, 0, 0, 0, 0), (185, .lload 8, 2, 0, 0, 0, 0), (187, .lload 4, 2, 0, 0, 0, 0), (189, .lmul, 1, 0, 0, 0, 0), (190, .lload 12, 2, 0, 0, 0, 0), (192, .ldiv, 1, 0, 0, 0, 0), (193, .putfield 75, 3, 470, 7, 12, 1), (196, .lload 10, 2, 0, 0, 0, 0), (198, .lload 12, 2, 0, 0, 0, 0), (200, .ldiv, 1, 0, 0, 0, 0), (201, .lreturn, 1, 0, 0, 0, 0)]
def T106 : List CE := [(0, .aload_n 0, 1, 0, 0, 0, 0), (1, .getfield 75, 3, 470, 7, 12, 1), (4, .lreturn, 1, 0, 0, 0, 0)]
def T107 : List CE := [(0, .aload_n 0, 1, 0, 0, 0, 0), (1, .getfield 27, 3, 461, 7, 3, 3), (4, .iload_n 1, 1, 0, 0, 0, 0), (5, .iload 6, 2, 0, 0, 0, 0), (7, .invokevirtual 218, 3, 708, 72, 2, 0), (10, .ifCond .eq 17, 3, 27, 0, 0, 0), (13, .aload_n 0, 1, 0, 0, 0, 0), (14, .iload_n 1, 1, 0, 0, 0, 0), (15, .iload_n 2, 1, 0, 0, 0, 0), (16, .iload_n 3, 1, 0, 0, 0, 0), (17, .iload 4, 2, 0, 0, 0, 0), (19, .iload 5, 2, 0, 0, 0, 0), (21, .invokevirtual 246, 3, 756, 86, 5, 0), (24, .ifCond .eq 5, 3, 29, 0, 0, 0), (27, .iconst (-1), 1, 0, 0, 0, 0), (28, .ireturn, 1, 0, 0, 0, 0), (29, .iload 6, 2, 0, 0, 0, 0), (31, .iload_n 3, 1, 0, 0, 0, 0), (32, .iload 4, 2, 0, 0, 0, 0), (34, .invokestatic 264, 3, 751, 0, 2, 11), (37, .if_icmp .lt 18, 3, 55, 0, 0, 0), (40, .iload 6, 2, 0, 0, 0, 0), (42, .iload_n 3, 1, 0, 0, 0, 0), (43, .iload 4, 2, 0, 0, 0, 0), (45, .invokestatic 261, 3, 670, 0, 2, 10), (48, .if_icmp .gt 7, 3, 55, 0, 0, 0), (51, .iconst 1, 1, 0, 0, 0, 0), (52, .goto 4, 3, 56, 0, 0, 0), (55, .iconst 0, 1, 0, 0, 0, 0), (56, .istore 7, 2, 0, 0, 0, 0), (58, .iload 7, 2, 0, 0, 0, 0), (60, .ifCond .eq 8, 3, 68, 0, 0, 0), (63, .iload 5, 2, 0, 0, 0, 0), (65, .goto 4, 3, 69, 0, 0, 0), (68, .iconst 0, 1, 0, 0, 0, 0), (69, .istore 8, 2, 0, 0, 0, 0), (71, .aload_n 0, 1, 0, 0, 0, 0), (72, .aload_n 0, 1, 0, 0, 0, 0), (73, .getfield 37, 3, 463, 7, 5, 3), (76, .iload_n 1, 1, 0, 0, 0, 0), (77, .iload 6, 2, 0, 0, 0, 0), (79, .invokevirtual 274, 3, 793, 56, 2, 0), (82, .iload 8, 2, 0, 0, 0, 0), (84, .iadd, 1, 0, 0, 0, 0), (85, .aload_n 0, 1, 0, 0, 0, 0), (86, .getfield 37, 3, 463, 7, 5, 3), (89, .aload_n 0, 1, 0, 0, 0, 0), (90, .getfield 27, 3, 461, 7, 3, 3), (93, .iload_n 1, 1, 0, 0, 0, 0), (94, .iload 6, 2, 0, 0, 0, 0), (96, .invokevirtual 323, 3, 918, 57, 3, 0), (99, .iload 8, 2, 0, 0, 0, 0), (101, .aload_n 0, 1, 0, 0, 0, 0), (102, .getfield 27, 3, 461, 7, 3, 3), (105, .getfield 150, 3, 163, 6, 6, 3), (108, .iload_n 2, 1, 0, 0, 0, 0), (109, .iaload, 1, 0, 0, 0, 0), (110, .imul, 1, 0, 0, 0, 0), (111, .iadd, 1, 0, 0, 0, 0), (112, .invokevirtual 327, 3, 919, 126, 2, 0), (115, .ireturn, 1, 0, 0, 0, 0)]
def T108 : List CE := [(0, .iload_n 2, 1, 0, 0, 0, 0), (1, .invokestatic 333, 3, 949, 119, 1, 1), (4, .ifCond .eq 23, 3, 27, 0, 0, 0), (7, .aload_n 0, 1, 0, 0, 0, 0), (8, .getfield 61, 3, 467, 7, 9, 3), (11, .aload_n 0, 1, 0, 0, 0, 0), (12, .getfield 27, 3, 461, 7, 3, 3), (15, .aload_n 0, 1, 0, 0, 0, 0), (16, .getfield 37, 3, 463, 7, 5, 3), (19, .iload_n 1, 1, 0, 0, 0, 0), (20, .iload_n 2, 1, 0, 0, 0, 0), (21, .invokevirtual 344, 3, 970, 1, 4, 0), (24, .ifCond .ne 5, 3, 29, 0, 0, 0), (27, .iconst (-1), 1, 0, 0, 0, 0), (28, .ireturn, 1, 0, 0, 0, 0), (29, .iload_n 3, 1, 0, 0, 0, 0), (30, .ifCond .lt 14, 3, 44, 0, 0, 0), (33, .iload_n 3, 1, 0, 0, 0, 0), (34, .aload_n 0, 1, 0, 0, 0, 0), (35, .getfield 61, 3, 467, 7, 9, 3), (38, .getfield 348, 3, 395, 0, 0, 0), (41, .if_icmp .lt 8, 3, 49, 0, 0, 0), (44, .bipush (-2), 2, 0, 0, 0, 0), (46, .goto 12, 3, 58, 0, 0, 0), (49, .aload_n 0, 1, 0, 0, 0, 0), (50, .getfield 61, 3, 467, 7, 9, 3), (53, .getfield 351, 3, 397, 0, 1, 3), (56, .iload_n 3, 1, 0, 0, 0, 0), (57, .iaload, 1, 0, 0, 0, 0), (58, .ireturn, 1, 0, 0, 0, 0)]
def T109 : List CE := [(0, .iload_n 2, 1, 0, 0, 0, 0), (1, .invokestatic 333, 3, 949, 119, 1, 1), (4, .ifCond .eq 23, 3, 27, 0, 0, 0), (7, .aload_n 0, 1, 0, 0, 0, 0), (8, .getfield 61, 3, 467, 7, 9, 3), (11, .aload_n 0, 1, 0, 0, 0, 0), (12, .getfield 27, 3, 461, 7, 3, 3), (15, .aload_n 0, 1, 0, 0, 0, 0), (16, .getfield 37, 3, 463, 7, 5, 3), (19, .iload_n 1, 1, 0, 0, 0, 0), (20, .iload_n 2, 1, 0, 0, 0, 0), (21, .invokevirtual 344, 3, 970, 1, 4, 0), (24, .ifCond .ne 7, 3, 31, 0, 0, 0), (27, .ldc2_w 336, 3, 956, 18446744073709551615, 0, 0), (30, .lreturn, 1, 0, 0, 0, 0), (31, .aload_n 0, 1, 0, 0, 0, 0), (32, .getfield 61, 3, 467, 7, 9, 3), (35, .getfield 354, 3, 399, 0, 2, 1), (38, .aload_n 0, 1, 0, 0, 0, 0), (39, .getfield 61, 3, 467, 7, 9, 3), (42, .getfield 357, 3, 401, 0, 3, 1), (45, .invokestatic 340, 3, 923, 127, 2, 1), (48, .lstore_n 3, 1, 0, 0, 0, 0), (49, .aload_n 0, 1, 0, 0, 0, 0), (50, .aload_n 0, 1, 0, 0, 0, 0), (51, .getfield 61, 3, 467, 7, 9, 3), (54, .getfield 357, 3, 401, 0, 3, 1), (57, .lload_n 3, 1, 0, 0, 0, 0), (58, .ldiv, 1, 0, 0, 0, 0), (59, .putfield 79, 3, 471, 7, 13, 1), (62, .aload_n 0, 1, 0, 0, 0, 0), (63, .getfield 61, 3, 467, 7, 9, 3), (66, .getfield 354, 3, 399, 0, 2, 1), (69, .lload_n 3, 1, 0, 0, 0, 0), (70, .ldiv, 1, 0, 0, 0, 0), (71, .lreturn, 1, 0, 0, 0, 0)]
def T110 : List CE := [(0, .aload_n 0, 1, 0, 0, 0, 0), (1, .getfield 79, 3, 471, 7, 13, 1), (4, .lreturn, 1, 0, 0, 0, 0)]
def T111 : List CE := [(0, .aload_n 0, 1, 0, 0, 0, 0), (1, .getfield 27, 3, 461, 7, 3, 3), (4, .iload_n 1, 1, 0, 0, 0, 0), (5, .invokevirtual 187, 3, 677, 71, 1, 0), (8, .ifCond .eq 21, 3, 29, 0, 0, 0), (11, .iload_n 2, 1, 0, 0, 0, 0), (12, .iconst 1, 1, 0, 0, 0, 0), (13, .if_icmp .lt 16, 3, 29, 0, 0, 0), (16, .iload_n 2, 1, 0, 0, 0, 0), (17, .bipush 99, 2, 0, 0, 0, 0), (19, .if_icmp .gt 10, 3, 29, 0, 0, 0), (22, .iload_n 3, 1, 0, 0, 0, 0), (23, .invokestatic 333, 3, 949, 119, 1, 1), (26, .ifCond .ne 5, 3, 31, 0, 0, 0), (29, .iconst (-1), 1, 0, 0, 0, 0), (30, .ireturn, 1, 0, 0, 0, 0), (31, .iload_n 2, 1, 0, 0, 0, 0), (32, .aload_n 0, 1, 0, 0, 0, 0), (33, .getfield 27, 3, 461, 7, 3, 3), (36, .getfield 190, 3, 168, 6, 7, 3), (39, .iload_n 1, 1, 0, 0, 0, 0), (40, .iaload, 1, 0, 0, 0, 0), (41, .imul, 1, 0, 0, 0, 0), (42, .istore 4, 2, 0, 0, 0, 0), (44, .aload_n 0, 1, 0, 0, 0, 0), (45, .getfield 37, 3, 463, 7, 5, 3), (48, .aload_n 0, 1, 0, 0, 0, 0), (49, .getfield 27, 3, 461, 7, 3, 3), (52, .iload_n 1, 1, 0, 0, 0, 0), (53, .invokevirtual 196, 3, 681, 58, 2, 0), (56, .istore 5, 2, 0, 0, 0, 0), (58, .aload_n 0, 1, 0, 0, 0, 0), (59, .getfield 37, 3, 463, 7, 5, 3), (62, .aload_n 0, 1, 0, 0, 0, 0), (63, .getfield 27, 3, 461, 7, 3, 3), (66, .iload_n 1, 1, 0, 0, 0, 0), (67, .invokevirtual 330, 3, 933, 59, 2, 0), (70, .istore 6, 2, 0, 0, 0, 0), (72, .bipush (-2), 2, 0, 0, 0, 0), (74, .istore 7, 2, 0, 0, 0, 0), (76, .iconst 0, 1, 0, 0, 0, 0), (77, .istore 8, 2, 0, 0, 0, 0), (79, .iconst 0, 1, 0, 0, 0, 0), (80, .istore 9, 2, 0, 0, 0, 0), (82, .iload 9, 2, 0, 0, 0, 0), (84, .aload_n 0, 1, 0, 0, 0, 0), (85, .getfield 27, 3, 461, 7, 3, 3), (88, .getfield 100, 3, 148, 6, 2, 0), (91, .if_icmp .ge 75, 3, 166, 0, 0, 0), (94, .iload 6, 2, 0, 0, 0, 0), (96, .iload 4, 2, 0, 0, 0, 0), (98, .aload_n 0, 1, 0, 0, 0, 0), (99, .getfield 27, 3, 461, 7, 3, 3), (102, .getfield 150, 3, 163, 6, 6, 3), (105, .iload 9, 2, 0, 0, 0, 0), (107, .iaload, 1, 0, 0, 0, 0), (108, .imul, 1, 0, 0, 0, 0), (109, .iadd, 1, 0, 0, 0, 0), (110, .iload_n 3, 1, 0, 0, 0, 0), (111, .iload 5, 2, 0, 0, 0, 0), (113, .iload 4, 2, 0, 0, 0, 0), (115, .iadd, 1, 0, 0, 0, 0), (116, .imul, 1, 0, 0, 0, 0), (117, .isub, 1, 0, 0, 0, 0), (118, .invokestatic 233, 3, 732, 0, 1, 12), (121, .istore 10, 2, 0, 0, 0, 0), (123, .aload_n 0, 1, 0, 0, 0, 0), (124, .getfield 37, 3, 463, 7, 5, 3), (127, .getfield 153, 3, 269, 5, 2, 3), (130, .iload 9, 2, 0, 0, 0, 0), (132, .iaload, 1, 0, 0, 0, 0), (133, .iload 4, 2, 0, 0, 0, 0), (135, .if_icmp .lt 25, 3, 160, 0, 0, 0), (138, .iload 7, 2, 0, 0, 0, 0), (140, .bipush (-2), 2, 0, 0, 0, 0), (142, .if_icmp .eq 10, 3, 152, 0, 0, 0), (145, .iload 10, 2, 0, 0, 0, 0), (147, .iload 8, 2, 0, 0, 0, 0), (149, .if_icmp .ge 11, 3, 160, 0, 0, 0), (152, .iload 9, 2, 0, 0, 0, 0), (154, .istore 7, 2, 0, 0, 0, 0), (156, .iload 10, 2, 0, 0, 0, 0), (158, .istore 8, 2, 0, 0, 0, 0), (160, .iinc 9 1, 3, 0, 0, 0, 0), (163, .goto (-81), 3, 82, 0, 0, 0), (166, .iload 7, 2, 0, 0, 0, 0), (168, .ireturn, 1, 0, 0, 0, 0)]
def T112 : List CE := [(0, .aload_n 0, 1, 0, 0, 0, 0), (1, .getfield 27, 3, 461, 7, 3, 3), (4, .iload_n 1, 1, 0, 0, 0, 0), (5, .invokevirtual 156, 3, 789, 73, 1, 0), (8, .ifCond .eq 38, 3, 46, 0, 0, 0), (11, .aload_n 0, 1, 0, 0, 0, 0), (12, .getfield 27, 3, 461, 7, 3, 3), (15, .iload_n 2, 1, 0, 0, 0, 0), (16, .invokevirtual 187, 3, 677, 71, 1, 0), (19, .ifCond .eq 27, 3, 46, 0, 0, 0), (22, .iload_n 3, 1, 0, 0, 0, 0), (23, .ifCond .lt 23, 3, 46, 0, 0, 0), (26, .iload_n 3, 1, 0, 0, 0, 0), (27, .iconst 2, 1, 0, 0, 0, 0), (28, .if_icmp .gt 18, 3, 46, 0, 0, 0), (31, .aload_n 0, 1, 0, 0, 0, 0), (32, .getfield 37, 3, 463, 7, 5, 3), (35, .aload_n 0, 1, 0, 0, 0, 0), (36, .getfield 27, 3, 461, 7, 3, 3), (39, .iload_n 1, 1, 0, 0, 0, 0), (40, .invokevirtual 277, 3, 794, 62, 2, 0), (43, .ifCond .ne 5, 3, 48, 0, 0, 0), (46, .iconst (-1), 1, 0, 0, 0, 0), (47, .ireturn, 1, 0, 0, 0, 0), (48, .aload_n 0, 1, 0, 0, 0, 0), (49, .getfield 68, 3, 468, 7, 10, 3), (52, .aload_n 0, 1, 0, 0, 0, 0), (53, .getfield 27, 3, 461, 7, 3, 3), (56, .aload_n 0, 1, 0, 0, 0, 0), (57, .getfield 37, 3, 463, 7, 5, 3), (60, .iload_n 1, 1, 0, 0, 0, 0), (61, .iload_n 2, 1, 0, 0, 0, 0), (62, .invokevirtual 360, 3, 1023, 43, 4, 0), (65, .ifCond .ne 6, 3, 71, 0, 0, 0), (68, .bipush (-2), 2, 0, 0, 0, 0), (70, .ireturn, 1, 0, 0, 0, 0), (71, .iload_n 3, 1, 0, 0, 0, 0), (72, .ifCond .ne 11, 3, 83, 0, 0, 0), (75, .aload_n 0, 1, 0, 0, 0, 0), (76, .getfield 68, 3, 468, 7, 10, 3), (79, .getfield 361, 3, 428, 4, 0, 0), (82, .ireturn, 1, 0, 0, 0, 0), (83, .iload_n 3, 1, 0, 0, 0, 0), (84, .iconst 1, 1, 0, 0, 0, 0), (85, .if_icmp .ne 13, 3, 98, 0, 0, 0), (88, .aload_n 0, 1, 0, 0, 0, 0), (89, .getfield 68, 3, 468, 7, 10, 3), (92, .getfield 364, 3, 430, 4, 1, 0), (95, .goto 10, 3, 105, 0, 0, 0), (98, .aload_n 0, 1, 0, 0, 0, 0), (99, .getfield 68, 3, 468, 7, 10, 3), (102, .getfield 367, 3, 432, 4, 2, 0), (105, .ireturn, 1, 0, 0, 0, 0)]
def T113 : List CE := [(0, .aload_n 0, 1, 0, 0, 0, 0), (1, .getfield 54, 3, 466, 7, 8, 3), (4, .aload_n 0, 1, 0, 0, 0, 0), (5, .getfield 27, 3, 461, 7, 3, 3), (8, .aload_n 0, 1, 0, 0, 0, 0), (9, .getfield 37, 3, 463, 7, 5, 3), (12, .invokevirtual 370, 3, 1058, 16, 2, 0), (15, .aload_n 0, 1, 0, 0, 0, 0), (16, .getfield 54, 3, 466, 7, 8, 3), (19, .getfield 374, 3, 368, 2, 1, 0), (22, .ireturn, 1, 0, 0, 0, 0)]
def T114 : List CE := [(0, .aload_n 0, 1, 0, 0, 0, 0), (1, .getfield 54, 3, 466, 7, 8, 3), (4, .aload_n 0, 1, 0, 0, 0, 0), (5, .getfield 27, 3, 461, 7, 3, 3), (8, .aload_n 0, 1, 0, 0, 0, 0), (9, .getfield 37, 3, 463, 7, 5, 3), (12, .invokevirtual 370, 3, 1058, 16, 2, 0), (15, .iload_n 1, 1, 0, 0, 0, 0), (16, .iconst (-1), 1, 0, 0, 0, 0), (17, .if_icmp .ne 11, 3, 28, 0, 0, 0), (20, .aload_n 0, 1, 0, 0, 0, 0), (21, .getfield 54, 3, 466, 7, 8, 3), (24, .getfield 377, 3, 366, 2, 0, 0), (27, .ireturn, 1, 0, 0, 0, 0), (28, .iload_n 1, 1, 0, 0, 0, 0), (29, .ifCond .lt 14, 3, 43, 0, 0, 0), (32, .iload_n 1, 1, 0, 0, 0, 0), (33, .aload_n 0, 1, 0, 0, 0, 0), (34, .getfield 54, 3, 466, 7, 8, 3), (37, .getfield 377, 3, 366, 2, 0, 0), (40, .if_icmp .lt 8, 3, 48, 0, 0, 0), (43, .bipush (-2), 2, 0, 0, 0, 0), (45, .goto 12, 3, 57, 0, 0, 0), (48, .aload_n 0, 1, 0, 0, 0, 0), (49, .getfield 54, 3, 466, 7, 8, 3), (52, .getfield 378, 3, 370, 2, 2, 3), (55, .iload_n 1, 1, 0, 0, 0, 0), (56, .iaload, 1, 0, 0, 0, 0), (57, .ireturn, 1, 0, 0, 0, 0)]
def T115 : List CE := [(0, .aload_n 0, 1, 0, 0, 0, 0), (1, .getfield 27, 3, 461, 7, 3, 3), (4, .iload_n 1, 1, 0, 0, 0, 0), (5, .invokevirtual 156, 3, 789, 73, 1, 0), (8, .ifCond .ne 5, 3, 13, 0, 0, 0), (11, .iconst (-1), 1, 0, 0, 0, 0), (12, .ireturn, 1, 0, 0, 0, 0), (13, .aload_n 0, 1, 0, 0, 0, 0), (14, .getfield 37, 3, 463, 7, 5, 3), (17, .getfield 180, 3, 286, 5, 8, 3), (20, .iload_n 1, 1, 0, 0, 0, 0), (21, .iaload, 1, 0, 0, 0, 0), (22, .iconst (-1), 1, 0, 0, 0, 0), (23, .if_icmp .eq 6, 3, 29, 0, 0, 0), (26, .bipush (-2), 2, 0, 0, 0, 0), (28, .ireturn, 1, 0, 0, 0, 0), (29, .aload_n 0, 1, 0, 0, 0, 0), (30, .getfield 54, 3, 466, 7, 8, 3), (33, .aload_n 0, 1, 0, 0, 0, 0), (34, .getfield 27, 3, 461, 7, 3, 3), (37, .aload_n 0, 1, 0, 0, 0, 0), (38, .getfield 37, 3, 463, 7, 5, 3), (41, .invokevirtual 370, 3, 1058, 16, 2, 0), (44, .aload_n 0, 1, 0, 0, 0, 0), (45, .getfield 54, 3, 466, 7, 8, 3), (48, .getfield 379, 3, 372, 2, 3, 3), (51, .iload_n 1, 1, 0, 0, 0, 0), (52, .iaload, 1, 0, 0, 0, 0), (53, .ireturn, 1, 0, 0, 0, 0)]
def T116 : List CE := [(0, .iload_n 1, 1, 0, 0, 0, 0), (1, .ifCond .lt 8, 3, 9, 0, 0, 0), (4, .iload_n 1, 1, 0, 0, 0, 0), (5, .iconst 1, 1, 0, 0, 0, 0), (6, .if_icmp .le 5, 3, 11, 0, 0, 0), (9, .iconst (-1), 1, 0, 0, 0, 0), (10, .ireturn, 1, 0, 0, 0, 0), (11, .iload_n 1, 1, 0, 0, 0, 0), (12, .iconst 1, 1, 0, 0, 0, 0), (13, .if_icmp .ne 18, 3, 31, 0, 0, 0), (16, .aload_n 0, 1, 0, 0, 0, 0), (17, .getfield 54, 3, 466, 7, 8, 3), (20, .aload_n 0, 1, 0, 0, 0, 0), (21, .getfield 27, 3, 461, 7, 3, 3), (24, .aload_n 0, 1, 0, 0, 0, 0), (25, .getfield 37, 3, 463, 7, 5, 3), (28, .invokevirtual 370, 3, 1058, 16, 2, 0), (31, .iconst 0, 1, 0, 0, 0, 0), (32, .istore_n 2, 1, 0, 0, 0, 0), (33, .iconst 0, 1, 0, 0, 0, 0), (34, .istore_n 3, 1, 0, 0, 0, 0), (35, .iload_n 3, 1, 0, 0, 0, 0), (36, .aload_n 0, 1, 0, 0, 0, 0), (37, .getfield 27, 3, 461, 7, 3, 3), (40, .getfield 106, 3, 154, 6, 4, 0), (43, .if_icmp .ge 87, 3, 130, 0, 0, 0), (46, .iload_n 1, 1, 0, 0, 0, 0), (47, .iconst 1, 1, 0, 0, 0, 0), (48, .if_icmp .ne 20, 3, 68, 0, 0, 0), (51, .aload_n 0, 1, 0, 0, 0, 0), (52, .getfield 37, 3, 463, 7, 5, 3), (55, .getfield 180, 3, 286, 5, 8, 3), (58, .iload_n 3, 1, 0, 0, 0, 0), (59, .iaload, 1, 0, 0, 0, 0), (60, .iconst (-1), 1, 0, 0, 0, 0), (61, .if_icmp .ne 7, 3, 68, 0, 0, 0), (64, .iconst 1, 1, 0, 0, 0, 0), (65, .goto 4, 3, 69, 0, 0, 0), (68, .iconst 0, 1, 0, 0, 0, 0), (69, .istore 4, 2, 0, 0, 0, 0), (71, .iload 4, 2, 0, 0, 0, 0), (73, .ifCond .eq 29, 3, 102, 0, 0, 0), (76, .iconst 0, 1, 0, 0, 0, 0), (77, .aload_n 0, 1, 0, 0, 0, 0), (78, .getfield 54, 3, 466, 7, 8, 3), (81, .getfield 379, 3, 372, 2, 3, 3), (84, .iload_n 3, 1, 0, 0, 0, 0), (85, .iaload, 1, 0, 0, 0, 0), (86, .aload_n 0, 1, 0, 0, 0, 0), (87, .getfield 27, 3, 461, 7, 3, 3), (90, .getfield 168, 3, 184, 6, 11, 3), (93, .iload_n 3, 1, 0, 0, 0, 0), (94, .iaload, 1, 0, 0, 0, 0), (95, .isub, 1, 0, 0, 0, 0), (96, .invokestatic 261, 3, 670, 0, 2, 10), (99, .goto 8, 3, 107, 0, 0, 0), (102, .aload_n 0, 1, 0, 0, 0, 0), (103, .iload_n 3, 1, 0, 0, 0, 0), (104, .invokevirtual 183, 3, 666, 125, 1, 0), (107, .istore 5, 2, 0, 0, 0, 0), (109, .iload_n 2, 1, 0, 0, 0, 0), (110, .iload 5, 2, 0, 0, 0, 0), (112, .aload_n 0, 1, 0, 0, 0, 0), (113, .getfield 27, 3, 461, 7, 3, 3), (116, .getfield 174, 3, 190, 6, 13, 3), (119, .iload_n 3, 1, 0, 0, 0, 0), (120, .iaload, 1, 0, 0, 0, 0), (121, .imul, 1, 0, 0, 0, 0), (122, .iadd, 1, 0, 0, 0, 0), (123, .istore_n 2, 1, 0, 0, 0, 0), (124, .iinc 3 1, 3, 0, 0, 0, 0), (127, .goto (-92), 3, 35, 0, 0, 0), (130, .iload_n 2, 1, 0, 0, 0, 0), (131, .ireturn, 1, 0, 0, 0, 0)]
def T117 : List CE := [(0, .bipush 24, 2, 0, 0, 0, 0), (2, .istore_n 2, 1, 0, 0, 0, 0), (3, .iload_n 2, 1, 0, 0, 0, 0), (4, .ifCond .lt 45, 3, 49, 0, 0, 0), (7, .aload_n 0, 1, 0, 0, 0, 0), (8, .getfield 13, 3, 459, 7, 1, 0), (11, .sipush 600, 3, 0, 0, 0, 0), (14, .if_icmp .ge 35, 3, 49, 0, 0, 0), (17, .aload_n 0, 1, 0, 0, 0, 0), (18, .getfield 9, 3, 458, 7, 0, 3), (21, .aload_n 0, 1, 0, 0, 0, 0), (22, .getfield 13, 3, 459, 7, 1, 0), (25, .iload_n 1, 1, 0, 0, 0, 0), (26, .iload_n 2, 1, 0, 0, 0, 0), (27, .ishr, 1, 0, 0, 0, 0), (28, .sipush 255, 3, 0, 0, 0, 0), (31, .iand, 1, 0, 0, 0, 0), (32, .iastore, 1, 0, 0, 0, 0), (33, .aload_n 0, 1, 0, 0, 0, 0), (34, .dup, 1, 0, 0, 0, 0), (35, .getfield 13, 3, 459, 7, 1, 0), (38, .iconst 1, 1, 0, 0, 0, 0), (39, .iadd, 1, 0, 0, 0, 0), (40, .putfield 13, 3, 459, 7, 1, 0), (43, .iinc 2 (-8), 3, 0, 0, 0, 0), (46, .goto (-43), 3, 3, 0, 0, 0), (49, .return_, 1, 0, 0, 0, 0)]
def T118 : List CE := [(0, .iload_n 0, 1, 0, 0, 0, 0), (1, .ifCond .lt 12, 3, 13, 0, 0, 0), (4, .iload_n 0, 1, 0, 0, 0, 0), (5, .iconst 2, 1, 0, 0, 0, 0), (6, .if_icmp .ge 7, 3, 13, 0, 0, 0), (9, .iconst 1, 1, 0, 0, 0, 0), (10, .goto 4, 3, 14, 0, 0, 0), (13, .iconst 0, 1, 0, 0, 0, 0), (14, .ireturn, 1, 0, 0, 0, 0)]
def T119 : List CE := [(0, .iload_n 0, 1, 0, 0, 0, 0), (1, .ifCond .lt 14, 3, 15, 0, 0, 0), (4, .iload_n 0, 1, 0, 0, 0, 0), (5, .sipush 999, 3, 0, 0, 0, 0), (8, .if_icmp .gt 7, 3, 15, 0, 0, 0), (11, .iconst 1, 1, 0, 0, 0, 0), (12, .goto 4, 3, 16, 0, 0, 0), (15, .iconst 0, 1, 0, 0, 0, 0), (16, .ireturn, 1, 0, 0, 0, 0)]
def T120 : List CE := [(0, .aload_n 0, 1, 0, 0, 0, 0), (1, .getfield 27, 3, 461, 7, 3, 3), (4, .iload_n 1, 1, 0, 0, 0, 0), (5, .invokevirtual 187, 3, 677, 71, 1, 0), (8, .ifCond .eq 24, 3, 32, 0, 0, 0), (11, .iload_n 2, 1, 0, 0, 0, 0), (12, .ifCond .lt 20, 3, 32, 0, 0, 0), (15, .iload_n 2, 1, 0, 0, 0, 0), (16, .aload_n 0, 1, 0, 0, 0, 0), (17, .getfield 37, 3, 463, 7, 5, 3), (20, .getfield 193, 3, 272, 5, 3, 3), (23, .iload_n 1, 1, 0, 0, 0, 0), (24, .iaload, 1, 0, 0, 0, 0), (25, .if_icmp .ge 7, 3, 32, 0, 0, 0), (28, .iconst 1, 1, 0, 0, 0, 0), (29, .goto 4, 3, 33, 0, 0, 0), (32, .iconst 0, 1, 0, 0, 0, 0), (33, .ireturn, 1, 0, 0, 0, 0)]
def T121 : List CE := [(0, .aload_n 0, 1, 0, 0, 0, 0), (1, .getfield 27, 3, 461, 7, 3, 3), (4, .iload_n 2, 1, 0, 0, 0, 0), (5, .invokevirtual 140, 3, 743, 70, 1, 0), (8, .ifCond .eq 45, 3, 53, 0, 0, 0), (11, .aload_n 0, 1, 0, 0, 0, 0), (12, .getfield 27, 3, 461, 7, 3, 3), (15, .iload_n 1, 1, 0, 0, 0, 0), (16, .iload_n 3, 1, 0, 0, 0, 0), (17, .invokevirtual 218, 3, 708, 72, 2, 0), (20, .ifCond .eq 33, 3, 53, 0, 0, 0), (23, .aload_n 0, 1, 0, 0, 0, 0), (24, .getfield 27, 3, 461, 7, 3, 3), (27, .iload_n 1, 1, 0, 0, 0, 0), (28, .iload 4, 2, 0, 0, 0, 0), (30, .invokevirtual 218, 3, 708, 72, 2, 0), (33, .ifCond .eq 20, 3, 53, 0, 0, 0), (36, .iload 5, 2, 0, 0, 0, 0), (38, .iconst 1, 1, 0, 0, 0, 0), (39, .if_icmp .lt 14, 3, 53, 0, 0, 0), (42, .iload 5, 2, 0, 0, 0, 0), (44, .bipush 99, 2, 0, 0, 0, 0), (46, .if_icmp .gt 7, 3, 53, 0, 0, 0), (49, .iconst 1, 1, 0, 0, 0, 0), (50, .goto 4, 3, 54, 0, 0, 0), (53, .iconst 0, 1, 0, 0, 0, 0), (54, .ireturn, 1, 0, 0, 0, 0)]
def T122 : List CE := [(0, .iconst 1, 1, 0, 0, 0, 0), (1, .iload_n 1, 1, 0, 0, 0, 0), (2, .isub, 1, 0, 0, 0, 0), (3, .istore 5, 2, 0, 0, 0, 0), (5, .aload_n 0, 1, 0, 0, 0, 0), (6, .getfield 37, 3, 463, 7, 5, 3), (9, .iload 5, 2, 0, 0, 0, 0), (11, .invokevirtual 227, 3, 724, 52, 1, 0), (14, .iload_n 2, 1, 0, 0, 0, 0), (15, .if_icmp .eq 5, 3, 20, 0, 0, 0), (18, .iconst 1, 1, 0, 0, 0, 0), (19, .ireturn, 1, 0, 0, 0, 0), (20, .iload_n 3, 1, 0, 0, 0, 0), (21, .iload 4, 2, 0, 0, 0, 0), (23, .invokestatic 264, 3, 751, 0, 2, 11), (26, .istore 6, 2, 0, 0, 0, 0), (28, .iload_n 3, 1, 0, 0, 0, 0), (29, .iload 4, 2, 0, 0, 0, 0), (31, .invokestatic 261, 3, 670, 0, 2, 10), (34, .istore 7, 2, 0, 0, 0, 0), (36, .aload_n 0, 1, 0, 0, 0, 0), (37, .getfield 37, 3, 463, 7, 5, 3), (40, .iload_n 1, 1, 0, 0, 0, 0), (41, .invokevirtual 227, 3, 724, 52, 1, 0), (44, .iload_n 2, 1, 0, 0, 0, 0), (45, .if_icmp .ne 33, 3, 78, 0, 0, 0), (48, .iload 6, 2, 0, 0, 0, 0), (50, .aload_n 0, 1, 0, 0, 0, 0), (51, .getfield 37, 3, 463, 7, 5, 3), (54, .iload_n 1, 1, 0, 0, 0, 0), (55, .invokevirtual 230, 3, 728, 53, 1, 0), (58, .invokestatic 264, 3, 751, 0, 2, 11), (61, .istore 6, 2, 0, 0, 0, 0), (63, .iload 7, 2, 0, 0, 0, 0), (65, .aload_n 0, 1, 0, 0, 0, 0), (66, .getfield 37, 3, 463, 7, 5, 3), (69, .iload_n 1, 1, 0, 0, 0, 0), (70, .invokevirtual 230, 3, 728, 53, 1, 0), (73, .invokestatic 261, 3, 670, 0, 2, 10), (76, .istore 7, 2, 0, 0, 0, 0), (78, .aload_n 0, 1, 0, 0, 0, 0), (79, .getfield 37, 3, 463, 7, 5, 3), (82, .iload 5, 2, 0, 0, 0, 0), (84, .invokevirtual 230, 3, 728, 53, 1, 0), (87, .istore 8, 2, 0, 0, 0, 0), (89, .iload 8, 2, 0, 0, 0, 0), (91, .aload_n 0, 1, 0, 0, 0, 0), (92, .getfield 27, 3, 461, 7, 3, 3), (95, .getfield 109, 3, 142, 6, 1, 0), (98, .iadd, 1, 0, 0, 0, 0), (99, .iload 6, 2, 0, 0, 0, 0), (101, .if_icmp .lt 18, 3, 119, 0, 0, 0), (104, .iload 8, 2, 0, 0, 0, 0), (106, .aload_n 0, 1, 0, 0, 0, 0), (107, .getfield 27, 3, 461, 7, 3, 3), (110, .getfield 109, 3, 142, 6, 1, 0), (113, .isub, 1, 0, 0, 0, 0), (114, .iload 7, 2, 0, 0, 0, 0), (116, .if_icmp .le 7, 3, 123, 0, 0, 0), (119, .iconst 1, 1, 0, 0, 0, 0), (120, .goto 4, 3, 124, 0, 0, 0), (123, .iconst 0, 1, 0, 0, 0, 0), (124, .ireturn, 1, 0, 0, 0, 0)]
def T123 : List CE := [(0, .iconst 0, 1, 0, 0, 0, 0), (1, .istore_n 1, 1, 0, 0, 0, 0), (2, .iconst 0, 1, 0, 0, 0, 0), (3, .istore_n 2, 1, 0, 0, 0, 0), (4, .iload_n 2, 1, 0, 0, 0, 0), (5, .aload_n 0, 1, 0, 0, 0, 0), (6, .getfield 27, 3, 461, 7, 3, 3), (9, .getfield 106, 3, 154, 6, 4, 0), (12, .if_icmp .ge 30, 3, 42, 0, 0, 0), (15, .iload_n 1, 1, 0, 0, 0, 0), (16, .aload_n 0, 1, 0, 0, 0, 0), (17, .getfield 37, 3, 463, 7, 5, 3), (20, .getfield 180, 3, 286, 5, 8, 3), (23, .iload_n 2, 1, 0, 0, 0, 0), (24, .iaload, 1, 0, 0, 0, 0), (25, .iconst (-1), 1, 0, 0, 0, 0), (26, .if_icmp .ne 7, 3, 33, 0, 0, 0), (29, .iconst 0, 1, 0, 0, 0, 0), (30, .goto 4, 3, 34, 0, 0, 0), (33, .iconst 1, 1, 0, 0, 0, 0), (34, .iadd, 1, 0, 0, 0, 0), (35, .istore_n 1, 1, 0, 0, 0, 0), (36, .iinc 2 1, 3, 0, 0, 0, 0), (39, .goto (-35), 3, 4, 0, 0, 0), (42, .iload_n 1, 1, 0, 0, 0, 0), (43, .ireturn, 1, 0, 0, 0, 0)]
def T124 : List CE := [(0, .iconst 0, 1, 0, 0, 0, 0), (1, .istore_n 1, 1, 0, 0, 0, 0), (2, .iconst 0, 1, 0, 0, 0, 0), (3, .istore_n 2, 1, 0, 0, 0, 0), (4, .iload_n 2, 1, 0, 0, 0, 0), (5, .aload_n 0, 1, 0, 0, 0, 0), (6, .getfield 27, 3, 461, 7, 3, 3), (9, .getfield 106, 3, 154, 6, 4, 0), (12, .if_icmp .ge 25, 3, 37, 0, 0, 0), (15, .iload_n 1, 1, 0, 0, 0, 0), (16, .aload_n 0, 1, 0, 0, 0, 0), (17, .iload_n 2, 1, 0, 0, 0, 0), (18, .invokevirtual 183, 3, 666, 125, 1, 0), (21, .ifCond .le 7, 3, 28, 0, 0, 0), (24, .iconst 1, 1, 0, 0, 0, 0), (25, .goto 4, 3, 29, 0, 0, 0), (28, .iconst 0, 1, 0, 0, 0, 0), (29, .iadd, 1, 0, 0, 0, 0), (30, .istore_n 1, 1, 0, 0, 0, 0), (31, .iinc 2 1, 3, 0, 0, 0, 0), (34, .goto (-30), 3, 4, 0, 0, 0), (37, .iload_n 1, 1, 0, 0, 0, 0), (38, .ireturn, 1, 0, 0, 0, 0)]
def T125 : List CE := [(0, .aload_n 0, 1, 0, 0, 0, 0), (1, .getfield 37, 3, 463, 7, 5, 3), (4, .getfield 180, 3, 286, 5, 8, 3), (7, .iload_n 1, 1, 0, 0, 0, 0), (8, .iaload, 1, 0, 0, 0, 0), (9, .iconst (-1), 1, 0, 0, 0, 0), (10, .if_icmp .ne 13, 3, 23, 0, 0, 0), (13, .aload_n 0, 1, 0, 0, 0, 0), (14, .getfield 37, 3, 463, 7, 5, 3), (17, .getfield 112, 3, 263, 5, 0, 0), (20, .goto 12, 3, 32, 0, 0, 0), (23, .aload_n 0, 1, 0, 0, 0, 0), (24, .getfield 37, 3, 463, 7, 5, 3), (27, .getfield 180, 3, 286, 5, 8, 3), (30, .iload_n 1, 1, 0, 0, 0, 0), (31, .iaload, 1, 0, 0, 0, 0), (32, .istore_n 2, 1, 0, 0, 0, 0), (33, .iconst 0, 1, 0, 0, 0, 0), (34, .iload_n 2, 1, 0, 0, 0, 0), (35, .aload_n 0, 1, 0, 0, 0, 0), (36, .getfield 27, 3, 461, 7, 3, 3), (39, .getfield 168, 3, 184, 6, 11, 3), (42, .iload_n 1, 1, 0, 0, 0, 0), (43, .iaload, 1, 0, 0, 0, 0), (44, .isub, 1, 0, 0, 0, 0), (45, .invokestatic 261, 3, 670, 0, 2, 10), (48, .ireturn, 1, 0, 0, 0, 0)]
def T126 : List CE := [(0, .iload_n 1, 1, 0, 0, 0, 0), (1, .ifCond .ne 6, 3, 7, 0, 0, 0), (4, .bipush (-2), 2, 0, 0, 0, 0), (6, .ireturn, 1, 0, 0, 0, 0), (7, .iload_n 2, 1, 0, 0, 0, 0), (8, .i2l, 1, 0, 0, 0, 0), (9, .iload_n 1, 1, 0, 0, 0, 0), (10, .i2l, 1, 0, 0, 0, 0), (11, .invokestatic 340, 3, 923, 127, 2, 1), (14, .l2i, 1, 0, 0, 0, 0), (15, .istore_n 3, 1, 0, 0, 0, 0), (16, .iload_n 3, 1, 0, 0, 0, 0), (17, .ifCond .ne 6, 3, 23, 0, 0, 0), (20, .bipush (-2), 2, 0, 0, 0, 0), (22, .ireturn, 1, 0, 0, 0, 0), (23, .aload_n 0, 1, 0, 0, 0, 0), (24, .iload_n 1, 1, 0, 0, 0, 0), (25, .iload_n 3, 1, 0, 0, 0, 0), (26, .idiv, 1, 0, 0, 0, 0), (27, .putfield 72, 3, 469, 7, 11, 0), (30, .iload_n 2, 1, 0, 0, 0, 0), (31, .iload_n 3, 1, 0, 0, 0, 0), (32, .idiv, 1, 0, 0, 0, 0), (33, .ireturn, 1, 0, 0, 0, 0)]
def T127 : List CE := [(0, .iconst 0, 1, 0, 0, 0, 0), (1, .istore 4, 2, 0, 0, 0, 0), (3, .iload 4, 2, 0, 0, 0, 0), (5, .bipush 100, 2, 0, 0, 0, 0), (7, .if_icmp .ge 25, 3, 32, 0, 0, 0), (10, .lload_n 2, 1, 0, 0, 0, 0), (11, .lconst 0, 1, 0, 0, 0, 0), (12, .lcmp, 1, 0, 0, 0, 0), (13, .ifCond .eq 19, 3, 32, 0, 0, 0), (16, .lload_n 0, 1, 0, 0, 0, 0), (17, .lload_n 2, 1, 0, 0, 0, 0), (18, .lrem, 1, 0, 0, 0, 0), (19, .lstore 5, 2, 0, 0, 0, 0), (21, .lload_n 2, 1, 0, 0, 0, 0), (22, .lstore_n 0, 1, 0, 0, 0, 0), (23, .lload 5, 2, 0, 0, 0, 0), (25, .lstore_n 2, 1, 0, 0, 0, 0), (26, .iinc 4 1, 3, 0, 0, 0, 0), (29, .goto (-26), 3, 3, 0, 0, 0), (32, .lconst 1, 1, 0, 0, 0, 0), (33, .lload_n 0, 1, 0, 0, 0, 0), (34, .invokestatic 382, 3, 926, 0, 2, 14), (37, .lreturn, 1, 0, 0, 0, 0)]
def T128 : List CE := [(0, .aload_n 0, 1, 0, 0, 0, 0), (1, .getfield 1, 3, 1184, 8, 0, 0), (4, .ireturn, 1, 0, 0, 0, 0)]
def T129 : List CE := [(0, .lload_n 0, 1, 0, 0, 0, 0), (1, .lload_n 2, 1, 0, 0, 0, 0), (2, .lcmp, 1, 0, 0, 0, 0), (3, .ifCond .lt 14, 3, 17, 0, 0, 0), (6, .lload_n 0, 1, 0, 0, 0, 0), (7, .lload 4, 2, 0, 0, 0, 0), (9, .lcmp, 1, 0, 0, 0, 0), (10, .ifCond .gt 7, 3, 17, 0, 0, 0), (13, .iconst 1, 1, 0, 0, 0, 0), (14, .goto 4, 3, 18, 0, 0, 0), (17, .iconst 0, 1, 0, 0, 0, 0), (18, .ireturn, 1, 0, 0, 0, 0)]
def T130 : List CE := [(0, .aload_n 0, 1, 0, 0, 0, 0), (1, .iconst 0, 1, 0, 0, 0, 0), (2, .putfield 1, 3, 1184, 8, 0, 0), (5, .aload_n 0, 1, 0, 0, 0, 0), (6, .getfield 7, 3, 1186, 8, 2, 0), (9, .bipush 20, 2, 0, 0, 0, 0), (11, .iadd, 1, 0, 0, 0, 0), (12, .sipush 600, 3, 0, 0, 0, 0), (15, .if_icmp .le 5, 3, 20, 0, 0, 0), (18, .iconst (-1), 1, 0, 0, 0, 0), (19, .ireturn, 1, 0, 0, 0, 0), (20, .aload_n 0, 1, 0, 0, 0, 0), (21, .iload_n 1, 1, 0, 0, 0, 0), (22, .invokevirtual 10, 3, 1170, 131, 1, 0), (25, .aload_n 0, 1, 0, 0, 0, 0), (26, .iload_n 2, 1, 0, 0, 0, 0), (27, .invokevirtual 10, 3, 1170, 131, 1, 0), (30, .aload_n 0, 1, 0, 0, 0, 0), (31, .iload_n 3, 1, 0, 0, 0, 0), (32, .invokevirtual 10, 3, 1170, 131, 1, 0), (35, .aload_n 0, 1, 0, 0, 0, 0), (36, .iload 4, 2, 0, 0, 0, 0), (38, .invokevirtual 10, 3, 1170, 131, 1, 0), (41, .aload_n 0, 1, 0, 0, 0, 0), (42, .iload 5, 2, 0, 0, 0, 0), (44, .invokevirtual 10, 3, 1170, 131, 1, 0), (47, .aload_n 0, 1, 0, 0, 0, 0), (48, .getfield 7, 3, 1186, 8, 2, 0), (51, .ireturn, 1, 0, 0, 0, 0)]
def T131 : List CE := [(0, .bipush 24, 2, 0, 0, 0, 0), (2, .istore_n 2, 1, 0, 0, 0, 0), (3, .iload_n 2, 1, 0, 0, 0, 0), (4, .ifCond .lt 32, 3, 36, 0, 0, 0), (7, .aload_n 0, 1, 0, 0, 0, 0), (8, .getfield 14, 3, 1185, 8, 1, 3), (11, .aload_n 0, 1, 0, 0, 0, 0), (12, .getfield 7, 3, 1186, 8, 2, 0), (15, .iload_n 1, 1, 0, 0, 0, 0), (16, .iload_n 2, 1, 0, 0, 0, 0), (17, .ishr, 1, 0, 0, 0, 0), (18, .i2b, 1, 0, 0, 0, 0), (19, .bastore, 1, 0, 0, 0, 0), (20, .aload_n 0, 1, 0, 0, 0, 0), (21, .dup, 1, 0, 0, 0, 0), (22, .getfield 7, 3, 1186, 8, 2, 0), (25, .iconst 1, 1, 0, 0, 0, 0), (26, .iadd, 1, 0, 0, 0, 0), (27, .putfield 7, 3, 1186, 8, 2, 0), (30, .iinc 2 (-8), 3, 0, 0, 0, 0), (33, .goto (-30), 3, 3, 0, 0, 0), (36, .return_, 1, 0, 0, 0, 0)]
def T132 : List CE := [(0, .iload_n 1, 1, 0, 0, 0, 0), (1, .aload_n 0, 1, 0, 0, 0, 0), (2, .getfield 18, 3, 1187, 8, 3, 0), (5, .if_icmp .ge 16, 3, 21, 0, 0, 0), (8, .aload_n 0, 1, 0, 0, 0, 0), (9, .getfield 14, 3, 1185, 8, 1, 3), (12, .iload_n 1, 1, 0, 0, 0, 0), (13, .baload, 1, 0, 0, 0, 0), (14, .sipush 255, 3, 0, 0, 0, 0), (17, .iand, 1, 0, 0, 0, 0), (18, .goto 4, 3, 22, 0, 0, 0), (21, .iconst (-1), 1, 0, 0, 0, 0), (22, .ireturn, 1, 0, 0, 0, 0)]
def T133 : List CE := [(0, .aload_n 0, 1, 0, 0, 0, 0), (1, .aload_n 0, 1, 0, 0, 0, 0), (2, .getfield 21, 3, 1189, 8, 5, 0), (5, .invokevirtual 24, 3, 1325, 132, 1, 0), (8, .bipush 32, 2, 0, 0, 0, 0), (10, .if_icmp .eq 16, 3, 26, 0, 0, 0), (13, .aload_n 0, 1, 0, 0, 0, 0), (14, .aload_n 0, 1, 0, 0, 0, 0), (15, .getfield 21, 3, 1189, 8, 5, 0), (18, .invokevirtual 24, 3, 1325, 132, 1, 0), (21, .bipush 10, 2, 0, 0, 0, 0), (23, .if_icmp .ne 16, 3, 39, 0, 0, 0), (26, .aload_n 0, 1, 0, 0, 0, 0), (27, .dup, 1, 0, 0, 0, 0), (28, .getfield 21, 3, 1189, 8, 5, 0), (31, .iconst 1, 1, 0, 0, 0, 0), (32, .iadd, 1, 0, 0, 0, 0), (33, .putfield 21, 3, 1189, 8, 5, 0), (36, .goto (-36), 3, 0, 0, 0, 0), (39, .aload_n 0, 1, 0, 0, 0, 0), (40, .aload_n 0, 1, 0, 0, 0, 0), (41, .getfield 21, 3, 1189, 8, 5, 0), (44, .putfield 28, 3, 1188, 8, 4, 0), (47, .aload_n 0, 1, 0, 0, 0, 0), (48, .iconst 0, 1, 0, 0, 0, 0), (49, .putfield 31, 3, 1191, 8, 7, 0), (52, .aload_n 0, 1, 0, 0, 0, 0), (53, .iconst 0, 1, 0, 0, 0, 0), (54, .putfield 34, 3, 1192, 8, 8, 0), (57, .aload_n 0, 1, 0, 0, 0, 0), (58, .aload_n 0, 1, 0, 0, 0, 0), (59, .getfield 21, 3, 1189, 8, 5, 0), (62, .invokevirtual 24, 3, 1325, 132, 1, 0), (65, .istore_n 1, 1, 0, 0, 0, 0), (66, .iload_n 1, 1, 0, 0, 0, 0), (67, .ifCond .ge 11, 3, 78, 0, 0, 0), (70, .aload_n 0, 1, 0, 0, 0, 0), (71, .iconst 0, 1, 0, 0, 0, 0), (72, .putfield 37, 3, 1190, 8, 6, 0), (75, .goto 221, 3, 296, 0, 0, 0), (78, .iload_n 1, 1, 0, 0, 0, 0), (79, .i2l, 1, 0, 0, 0, 0), (80, .ldc2_w 40, 3, 1329, 97, 0, 0), (83, .ldc2_w 42, 3, 1330, 122, 0, 0), (86, .invokestatic 44, 3, 1318, 129, 3, 1), (89, .ifCond .eq 86, 3, 175, 0, 0, 0), (92, .aload_n 0, 1, 0, 0, 0, 0), (93, .aload_n 0, 1, 0, 0, 0, 0), (94, .getfield 21, 3, 1189, 8, 5, 0), (97, .invokevirtual 24, 3, 1325, 132, 1, 0), (100, .i2l, 1, 0, 0, 0, 0), (101, .ldc2_w 40, 3, 1329, 97, 0, 0), (104, .ldc2_w 42, 3, 1330, 122, 0, 0), (107, .invokestatic 44, 3, 1318, 129, 3, 1), (110, .ifCond .eq 57, 3, 167, 0, 0, 0), (113, .aload_n 0, 1, 0, 0, 0, 0), (114, .aload_n 0, 1, 0, 0, 0, 0), (115, .getfield 21, 3, 1189, 8, 5, 0), (118, .aload_n 0, 1, 0, 0, 0, 0), (119, .getfield 28, 3, 1188, 8, 4, 0), (122, .isub, 1, 0, 0, 0, 0), (123, .bipush 6, 2, 0, 0, 0, 0), (125, .if_icmp .ge 25, 3, 150, 0, 0, 0), (128, .bipush 32, 2, 0, 0, 0, 0), (130, .aload_n 0, 1, 0, 0, 0, 0), (131, .getfield 34, 3, 1192, 8, 8, 0), (134, .imul, 1, 0, 0, 0, 0), (135, .aload_n 0, 1, 0, 0, 0, 0), (136, .aload_n 0, 1, 0, 0, 0, 0), (137, .getfield 21, 3, 1189, 8, 5, 0), (140, .invokevirtual 24, 3, 1325, 132, 1, 0), (143, .iadd, 1, 0, 0, 0, 0), (144, .bipush 96, 2, 0, 0, 0, 0), (146, .isub, 1, 0, 0, 0, 0), (147, .goto 4, 3, 151, 0, 0, 0), (150, .iconst (-1), 1, 0, 0, 0, 0), (151, .putfield 34, 3, 1192, 8, 8, 0), (154, .aload_n 0, 1, 0, 0, 0, 0), (155, .dup, 1, 0, 0, 0, 0), (156, .getfield 21, 3, 1189, 8, 5, 0), (159, .iconst 1, 1, 0, 0, 0, 0), (160, .iadd, 1, 0, 0, 0, 0), (161, .putfield 21, 3, 1189, 8, 5, 0), (164, .goto (-72), 3, 92, 0, 0, 0), (167, .aload_n 0, 1, 0, 0, 0, 0), (168, .iconst 1, 1, 0, 0, 0, 0), (169, .putfield 37, 3, 1190, 8, 6, 0), (172, .goto 124, 3, 296, 0, 0, 0), (175, .iload_n 1, 1, 0, 0, 0, 0), (176, .i2l, 1, 0, 0, 0, 0), (177, .ldc2_w 48, 3, 1331, 48, 0, 0), (180, .ldc2_w 50, 3, 1332, 57, 0, 0), (183, .invokestatic 44, 3, 1318, 129, 3, 1), (186, .ifCond .eq 85, 3, 271, 0, 0, 0), (189, .aload_n 0, 1, 0, 0, 0, 0), (190, .aload_n 0, 1, 0, 0, 0, 0), (191, .getfield 21, 3, 1189, 8, 5, 0), (194, .invokevirtual 24, 3, 1325, 132, 1, 0), (197, .i2l, 1, 0, 0, 0, 0), (198, .ldc2_w 48, 3, 1331, 48, 0, 0), (201, .ldc2_w 50, 3, 1332, 57, 0, 0), (204, .invokestatic 44, 3, 1318, 129, 3, 1), (207, .ifCond .eq 56, 3, 263, 0, 0, 0), (210, .aload_n 0, 1, 0, 0, 0, 0), (211, .aload_n 0, 1, 0, 0, 0, 0), (212, .getfield 21, 3, 1189, 8, 5, 0), (215, .aload_n 0, 1, 0, 0, 0, 0), (216, .getfield 28, 3, 1188, 8, 4, 0), (219, .isub, 1, 0, 0, 0, 0), (220, .iconst 4, 1, 0, 0, 0, 0), (221, .if_icmp .ge 25, 3, 246, 0, 0, 0), (224, .bipush 10, 2, 0, 0, 0, 0), (226, .aload_n 0, 1, 0, 0, 0, 0), (227, .getfield 31, 3, 1191, 8, 7, 0), (230, .imul, 1, 0, 0, 0, 0), (231, .aload_n 0, 1, 0, 0, 0, 0), (232, .aload_n 0, 1, 0, 0, 0, 0), (233, .getfield 21, 3, 1189, 8, 5, 0), (236, .invokevirtual 24, 3, 1325, 132, 1, 0), (239, .iadd, 1, 0, 0, 0, 0), (240, .bipush 48, 2, 0, 0, 0, 0), (242, .isub, 1, 0, 0, 0, 0), (243, .goto 4, 3, 247, 0, 0, 0), (246, .iconst (-1), 1, 0, 0, 0, 0), (247, .putfield 31, 3, 1191, 8, 7, 0), (250, .aload_n 0, 1, 0, 0, 0, 0), (251, .dup, 1, 0, 0, 0, 0), (252, .getfield 21, 3, 1189, 8, 5, 0), (255, .iconst 1, 1, 0, 0, 0, 0), (256, .iadd, 1, 0, 0, 0, 0), (257, .putfield 21, 3, 1189, 8, 5, 0), (260, .goto (-71), 3, 189, 0, 0, 0), (263, .aload_n 0, 1, 0, 0, 0, 0), (264, .iconst 2, 1, 0, 0, 0, 0), (265, .putfield 37, 3, 1190, 8, 6, 0), (268, .goto 28, 3, 296, 0, 0, 0), (271, .aload_n 0, 1, 0, 0, 0, 0), (272, .dup, 1, 0, 0, 0, 0), (273, .getfield 21, 3, 1189, 8, 5, 0), (276, .iconst 1, 1, 0, 0, 0, 0), (277, .iadd, 1, 0, 0, 0, 0), (278, .putfield 21, 3, 1189, 8, 5, 0), (281, .aload_n 0, 1, 0, 0, 0, 0), (282, .iload_n 1, 1, 0, 0, 0, 0), (283, .bipush 59, 2, 0, 0, 0, 0), (285, .if_icmp .ne 7, 3, 292, 0, 0, 0), (288, .iconst 3, 1, 0, 0, 0, 0), (289, .goto 4, 3, 293, 0, 0, 0), (292, .iconst 4, 1, 0, 0, 0, 0), (293, .putfield 37, 3, 1190, 8, 6, 0), (296, .return_, 1, 0, 0, 0, 0)]
def T134 : List CE := [(0, .aload_n 0, 1, 0, 0, 0, 0), (1, .getfield 37, 3, 1190, 8, 6, 0), (4, .iconst 1, 1, 0, 0, 0, 0), (5, .if_icmp .ne 15, 3, 20, 0, 0, 0), (8, .aload_n 0, 1, 0, 0, 0, 0), (9, .getfield 34, 3, 1192, 8, 8, 0), (12, .iload_n 1, 1, 0, 0, 0, 0), (13, .if_icmp .ne 7, 3, 20, 0, 0, 0), (16, .iconst 1, 1, 0, 0, 0, 0), (17, .goto 4, 3, 21, 0, 0, 0), (20, .iconst 0, 1, 0, 0, 0, 0), (21, .ireturn, 1, 0, 0, 0, 0)]
def T135 : List CE := [(0, .aload_n 0, 1, 0, 0, 0, 0), (1, .getstatic 52, 3, 1337, 12788, 0, 0), (4, .invokevirtual 55, 3, 1339, 134, 1, 0), (7, .ifCond .ne 123, 3, 130, 0, 0, 0), (10, .aload_n 0, 1, 0, 0, 0, 0), (11, .getstatic 59, 3, 1363, 533893, 1, 0), (14, .invokevirtual 55, 3, 1339, 134, 1, 0), (17, .ifCond .ne 113, 3, 130, 0, 0, 0), (20, .aload_n 0, 1, 0, 0, 0, 0), (21, .getstatic 62, 3, 1365, 631088, 2, 0), (24, .invokevirtual 55, 3, 1339, 134, 1, 0), (27, .ifCond .ne 103, 3, 130, 0, 0, 0), (30, .aload_n 0, 1, 0, 0, 0, 0), (31, .getstatic 65, 3, 1367, 7216, 3, 0), (34, .invokevirtual 55, 3, 1339, 134, 1, 0), (37, .ifCond .ne 93, 3, 130, 0, 0, 0), (40, .aload_n 0, 1, 0, 0, 0, 0), (41, .getstatic 68, 3, 1369, 687290547, 4, 0), (44, .invokevirtual 55, 3, 1339, 134, 1, 0), (47, .ifCond .ne 83, 3, 130, 0, 0, 0), (50, .aload_n 0, 1, 0, 0, 0, 0), (51, .getstatic 71, 3, 1371, 7931013, 5, 0), (54, .invokevirtual 55, 3, 1339, 134, 1, 0), (57, .ifCond .ne 73, 3, 130, 0, 0, 0), (60, .aload_n 0, 1, 0, 0, 0, 0), (61, .getstatic 74, 3, 1373, 3322259, 6, 0), (64, .invokevirtual 55, 3, 1339, 134, 1, 0), (67, .ifCond .ne 63, 3, 130, 0, 0, 0), (70, .aload_n 0, 1, 0, 0, 0, 0), (71, .getstatic 77, 3, 1375, 14849171, 7, 0), (74, .invokevirtual 55, 3, 1339, 134, 1, 0), (77, .ifCond .ne 53, 3, 130, 0, 0, 0), (80, .aload_n 0, 1, 0, 0, 0, 0), (81, .getstatic 80, 3, 1377, 12791, 8, 0), (84, .invokevirtual 55, 3, 1339, 134, 1, 0), (87, .ifCond .ne 43, 3, 130, 0, 0, 0), (90, .aload_n 0, 1, 0, 0, 0, 0), (91, .getstatic 83, 3, 1379, 271592, 9, 0), (94, .invokevirtual 55, 3, 1339, 134, 1, 0), (97, .ifCond .ne 33, 3, 130, 0, 0, 0), (100, .aload_n 0, 1, 0, 0, 0, 0), (101, .getstatic 86, 3, 1381, 4773, 10, 0), (104, .invokevirtual 55, 3, 1339, 134, 1, 0), (107, .ifCond .ne 23, 3, 130, 0, 0, 0), (110, .aload_n 0, 1, 0, 0, 0, 0), (111, .getstatic 89, 3, 1383, 408612, 11, 0), (114, .invokevirtual 55, 3, 1339, 134, 1, 0), (117, .ifCond .ne 13, 3, 130, 0, 0, 0), (120, .aload_n 0, 1, 0, 0, 0, 0), (121, .getstatic 92, 3, 1385, 206277, 12, 0), (124, .invokevirtual 55, 3, 1339, 134, 1, 0), (127, .ifCond .eq 7, 3, 134, 0, 0, 0), (130, .iconst 1, 1, 0, 0, 0, 0), (131, .goto 4, 3, 135, 0, 0, 0), (134, .iconst 0, 1, 0, 0, 0, 0), (135, .ireturn, 1, 0, 0, 0, 0)]
def T136 : List CE := [(0, .aload_n 0, 1, 0, 0, 0, 0), (1, .aload_n 0, 1, 0, 0, 0, 0), (2, .getfield 95, 3, 1193, 8, 9, 0), (5, .ifCond .ne 15, 3, 20, 0, 0, 0), (8, .bipush 8, 2, 0, 0, 0, 0), (10, .aload_n 0, 1, 0, 0, 0, 0), (11, .getfield 28, 3, 1188, 8, 4, 0), (14, .imul, 1, 0, 0, 0, 0), (15, .iload_n 1, 1, 0, 0, 0, 0), (16, .iadd, 1, 0, 0, 0, 0), (17, .goto 7, 3, 24, 0, 0, 0), (20, .aload_n 0, 1, 0, 0, 0, 0), (21, .getfield 95, 3, 1193, 8, 9, 0), (24, .putfield 95, 3, 1193, 8, 9, 0), (27, .iconst 0, 1, 0, 0, 0, 0), (28, .ireturn, 1, 0, 0, 0, 0)]
def T137 : List CE := [(0, .aload_n 0, 1, 0, 0, 0, 0), (1, .getfield 37, 3, 1190, 8, 6, 0), (4, .iconst 2, 1, 0, 0, 0, 0), (5, .if_icmp .eq 9, 3, 14, 0, 0, 0), (8, .aload_n 0, 1, 0, 0, 0, 0), (9, .iconst 1, 1, 0, 0, 0, 0), (10, .invokevirtual 98, 3, 1351, 136, 1, 0), (13, .ireturn, 1, 0, 0, 0, 0), (14, .aload_n 0, 1, 0, 0, 0, 0), (15, .getfield 31, 3, 1191, 8, 7, 0), (18, .i2l, 1, 0, 0, 0, 0), (19, .iload_n 1, 1, 0, 0, 0, 0), (20, .i2l, 1, 0, 0, 0, 0), (21, .iload_n 2, 1, 0, 0, 0, 0), (22, .i2l, 1, 0, 0, 0, 0), (23, .invokestatic 44, 3, 1318, 129, 3, 1), (26, .ifCond .ne 9, 3, 35, 0, 0, 0), (29, .aload_n 0, 1, 0, 0, 0, 0), (30, .iconst 3, 1, 0, 0, 0, 0), (31, .invokevirtual 98, 3, 1351, 136, 1, 0), (34, .ireturn, 1, 0, 0, 0, 0), (35, .aload_n 0, 1, 0, 0, 0, 0), (36, .aload_n 0, 1, 0, 0, 0, 0), (37, .getfield 31, 3, 1191, 8, 7, 0), (40, .putfield 101, 3, 1194, 8, 10, 0), (43, .aload_n 0, 1, 0, 0, 0, 0), (44, .invokevirtual 104, 3, 1321, 133, 0, 0), (47, .iconst 1, 1, 0, 0, 0, 0), (48, .ireturn, 1, 0, 0, 0, 0)]
def T138 : List CE := [(0, .aload_n 0, 1, 0, 0, 0, 0), (1, .iload_n 1, 1, 0, 0, 0, 0), (2, .invokevirtual 55, 3, 1339, 134, 1, 0), (5, .ifCond .ne 9, 3, 14, 0, 0, 0), (8, .aload_n 0, 1, 0, 0, 0, 0), (9, .iconst 1, 1, 0, 0, 0, 0), (10, .invokevirtual 98, 3, 1351, 136, 1, 0), (13, .ireturn, 1, 0, 0, 0, 0), (14, .aload_n 0, 1, 0, 0, 0, 0), (15, .invokevirtual 104, 3, 1321, 133, 0, 0), (18, .aload_n 0, 1, 0, 0, 0, 0), (19, .iload_n 2, 1, 0, 0, 0, 0), (20, .iload_n 3, 1, 0, 0, 0, 0), (21, .invokevirtual 108, 3, 1391, 137, 2, 0), (24, .ireturn, 1, 0, 0, 0, 0)]
def T139 : List CE := [(0, .aload_n 0, 1, 0, 0, 0, 0), (1, .getfield 37, 3, 1190, 8, 6, 0), (4, .iconst 1, 1, 0, 0, 0, 0), (5, .if_icmp .ne 18, 3, 23, 0, 0, 0), (8, .aload_n 0, 1, 0, 0, 0, 0), (9, .getfield 34, 3, 1192, 8, 8, 0), (12, .iconst (-1), 1, 0, 0, 0, 0), (13, .if_icmp .eq 10, 3, 23, 0, 0, 0), (16, .aload_n 0, 1, 0, 0, 0, 0), (17, .invokevirtual 112, 3, 1359, 135, 0, 0), (20, .ifCond .eq 9, 3, 29, 0, 0, 0), (23, .aload_n 0, 1, 0, 0, 0, 0), (24, .iconst 1, 1, 0, 0, 0, 0), (25, .invokevirtual 98, 3, 1351, 136, 1, 0), (28, .ireturn, 1, 0, 0, 0, 0), (29, .iconst 0, 1, 0, 0, 0, 0), (30, .istore_n 1, 1, 0, 0, 0, 0), (31, .iload_n 1, 1, 0, 0, 0, 0), (32, .aload_n 0, 1, 0, 0, 0, 0), (33, .getfield 116, 3, 1197, 8, 13, 0), (36, .if_icmp .ge 31, 3, 67, 0, 0, 0), (39, .aload_n 0, 1, 0, 0, 0, 0), (40, .getfield 119, 3, 1196, 8, 12, 3), (43, .bipush 79, 2, 0, 0, 0, 0), (45, .iload_n 1, 1, 0, 0, 0, 0), (46, .iadd, 1, 0, 0, 0, 0), (47, .iaload, 1, 0, 0, 0, 0), (48, .aload_n 0, 1, 0, 0, 0, 0), (49, .getfield 34, 3, 1192, 8, 8, 0), (52, .if_icmp .ne 9, 3, 61, 0, 0, 0), (55, .aload_n 0, 1, 0, 0, 0, 0), (56, .iconst 2, 1, 0, 0, 0, 0), (57, .invokevirtual 98, 3, 1351, 136, 1, 0), (60, .ireturn, 1, 0, 0, 0, 0), (61, .iinc 1 1, 3, 0, 0, 0, 0), (64, .goto (-33), 3, 31, 0, 0, 0), (67, .aload_n 0, 1, 0, 0, 0, 0), (68, .getfield 119, 3, 1196, 8, 12, 3), (71, .bipush 79, 2, 0, 0, 0, 0), (73, .aload_n 0, 1, 0, 0, 0, 0), (74, .getfield 116, 3, 1197, 8, 13, 0), (77, .iadd, 1, 0, 0, 0, 0), (78, .aload_n 0, 1, 0, 0, 0, 0), (79, .getfield 34, 3, 1192, 8, 8, 0), (82, .iastore, 1, 0, 0, 0, 0), (83, .aload_n 0, 1, 0, 0, 0, 0), (84, .dup, 1, 0, 0, 0, 0), (85, .getfield 116, 3, 1197, 8, 13, 0), (88, .iconst 1, 1, 0, 0, 0, 0), (89, .iadd, 1, 0, 0, 0, 0), (90, .putfield 116, 3, 1197, 8, 13, 0), (93, .aload_n 0, 1, 0, 0, 0, 0), (94, .invokevirtual 104, 3, 1321, 133, 0, 0), (97, .iconst 1, 1, 0, 0, 0, 0), (98, .ireturn, 1, 0, 0, 0, 0)]
def T140 : List CE := [(0, .aload_n 0, 1, 0, 0, 0, 0), (1, .getfield 119, 3, 1196, 8, 12, 3), (4, .iload_n 1, 1, 0, 0, 0, 0), (5, .iaload, 1, 0, 0, 0, 0), (6, .iload_n 2, 1, 0, 0, 0, 0), (7, .if_icmp .ne 9, 3, 16, 0, 0, 0), (10, .aload_n 0, 1, 0, 0, 0, 0), (11, .iconst 4, 1, 0, 0, 0, 0), (12, .invokevirtual 98, 3, 1351, 136, 1, 0), (15, .ireturn, 1, 0, 0, 0, 0), (16, .aload_n 0, 1, 0, 0, 0, 0), (17, .invokevirtual 104, 3, 1321, 133, 0, 0), (20, .aload_n 0, 1, 0, 0, 0, 0), (21, .invokevirtual 123, 3, 1355, 139, 0, 0), (24, .ireturn, 1, 0, 0, 0, 0)]
def T141 : List CE := [(0, .aload_n 0, 1, 0, 0, 0, 0), (1, .getfield 119, 3, 1196, 8, 12, 3), (4, .iconst 0, 1, 0, 0, 0, 0), (5, .iaload, 1, 0, 0, 0, 0), (6, .istore_n 1, 1, 0, 0, 0, 0), (7, .aload_n 0, 1, 0, 0, 0, 0), (8, .iconst 0, 1, 0, 0, 0, 0), (9, .bipush 12, 2, 0, 0, 0, 0), (11, .invokevirtual 126, 3, 1347, 140, 2, 0), (14, .ifCond .eq 17, 3, 31, 0, 0, 0), (17, .aload_n 0, 1, 0, 0, 0, 0), (18, .getstatic 68, 3, 1369, 687290547, 4, 0), (21, .iconst 1, 1, 0, 0, 0, 0), (22, .sipush 9999, 3, 0, 0, 0, 0), (25, .invokevirtual 129, 3, 1387, 138, 3, 0), (28, .ifCond .ne 5, 3, 33, 0, 0, 0), (31, .iconst 0, 1, 0, 0, 0, 0), (32, .ireturn, 1, 0, 0, 0, 0), (33, .aload_n 0, 1, 0, 0, 0, 0), (34, .getfield 119, 3, 1196, 8, 12, 3), (37, .iconst 4, 1, 0, 0, 0, 0), (38, .iload_n 1, 1, 0, 0, 0, 0), (39, .iadd, 1, 0, 0, 0, 0), (40, .aload_n 0, 1, 0, 0, 0, 0), (41, .getfield 101, 3, 1194, 8, 10, 0), (44, .iastore, 1, 0, 0, 0, 0), (45, .aload_n 0, 1, 0, 0, 0, 0), (46, .getstatic 71, 3, 1371, 7931013, 5, 0), (49, .iconst 0, 1, 0, 0, 0, 0), (50, .sipush 999, 3, 0, 0, 0, 0), (53, .invokevirtual 129, 3, 1387, 138, 3, 0), (56, .ifCond .ne 5, 3, 61, 0, 0, 0), (59, .iconst 0, 1, 0, 0, 0, 0), (60, .ireturn, 1, 0, 0, 0, 0), (61, .aload_n 0, 1, 0, 0, 0, 0), (62, .getfield 119, 3, 1196, 8, 12, 3), (65, .bipush 16, 2, 0, 0, 0, 0), (67, .iload_n 1, 1, 0, 0, 0, 0), (68, .iadd, 1, 0, 0, 0, 0), (69, .aload_n 0, 1, 0, 0, 0, 0), (70, .getfield 101, 3, 1194, 8, 10, 0), (73, .iastore, 1, 0, 0, 0, 0), (74, .aload_n 0, 1, 0, 0, 0, 0), (75, .getfield 119, 3, 1196, 8, 12, 3), (78, .iconst 0, 1, 0, 0, 0, 0), (79, .dup2, 1, 0, 0, 0, 0), (80, .iaload, 1, 0, 0, 0, 0), (81, .iconst 1, 1, 0, 0, 0, 0), (82, .iadd, 1, 0, 0, 0, 0), (83, .iastore, 1, 0, 0, 0, 0), (84, .iconst 1, 1, 0, 0, 0, 0), (85, .ireturn, 1, 0, 0, 0, 0)]
def T142 : List CE := [(0, .aload_n 0, 1, 0, 0, 0, 0), (1, .getfield 119, 3, 1196, 8, 12, 3), (4, .iconst 1, 1, 0, 0, 0, 0), (5, .iaload, 1, 0, 0, 0, 0), (6, .istore_n 1, 1, 0, 0, 0, 0), (7, .aload_n 0, 1, 0, 0, 0, 0), (8, .iconst 1, 1, 0, 0, 0, 0), (9, .iconst 3, 1, 0, 0, 0, 0), (10, .invokevirtual 126, 3, 1347, 140, 2, 0), (13, .ifCond .eq 16, 3, 29, 0, 0, 0), (16, .aload_n 0, 1, 0, 0, 0, 0), (17, .getstatic 74, 3, 1373, 3322259, 6, 0), (20, .iconst 2, 1, 0, 0, 0, 0), (21, .bipush 12, 2, 0, 0, 0, 0), (23, .invokevirtual 129, 3, 1387, 138, 3, 0), (26, .ifCond .ne 5, 3, 31, 0, 0, 0), (29, .iconst 0, 1, 0, 0, 0, 0), (30, .ireturn, 1, 0, 0, 0, 0), (31, .aload_n 0, 1, 0, 0, 0, 0), (32, .getfield 119, 3, 1196, 8, 12, 3), (35, .bipush 28, 2, 0, 0, 0, 0), (37, .iload_n 1, 1, 0, 0, 0, 0), (38, .iadd, 1, 0, 0, 0, 0), (39, .aload_n 0, 1, 0, 0, 0, 0), (40, .getfield 101, 3, 1194, 8, 10, 0), (43, .iastore, 1, 0, 0, 0, 0), (44, .aload_n 0, 1, 0, 0, 0, 0), (45, .getfield 119, 3, 1196, 8, 12, 3), (48, .iconst 1, 1, 0, 0, 0, 0), (49, .dup2, 1, 0, 0, 0, 0), (50, .iaload, 1, 0, 0, 0, 0), (51, .iconst 1, 1, 0, 0, 0, 0), (52, .iadd, 1, 0, 0, 0, 0), (53, .iastore, 1, 0, 0, 0, 0), (54, .iconst 1, 1, 0, 0, 0, 0), (55, .ireturn, 1, 0, 0, 0, 0)]
def T143 : List CE := [(0, .aload_n 0, 1, 0, 0, 0, 0), (1, .iload_n 2, 1, 0, 0, 0, 0), (2, .iload_n 3, 1, 0, 0, 0, 0), (3, .iload 4, 2, 0, 0, 0, 0), (5, .invokevirtual 129, 3, 1387, 138, 3, 0), (8, .ifCond .ne 5, 3, 13, 0, 0, 0), (11, .iconst 0, 1, 0, 0, 0, 0), (12, .ireturn, 1, 0, 0, 0, 0), (13, .aload_n 0, 1, 0, 0, 0, 0), (14, .getfield 119, 3, 1196, 8, 12, 3), (17, .iload_n 1, 1, 0, 0, 0, 0), (18, .aload_n 0, 1, 0, 0, 0, 0), (19, .getfield 101, 3, 1194, 8, 10, 0), (22, .iastore, 1, 0, 0, 0, 0), (23, .iconst 1, 1, 0, 0, 0, 0), (24, .ireturn, 1, 0, 0, 0, 0)]
def T144 : List CE := [(0, .bipush 31, 2, 0, 0, 0, 0), (2, .bipush 6, 2, 0, 0, 0, 0), (4, .aload_n 0, 1, 0, 0, 0, 0), (5, .getfield 119, 3, 1196, 8, 12, 3), (8, .iconst 2, 1, 0, 0, 0, 0), (9, .iaload, 1, 0, 0, 0, 0), (10, .imul, 1, 0, 0, 0, 0), (11, .iadd, 1, 0, 0, 0, 0), (12, .istore_n 1, 1, 0, 0, 0, 0), (13, .aload_n 0, 1, 0, 0, 0, 0), (14, .iconst 2, 1, 0, 0, 0, 0), (15, .bipush 8, 2, 0, 0, 0, 0), (17, .invokevirtual 126, 3, 1347, 140, 2, 0), (20, .ifCond .eq 93, 3, 113, 0, 0, 0), (23, .aload_n 0, 1, 0, 0, 0, 0), (24, .iload_n 1, 1, 0, 0, 0, 0), (25, .iconst 0, 1, 0, 0, 0, 0), (26, .iadd, 1, 0, 0, 0, 0), (27, .getstatic 77, 3, 1375, 14849171, 7, 0), (30, .iconst 1, 1, 0, 0, 0, 0), (31, .sipush 999, 3, 0, 0, 0, 0), (34, .invokevirtual 133, 3, 1403, 143, 4, 0), (37, .ifCond .eq 76, 3, 113, 0, 0, 0), (40, .aload_n 0, 1, 0, 0, 0, 0), (41, .iload_n 1, 1, 0, 0, 0, 0), (42, .iconst 1, 1, 0, 0, 0, 0), (43, .iadd, 1, 0, 0, 0, 0), (44, .getstatic 80, 3, 1377, 12791, 8, 0), (47, .iconst 0, 1, 0, 0, 0, 0), (48, .sipush 999, 3, 0, 0, 0, 0), (51, .invokevirtual 133, 3, 1403, 143, 4, 0), (54, .ifCond .eq 59, 3, 113, 0, 0, 0), (57, .aload_n 0, 1, 0, 0, 0, 0), (58, .iload_n 1, 1, 0, 0, 0, 0), (59, .iconst 2, 1, 0, 0, 0, 0), (60, .iadd, 1, 0, 0, 0, 0), (61, .getstatic 83, 3, 1379, 271592, 9, 0), (64, .aload_n 0, 1, 0, 0, 0, 0), (65, .getfield 119, 3, 1196, 8, 12, 3), (68, .iload_n 1, 1, 0, 0, 0, 0), (69, .iconst 1, 1, 0, 0, 0, 0), (70, .iadd, 1, 0, 0, 0, 0), (71, .iaload, 1, 0, 0, 0, 0), (72, .sipush 999, 3, 0, 0, 0, 0), (75, .invokevirtual 133, 3, 1403, 143, 4, 0), (78, .ifCond .eq 35, 3, 113, 0, 0, 0), (81, .aload_n 0, 1, 0, 0, 0, 0), (82, .iload_n 1, 1, 0, 0, 0, 0), (83, .iconst 3, 1, 0, 0, 0, 0), (84, .iadd, 1, 0, 0, 0, 0), (85, .getstatic 86, 3, 1381, 4773, 10, 0), (88, .iconst 1, 1, 0, 0, 0, 0), (89, .bipush 99, 2, 0, 0, 0, 0), (91, .invokevirtual 133, 3, 1403, 143, 4, 0), (94, .ifCond .eq 19, 3, 113, 0, 0, 0), (97, .aload_n 0, 1, 0, 0, 0, 0), (98, .iload_n 1, 1, 0, 0, 0, 0), (99, .iconst 4, 1, 0, 0, 0, 0), (100, .iadd, 1, 0, 0, 0, 0), (101, .getstatic 89, 3, 1383, 408612, 11, 0), (104, .iconst 1, 1, 0, 0, 0, 0), (105, .bipush 20, 2, 0, 0, 0, 0), (107, .invokevirtual 133, 3, 1403, 143, 4, 0), (110, .ifCond .ne 5, 3, 115, 0, 0, 0), (113, .iconst 0, 1, 0, 0, 0, 0), (114, .ireturn, 1, 0, 0, 0, 0), (115, .aload_n 0, 1, 0, 0, 0, 0), (116, .getfield 119, 3, 1196, 8, 12, 3), (119, .iload_n 1, 1, 0, 0, 0, 0), (120, .iconst 5, 1, 0, 0, 0, 0), (121, .iadd, 1, 0, 0, 0, 0), (122, .iconst 0, 1, 0, 0, 0, 0), (123, .iastore, 1, 0, 0, 0, 0), (124, .aload_n 0, 1, 0, 0, 0, 0), (125, .getstatic 92, 3, 1385, 206277, 12, 0), (128, .invokevirtual 55, 3, 1339, 134, 1, 0), (131, .ifCond .eq 22, 3, 153, 0, 0, 0), (134, .aload_n 0, 1, 0, 0, 0, 0), (135, .iload_n 1, 1, 0, 0, 0, 0), (136, .iconst 5, 1, 0, 0, 0, 0), (137, .iadd, 1, 0, 0, 0, 0), (138, .getstatic 92, 3, 1385, 206277, 12, 0), (141, .iconst 0, 1, 0, 0, 0, 0), (142, .sipush 999, 3, 0, 0, 0, 0), (145, .invokevirtual 133, 3, 1403, 143, 4, 0), (148, .ifCond .ne 5, 3, 153, 0, 0, 0), (151, .iconst 0, 1, 0, 0, 0, 0), (152, .ireturn, 1, 0, 0, 0, 0), (153, .aload_n 0, 1, 0, 0, 0, 0), (154, .getfield 119, 3, 1196, 8, 12, 3), (157, .iconst 2, 1, 0, 0, 0, 0), (158, .dup2, 1, 0, 0, 0, 0), (159, .iaload, 1, 0, 0, 0, 0), (160, .iconst 1, 1, 0, 0, 0, 0), (161, .iadd, 1, 0, 0, 0, 0), (162, .iastore, 1, 0, 0, 0, 0), (163, .iconst 1, 1, 0, 0, 0, 0), (164, .ireturn, 1, 0, 0, 0, 0)]
def T145 : List CE := [(0, .aload_n 0, 1, 0, 0, 0, 0), (1, .getfield 137, 3, 1198, 8, 14, 2), (4, .ifCond .eq 9, 3, 13, 0, 0, 0), (7, .aload_n 0, 1, 0, 0, 0, 0), (8, .iconst 2, 1, 0, 0, 0, 0), (9, .invokevirtual 98, 3, 1351, 136, 1, 0), (12, .ireturn, 1, 0, 0, 0, 0), (13, .aload_n 0, 1, 0, 0, 0, 0), (14, .iconst 1, 1, 0, 0, 0, 0), (15, .putfield 137, 3, 1198, 8, 14, 2), (18, .aload_n 0, 1, 0, 0, 0, 0), (19, .iconst 3, 1, 0, 0, 0, 0), (20, .getstatic 65, 3, 1367, 7216, 3, 0), (23, .iconst 0, 1, 0, 0, 0, 0), (24, .iconst 3, 1, 0, 0, 0, 0), (25, .invokevirtual 133, 3, 1403, 143, 4, 0), (28, .ireturn, 1, 0, 0, 0, 0)]
def T146 : List CE := [(0, .aload_n 0, 1, 0, 0, 0, 0), (1, .getstatic 52, 3, 1337, 12788, 0, 0), (4, .invokevirtual 55, 3, 1339, 134, 1, 0), (7, .ifCond .eq 8, 3, 15, 0, 0, 0), (10, .aload_n 0, 1, 0, 0, 0, 0), (11, .invokevirtual 141, 3, 1343, 141, 0, 0), (14, .ireturn, 1, 0, 0, 0, 0), (15, .aload_n 0, 1, 0, 0, 0, 0), (16, .getstatic 59, 3, 1363, 533893, 1, 0), (19, .invokevirtual 55, 3, 1339, 134, 1, 0), (22, .ifCond .eq 8, 3, 30, 0, 0, 0), (25, .aload_n 0, 1, 0, 0, 0, 0), (26, .invokevirtual 144, 3, 1395, 142, 0, 0), (29, .ireturn, 1, 0, 0, 0, 0), (30, .aload_n 0, 1, 0, 0, 0, 0), (31, .getstatic 62, 3, 1365, 631088, 2, 0), (34, .invokevirtual 55, 3, 1339, 134, 1, 0), (37, .ifCond .eq 8, 3, 45, 0, 0, 0), (40, .aload_n 0, 1, 0, 0, 0, 0), (41, .invokevirtual 147, 3, 1399, 144, 0, 0), (44, .ireturn, 1, 0, 0, 0, 0), (45, .aload_n 0, 1, 0, 0, 0, 0), (46, .getstatic 65, 3, 1367, 7216, 3, 0), (49, .invokevirtual 55, 3, 1339, 134, 1, 0), (52, .ifCond .eq 10, 3, 62, 0, 0, 0), (55, .aload_n 0, 1, 0, 0, 0, 0), (56, .invokevirtual 150, 3, 1407, 145, 0, 0), (59, .goto 8, 3, 67, 0, 0, 0), (62, .aload_n 0, 1, 0, 0, 0, 0), (63, .iconst 1, 1, 0, 0, 0, 0), (64, .invokevirtual 98, 3, 1351, 136, 1, 0), (67, .ireturn, 1, 0, 0, 0, 0)]
def T147 : List CE := [(0, .aload_n 0, 1, 0, 0, 0, 0), (1, .invokespecial 153, 3, 1179, 0, 0, 16), (4, .aload_n 0, 1, 0, 0, 0, 0), (5, .sipush 600, 3, 0, 0, 0, 0), (8, .newarray .byte, 2, 0, 0, 0, 0), (10, .putfield 14, 3, 1185, 8, 1, 3), (13, .aload_n 0, 1, 0, 0, 0, 0), (14, .bipush 102, 2, 0, 0, 0, 0), (16, .newarray .int, 2, 0, 0, 0, 0), (18, .putfield 158, 3, 1195, 8, 11, 3), (21, .aload_n 0, 1, 0, 0, 0, 0), (22, .bipush 102, 2, 0, 0, 0, 0), (24, .newarray .int, 2, 0, 0, 0, 0), (26, .putfield 119, 3, 1196, 8, 12, 3), (29, .aload_n 0, 1, 0, 0, 0, 0), (30, .sipush 2471, 3, 0, 0, 0, 0), (33, .newarray .int, 2, 0, 0, 0, 0), (35, .putfield 161, 3, 1199, 8, 15, 3), (38, .aload_n 0, 1, 0, 0, 0, 0), (39, .sipush 29652, 3, 0, 0, 0, 0), (42, .newarray .int, 2, 0, 0, 0, 0), (44, .putfield 164, 3, 1203, 8, 19, 3), (47, .aload_n 0, 1, 0, 0, 0, 0), (48, .iconst 2, 1, 0, 0, 0, 0), (49, .newarray .boolean, 2, 0, 0, 0, 0), (51, .putfield 167, 3, 1204, 8, 20, 3), (54, .aload_n 0, 1, 0, 0, 0, 0), (55, .sipush 4942, 3, 0, 0, 0, 0), (58, .newarray .int, 2, 0, 0, 0, 0), (60, .putfield 171, 3, 1205, 8, 21, 3), (63, .aload_n 0, 1, 0, 0, 0, 0), (64, .sipush 2471, 3, 0, 0, 0, 0), (67, .newarray .int, 2, 0, 0, 0, 0), (69, .putfield 174, 3, 1206, 8, 22, 3), (72, .aload_n 0, 1, 0, 0, 0, 0), (73, .iconst 1, 1, 0, 0, 0, 0), (74, .putfield 177, 3, 1207, 8, 23, 0), (77, .aload_n 0, 1, 0, 0, 0, 0), (78, .lconst 1, 1, 0, 0, 0, 0), (79, .putfield 180, 3, 1208, 8, 24, 1), (82, .aload_n 0, 1, 0, 0, 0, 0), (83, .lconst 1, 1, 0, 0, 0, 0), (84, .putfield 184, 3, 1209, 8, 25, 1), (87, .aload_n 0, 1, 0, 0, 0, 0), (88, .bipush 6, 2, 0, 0, 0, 0), (90, .newarray .int, 2, 0, 0, 0, 0), (92, .putfield 187, 3, 1212, 8, 28, 3), (95, .aload_n 0, 1, 0, 0, 0, 0), (96, .bipush 6, 2, 0, 0, 0, 0), (98, .newarray .int, 2, 0, 0, 0, 0), (100, .putfield 190, 3, 1213, 8, 29, 3), (103, .aload_n 0, 1, 0, 0, 0, 0), (104, .bipush 6, 2, 0, 0, 0, 0), (106, .newarray .int, 2, 0, 0, 0, 0), (108, .putfield 193, 3, 1214, 8, 30, 3), (111, .aload_n 0, 1, 0, 0, 0, 0), (112, .bipush 12, 2, 0, 0, 0, 0), (114, .newarray .int, 2, 0, 0, 0, 0), (116, .putfield 196, 3, 1217, 8, 33, 3), (119, .aload_n 0, 1, 0, 0, 0, 0), (120, .bipush 12, 2, 0, 0, 0, 0), (122, .newarray .int, 2, 0, 0, 0, 0), (124, .putfield 199, 3, 1218, 8, 34, 3), (127, .aload_n 0, 1, 0, 0, 0, 0), (128, .bipush 8, 2, 0, 0, 0, 0), (130, .newarray .boolean, 2, 0, 0, 0, 0), (132, .putfield 202, 3, 1222, 8, 38, 3), (135, .aload_n 0, 1, 0, 0, 0, 0), (136, .bipush 8, 2, 0, 0, 0, 0), (138, .newarray .boolean, 2, 0, 0, 0, 0), (140, .putfield 205, 3, 1223, 8, 39, 3), (143, .aload_n 0, 1, 0, 0, 0, 0), (144, .bipush 8, 2, 0, 0, 0, 0), (146, .newarray .int, 2, 0, 0, 0, 0), (148, .putfield 208, 3, 1224, 8, 40, 3), (151, .aload_n 0, 1, 0, 0, 0, 0), (152, .getfield 158, 3, 1195, 8, 11, 3), (155, .iconst 3, 1, 0, 0, 0, 0), (156, .iconst 1, 1, 0, 0, 0, 0), (157, .iastore, 1, 0, 0, 0, 0), (158, .aload_n 0, 1, 0, 0, 0, 0), (159, .invokevirtual 211, 3, 1180, 150, 0, 0), (162, .return_, 1, 0, 0, 0, 0)]
def T148 : List CE := [(0, .aload_n 0, 1, 0, 0, 0, 0), (1, .iconst 0, 1, 0, 0, 0, 0), (2, .putfield 1, 3, 1184, 8, 0, 0), (5, .iload_n 1, 1, 0, 0, 0, 0), (6, .i2l, 1, 0, 0, 0, 0), (7, .lconst 0, 1, 0, 0, 0, 0), (8, .aload_n 0, 1, 0, 0, 0, 0), (9, .getfield 7, 3, 1186, 8, 2, 0), (12, .i2l, 1, 0, 0, 0, 0), (13, .invokestatic 44, 3, 1318, 129, 3, 1), (16, .ifCond .ne 5, 3, 21, 0, 0, 0), (19, .iconst (-1), 1, 0, 0, 0, 0), (20, .ireturn, 1, 0, 0, 0, 0), (21, .aload_n 0, 1, 0, 0, 0, 0), (22, .iload_n 1, 1, 0, 0, 0, 0), (23, .putfield 18, 3, 1187, 8, 3, 0), (26, .aload_n 0, 1, 0, 0, 0, 0), (27, .iconst 0, 1, 0, 0, 0, 0), (28, .putfield 7, 3, 1186, 8, 2, 0), (31, .aload_n 0, 1, 0, 0, 0, 0), (32, .iconst 0, 1, 0, 0, 0, 0), (33, .putfield 21, 3, 1189, 8, 5, 0), (36, .aload_n 0, 1, 0, 0, 0, 0), (37, .iconst 0, 1, 0, 0, 0, 0), (38, .putfield 95, 3, 1193, 8, 9, 0), (41, .aload_n 0, 1, 0, 0, 0, 0), (42, .iconst 0, 1, 0, 0, 0, 0), (43, .putfield 116, 3, 1197, 8, 13, 0), (46, .aload_n 0, 1, 0, 0, 0, 0), (47, .iconst 0, 1, 0, 0, 0, 0), (48, .putfield 137, 3, 1198, 8, 14, 2), (51, .iconst 0, 1, 0, 0, 0, 0), (52, .istore_n 2, 1, 0, 0, 0, 0), (53, .iload_n 2, 1, 0, 0, 0, 0), (54, .bipush 102, 2, 0, 0, 0, 0), (56, .if_icmp .ge 16, 3, 72, 0, 0, 0), (59, .aload_n 0, 1, 0, 0, 0, 0), (60, .getfield 119, 3, 1196, 8, 12, 3), (63, .iload_n 2, 1, 0, 0, 0, 0), (64, .iconst 0, 1, 0, 0, 0, 0), (65, .iastore, 1, 0, 0, 0, 0), (66, .iinc 2 1, 3, 0, 0, 0, 0), (69, .goto (-16), 3, 53, 0, 0, 0), (72, .aload_n 0, 1, 0, 0, 0, 0), (73, .getfield 119, 3, 1196, 8, 12, 3), (76, .iconst 3, 1, 0, 0, 0, 0), (77, .iconst 1, 1, 0, 0, 0, 0), (78, .iastore, 1, 0, 0, 0, 0), (79, .iconst 0, 1, 0, 0, 0, 0), (80, .istore_n 2, 1, 0, 0, 0, 0), (81, .aload_n 0, 1, 0, 0, 0, 0), (82, .invokevirtual 104, 3, 1321, 133, 0, 0), (85, .iconst 1, 1, 0, 0, 0, 0), (86, .istore_n 3, 1, 0, 0, 0, 0), (87, .iload_n 3, 1, 0, 0, 0, 0), (88, .ifCond .eq 47, 3, 135, 0, 0, 0), (91, .aload_n 0, 1, 0, 0, 0, 0), (92, .getfield 37, 3, 1190, 8, 6, 0), (95, .ifCond .eq 40, 3, 135, 0, 0, 0), (98, .aload_n 0, 1, 0, 0, 0, 0), (99, .invokevirtual 214, 3, 1333, 146, 0, 0), (102, .istore_n 3, 1, 0, 0, 0, 0), (103, .iload_n 3, 1, 0, 0, 0, 0), (104, .ifCond .eq 17, 3, 121, 0, 0, 0), (107, .aload_n 0, 1, 0, 0, 0, 0), (108, .getfield 37, 3, 1190, 8, 6, 0), (111, .iconst 3, 1, 0, 0, 0, 0), (112, .if_icmp .eq 9, 3, 121, 0, 0, 0), (115, .aload_n 0, 1, 0, 0, 0, 0), (116, .iconst 1, 1, 0, 0, 0, 0), (117, .invokevirtual 98, 3, 1351, 136, 1, 0), (120, .istore_n 3, 1, 0, 0, 0, 0), (121, .iload_n 3, 1, 0, 0, 0, 0), (122, .ifCond .eq (-35), 3, 87, 0, 0, 0), (125, .aload_n 0, 1, 0, 0, 0, 0), (126, .invokevirtual 104, 3, 1321, 133, 0, 0), (129, .iinc 2 1, 3, 0, 0, 0, 0), (132, .goto (-45), 3, 87, 0, 0, 0), (135, .iload_n 3, 1, 0, 0, 0, 0), (136, .ifCond .ne 11, 3, 147, 0, 0, 0), (139, .bipush (-2), 2, 0, 0, 0, 0), (141, .aload_n 0, 1, 0, 0, 0, 0), (142, .getfield 95, 3, 1193, 8, 9, 0), (145, .isub, 1, 0, 0, 0, 0), (146, .ireturn, 1, 0, 0, 0, 0), (147, .iconst 0, 1, 0, 0, 0, 0), (148, .istore 4, 2, 0, 0, 0, 0), (150, .iload 4, 2, 0, 0, 0, 0), (152, .bipush 102, 2, 0, 0, 0, 0), (154, .if_icmp .ge 23, 3, 177, 0, 0, 0), (157, .aload_n 0, 1, 0, 0, 0, 0), (158, .getfield 158, 3, 1195, 8, 11, 3), (161, .iload 4, 2, 0, 0, 0, 0), (163, .aload_n 0, 1, 0, 0, 0, 0), (164, .getfield 119, 3, 1196, 8, 12, 3), (167, .iload 4, 2, 0, 0, 0, 0), (169, .iaload, 1, 0, 0, 0, 0), (170, .iastore, 1, 0, 0, 0, 0), (171, .iinc 4 1, 3, 0, 0, 0, 0), (174, .goto (-24), 3, 150, 0, 0, 0), (177, .aload_n 0, 1, 0, 0, 0, 0), (178, .invokevirtual 211, 3, 1180, 150, 0, 0), (181, .aload_n 0, 1, 0, 0, 0, 0), (182, .iconst 0, 1, 0, 0, 0, 0), (183, .putfield 217, 3, 1202, 8, 18, 0), (186, .aload_n 0, 1, 0, 0, 0, 0), (187, .getfield 167, 3, 1204, 8, 20, 3), (190, .iconst 0, 1, 0, 0, 0, 0), (191, .iconst 0, 1, 0, 0, 0, 0), (192, .bastore, 1, 0, 0, 0, 0), (193, .aload_n 0, 1, 0, 0, 0, 0), (194, .getfield 167, 3, 1204, 8, 20, 3), (197, .iconst 1, 1, 0, 0, 0, 0), (198, .iconst 0, 1, 0, 0, 0, 0), (199, .bastore, 1, 0, 0, 0, 0), (200, .iload_n 2, 1, 0, 0, 0, 0), (201, .ireturn, 1, 0, 0, 0, 0)]
def T149 : List CE := [(0, .iconst 0, 1, 0, 0, 0, 0), (1, .istore 4, 2, 0, 0, 0, 0), (3, .iload 4, 2, 0, 0, 0, 0), (5, .sipush 2471, 3, 0, 0, 0, 0), (8, .if_icmp .ge 21, 3, 29, 0, 0, 0), (11, .aload_n 2, 1, 0, 0, 0, 0), (12, .iload_n 3, 1, 0, 0, 0, 0), (13, .iload 4, 2, 0, 0, 0, 0), (15, .iadd, 1, 0, 0, 0, 0), (16, .aload_n 0, 1, 0, 0, 0, 0), (17, .iload_n 1, 1, 0, 0, 0, 0), (18, .iload 4, 2, 0, 0, 0, 0), (20, .iadd, 1, 0, 0, 0, 0), (21, .iaload, 1, 0, 0, 0, 0), (22, .iastore, 1, 0, 0, 0, 0), (23, .iinc 4 1, 3, 0, 0, 0, 0), (26, .goto (-23), 3, 3, 0, 0, 0), (29, .return_, 1, 0, 0, 0, 0)]
def T150 : List CE := [(0, .iconst 0, 1, 0, 0, 0, 0), (1, .istore_n 1, 1, 0, 0, 0, 0), (2, .iload_n 1, 1, 0, 0, 0, 0), (3, .sipush 2471, 3, 0, 0, 0, 0), (6, .if_icmp .ge 16, 3, 22, 0, 0, 0), (9, .aload_n 0, 1, 0, 0, 0, 0), (10, .getfield 161, 3, 1199, 8, 15, 3), (13, .iload_n 1, 1, 0, 0, 0, 0), (14, .iconst 0, 1, 0, 0, 0, 0), (15, .iastore, 1, 0, 0, 0, 0), (16, .iinc 1 1, 3, 0, 0, 0, 0), (19, .goto (-17), 3, 2, 0, 0, 0), (22, .iconst 0, 1, 0, 0, 0, 0), (23, .istore_n 1, 1, 0, 0, 0, 0), (24, .iload_n 1, 1, 0, 0, 0, 0), (25, .bipush 12, 2, 0, 0, 0, 0), (27, .if_icmp .ge 26, 3, 53, 0, 0, 0), (30, .aload_n 0, 1, 0, 0, 0, 0), (31, .getfield 161, 3, 1199, 8, 15, 3), (34, .bipush 12, 2, 0, 0, 0, 0), (36, .iload_n 1, 1, 0, 0, 0, 0), (37, .iadd, 1, 0, 0, 0, 0), (38, .aload_n 0, 1, 0, 0, 0, 0), (39, .getfield 158, 3, 1195, 8, 11, 3), (42, .iconst 4, 1, 0, 0, 0, 0), (43, .iload_n 1, 1, 0, 0, 0, 0), (44, .iadd, 1, 0, 0, 0, 0), (45, .iaload, 1, 0, 0, 0, 0), (46, .iastore, 1, 0, 0, 0, 0), (47, .iinc 1 1, 3, 0, 0, 0, 0), (50, .goto (-26), 3, 24, 0, 0, 0), (53, .return_, 1, 0, 0, 0, 0)]
def T151 : List CE := [(0, .iload_n 1, 1, 0, 0, 0, 0), (1, .i2l, 1, 0, 0, 0, 0), (2, .lconst 0, 1, 0, 0, 0, 0), (3, .aload_n 0, 1, 0, 0, 0, 0), (4, .getfield 158, 3, 1195, 8, 11, 3), (7, .iconst 0, 1, 0, 0, 0, 0), (8, .iaload, 1, 0, 0, 0, 0), (9, .iconst 1, 1, 0, 0, 0, 0), (10, .isub, 1, 0, 0, 0, 0), (11, .i2l, 1, 0, 0, 0, 0), (12, .invokestatic 44, 3, 1318, 129, 3, 1), (15, .ireturn, 1, 0, 0, 0, 0)]
def T152 : List CE := [(0, .iload_n 1, 1, 0, 0, 0, 0), (1, .i2l, 1, 0, 0, 0, 0), (2, .lconst 0, 1, 0, 0, 0, 0), (3, .aload_n 0, 1, 0, 0, 0, 0), (4, .getfield 158, 3, 1195, 8, 11, 3), (7, .iconst 1, 1, 0, 0, 0, 0), (8, .iaload, 1, 0, 0, 0, 0), (9, .iconst 1, 1, 0, 0, 0, 0), (10, .isub, 1, 0, 0, 0, 0), (11, .i2l, 1, 0, 0, 0, 0), (12, .invokestatic 44, 3, 1318, 129, 3, 1), (15, .ireturn, 1, 0, 0, 0, 0)]
def T153 : List CE := [(0, .iload_n 1, 1, 0, 0, 0, 0), (1, .i2l, 1, 0, 0, 0, 0), (2, .lconst 0, 1, 0, 0, 0, 0), (3, .aload_n 0, 1, 0, 0, 0, 0), (4, .getfield 158, 3, 1195, 8, 11, 3), (7, .iconst 2, 1, 0, 0, 0, 0), (8, .iaload, 1, 0, 0, 0, 0), (9, .iconst 1, 1, 0, 0, 0, 0), (10, .isub, 1, 0, 0, 0, 0), (11, .i2l, 1, 0, 0, 0, 0), (12, .invokestatic 44, 3, 1318, 129, 3, 1), (15, .ireturn, 1, 0, 0, 0, 0)]
def T154 : List CE := [(0, .aload_n 0, 1, 0, 0, 0, 0), (1, .iload_n 1, 1, 0, 0, 0, 0), (2, .invokevirtual 220, 3, 1445, 152, 1, 0), (5, .ifCond .eq 28, 3, 33, 0, 0, 0), (8, .iload_n 2, 1, 0, 0, 0, 0), (9, .i2l, 1, 0, 0, 0, 0), (10, .lconst 0, 1, 0, 0, 0, 0), (11, .aload_n 0, 1, 0, 0, 0, 0), (12, .getfield 158, 3, 1195, 8, 11, 3), (15, .bipush 28, 2, 0, 0, 0, 0), (17, .iload_n 1, 1, 0, 0, 0, 0), (18, .iadd, 1, 0, 0, 0, 0), (19, .iaload, 1, 0, 0, 0, 0), (20, .iconst 1, 1, 0, 0, 0, 0), (21, .isub, 1, 0, 0, 0, 0), (22, .i2l, 1, 0, 0, 0, 0), (23, .invokestatic 44, 3, 1318, 129, 3, 1), (26, .ifCond .eq 7, 3, 33, 0, 0, 0), (29, .iconst 1, 1, 0, 0, 0, 0), (30, .goto 4, 3, 34, 0, 0, 0), (33, .iconst 0, 1, 0, 0, 0, 0), (34, .ireturn, 1, 0, 0, 0, 0)]
def T155 : List CE := [(0, .aload_n 0, 1, 0, 0, 0, 0), (1, .getfield 158, 3, 1195, 8, 11, 3), (4, .bipush 31, 2, 0, 0, 0, 0), (6, .bipush 6, 2, 0, 0, 0, 0), (8, .iload_n 1, 1, 0, 0, 0, 0), (9, .imul, 1, 0, 0, 0, 0), (10, .iadd, 1, 0, 0, 0, 0), (11, .iload_n 2, 1, 0, 0, 0, 0), (12, .iadd, 1, 0, 0, 0, 0), (13, .iaload, 1, 0, 0, 0, 0), (14, .ireturn, 1, 0, 0, 0, 0)]
def T156 : List CE := [(0, .sipush 311, 3, 0, 0, 0, 0), (3, .bipush 60, 2, 0, 0, 0, 0), (5, .iload_n 0, 1, 0, 0, 0, 0), (6, .imul, 1, 0, 0, 0, 0), (7, .iload_n 1, 1, 0, 0, 0, 0), (8, .iadd, 1, 0, 0, 0, 0), (9, .bipush 12, 2, 0, 0, 0, 0), (11, .imul, 1, 0, 0, 0, 0), (12, .iadd, 1, 0, 0, 0, 0), (13, .iload_n 2, 1, 0, 0, 0, 0), (14, .iadd, 1, 0, 0, 0, 0), (15, .ireturn, 1, 0, 0, 0, 0)]
def T157 : List CE := [(0, .aload_n 0, 1, 0, 0, 0, 0), (1, .getfield 158, 3, 1195, 8, 11, 3), (4, .bipush 16, 2, 0, 0, 0, 0), (6, .aload_n 0, 1, 0, 0, 0, 0), (7, .getfield 161, 3, 1199, 8, 15, 3), (10, .sipush 131, 3, 0, 0, 0, 0), (13, .bipush 60, 2, 0, 0, 0, 0), (15, .iload_n 1, 1, 0, 0, 0, 0), (16, .imul, 1, 0, 0, 0, 0), (17, .iadd, 1, 0, 0, 0, 0), (18, .iload_n 2, 1, 0, 0, 0, 0), (19, .iadd, 1, 0, 0, 0, 0), (20, .iaload, 1, 0, 0, 0, 0), (21, .iadd, 1, 0, 0, 0, 0), (22, .iaload, 1, 0, 0, 0, 0), (23, .ireturn, 1, 0, 0, 0, 0)]
def T158 : List CE := [(0, .aload_n 0, 1, 0, 0, 0, 0), (1, .iconst 0, 1, 0, 0, 0, 0), (2, .putfield 223, 3, 1200, 8, 16, 0), (5, .aload_n 0, 1, 0, 0, 0, 0), (6, .iconst 0, 1, 0, 0, 0, 0), (7, .putfield 226, 3, 1201, 8, 17, 0), (10, .iconst 0, 1, 0, 0, 0, 0), (11, .istore 4, 2, 0, 0, 0, 0), (13, .iload 4, 2, 0, 0, 0, 0), (15, .aload_n 0, 1, 0, 0, 0, 0), (16, .getfield 161, 3, 1199, 8, 15, 3), (19, .bipush 24, 2, 0, 0, 0, 0), (21, .iload_n 1, 1, 0, 0, 0, 0), (22, .iadd, 1, 0, 0, 0, 0), (23, .iaload, 1, 0, 0, 0, 0), (24, .if_icmp .ge 69, 3, 93, 0, 0, 0), (27, .iload_n 2, 1, 0, 0, 0, 0), (28, .istore 5, 2, 0, 0, 0, 0), (30, .iload 5, 2, 0, 0, 0, 0), (32, .iload_n 3, 1, 0, 0, 0, 0), (33, .if_icmp .gt 54, 3, 87, 0, 0, 0), (36, .aload_n 0, 1, 0, 0, 0, 0), (37, .getfield 161, 3, 1199, 8, 15, 3), (40, .iload_n 1, 1, 0, 0, 0, 0), (41, .iload 4, 2, 0, 0, 0, 0), (43, .iload 5, 2, 0, 0, 0, 0), (45, .invokestatic 229, 3, 1453, 156, 3, 1), (48, .iaload, 1, 0, 0, 0, 0), (49, .istore 6, 2, 0, 0, 0, 0), (51, .aload_n 0, 1, 0, 0, 0, 0), (52, .dup, 1, 0, 0, 0, 0), (53, .getfield 223, 3, 1200, 8, 16, 0), (56, .iload 6, 2, 0, 0, 0, 0), (58, .iadd, 1, 0, 0, 0, 0), (59, .putfield 223, 3, 1200, 8, 16, 0), (62, .aload_n 0, 1, 0, 0, 0, 0), (63, .dup, 1, 0, 0, 0, 0), (64, .getfield 226, 3, 1201, 8, 17, 0), (67, .iload 6, 2, 0, 0, 0, 0), (69, .aload_n 0, 1, 0, 0, 0, 0), (70, .iload_n 1, 1, 0, 0, 0, 0), (71, .iload 4, 2, 0, 0, 0, 0), (73, .invokevirtual 233, 3, 1456, 157, 2, 0), (76, .imul, 1, 0, 0, 0, 0), (77, .iadd, 1, 0, 0, 0, 0), (78, .putfield 226, 3, 1201, 8, 17, 0), (81, .iinc 5 1, 3, 0, 0, 0, 0), (84, .goto (-54), 3, 30, 0, 0, 0), (87, .iinc 4 1, 3, 0, 0, 0, 0), (90, .goto (-77), 3, 13, 0, 0, 0), (93, .return_, 1, 0, 0, 0, 0)]
def T159 : List CE := [(0, .aload_n 0, 1, 0, 0, 0, 0), (1, .getfield 161, 3, 1199, 8, 15, 3), (4, .bipush 27, 2, 0, 0, 0, 0), (6, .iload_n 1, 1, 0, 0, 0, 0), (7, .iadd, 1, 0, 0, 0, 0), (8, .iaload, 1, 0, 0, 0, 0), (9, .aload_n 0, 1, 0, 0, 0, 0), (10, .iload_n 1, 1, 0, 0, 0, 0), (11, .iconst 0, 1, 0, 0, 0, 0), (12, .invokevirtual 237, 3, 1419, 155, 2, 0), (15, .if_icmp .lt 7, 3, 22, 0, 0, 0), (18, .iconst 1, 1, 0, 0, 0, 0), (19, .goto 4, 3, 23, 0, 0, 0), (22, .iconst 0, 1, 0, 0, 0, 0), (23, .ireturn, 1, 0, 0, 0, 0)]
def T160 : List CE := [(0, .aload_n 0, 1, 0, 0, 0, 0), (1, .getfield 161, 3, 1199, 8, 15, 3), (4, .bipush 43, 2, 0, 0, 0, 0), (6, .iload_n 1, 1, 0, 0, 0, 0), (7, .iadd, 1, 0, 0, 0, 0), (8, .iaload, 1, 0, 0, 0, 0), (9, .ifCond .le 17, 3, 26, 0, 0, 0), (12, .aload_n 0, 1, 0, 0, 0, 0), (13, .getfield 161, 3, 1199, 8, 15, 3), (16, .bipush 43, 2, 0, 0, 0, 0), (18, .iload_n 1, 1, 0, 0, 0, 0), (19, .iadd, 1, 0, 0, 0, 0), (20, .iaload, 1, 0, 0, 0, 0), (21, .iconst 1, 1, 0, 0, 0, 0), (22, .isub, 1, 0, 0, 0, 0), (23, .goto 9, 3, 32, 0, 0, 0), (26, .aload_n 0, 1, 0, 0, 0, 0), (27, .getfield 161, 3, 1199, 8, 15, 3), (30, .iconst 0, 1, 0, 0, 0, 0), (31, .iaload, 1, 0, 0, 0, 0), (32, .istore_n 2, 1, 0, 0, 0, 0), (33, .iload_n 2, 1, 0, 0, 0, 0), (34, .aload_n 0, 1, 0, 0, 0, 0), (35, .iload_n 1, 1, 0, 0, 0, 0), (36, .iconst 3, 1, 0, 0, 0, 0), (37, .invokevirtual 237, 3, 1419, 155, 2, 0), (40, .if_icmp .le 14, 3, 54, 0, 0, 0), (43, .iload_n 2, 1, 0, 0, 0, 0), (44, .aload_n 0, 1, 0, 0, 0, 0), (45, .iload_n 1, 1, 0, 0, 0, 0), (46, .iconst 3, 1, 0, 0, 0, 0), (47, .invokevirtual 237, 3, 1419, 155, 2, 0), (50, .isub, 1, 0, 0, 0, 0), (51, .goto 4, 3, 55, 0, 0, 0), (54, .iconst 0, 1, 0, 0, 0, 0), (55, .ireturn, 1, 0, 0, 0, 0)]
def T161 : List CE := [(0, .aload_n 0, 1, 0, 0, 0, 0), (1, .iconst 0, 1, 0, 0, 0, 0), (2, .putfield 1, 3, 1184, 8, 0, 0), (5, .iconst 0, 1, 0, 0, 0, 0), (6, .istore_n 2, 1, 0, 0, 0, 0), (7, .iload_n 1, 1, 0, 0, 0, 0), (8, .tableswitch 280 0 16 #[84, 91, 98, 105, 112, 119, 159, 159, 171, 176, 206, 211, 247, 247, 260, 260, 273], 84, 288, 0, 0, 0), (92, .aload_n 0, 1, 0, 0, 0, 0), (93, .getfield 158, 3, 1195, 8, 11, 3), (96, .iconst 0, 1, 0, 0, 0, 0), (97, .iaload, 1, 0, 0, 0, 0), (98, .ireturn, 1, 0, 0, 0, 0), (99, .aload_n 0, 1, 0, 0, 0, 0), (100, .getfield 158, 3, 1195, 8, 11, 3), (103, .iconst 1, 1, 0, 0, 0, 0), (104, .iaload, 1, 0, 0, 0, 0), (105, .ireturn, 1, 0, 0, 0, 0), (106, .aload_n 0, 1, 0, 0, 0, 0), (107, .getfield 158, 3, 1195, 8, 11, 3), (110, .iconst 2, 1, 0, 0, 0, 0), (111, .iaload, 1, 0, 0, 0, 0), (112, .ireturn, 1, 0, 0, 0, 0), (113, .aload_n 0, 1, 0, 0, 0, 0), (114, .getfield 158, 3, 1195, 8, 11, 3), (117, .iconst 3, 1, 0, 0, 0, 0), (118, .iaload, 1, 0, 0, 0, 0), (119, .ireturn, 1, 0, 0, 0, 0), (120, .aload_n 0, 1, 0, 0, 0, 0), (121, .getfield 161, 3, 1199, 8, 15, 3), (124, .iconst 0, 1, 0, 0, 0, 0), (125, .iaload, 1, 0, 0, 0, 0), (126, .ireturn, 1, 0, 0, 0, 0), (127, .iconst 0, 1, 0, 0, 0, 0), (128, .istore_n 3, 1, 0, 0, 0, 0), (129, .iload_n 3, 1, 0, 0, 0, 0), (130, .aload_n 0, 1, 0, 0, 0, 0), (131, .getfield 158, 3, 1195, 8, 11, 3), (134, .iconst 2, 1, 0, 0, 0, 0), (135, .iaload, 1, 0, 0, 0, 0), (136, .if_icmp .ge 29, 3, 165, 0, 0, 0), (139, .iload_n 2, 1, 0, 0, 0, 0), (140, .aload_n 0, 1, 0, 0, 0, 0), (141, .getfield 161, 3, 1199, 8, 15, 3), (144, .bipush 43, 2, 0, 0, 0, 0), (146, .iload_n 3, 1, 0, 0, 0, 0), (147, .iadd, 1, 0, 0, 0, 0), (148, .iaload, 1, 0, 0, 0, 0), (149, .ifCond .le 7, 3, 156, 0, 0, 0), (152, .iconst 1, 1, 0, 0, 0, 0), (153, .goto 4, 3, 157, 0, 0, 0), (156, .iconst 0, 1, 0, 0, 0, 0), (157, .iadd, 1, 0, 0, 0, 0), (158, .istore_n 2, 1, 0, 0, 0, 0), (159, .iinc 3 1, 3, 0, 0, 0, 0), (162, .goto (-33), 3, 129, 0, 0, 0), (165, .iload_n 2, 1, 0, 0, 0, 0), (166, .ireturn, 1, 0, 0, 0, 0), (167, .aload_n 0, 1, 0, 0, 0, 0), (168, .getfield 161, 3, 1199, 8, 15, 3), (171, .iconst 4, 1, 0, 0, 0, 0), (172, .iload_n 1, 1, 0, 0, 0, 0), (173, .iadd, 1, 0, 0, 0, 0), (174, .bipush 6, 2, 0, 0, 0, 0), (176, .isub, 1, 0, 0, 0, 0), (177, .iaload, 1, 0, 0, 0, 0), (178, .ireturn, 1, 0, 0, 0, 0), (179, .aload_n 0, 1, 0, 0, 0, 0), (180, .getfield 217, 3, 1202, 8, 18, 0), (183, .ireturn, 1, 0, 0, 0, 0), (184, .aload_n 0, 1, 0, 0, 0, 0), (185, .getfield 167, 3, 1204, 8, 20, 3), (188, .iconst 0, 1, 0, 0, 0, 0), (189, .baload, 1, 0, 0, 0, 0), (190, .ifCond .eq 7, 3, 197, 0, 0, 0), (193, .iconst 1, 1, 0, 0, 0, 0), (194, .goto 4, 3, 198, 0, 0, 0), (197, .iconst 0, 1, 0, 0, 0, 0), (198, .aload_n 0, 1, 0, 0, 0, 0), (199, .getfield 167, 3, 1204, 8, 20, 3), (202, .iconst 1, 1, 0, 0, 0, 0), (203, .baload, 1, 0, 0, 0, 0), (204, .ifCond .eq 7, 3, 211, 0, 0, 0), (207, .iconst 1, 1, 0, 0, 0, 0), (208, .goto 4, 3, 212, 0, 0, 0), (211, .iconst 0, 1, 0, 0, 0, 0), (212, .iadd, 1, 0, 0, 0, 0), (213, .ireturn, 1, 0, 0, 0, 0), (214, .aload_n 0, 1, 0, 0, 0, 0), (215, .getfield 7, 3, 1186, 8, 2, 0), (218, .ireturn, 1, 0, 0, 0, 0), (219, .iconst 0, 1, 0, 0, 0, 0), (220, .istore_n 3, 1, 0, 0, 0, 0), (221, .iload_n 3, 1, 0, 0, 0, 0), (222, .aload_n 0, 1, 0, 0, 0, 0), (223, .getfield 158, 3, 1195, 8, 11, 3), (226, .iconst 2, 1, 0, 0, 0, 0), (227, .iaload, 1, 0, 0, 0, 0), (228, .if_icmp .ge 25, 3, 253, 0, 0, 0), (231, .iload_n 2, 1, 0, 0, 0, 0), (232, .aload_n 0, 1, 0, 0, 0, 0), (233, .iload_n 3, 1, 0, 0, 0, 0), (234, .invokevirtual 240, 3, 1415, 160, 1, 0), (237, .ifCond .le 7, 3, 244, 0, 0, 0), (240, .iconst 1, 1, 0, 0, 0, 0), (241, .goto 4, 3, 245, 0, 0, 0), (244, .iconst 0, 1, 0, 0, 0, 0), (245, .iadd, 1, 0, 0, 0, 0), (246, .istore_n 2, 1, 0, 0, 0, 0), (247, .iinc 3 1, 3, 0, 0, 0, 0), (250, .goto (-29), 3, 221, 0, 0, 0), (253, .iload_n 2, 1, 0, 0, 0, 0), (254, .ireturn, 1, 0, 0, 0, 0), (255, .aload_n 0, 1, 0, 0, 0, 0), (256, .getfield 161, 3, 1199, 8, 15, 3), (259, .bipush 10, 2, 0, 0, 0, 0), (261, .iload_n 1, 1, 0, 0, 0, 0), (262, .iadd, 1, 0, 0, 0, 0), (263, .bipush 12, 2, 0, 0, 0, 0), (265, .isub, 1, 0, 0, 0, 0), (266, .iaload, 1, 0, 0, 0, 0), (267, .ireturn, 1, 0, 0, 0, 0), (268, .aload_n 0, 1, 0, 0, 0, 0), (269, .getfield 161, 3, 1199, 8, 15, 3), (272, .bipush 8, 2, 0, 0, 0, 0), (274, .iload_n 1, 1, 0, 0, 0, 0), (275, .iadd, 1, 0, 0, 0, 0), (276, .bipush 14, 2, 0, 0, 0, 0), (278, .isub, 1, 0, 0, 0, 0), (279, .iaload, 1, 0, 0, 0, 0), (280, .ireturn, 1, 0, 0, 0, 0), (281, .aload_n 0, 1, 0, 0, 0, 0), (282, .getfield 161, 3, 1199, 8, 15, 3), (285, .iconst 1, 1, 0, 0, 0, 0), (286, .iaload, 1, 0, 0, 0, 0), (287, .ireturn, 1, 0, 0, 0, 0), (288, .iconst (-1), 1, 0, 0, 0, 0), (289, .ireturn, 1, 0, 0, 0, 0)]
def T162 : List CE := [(0, .aload_n 0, 1, 0, 0, 0, 0), (1, .aload_n 0, 1, 0, 0, 0, 0), (2, .iload_n 1, 1, 0, 0, 0, 0), (3, .invokevirtual 243, 3, 1427, 151, 1, 0), (6, .ifCond .eq 19, 3, 25, 0, 0, 0), (9, .iload_n 2, 1, 0, 0, 0, 0), (10, .i2l, 1, 0, 0, 0, 0), (11, .lconst 0, 1, 0, 0, 0, 0), (12, .ldc2_w 246, 3, 1431, 2, 0, 0), (15, .invokestatic 44, 3, 1318, 129, 3, 1), (18, .ifCond .eq 7, 3, 25, 0, 0, 0), (21, .iconst 0, 1, 0, 0, 0, 0), (22, .goto 4, 3, 26, 0, 0, 0), (25, .iconst 1, 1, 0, 0, 0, 0), (26, .putfield 1, 3, 1184, 8, 0, 0), (29, .aload_n 0, 1, 0, 0, 0, 0), (30, .getfield 1, 3, 1184, 8, 0, 0), (33, .ifCond .le 5, 3, 38, 0, 0, 0), (36, .iconst 0, 1, 0, 0, 0, 0), (37, .ireturn, 1, 0, 0, 0, 0), (38, .iload_n 2, 1, 0, 0, 0, 0), (39, .ifCond .ne 14, 3, 53, 0, 0, 0), (42, .aload_n 0, 1, 0, 0, 0, 0), (43, .getfield 158, 3, 1195, 8, 11, 3), (46, .iconst 4, 1, 0, 0, 0, 0), (47, .iload_n 1, 1, 0, 0, 0, 0), (48, .iadd, 1, 0, 0, 0, 0), (49, .iaload, 1, 0, 0, 0, 0), (50, .goto 29, 3, 79, 0, 0, 0), (53, .iload_n 2, 1, 0, 0, 0, 0), (54, .iconst 1, 1, 0, 0, 0, 0), (55, .if_icmp .ne 15, 3, 70, 0, 0, 0), (58, .aload_n 0, 1, 0, 0, 0, 0), (59, .getfield 158, 3, 1195, 8, 11, 3), (62, .bipush 16, 2, 0, 0, 0, 0), (64, .iload_n 1, 1, 0, 0, 0, 0), (65, .iadd, 1, 0, 0, 0, 0), (66, .iaload, 1, 0, 0, 0, 0), (67, .goto 12, 3, 79, 0, 0, 0), (70, .aload_n 0, 1, 0, 0, 0, 0), (71, .getfield 161, 3, 1199, 8, 15, 3), (74, .bipush 12, 2, 0, 0, 0, 0), (76, .iload_n 1, 1, 0, 0, 0, 0), (77, .iadd, 1, 0, 0, 0, 0), (78, .iaload, 1, 0, 0, 0, 0), (79, .ireturn, 1, 0, 0, 0, 0)]
def T163 : List CE := [(0, .aload_n 0, 1, 0, 0, 0, 0), (1, .aload_n 0, 1, 0, 0, 0, 0), (2, .iload_n 1, 1, 0, 0, 0, 0), (3, .invokevirtual 248, 3, 1436, 153, 1, 0), (6, .ifCond .eq 19, 3, 25, 0, 0, 0), (9, .iload_n 2, 1, 0, 0, 0, 0), (10, .i2l, 1, 0, 0, 0, 0), (11, .lconst 0, 1, 0, 0, 0, 0), (12, .ldc2_w 251, 3, 1440, 9, 0, 0), (15, .invokestatic 44, 3, 1318, 129, 3, 1), (18, .ifCond .eq 7, 3, 25, 0, 0, 0), (21, .iconst 0, 1, 0, 0, 0, 0), (22, .goto 4, 3, 26, 0, 0, 0), (25, .iconst 1, 1, 0, 0, 0, 0), (26, .putfield 1, 3, 1184, 8, 0, 0), (29, .aload_n 0, 1, 0, 0, 0, 0), (30, .getfield 1, 3, 1184, 8, 0, 0), (33, .ifCond .le 5, 3, 38, 0, 0, 0), (36, .iconst 0, 1, 0, 0, 0, 0), (37, .ireturn, 1, 0, 0, 0, 0), (38, .iload_n 2, 1, 0, 0, 0, 0), (39, .tableswitch 70 6 9 #[29, 39, 51, 57], 29, 109, 0, 0, 0), (68, .aload_n 0, 1, 0, 0, 0, 0), (69, .getfield 161, 3, 1199, 8, 15, 3), (72, .bipush 27, 2, 0, 0, 0, 0), (74, .iload_n 1, 1, 0, 0, 0, 0), (75, .iadd, 1, 0, 0, 0, 0), (76, .iaload, 1, 0, 0, 0, 0), (77, .ireturn, 1, 0, 0, 0, 0), (78, .aload_n 0, 1, 0, 0, 0, 0), (79, .getfield 161, 3, 1199, 8, 15, 3), (82, .bipush 43, 2, 0, 0, 0, 0), (84, .iload_n 1, 1, 0, 0, 0, 0), (85, .iadd, 1, 0, 0, 0, 0), (86, .iaload, 1, 0, 0, 0, 0), (87, .iconst 1, 1, 0, 0, 0, 0), (88, .isub, 1, 0, 0, 0, 0), (89, .ireturn, 1, 0, 0, 0, 0), (90, .aload_n 0, 1, 0, 0, 0, 0), (91, .iload_n 1, 1, 0, 0, 0, 0), (92, .invokevirtual 240, 3, 1415, 160, 1, 0), (95, .ireturn, 1, 0, 0, 0, 0), (96, .aload_n 0, 1, 0, 0, 0, 0), (97, .iload_n 1, 1, 0, 0, 0, 0), (98, .invokevirtual 240, 3, 1415, 160, 1, 0), (101, .aload_n 0, 1, 0, 0, 0, 0), (102, .iload_n 1, 1, 0, 0, 0, 0), (103, .iconst 5, 1, 0, 0, 0, 0), (104, .invokevirtual 237, 3, 1419, 155, 2, 0), (107, .imul, 1, 0, 0, 0, 0), (108, .ireturn, 1, 0, 0, 0, 0), (109, .aload_n 0, 1, 0, 0, 0, 0), (110, .iload_n 1, 1, 0, 0, 0, 0), (111, .iload_n 2, 1, 0, 0, 0, 0), (112, .invokevirtual 237, 3, 1419, 155, 2, 0), (115, .ireturn, 1, 0, 0, 0, 0)]
def T164 : List CE := [(0, .aload_n 0, 1, 0, 0, 0, 0), (1, .iconst 0, 1, 0, 0, 0, 0), (2, .putfield 1, 3, 1184, 8, 0, 0), (5, .aload_n 0, 1, 0, 0, 0, 0), (6, .iload_n 1, 1, 0, 0, 0, 0), (7, .invokevirtual 220, 3, 1445, 152, 1, 0), (10, .ifCond .eq 15, 3, 25, 0, 0, 0), (13, .iload_n 2, 1, 0, 0, 0, 0), (14, .i2l, 1, 0, 0, 0, 0), (15, .lconst 0, 1, 0, 0, 0, 0), (16, .ldc2_w 246, 3, 1431, 2, 0, 0), (19, .invokestatic 44, 3, 1318, 129, 3, 1), (22, .ifCond .ne 6, 3, 28, 0, 0, 0), (25, .bipush (-2), 2, 0, 0, 0, 0), (27, .ireturn, 1, 0, 0, 0, 0), (28, .aload_n 0, 1, 0, 0, 0, 0), (29, .iload_n 1, 1, 0, 0, 0, 0), (30, .iconst 0, 1, 0, 0, 0, 0), (31, .aload_n 0, 1, 0, 0, 0, 0), (32, .getfield 158, 3, 1195, 8, 11, 3), (35, .bipush 28, 2, 0, 0, 0, 0), (37, .iload_n 1, 1, 0, 0, 0, 0), (38, .iadd, 1, 0, 0, 0, 0), (39, .iaload, 1, 0, 0, 0, 0), (40, .iconst 1, 1, 0, 0, 0, 0), (41, .isub, 1, 0, 0, 0, 0), (42, .invokevirtual 253, 3, 1449, 158, 3, 0), (45, .iload_n 2, 1, 0, 0, 0, 0), (46, .ifCond .ne 15, 3, 61, 0, 0, 0), (49, .aload_n 0, 1, 0, 0, 0, 0), (50, .getfield 158, 3, 1195, 8, 11, 3), (53, .bipush 28, 2, 0, 0, 0, 0), (55, .iload_n 1, 1, 0, 0, 0, 0), (56, .iadd, 1, 0, 0, 0, 0), (57, .iaload, 1, 0, 0, 0, 0), (58, .goto 24, 3, 82, 0, 0, 0), (61, .iload_n 2, 1, 0, 0, 0, 0), (62, .iconst 1, 1, 0, 0, 0, 0), (63, .if_icmp .ne 15, 3, 78, 0, 0, 0), (66, .aload_n 0, 1, 0, 0, 0, 0), (67, .getfield 161, 3, 1199, 8, 15, 3), (70, .bipush 24, 2, 0, 0, 0, 0), (72, .iload_n 1, 1, 0, 0, 0, 0), (73, .iadd, 1, 0, 0, 0, 0), (74, .iaload, 1, 0, 0, 0, 0), (75, .goto 7, 3, 82, 0, 0, 0), (78, .aload_n 0, 1, 0, 0, 0, 0), (79, .getfield 223, 3, 1200, 8, 16, 0), (82, .ireturn, 1, 0, 0, 0, 0)]
def T165 : List CE := [(0, .aload_n 0, 1, 0, 0, 0, 0), (1, .iload_n 1, 1, 0, 0, 0, 0), (2, .invokevirtual 220, 3, 1445, 152, 1, 0), (5, .ifCond .eq 28, 3, 33, 0, 0, 0), (8, .iload_n 2, 1, 0, 0, 0, 0), (9, .i2l, 1, 0, 0, 0, 0), (10, .lconst 0, 1, 0, 0, 0, 0), (11, .aload_n 0, 1, 0, 0, 0, 0), (12, .getfield 161, 3, 1199, 8, 15, 3), (15, .bipush 24, 2, 0, 0, 0, 0), (17, .iload_n 1, 1, 0, 0, 0, 0), (18, .iadd, 1, 0, 0, 0, 0), (19, .iaload, 1, 0, 0, 0, 0), (20, .iconst 1, 1, 0, 0, 0, 0), (21, .isub, 1, 0, 0, 0, 0), (22, .i2l, 1, 0, 0, 0, 0), (23, .invokestatic 44, 3, 1318, 129, 3, 1), (26, .ifCond .eq 7, 3, 33, 0, 0, 0), (29, .iconst 1, 1, 0, 0, 0, 0), (30, .goto 4, 3, 34, 0, 0, 0), (33, .iconst 0, 1, 0, 0, 0, 0), (34, .ireturn, 1, 0, 0, 0, 0)]
def T166 : List CE := [(0, .aload_n 0, 1, 0, 0, 0, 0), (1, .iconst 0, 1, 0, 0, 0, 0), (2, .putfield 1, 3, 1184, 8, 0, 0), (5, .aload_n 0, 1, 0, 0, 0, 0), (6, .iload_n 1, 1, 0, 0, 0, 0), (7, .iload_n 2, 1, 0, 0, 0, 0), (8, .invokevirtual 257, 3, 1464, 165, 2, 0), (11, .ifCond .eq 15, 3, 26, 0, 0, 0), (14, .iload_n 3, 1, 0, 0, 0, 0), (15, .i2l, 1, 0, 0, 0, 0), (16, .lconst 0, 1, 0, 0, 0, 0), (17, .ldc2_w 246, 3, 1431, 2, 0, 0), (20, .invokestatic 44, 3, 1318, 129, 3, 1), (23, .ifCond .ne 6, 3, 29, 0, 0, 0), (26, .bipush (-2), 2, 0, 0, 0, 0), (28, .ireturn, 1, 0, 0, 0, 0), (29, .iconst 0, 1, 0, 0, 0, 0), (30, .istore 4, 2, 0, 0, 0, 0), (32, .iconst 0, 1, 0, 0, 0, 0), (33, .istore 5, 2, 0, 0, 0, 0), (35, .iconst 0, 1, 0, 0, 0, 0), (36, .istore 6, 2, 0, 0, 0, 0), (38, .iload 6, 2, 0, 0, 0, 0), (40, .bipush 12, 2, 0, 0, 0, 0), (42, .if_icmp .ge 54, 3, 96, 0, 0, 0), (45, .iload 4, 2, 0, 0, 0, 0), (47, .aload_n 0, 1, 0, 0, 0, 0), (48, .getfield 161, 3, 1199, 8, 15, 3), (51, .iload_n 1, 1, 0, 0, 0, 0), (52, .iload_n 2, 1, 0, 0, 0, 0), (53, .iload 6, 2, 0, 0, 0, 0), (55, .invokestatic 229, 3, 1453, 156, 3, 1), (58, .iaload, 1, 0, 0, 0, 0), (59, .iadd, 1, 0, 0, 0, 0), (60, .istore 4, 2, 0, 0, 0, 0), (62, .iload 5, 2, 0, 0, 0, 0), (64, .aload_n 0, 1, 0, 0, 0, 0), (65, .getfield 161, 3, 1199, 8, 15, 3), (68, .iload_n 1, 1, 0, 0, 0, 0), (69, .iload_n 2, 1, 0, 0, 0, 0), (70, .iload 6, 2, 0, 0, 0, 0), (72, .invokestatic 229, 3, 1453, 156, 3, 1), (75, .iaload, 1, 0, 0, 0, 0), (76, .ifCond .le 10, 3, 86, 0, 0, 0), (79, .iconst 1, 1, 0, 0, 0, 0), (80, .iload 6, 2, 0, 0, 0, 0), (82, .ishl, 1, 0, 0, 0, 0), (83, .goto 4, 3, 87, 0, 0, 0), (86, .iconst 0, 1, 0, 0, 0, 0), (87, .ior, 1, 0, 0, 0, 0), (88, .istore 5, 2, 0, 0, 0, 0), (90, .iinc 6 1, 3, 0, 0, 0, 0), (93, .goto (-55), 3, 38, 0, 0, 0), (96, .iload_n 3, 1, 0, 0, 0, 0), (97, .ifCond .ne 21, 3, 118, 0, 0, 0), (100, .aload_n 0, 1, 0, 0, 0, 0), (101, .getfield 161, 3, 1199, 8, 15, 3), (104, .sipush 131, 3, 0, 0, 0, 0), (107, .bipush 60, 2, 0, 0, 0, 0), (109, .iload_n 1, 1, 0, 0, 0, 0), (110, .imul, 1, 0, 0, 0, 0), (111, .iadd, 1, 0, 0, 0, 0), (112, .iload_n 2, 1, 0, 0, 0, 0), (113, .iadd, 1, 0, 0, 0, 0), (114, .iaload, 1, 0, 0, 0, 0), (115, .goto 15, 3, 130, 0, 0, 0), (118, .iload_n 3, 1, 0, 0, 0, 0), (119, .iconst 1, 1, 0, 0, 0, 0), (120, .if_icmp .ne 8, 3, 128, 0, 0, 0), (123, .iload 4, 2, 0, 0, 0, 0), (125, .goto 5, 3, 130, 0, 0, 0), (128, .iload 5, 2, 0, 0, 0, 0), (130, .ireturn, 1, 0, 0, 0, 0)]
def T167 : List CE := [(0, .aload_n 0, 1, 0, 0, 0, 0), (1, .iconst 0, 1, 0, 0, 0, 0), (2, .putfield 1, 3, 1184, 8, 0, 0), (5, .aload_n 0, 1, 0, 0, 0, 0), (6, .iload_n 1, 1, 0, 0, 0, 0), (7, .iload_n 2, 1, 0, 0, 0, 0), (8, .invokevirtual 257, 3, 1464, 165, 2, 0), (11, .ifCond .eq 26, 3, 37, 0, 0, 0), (14, .aload_n 0, 1, 0, 0, 0, 0), (15, .iload_n 1, 1, 0, 0, 0, 0), (16, .iload_n 3, 1, 0, 0, 0, 0), (17, .invokevirtual 260, 3, 1472, 154, 2, 0), (20, .ifCond .eq 17, 3, 37, 0, 0, 0), (23, .aload_n 0, 1, 0, 0, 0, 0), (24, .getfield 161, 3, 1199, 8, 15, 3), (27, .iload_n 1, 1, 0, 0, 0, 0), (28, .iload_n 2, 1, 0, 0, 0, 0), (29, .iload_n 3, 1, 0, 0, 0, 0), (30, .invokestatic 229, 3, 1453, 156, 3, 1), (33, .iaload, 1, 0, 0, 0, 0), (34, .goto 5, 3, 39, 0, 0, 0), (37, .bipush (-2), 2, 0, 0, 0, 0), (39, .ireturn, 1, 0, 0, 0, 0)]
def T168 : List CE := [(0, .aload_n 0, 1, 0, 0, 0, 0), (1, .iconst 0, 1, 0, 0, 0, 0), (2, .putfield 1, 3, 1184, 8, 0, 0), (5, .iload_n 1, 1, 0, 0, 0, 0), (6, .i2l, 1, 0, 0, 0, 0), (7, .lconst 0, 1, 0, 0, 0, 0), (8, .lconst 1, 1, 0, 0, 0, 0), (9, .invokestatic 44, 3, 1318, 129, 3, 1), (12, .ifCond .eq 16, 3, 28, 0, 0, 0), (15, .aload_n 0, 1, 0, 0, 0, 0), (16, .getfield 161, 3, 1199, 8, 15, 3), (19, .iconst 2, 1, 0, 0, 0, 0), (20, .iload_n 1, 1, 0, 0, 0, 0), (21, .iadd, 1, 0, 0, 0, 0), (22, .iaload, 1, 0, 0, 0, 0), (23, .iconst 1, 1, 0, 0, 0, 0), (24, .isub, 1, 0, 0, 0, 0), (25, .goto 5, 3, 30, 0, 0, 0), (28, .bipush (-2), 2, 0, 0, 0, 0), (30, .ireturn, 1, 0, 0, 0, 0)]
def T169 : List CE := [(0, .aload_n 0, 1, 0, 0, 0, 0), (1, .iconst 0, 1, 0, 0, 0, 0), (2, .putfield 1, 3, 1184, 8, 0, 0), (5, .aload_n 0, 1, 0, 0, 0, 0), (6, .getfield 161, 3, 1199, 8, 15, 3), (9, .iconst 2, 1, 0, 0, 0, 0), (10, .iaload, 1, 0, 0, 0, 0), (11, .iconst 1, 1, 0, 0, 0, 0), (12, .isub, 1, 0, 0, 0, 0), (13, .istore_n 1, 1, 0, 0, 0, 0), (14, .aload_n 0, 1, 0, 0, 0, 0), (15, .getfield 161, 3, 1199, 8, 15, 3), (18, .iconst 3, 1, 0, 0, 0, 0), (19, .iaload, 1, 0, 0, 0, 0), (20, .iconst 1, 1, 0, 0, 0, 0), (21, .isub, 1, 0, 0, 0, 0), (22, .istore_n 2, 1, 0, 0, 0, 0), (23, .iload_n 1, 1, 0, 0, 0, 0), (24, .ifCond .lt 18, 3, 42, 0, 0, 0), (27, .iload_n 2, 1, 0, 0, 0, 0), (28, .ifCond .lt 14, 3, 42, 0, 0, 0), (31, .iload_n 1, 1, 0, 0, 0, 0), (32, .bipush 100, 2, 0, 0, 0, 0), (34, .idiv, 1, 0, 0, 0, 0), (35, .iload_n 2, 1, 0, 0, 0, 0), (36, .bipush 100, 2, 0, 0, 0, 0), (38, .idiv, 1, 0, 0, 0, 0), (39, .if_icmp .eq 8, 3, 47, 0, 0, 0), (42, .bipush (-2), 2, 0, 0, 0, 0), (44, .goto 9, 3, 53, 0, 0, 0), (47, .iload_n 1, 1, 0, 0, 0, 0), (48, .iload_n 2, 1, 0, 0, 0, 0), (49, .isub, 1, 0, 0, 0, 0), (50, .invokestatic 263, 3, 1484, 0, 1, 12), (53, .ireturn, 1, 0, 0, 0, 0)]
def T170 : List CE := [(0, .aload_n 0, 1, 0, 0, 0, 0), (1, .getfield 161, 3, 1199, 8, 15, 3), (4, .iconst 2, 1, 0, 0, 0, 0), (5, .iload_n 1, 1, 0, 0, 0, 0), (6, .iadd, 1, 0, 0, 0, 0), (7, .iaload, 1, 0, 0, 0, 0), (8, .ifCond .le 24, 3, 32, 0, 0, 0), (11, .aload_n 0, 1, 0, 0, 0, 0), (12, .getfield 161, 3, 1199, 8, 15, 3), (15, .iconst 2, 1, 0, 0, 0, 0), (16, .iload_n 1, 1, 0, 0, 0, 0), (17, .iadd, 1, 0, 0, 0, 0), (18, .iaload, 1, 0, 0, 0, 0), (19, .iconst 1, 1, 0, 0, 0, 0), (20, .isub, 1, 0, 0, 0, 0), (21, .bipush 100, 2, 0, 0, 0, 0), (23, .idiv, 1, 0, 0, 0, 0), (24, .iload_n 2, 1, 0, 0, 0, 0), (25, .if_icmp .ne 7, 3, 32, 0, 0, 0), (28, .iconst 1, 1, 0, 0, 0, 0), (29, .goto 4, 3, 33, 0, 0, 0), (32, .iconst 0, 1, 0, 0, 0, 0), (33, .ireturn, 1, 0, 0, 0, 0)]
def T171 : List CE := [(0, .aload_n 0, 1, 0, 0, 0, 0), (1, .getfield 161, 3, 1199, 8, 15, 3), (4, .iconst 2, 1, 0, 0, 0, 0), (5, .iload_n 1, 1, 0, 0, 0, 0), (6, .iadd, 1, 0, 0, 0, 0), (7, .iaload, 1, 0, 0, 0, 0), (8, .iconst 1, 1, 0, 0, 0, 0), (9, .isub, 1, 0, 0, 0, 0), (10, .bipush 100, 2, 0, 0, 0, 0), (12, .irem, 1, 0, 0, 0, 0), (13, .ireturn, 1, 0, 0, 0, 0)]
def T172 : List CE := [(0, .iconst 1, 1, 0, 0, 0, 0), (1, .iload_n 1, 1, 0, 0, 0, 0), (2, .isub, 1, 0, 0, 0, 0), (3, .istore 4, 2, 0, 0, 0, 0), (5, .aload_n 0, 1, 0, 0, 0, 0), (6, .iload 4, 2, 0, 0, 0, 0), (8, .iload_n 2, 1, 0, 0, 0, 0), (9, .invokevirtual 268, 3, 1512, 170, 2, 0), (12, .ifCond .eq 23, 3, 35, 0, 0, 0), (15, .aload_n 0, 1, 0, 0, 0, 0), (16, .iload 4, 2, 0, 0, 0, 0), (18, .invokevirtual 271, 3, 1516, 171, 1, 0), (21, .iload_n 3, 1, 0, 0, 0, 0), (22, .isub, 1, 0, 0, 0, 0), (23, .invokestatic 263, 3, 1484, 0, 1, 12), (26, .aload_n 0, 1, 0, 0, 0, 0), (27, .getfield 158, 3, 1195, 8, 11, 3), (30, .iconst 3, 1, 0, 0, 0, 0), (31, .iaload, 1, 0, 0, 0, 0), (32, .if_icmp .le 7, 3, 39, 0, 0, 0), (35, .iconst 1, 1, 0, 0, 0, 0), (36, .goto 4, 3, 40, 0, 0, 0), (39, .iconst 0, 1, 0, 0, 0, 0), (40, .ireturn, 1, 0, 0, 0, 0)]
def T173 : List CE := [(0, .iconst 1, 1, 0, 0, 0, 0), (1, .istore 5, 2, 0, 0, 0, 0), (3, .iload_n 3, 1, 0, 0, 0, 0), (4, .iload 4, 2, 0, 0, 0, 0), (6, .invokestatic 274, 3, 1506, 0, 2, 11), (9, .istore 6, 2, 0, 0, 0, 0), (11, .iload 6, 2, 0, 0, 0, 0), (13, .iload_n 3, 1, 0, 0, 0, 0), (14, .iload 4, 2, 0, 0, 0, 0), (16, .invokestatic 277, 3, 1507, 0, 2, 10), (19, .if_icmp .gt 32, 3, 51, 0, 0, 0), (22, .iload 5, 2, 0, 0, 0, 0), (24, .ifCond .eq 18, 3, 42, 0, 0, 0), (27, .aload_n 0, 1, 0, 0, 0, 0), (28, .iload_n 1, 1, 0, 0, 0, 0), (29, .iload_n 2, 1, 0, 0, 0, 0), (30, .iload 6, 2, 0, 0, 0, 0), (32, .invokevirtual 280, 3, 1508, 172, 3, 0), (35, .ifCond .eq 7, 3, 42, 0, 0, 0), (38, .iconst 1, 1, 0, 0, 0, 0), (39, .goto 4, 3, 43, 0, 0, 0), (42, .iconst 0, 1, 0, 0, 0, 0), (43, .istore 5, 2, 0, 0, 0, 0), (45, .iinc 6 1, 3, 0, 0, 0, 0), (48, .goto (-37), 3, 11, 0, 0, 0), (51, .iload 5, 2, 0, 0, 0, 0), (53, .ireturn, 1, 0, 0, 0, 0)]
def T174 : List CE := [(0, .aload_n 0, 1, 0, 0, 0, 0), (1, .iload_n 1, 1, 0, 0, 0, 0), (2, .iload_n 2, 1, 0, 0, 0, 0), (3, .iload_n 3, 1, 0, 0, 0, 0), (4, .iload 4, 2, 0, 0, 0, 0), (6, .invokevirtual 283, 3, 1502, 173, 4, 0), (9, .ifCond .eq 31, 3, 40, 0, 0, 0), (12, .aload_n 0, 1, 0, 0, 0, 0), (13, .iload_n 1, 1, 0, 0, 0, 0), (14, .iload_n 2, 1, 0, 0, 0, 0), (15, .invokevirtual 268, 3, 1512, 170, 2, 0), (18, .ifCond .eq 18, 3, 36, 0, 0, 0), (21, .aload_n 0, 1, 0, 0, 0, 0), (22, .iload_n 1, 1, 0, 0, 0, 0), (23, .iload_n 2, 1, 0, 0, 0, 0), (24, .aload_n 0, 1, 0, 0, 0, 0), (25, .iload_n 1, 1, 0, 0, 0, 0), (26, .invokevirtual 271, 3, 1516, 171, 1, 0), (29, .iload_n 3, 1, 0, 0, 0, 0), (30, .invokevirtual 283, 3, 1502, 173, 4, 0), (33, .ifCond .eq 7, 3, 40, 0, 0, 0), (36, .iconst 1, 1, 0, 0, 0, 0), (37, .goto 4, 3, 41, 0, 0, 0), (40, .iconst 0, 1, 0, 0, 0, 0), (41, .ireturn, 1, 0, 0, 0, 0)]
def T175 : List CE := [(0, .aload_n 0, 1, 0, 0, 0, 0), (1, .iload_n 1, 1, 0, 0, 0, 0), (2, .iload_n 2, 1, 0, 0, 0, 0), (3, .invokevirtual 268, 3, 1512, 170, 2, 0), (6, .ifCond .eq 16, 3, 22, 0, 0, 0), (9, .aload_n 0, 1, 0, 0, 0, 0), (10, .iload_n 1, 1, 0, 0, 0, 0), (11, .invokevirtual 271, 3, 1516, 171, 1, 0), (14, .iload_n 3, 1, 0, 0, 0, 0), (15, .isub, 1, 0, 0, 0, 0), (16, .invokestatic 263, 3, 1484, 0, 1, 12), (19, .goto 5, 3, 24, 0, 0, 0), (22, .bipush 10, 2, 0, 0, 0, 0), (24, .ireturn, 1, 0, 0, 0, 0)]
def T176 : List CE := [(0, .aload_n 0, 1, 0, 0, 0, 0), (1, .getfield 161, 3, 1199, 8, 15, 3), (4, .iconst 2, 1, 0, 0, 0, 0), (5, .iload_n 1, 1, 0, 0, 0, 0), (6, .iadd, 1, 0, 0, 0, 0), (7, .bipush 100, 2, 0, 0, 0, 0), (9, .iload_n 2, 1, 0, 0, 0, 0), (10, .imul, 1, 0, 0, 0, 0), (11, .iload_n 3, 1, 0, 0, 0, 0), (12, .iadd, 1, 0, 0, 0, 0), (13, .iconst 1, 1, 0, 0, 0, 0), (14, .iadd, 1, 0, 0, 0, 0), (15, .iastore, 1, 0, 0, 0, 0), (16, .return_, 1, 0, 0, 0, 0)]
def T177 : List CE := [(0, .aload_n 0, 1, 0, 0, 0, 0), (1, .getfield 217, 3, 1202, 8, 18, 0), (4, .bipush 12, 2, 0, 0, 0, 0), (6, .if_icmp .ne 44, 3, 50, 0, 0, 0), (9, .iconst 0, 1, 0, 0, 0, 0), (10, .istore_n 1, 1, 0, 0, 0, 0), (11, .iload_n 1, 1, 0, 0, 0, 0), (12, .sipush 27181, 3, 0, 0, 0, 0), (15, .if_icmp .ge 25, 3, 40, 0, 0, 0), (18, .aload_n 0, 1, 0, 0, 0, 0), (19, .getfield 164, 3, 1203, 8, 19, 3), (22, .iload_n 1, 1, 0, 0, 0, 0), (23, .aload_n 0, 1, 0, 0, 0, 0), (24, .getfield 164, 3, 1203, 8, 19, 3), (27, .iload_n 1, 1, 0, 0, 0, 0), (28, .sipush 2471, 3, 0, 0, 0, 0), (31, .iadd, 1, 0, 0, 0, 0), (32, .iaload, 1, 0, 0, 0, 0), (33, .iastore, 1, 0, 0, 0, 0), (34, .iinc 1 1, 3, 0, 0, 0, 0), (37, .goto (-26), 3, 11, 0, 0, 0), (40, .aload_n 0, 1, 0, 0, 0, 0), (41, .dup, 1, 0, 0, 0, 0), (42, .getfield 217, 3, 1202, 8, 18, 0), (45, .iconst 1, 1, 0, 0, 0, 0), (46, .isub, 1, 0, 0, 0, 0), (47, .putfield 217, 3, 1202, 8, 18, 0), (50, .aload_n 0, 1, 0, 0, 0, 0), (51, .getfield 161, 3, 1199, 8, 15, 3), (54, .iconst 0, 1, 0, 0, 0, 0), (55, .aload_n 0, 1, 0, 0, 0, 0), (56, .getfield 164, 3, 1203, 8, 19, 3), (59, .sipush 2471, 3, 0, 0, 0, 0), (62, .aload_n 0, 1, 0, 0, 0, 0), (63, .getfield 217, 3, 1202, 8, 18, 0), (66, .imul, 1, 0, 0, 0, 0), (67, .invokestatic 286, 3, 1528, 149, 4, 1), (70, .aload_n 0, 1, 0, 0, 0, 0), (71, .dup, 1, 0, 0, 0, 0), (72, .getfield 217, 3, 1202, 8, 18, 0), (75, .iconst 1, 1, 0, 0, 0, 0), (76, .iadd, 1, 0, 0, 0, 0), (77, .putfield 217, 3, 1202, 8, 18, 0), (80, .return_, 1, 0, 0, 0, 0)]
def T178 : List CE := [(0, .aload_n 0, 1, 0, 0, 0, 0), (1, .iload_n 2, 1, 0, 0, 0, 0), (2, .invokevirtual 243, 3, 1427, 151, 1, 0), (5, .ifCond .eq 39, 3, 44, 0, 0, 0), (8, .aload_n 0, 1, 0, 0, 0, 0), (9, .iload_n 1, 1, 0, 0, 0, 0), (10, .iload_n 3, 1, 0, 0, 0, 0), (11, .invokevirtual 260, 3, 1472, 154, 2, 0), (14, .ifCond .eq 30, 3, 44, 0, 0, 0), (17, .aload_n 0, 1, 0, 0, 0, 0), (18, .iload_n 1, 1, 0, 0, 0, 0), (19, .iload 4, 2, 0, 0, 0, 0), (21, .invokevirtual 260, 3, 1472, 154, 2, 0), (24, .ifCond .eq 20, 3, 44, 0, 0, 0), (27, .iload 5, 2, 0, 0, 0, 0), (29, .i2l, 1, 0, 0, 0, 0), (30, .lconst 1, 1, 0, 0, 0, 0), (31, .ldc2_w 290, 3, 1497, 99, 0, 0), (34, .invokestatic 44, 3, 1318, 129, 3, 1), (37, .ifCond .eq 7, 3, 44, 0, 0, 0), (40, .iconst 1, 1, 0, 0, 0, 0), (41, .goto 4, 3, 45, 0, 0, 0), (44, .iconst 0, 1, 0, 0, 0, 0), (45, .ireturn, 1, 0, 0, 0, 0)]
def T179 : List CE := [(0, .aload_n 0, 1, 0, 0, 0, 0), (1, .iload_n 1, 1, 0, 0, 0, 0), (2, .iload_n 2, 1, 0, 0, 0, 0), (3, .iload_n 3, 1, 0, 0, 0, 0), (4, .iload 4, 2, 0, 0, 0, 0), (6, .iload 5, 2, 0, 0, 0, 0), (8, .invokevirtual 292, 3, 1493, 178, 5, 0), (11, .ifCond .ne 5, 3, 16, 0, 0, 0), (14, .iconst 1, 1, 0, 0, 0, 0), (15, .ireturn, 1, 0, 0, 0, 0), (16, .aload_n 0, 1, 0, 0, 0, 0), (17, .getfield 161, 3, 1199, 8, 15, 3), (20, .bipush 12, 2, 0, 0, 0, 0), (22, .iload_n 2, 1, 0, 0, 0, 0), (23, .iadd, 1, 0, 0, 0, 0), (24, .iaload, 1, 0, 0, 0, 0), (25, .iload 5, 2, 0, 0, 0, 0), (27, .iload 4, 2, 0, 0, 0, 0), (29, .iload_n 3, 1, 0, 0, 0, 0), (30, .isub, 1, 0, 0, 0, 0), (31, .invokestatic 263, 3, 1484, 0, 1, 12), (34, .iconst 1, 1, 0, 0, 0, 0), (35, .iadd, 1, 0, 0, 0, 0), (36, .imul, 1, 0, 0, 0, 0), (37, .if_icmp .ge 5, 3, 42, 0, 0, 0), (40, .iconst 2, 1, 0, 0, 0, 0), (41, .ireturn, 1, 0, 0, 0, 0), (42, .aload_n 0, 1, 0, 0, 0, 0), (43, .iconst 0, 1, 0, 0, 0, 0), (44, .iload_n 1, 1, 0, 0, 0, 0), (45, .iload_n 3, 1, 0, 0, 0, 0), (46, .iload 4, 2, 0, 0, 0, 0), (48, .invokevirtual 296, 3, 1498, 174, 4, 0), (51, .ifCond .ne 5, 3, 56, 0, 0, 0), (54, .iconst 4, 1, 0, 0, 0, 0), (55, .ireturn, 1, 0, 0, 0, 0), (56, .aload_n 0, 1, 0, 0, 0, 0), (57, .getfield 161, 3, 1199, 8, 15, 3), (60, .bipush 24, 2, 0, 0, 0, 0), (62, .iload_n 1, 1, 0, 0, 0, 0), (63, .iadd, 1, 0, 0, 0, 0), (64, .iaload, 1, 0, 0, 0, 0), (65, .bipush 60, 2, 0, 0, 0, 0), (67, .if_icmp .ne 7, 3, 74, 0, 0, 0), (70, .iconst 5, 1, 0, 0, 0, 0), (71, .goto 4, 3, 75, 0, 0, 0), (74, .iconst 0, 1, 0, 0, 0, 0), (75, .ireturn, 1, 0, 0, 0, 0)]
def T180 : List CE := [(0, .aload_n 0, 1, 0, 0, 0, 0), (1, .iconst 0, 1, 0, 0, 0, 0), (2, .putfield 1, 3, 1184, 8, 0, 0), (5, .aload_n 0, 1, 0, 0, 0, 0), (6, .iload_n 1, 1, 0, 0, 0, 0), (7, .iload_n 2, 1, 0, 0, 0, 0), (8, .iload_n 3, 1, 0, 0, 0, 0), (9, .iload 4, 2, 0, 0, 0, 0), (11, .iload 5, 2, 0, 0, 0, 0), (13, .invokevirtual 299, 3, 1489, 179, 5, 0), (16, .ireturn, 1, 0, 0, 0, 0)]
def T181 : List CE := [(0, .aload_n 0, 1, 0, 0, 0, 0), (1, .getfield 161, 3, 1199, 8, 15, 3), (4, .bipush 24, 2, 0, 0, 0, 0), (6, .iload_n 1, 1, 0, 0, 0, 0), (7, .iadd, 1, 0, 0, 0, 0), (8, .iaload, 1, 0, 0, 0, 0), (9, .istore_n 3, 1, 0, 0, 0, 0), (10, .aload_n 0, 1, 0, 0, 0, 0), (11, .getfield 161, 3, 1199, 8, 15, 3), (14, .bipush 24, 2, 0, 0, 0, 0), (16, .iload_n 1, 1, 0, 0, 0, 0), (17, .iadd, 1, 0, 0, 0, 0), (18, .dup2, 1, 0, 0, 0, 0), (19, .iaload, 1, 0, 0, 0, 0), (20, .iconst 1, 1, 0, 0, 0, 0), (21, .iadd, 1, 0, 0, 0, 0), (22, .iastore, 1, 0, 0, 0, 0), (23, .aload_n 0, 1, 0, 0, 0, 0), (24, .getfield 161, 3, 1199, 8, 15, 3), (27, .sipush 131, 3, 0, 0, 0, 0), (30, .bipush 60, 2, 0, 0, 0, 0), (32, .iload_n 1, 1, 0, 0, 0, 0), (33, .imul, 1, 0, 0, 0, 0), (34, .iadd, 1, 0, 0, 0, 0), (35, .iload_n 3, 1, 0, 0, 0, 0), (36, .iadd, 1, 0, 0, 0, 0), (37, .iload_n 2, 1, 0, 0, 0, 0), (38, .iastore, 1, 0, 0, 0, 0), (39, .iload_n 3, 1, 0, 0, 0, 0), (40, .ireturn, 1, 0, 0, 0, 0)]
def T182 : List CE := [(0, .aload_n 0, 1, 0, 0, 0, 0), (1, .iload_n 1, 1, 0, 0, 0, 0), (2, .iload_n 2, 1, 0, 0, 0, 0), (3, .invokevirtual 303, 3, 1539, 181, 2, 0), (6, .istore 6, 2, 0, 0, 0, 0), (8, .iload_n 3, 1, 0, 0, 0, 0), (9, .iload 4, 2, 0, 0, 0, 0), (11, .invokestatic 274, 3, 1506, 0, 2, 11), (14, .istore 7, 2, 0, 0, 0, 0), (16, .iload 7, 2, 0, 0, 0, 0), (18, .iload_n 3, 1, 0, 0, 0, 0), (19, .iload 4, 2, 0, 0, 0, 0), (21, .invokestatic 277, 3, 1507, 0, 2, 10), (24, .if_icmp .gt 38, 3, 62, 0, 0, 0), (27, .aload_n 0, 1, 0, 0, 0, 0), (28, .getfield 161, 3, 1199, 8, 15, 3), (31, .iload_n 1, 1, 0, 0, 0, 0), (32, .iload 6, 2, 0, 0, 0, 0), (34, .iload 7, 2, 0, 0, 0, 0), (36, .invokestatic 229, 3, 1453, 156, 3, 1), (39, .iload 5, 2, 0, 0, 0, 0), (41, .iastore, 1, 0, 0, 0, 0), (42, .aload_n 0, 1, 0, 0, 0, 0), (43, .getfield 161, 3, 1199, 8, 15, 3), (46, .bipush 12, 2, 0, 0, 0, 0), (48, .iload_n 2, 1, 0, 0, 0, 0), (49, .iadd, 1, 0, 0, 0, 0), (50, .dup2, 1, 0, 0, 0, 0), (51, .iaload, 1, 0, 0, 0, 0), (52, .iload 5, 2, 0, 0, 0, 0), (54, .isub, 1, 0, 0, 0, 0), (55, .iastore, 1, 0, 0, 0, 0), (56, .iinc 7 1, 3, 0, 0, 0, 0), (59, .goto (-43), 3, 16, 0, 0, 0), (62, .return_, 1, 0, 0, 0, 0)]
def T183 : List CE := [(0, .aload_n 0, 1, 0, 0, 0, 0), (1, .iconst 0, 1, 0, 0, 0, 0), (2, .putfield 1, 3, 1184, 8, 0, 0), (5, .aload_n 0, 1, 0, 0, 0, 0), (6, .iload_n 1, 1, 0, 0, 0, 0), (7, .iload_n 2, 1, 0, 0, 0, 0), (8, .iload_n 3, 1, 0, 0, 0, 0), (9, .iload 4, 2, 0, 0, 0, 0), (11, .iload 5, 2, 0, 0, 0, 0), (13, .invokevirtual 299, 3, 1489, 179, 5, 0), (16, .ifCond .le 5, 3, 21, 0, 0, 0), (19, .iconst (-1), 1, 0, 0, 0, 0), (20, .ireturn, 1, 0, 0, 0, 0), (21, .aload_n 0, 1, 0, 0, 0, 0), (22, .invokevirtual 306, 3, 1524, 177, 0, 0), (25, .aload_n 0, 1, 0, 0, 0, 0), (26, .iconst 0, 1, 0, 0, 0, 0), (27, .iload_n 1, 1, 0, 0, 0, 0), (28, .iload_n 3, 1, 0, 0, 0, 0), (29, .invokevirtual 309, 3, 1531, 175, 3, 0), (32, .iload 4, 2, 0, 0, 0, 0), (34, .iload_n 3, 1, 0, 0, 0, 0), (35, .isub, 1, 0, 0, 0, 0), (36, .invokestatic 263, 3, 1484, 0, 1, 12), (39, .iadd, 1, 0, 0, 0, 0), (40, .istore 6, 2, 0, 0, 0, 0), (42, .aload_n 0, 1, 0, 0, 0, 0), (43, .iload_n 1, 1, 0, 0, 0, 0), (44, .iload_n 2, 1, 0, 0, 0, 0), (45, .iload_n 3, 1, 0, 0, 0, 0), (46, .iload 4, 2, 0, 0, 0, 0), (48, .iload 5, 2, 0, 0, 0, 0), (50, .invokevirtual 312, 3, 1535, 182, 5, 0), (53, .aload_n 0, 1, 0, 0, 0, 0), (54, .iconst 0, 1, 0, 0, 0, 0), (55, .iload_n 1, 1, 0, 0, 0, 0), (56, .iload 4, 2, 0, 0, 0, 0), (58, .invokevirtual 316, 3, 1543, 176, 3, 0), (61, .aload_n 0, 1, 0, 0, 0, 0), (62, .getfield 161, 3, 1199, 8, 15, 3), (65, .iconst 4, 1, 0, 0, 0, 0), (66, .dup2, 1, 0, 0, 0, 0), (67, .iaload, 1, 0, 0, 0, 0), (68, .iload 6, 2, 0, 0, 0, 0), (70, .iadd, 1, 0, 0, 0, 0), (71, .iastore, 1, 0, 0, 0, 0), (72, .aload_n 0, 1, 0, 0, 0, 0), (73, .getfield 161, 3, 1199, 8, 15, 3), (76, .bipush 6, 2, 0, 0, 0, 0), (78, .iconst 0, 1, 0, 0, 0, 0), (79, .iastore, 1, 0, 0, 0, 0), (80, .iload 6, 2, 0, 0, 0, 0), (82, .ireturn, 1, 0, 0, 0, 0)]
def T184 : List CE := [(0, .aload_n 0, 1, 0, 0, 0, 0), (1, .iload_n 1, 1, 0, 0, 0, 0), (2, .iload_n 2, 1, 0, 0, 0, 0), (3, .invokevirtual 260, 3, 1472, 154, 2, 0), (6, .ifCond .eq 15, 3, 21, 0, 0, 0), (9, .aload_n 0, 1, 0, 0, 0, 0), (10, .iload_n 3, 1, 0, 0, 0, 0), (11, .invokevirtual 248, 3, 1436, 153, 1, 0), (14, .ifCond .eq 7, 3, 21, 0, 0, 0), (17, .iconst 1, 1, 0, 0, 0, 0), (18, .goto 4, 3, 22, 0, 0, 0), (21, .iconst 0, 1, 0, 0, 0, 0), (22, .ireturn, 1, 0, 0, 0, 0)]
def T185 : List CE := [(0, .aload_n 0, 1, 0, 0, 0, 0), (1, .iload_n 1, 1, 0, 0, 0, 0), (2, .iload_n 2, 1, 0, 0, 0, 0), (3, .iload_n 3, 1, 0, 0, 0, 0), (4, .invokevirtual 319, 3, 1555, 184, 3, 0), (7, .ifCond .ne 5, 3, 12, 0, 0, 0), (10, .iconst 1, 1, 0, 0, 0, 0), (11, .ireturn, 1, 0, 0, 0, 0), (12, .aload_n 0, 1, 0, 0, 0, 0), (13, .iload_n 1, 1, 0, 0, 0, 0), (14, .iload_n 2, 1, 0, 0, 0, 0), (15, .iload_n 2, 1, 0, 0, 0, 0), (16, .invokevirtual 253, 3, 1449, 158, 3, 0), (19, .aload_n 0, 1, 0, 0, 0, 0), (20, .getfield 223, 3, 1200, 8, 16, 0), (23, .ifCond .ne 5, 3, 28, 0, 0, 0), (26, .iconst 2, 1, 0, 0, 0, 0), (27, .ireturn, 1, 0, 0, 0, 0), (28, .aload_n 0, 1, 0, 0, 0, 0), (29, .getfield 161, 3, 1199, 8, 15, 3), (32, .bipush 43, 2, 0, 0, 0, 0), (34, .iload_n 3, 1, 0, 0, 0, 0), (35, .iadd, 1, 0, 0, 0, 0), (36, .iaload, 1, 0, 0, 0, 0), (37, .ifCond .gt 11, 3, 48, 0, 0, 0), (40, .aload_n 0, 1, 0, 0, 0, 0), (41, .iload_n 3, 1, 0, 0, 0, 0), (42, .invokevirtual 322, 3, 1559, 159, 1, 0), (45, .ifCond .eq 5, 3, 50, 0, 0, 0), (48, .iconst 3, 1, 0, 0, 0, 0), (49, .ireturn, 1, 0, 0, 0, 0), (50, .aload_n 0, 1, 0, 0, 0, 0), (51, .iconst 1, 1, 0, 0, 0, 0), (52, .iload_n 1, 1, 0, 0, 0, 0), (53, .iload_n 2, 1, 0, 0, 0, 0), (54, .iload_n 2, 1, 0, 0, 0, 0), (55, .invokevirtual 296, 3, 1498, 174, 4, 0), (58, .ifCond .eq 7, 3, 65, 0, 0, 0), (61, .iconst 0, 1, 0, 0, 0, 0), (62, .goto 4, 3, 66, 0, 0, 0), (65, .iconst 4, 1, 0, 0, 0, 0), (66, .ireturn, 1, 0, 0, 0, 0)]
def T186 : List CE := [(0, .aload_n 0, 1, 0, 0, 0, 0), (1, .iconst 0, 1, 0, 0, 0, 0), (2, .putfield 1, 3, 1184, 8, 0, 0), (5, .aload_n 0, 1, 0, 0, 0, 0), (6, .iload_n 1, 1, 0, 0, 0, 0), (7, .iload_n 2, 1, 0, 0, 0, 0), (8, .iload_n 3, 1, 0, 0, 0, 0), (9, .invokevirtual 325, 3, 1551, 185, 3, 0), (12, .ireturn, 1, 0, 0, 0, 0)]
def T187 : List CE := [(0, .aload_n 0, 1, 0, 0, 0, 0), (1, .iload_n 1, 1, 0, 0, 0, 0), (2, .iload_n 2, 1, 0, 0, 0, 0), (3, .iload_n 2, 1, 0, 0, 0, 0), (4, .invokevirtual 253, 3, 1449, 158, 3, 0), (7, .aload_n 0, 1, 0, 0, 0, 0), (8, .getfield 161, 3, 1199, 8, 15, 3), (11, .bipush 27, 2, 0, 0, 0, 0), (13, .iload_n 3, 1, 0, 0, 0, 0), (14, .iadd, 1, 0, 0, 0, 0), (15, .dup2, 1, 0, 0, 0, 0), (16, .iaload, 1, 0, 0, 0, 0), (17, .aload_n 0, 1, 0, 0, 0, 0), (18, .getfield 223, 3, 1200, 8, 16, 0), (21, .iadd, 1, 0, 0, 0, 0), (22, .iastore, 1, 0, 0, 0, 0), (23, .aload_n 0, 1, 0, 0, 0, 0), (24, .getfield 161, 3, 1199, 8, 15, 3), (27, .bipush 35, 2, 0, 0, 0, 0), (29, .iload_n 3, 1, 0, 0, 0, 0), (30, .iadd, 1, 0, 0, 0, 0), (31, .dup2, 1, 0, 0, 0, 0), (32, .iaload, 1, 0, 0, 0, 0), (33, .aload_n 0, 1, 0, 0, 0, 0), (34, .getfield 226, 3, 1201, 8, 17, 0), (37, .iadd, 1, 0, 0, 0, 0), (38, .iastore, 1, 0, 0, 0, 0), (39, .iconst 0, 1, 0, 0, 0, 0), (40, .istore 4, 2, 0, 0, 0, 0), (42, .iload 4, 2, 0, 0, 0, 0), (44, .aload_n 0, 1, 0, 0, 0, 0), (45, .getfield 161, 3, 1199, 8, 15, 3), (48, .bipush 24, 2, 0, 0, 0, 0), (50, .iload_n 1, 1, 0, 0, 0, 0), (51, .iadd, 1, 0, 0, 0, 0), (52, .iaload, 1, 0, 0, 0, 0), (53, .if_icmp .ge 22, 3, 75, 0, 0, 0), (56, .aload_n 0, 1, 0, 0, 0, 0), (57, .getfield 161, 3, 1199, 8, 15, 3), (60, .iload_n 1, 1, 0, 0, 0, 0), (61, .iload 4, 2, 0, 0, 0, 0), (63, .iload_n 2, 1, 0, 0, 0, 0), (64, .invokestatic 229, 3, 1453, 156, 3, 1), (67, .iconst 0, 1, 0, 0, 0, 0), (68, .iastore, 1, 0, 0, 0, 0), (69, .iinc 4 1, 3, 0, 0, 0, 0), (72, .goto (-30), 3, 42, 0, 0, 0), (75, .aload_n 0, 1, 0, 0, 0, 0), (76, .getfield 223, 3, 1200, 8, 16, 0), (79, .ireturn, 1, 0, 0, 0, 0)]
def T188 : List CE := [(0, .aload_n 0, 1, 0, 0, 0, 0), (1, .iconst 0, 1, 0, 0, 0, 0), (2, .putfield 1, 3, 1184, 8, 0, 0), (5, .aload_n 0, 1, 0, 0, 0, 0), (6, .iload_n 1, 1, 0, 0, 0, 0), (7, .iload_n 2, 1, 0, 0, 0, 0), (8, .iload_n 3, 1, 0, 0, 0, 0), (9, .invokevirtual 325, 3, 1551, 185, 3, 0), (12, .ifCond .le 5, 3, 17, 0, 0, 0), (15, .iconst (-1), 1, 0, 0, 0, 0), (16, .ireturn, 1, 0, 0, 0, 0), (17, .aload_n 0, 1, 0, 0, 0, 0), (18, .invokevirtual 306, 3, 1524, 177, 0, 0), (21, .aload_n 0, 1, 0, 0, 0, 0), (22, .getfield 161, 3, 1199, 8, 15, 3), (25, .iconst 5, 1, 0, 0, 0, 0), (26, .dup2, 1, 0, 0, 0, 0), (27, .iaload, 1, 0, 0, 0, 0), (28, .aload_n 0, 1, 0, 0, 0, 0), (29, .iconst 1, 1, 0, 0, 0, 0), (30, .iload_n 1, 1, 0, 0, 0, 0), (31, .iload_n 2, 1, 0, 0, 0, 0), (32, .invokevirtual 309, 3, 1531, 175, 3, 0), (35, .iadd, 1, 0, 0, 0, 0), (36, .iastore, 1, 0, 0, 0, 0), (37, .aload_n 0, 1, 0, 0, 0, 0), (38, .iconst 1, 1, 0, 0, 0, 0), (39, .iload_n 1, 1, 0, 0, 0, 0), (40, .iload_n 2, 1, 0, 0, 0, 0), (41, .invokevirtual 316, 3, 1543, 176, 3, 0), (44, .aload_n 0, 1, 0, 0, 0, 0), (45, .getfield 161, 3, 1199, 8, 15, 3), (48, .bipush 7, 2, 0, 0, 0, 0), (50, .iconst 0, 1, 0, 0, 0, 0), (51, .iastore, 1, 0, 0, 0, 0), (52, .aload_n 0, 1, 0, 0, 0, 0), (53, .iload_n 1, 1, 0, 0, 0, 0), (54, .iload_n 2, 1, 0, 0, 0, 0), (55, .iload_n 3, 1, 0, 0, 0, 0), (56, .invokevirtual 328, 3, 1567, 187, 3, 0), (59, .ireturn, 1, 0, 0, 0, 0)]
def T189 : List CE := [(0, .aload_n 0, 1, 0, 0, 0, 0), (1, .iconst 0, 1, 0, 0, 0, 0), (2, .putfield 1, 3, 1184, 8, 0, 0), (5, .iload_n 1, 1, 0, 0, 0, 0), (6, .i2l, 1, 0, 0, 0, 0), (7, .lconst 0, 1, 0, 0, 0, 0), (8, .lconst 1, 1, 0, 0, 0, 0), (9, .invokestatic 44, 3, 1318, 129, 3, 1), (12, .ifCond .eq 14, 3, 26, 0, 0, 0), (15, .aload_n 0, 1, 0, 0, 0, 0), (16, .getfield 161, 3, 1199, 8, 15, 3), (19, .iconst 2, 1, 0, 0, 0, 0), (20, .iload_n 1, 1, 0, 0, 0, 0), (21, .iadd, 1, 0, 0, 0, 0), (22, .iaload, 1, 0, 0, 0, 0), (23, .ifCond .ne 5, 3, 28, 0, 0, 0), (26, .iconst 0, 1, 0, 0, 0, 0), (27, .ireturn, 1, 0, 0, 0, 0), (28, .aload_n 0, 1, 0, 0, 0, 0), (29, .invokevirtual 306, 3, 1524, 177, 0, 0), (32, .aload_n 0, 1, 0, 0, 0, 0), (33, .getfield 161, 3, 1199, 8, 15, 3), (36, .iconst 2, 1, 0, 0, 0, 0), (37, .iload_n 1, 1, 0, 0, 0, 0), (38, .iadd, 1, 0, 0, 0, 0), (39, .iconst 0, 1, 0, 0, 0, 0), (40, .iastore, 1, 0, 0, 0, 0), (41, .aload_n 0, 1, 0, 0, 0, 0), (42, .getfield 161, 3, 1199, 8, 15, 3), (45, .bipush 6, 2, 0, 0, 0, 0), (47, .iload_n 1, 1, 0, 0, 0, 0), (48, .iadd, 1, 0, 0, 0, 0), (49, .iconst 0, 1, 0, 0, 0, 0), (50, .iastore, 1, 0, 0, 0, 0), (51, .iconst 1, 1, 0, 0, 0, 0), (52, .ireturn, 1, 0, 0, 0, 0)]
def T190 : List CE := [(0, .aload_n 0, 1, 0, 0, 0, 0), (1, .iload_n 1, 1, 0, 0, 0, 0), (2, .iconst 1, 1, 0, 0, 0, 0), (3, .invokevirtual 237, 3, 1419, 155, 2, 0), (6, .i2l, 1, 0, 0, 0, 0), (7, .iload_n 2, 1, 0, 0, 0, 0), (8, .i2l, 1, 0, 0, 0, 0), (9, .lmul, 1, 0, 0, 0, 0), (10, .iload_n 3, 1, 0, 0, 0, 0), (11, .i2l, 1, 0, 0, 0, 0), (12, .lcmp, 1, 0, 0, 0, 0), (13, .ifCond .gt 23, 3, 36, 0, 0, 0), (16, .iload_n 3, 1, 0, 0, 0, 0), (17, .i2l, 1, 0, 0, 0, 0), (18, .aload_n 0, 1, 0, 0, 0, 0), (19, .iload_n 1, 1, 0, 0, 0, 0), (20, .iconst 2, 1, 0, 0, 0, 0), (21, .invokevirtual 237, 3, 1419, 155, 2, 0), (24, .i2l, 1, 0, 0, 0, 0), (25, .iload_n 2, 1, 0, 0, 0, 0), (26, .i2l, 1, 0, 0, 0, 0), (27, .lmul, 1, 0, 0, 0, 0), (28, .lcmp, 1, 0, 0, 0, 0), (29, .ifCond .gt 7, 3, 36, 0, 0, 0), (32, .iconst 1, 1, 0, 0, 0, 0), (33, .goto 4, 3, 37, 0, 0, 0), (36, .iconst 0, 1, 0, 0, 0, 0), (37, .ireturn, 1, 0, 0, 0, 0)]
def T191 : List CE := [(0, .aload_n 0, 1, 0, 0, 0, 0), (1, .iconst 0, 1, 0, 0, 0, 0), (2, .putfield 1, 3, 1184, 8, 0, 0), (5, .aload_n 0, 1, 0, 0, 0, 0), (6, .iload_n 1, 1, 0, 0, 0, 0), (7, .invokevirtual 248, 3, 1436, 153, 1, 0), (10, .ifCond .eq 49, 3, 59, 0, 0, 0), (13, .aload_n 0, 1, 0, 0, 0, 0), (14, .getfield 161, 3, 1199, 8, 15, 3), (17, .bipush 43, 2, 0, 0, 0, 0), (19, .iload_n 1, 1, 0, 0, 0, 0), (20, .iadd, 1, 0, 0, 0, 0), (21, .iaload, 1, 0, 0, 0, 0), (22, .ifCond .gt 37, 3, 59, 0, 0, 0), (25, .aload_n 0, 1, 0, 0, 0, 0), (26, .iload_n 1, 1, 0, 0, 0, 0), (27, .invokevirtual 322, 3, 1559, 159, 1, 0), (30, .ifCond .eq 29, 3, 59, 0, 0, 0), (33, .aload_n 0, 1, 0, 0, 0, 0), (34, .iload_n 1, 1, 0, 0, 0, 0), (35, .aload_n 0, 1, 0, 0, 0, 0), (36, .getfield 161, 3, 1199, 8, 15, 3), (39, .bipush 27, 2, 0, 0, 0, 0), (41, .iload_n 1, 1, 0, 0, 0, 0), (42, .iadd, 1, 0, 0, 0, 0), (43, .iaload, 1, 0, 0, 0, 0), (44, .aload_n 0, 1, 0, 0, 0, 0), (45, .getfield 161, 3, 1199, 8, 15, 3), (48, .bipush 35, 2, 0, 0, 0, 0), (50, .iload_n 1, 1, 0, 0, 0, 0), (51, .iadd, 1, 0, 0, 0, 0), (52, .iaload, 1, 0, 0, 0, 0), (53, .invokevirtual 331, 3, 1579, 190, 3, 0), (56, .ifCond .ne 5, 3, 61, 0, 0, 0), (59, .iconst (-1), 1, 0, 0, 0, 0), (60, .ireturn, 1, 0, 0, 0, 0), (61, .aload_n 0, 1, 0, 0, 0, 0), (62, .invokevirtual 306, 3, 1524, 177, 0, 0), (65, .aload_n 0, 1, 0, 0, 0, 0), (66, .getfield 161, 3, 1199, 8, 15, 3), (69, .bipush 43, 2, 0, 0, 0, 0), (71, .iload_n 1, 1, 0, 0, 0, 0), (72, .iadd, 1, 0, 0, 0, 0), (73, .aload_n 0, 1, 0, 0, 0, 0), (74, .getfield 161, 3, 1199, 8, 15, 3), (77, .iconst 0, 1, 0, 0, 0, 0), (78, .iaload, 1, 0, 0, 0, 0), (79, .iconst 1, 1, 0, 0, 0, 0), (80, .iadd, 1, 0, 0, 0, 0), (81, .iastore, 1, 0, 0, 0, 0), (82, .aload_n 0, 1, 0, 0, 0, 0), (83, .iload_n 1, 1, 0, 0, 0, 0), (84, .invokevirtual 240, 3, 1415, 160, 1, 0), (87, .ireturn, 1, 0, 0, 0, 0)]
def T192 : List CE := [(0, .aload_n 0, 1, 0, 0, 0, 0), (1, .iconst 0, 1, 0, 0, 0, 0), (2, .putfield 1, 3, 1184, 8, 0, 0), (5, .iload_n 1, 1, 0, 0, 0, 0), (6, .i2l, 1, 0, 0, 0, 0), (7, .lconst 1, 1, 0, 0, 0, 0), (8, .ldc2_w 290, 3, 1497, 99, 0, 0), (11, .invokestatic 44, 3, 1318, 129, 3, 1), (14, .ifCond .eq 17, 3, 31, 0, 0, 0), (17, .aload_n 0, 1, 0, 0, 0, 0), (18, .getfield 161, 3, 1199, 8, 15, 3), (21, .iconst 0, 1, 0, 0, 0, 0), (22, .iaload, 1, 0, 0, 0, 0), (23, .iload_n 1, 1, 0, 0, 0, 0), (24, .iadd, 1, 0, 0, 0, 0), (25, .sipush 999, 3, 0, 0, 0, 0), (28, .if_icmp .le 5, 3, 33, 0, 0, 0), (31, .iconst (-1), 1, 0, 0, 0, 0), (32, .ireturn, 1, 0, 0, 0, 0), (33, .aload_n 0, 1, 0, 0, 0, 0), (34, .invokevirtual 306, 3, 1524, 177, 0, 0), (37, .aload_n 0, 1, 0, 0, 0, 0), (38, .getfield 161, 3, 1199, 8, 15, 3), (41, .iconst 0, 1, 0, 0, 0, 0), (42, .dup2, 1, 0, 0, 0, 0), (43, .iaload, 1, 0, 0, 0, 0), (44, .iload_n 1, 1, 0, 0, 0, 0), (45, .iadd, 1, 0, 0, 0, 0), (46, .iastore, 1, 0, 0, 0, 0), (47, .aload_n 0, 1, 0, 0, 0, 0), (48, .getfield 161, 3, 1199, 8, 15, 3), (51, .iconst 0, 1, 0, 0, 0, 0), (52, .iaload, 1, 0, 0, 0, 0), (53, .ireturn, 1, 0, 0, 0, 0)]
def T193 : List CE := [(0, .aload_n 0, 1, 0, 0, 0, 0), (1, .iconst 0, 1, 0, 0, 0, 0), (2, .putfield 1, 3, 1184, 8, 0, 0), (5, .aload_n 0, 1, 0, 0, 0, 0), (6, .iload_n 1, 1, 0, 0, 0, 0), (7, .iload_n 2, 1, 0, 0, 0, 0), (8, .iload_n 3, 1, 0, 0, 0, 0), (9, .iload 4, 2, 0, 0, 0, 0), (11, .iload 5, 2, 0, 0, 0, 0), (13, .invokevirtual 292, 3, 1493, 178, 5, 0), (16, .ifCond .eq 15, 3, 31, 0, 0, 0), (19, .aload_n 0, 1, 0, 0, 0, 0), (20, .getfield 161, 3, 1199, 8, 15, 3), (23, .bipush 10, 2, 0, 0, 0, 0), (25, .iaload, 1, 0, 0, 0, 0), (26, .bipush 8, 2, 0, 0, 0, 0), (28, .if_icmp .ne 5, 3, 33, 0, 0, 0), (31, .iconst (-1), 1, 0, 0, 0, 0), (32, .ireturn, 1, 0, 0, 0, 0), (33, .aload_n 0, 1, 0, 0, 0, 0), (34, .invokevirtual 306, 3, 1524, 177, 0, 0), (37, .bipush 51, 2, 0, 0, 0, 0), (39, .bipush 7, 2, 0, 0, 0, 0), (41, .aload_n 0, 1, 0, 0, 0, 0), (42, .getfield 161, 3, 1199, 8, 15, 3), (45, .bipush 10, 2, 0, 0, 0, 0), (47, .iaload, 1, 0, 0, 0, 0), (48, .imul, 1, 0, 0, 0, 0), (49, .iadd, 1, 0, 0, 0, 0), (50, .istore 6, 2, 0, 0, 0, 0), (52, .aload_n 0, 1, 0, 0, 0, 0), (53, .getfield 161, 3, 1199, 8, 15, 3), (56, .iload 6, 2, 0, 0, 0, 0), (58, .iload_n 1, 1, 0, 0, 0, 0), (59, .iastore, 1, 0, 0, 0, 0), (60, .aload_n 0, 1, 0, 0, 0, 0), (61, .getfield 161, 3, 1199, 8, 15, 3), (64, .iload 6, 2, 0, 0, 0, 0), (66, .iconst 1, 1, 0, 0, 0, 0), (67, .iadd, 1, 0, 0, 0, 0), (68, .iload_n 2, 1, 0, 0, 0, 0), (69, .iastore, 1, 0, 0, 0, 0), (70, .aload_n 0, 1, 0, 0, 0, 0), (71, .getfield 161, 3, 1199, 8, 15, 3), (74, .iload 6, 2, 0, 0, 0, 0), (76, .iconst 2, 1, 0, 0, 0, 0), (77, .iadd, 1, 0, 0, 0, 0), (78, .iload_n 3, 1, 0, 0, 0, 0), (79, .iastore, 1, 0, 0, 0, 0), (80, .aload_n 0, 1, 0, 0, 0, 0), (81, .getfield 161, 3, 1199, 8, 15, 3), (84, .iload 6, 2, 0, 0, 0, 0), (86, .iconst 3, 1, 0, 0, 0, 0), (87, .iadd, 1, 0, 0, 0, 0), (88, .iload 4, 2, 0, 0, 0, 0), (90, .iastore, 1, 0, 0, 0, 0), (91, .aload_n 0, 1, 0, 0, 0, 0), (92, .getfield 161, 3, 1199, 8, 15, 3), (95, .iload 6, 2, 0, 0, 0, 0), (97, .iconst 4, 1, 0, 0, 0, 0), (98, .iadd, 1, 0, 0, 0, 0), (99, .iload 5, 2, 0, 0, 0, 0), (101, .iastore, 1, 0, 0, 0, 0), (102, .aload_n 0, 1, 0, 0, 0, 0), (103, .getfield 161, 3, 1199, 8, 15, 3), (106, .iload 6, 2, 0, 0, 0, 0), (108, .iconst 5, 1, 0, 0, 0, 0), (109, .iadd, 1, 0, 0, 0, 0), (110, .iload_n 3, 1, 0, 0, 0, 0), (111, .iastore, 1, 0, 0, 0, 0), (112, .aload_n 0, 1, 0, 0, 0, 0), (113, .getfield 161, 3, 1199, 8, 15, 3), (116, .iload 6, 2, 0, 0, 0, 0), (118, .bipush 6, 2, 0, 0, 0, 0), (120, .iadd, 1, 0, 0, 0, 0), (121, .iconst 0, 1, 0, 0, 0, 0), (122, .iastore, 1, 0, 0, 0, 0), (123, .aload_n 0, 1, 0, 0, 0, 0), (124, .getfield 161, 3, 1199, 8, 15, 3), (127, .bipush 10, 2, 0, 0, 0, 0), (129, .dup2, 1, 0, 0, 0, 0), (130, .iaload, 1, 0, 0, 0, 0), (131, .iconst 1, 1, 0, 0, 0, 0), (132, .iadd, 1, 0, 0, 0, 0), (133, .iastore, 1, 0, 0, 0, 0), (134, .aload_n 0, 1, 0, 0, 0, 0), (135, .getfield 161, 3, 1199, 8, 15, 3), (138, .bipush 10, 2, 0, 0, 0, 0), (140, .iaload, 1, 0, 0, 0, 0), (141, .ireturn, 1, 0, 0, 0, 0)]
def T194 : List CE := [(0, .aload_n 0, 1, 0, 0, 0, 0), (1, .iconst 0, 1, 0, 0, 0, 0), (2, .putfield 1, 3, 1184, 8, 0, 0), (5, .aload_n 0, 1, 0, 0, 0, 0), (6, .iload_n 1, 1, 0, 0, 0, 0), (7, .iload_n 2, 1, 0, 0, 0, 0), (8, .iload_n 3, 1, 0, 0, 0, 0), (9, .invokevirtual 319, 3, 1555, 184, 3, 0), (12, .ifCond .eq 15, 3, 27, 0, 0, 0), (15, .aload_n 0, 1, 0, 0, 0, 0), (16, .getfield 161, 3, 1199, 8, 15, 3), (19, .bipush 11, 2, 0, 0, 0, 0), (21, .iaload, 1, 0, 0, 0, 0), (22, .bipush 8, 2, 0, 0, 0, 0), (24, .if_icmp .ne 5, 3, 29, 0, 0, 0), (27, .iconst (-1), 1, 0, 0, 0, 0), (28, .ireturn, 1, 0, 0, 0, 0), (29, .aload_n 0, 1, 0, 0, 0, 0), (30, .invokevirtual 306, 3, 1524, 177, 0, 0), (33, .bipush 107, 2, 0, 0, 0, 0), (35, .iconst 3, 1, 0, 0, 0, 0), (36, .aload_n 0, 1, 0, 0, 0, 0), (37, .getfield 161, 3, 1199, 8, 15, 3), (40, .bipush 11, 2, 0, 0, 0, 0), (42, .iaload, 1, 0, 0, 0, 0), (43, .imul, 1, 0, 0, 0, 0), (44, .iadd, 1, 0, 0, 0, 0), (45, .istore 4, 2, 0, 0, 0, 0), (47, .aload_n 0, 1, 0, 0, 0, 0), (48, .getfield 161, 3, 1199, 8, 15, 3), (51, .iload 4, 2, 0, 0, 0, 0), (53, .iload_n 1, 1, 0, 0, 0, 0), (54, .iastore, 1, 0, 0, 0, 0), (55, .aload_n 0, 1, 0, 0, 0, 0), (56, .getfield 161, 3, 1199, 8, 15, 3), (59, .iload 4, 2, 0, 0, 0, 0), (61, .iconst 1, 1, 0, 0, 0, 0), (62, .iadd, 1, 0, 0, 0, 0), (63, .iload_n 2, 1, 0, 0, 0, 0), (64, .iastore, 1, 0, 0, 0, 0), (65, .aload_n 0, 1, 0, 0, 0, 0), (66, .getfield 161, 3, 1199, 8, 15, 3), (69, .iload 4, 2, 0, 0, 0, 0), (71, .iconst 2, 1, 0, 0, 0, 0), (72, .iadd, 1, 0, 0, 0, 0), (73, .iload_n 3, 1, 0, 0, 0, 0), (74, .iastore, 1, 0, 0, 0, 0), (75, .aload_n 0, 1, 0, 0, 0, 0), (76, .getfield 161, 3, 1199, 8, 15, 3), (79, .bipush 11, 2, 0, 0, 0, 0), (81, .dup2, 1, 0, 0, 0, 0), (82, .iaload, 1, 0, 0, 0, 0), (83, .iconst 1, 1, 0, 0, 0, 0), (84, .iadd, 1, 0, 0, 0, 0), (85, .iastore, 1, 0, 0, 0, 0), (86, .aload_n 0, 1, 0, 0, 0, 0), (87, .getfield 161, 3, 1199, 8, 15, 3), (90, .bipush 11, 2, 0, 0, 0, 0), (92, .iaload, 1, 0, 0, 0, 0), (93, .ireturn, 1, 0, 0, 0, 0)]
def T195 : List CE := [(0, .aload_n 0, 1, 0, 0, 0, 0), (1, .iconst 0, 1, 0, 0, 0, 0), (2, .putfield 1, 3, 1184, 8, 0, 0), (5, .iload_n 1, 1, 0, 0, 0, 0), (6, .i2l, 1, 0, 0, 0, 0), (7, .lconst 0, 1, 0, 0, 0, 0), (8, .lconst 1, 1, 0, 0, 0, 0), (9, .invokestatic 44, 3, 1318, 129, 3, 1), (12, .ifCond .eq 15, 3, 27, 0, 0, 0), (15, .aload_n 0, 1, 0, 0, 0, 0), (16, .getfield 161, 3, 1199, 8, 15, 3), (19, .bipush 10, 2, 0, 0, 0, 0), (21, .iload_n 1, 1, 0, 0, 0, 0), (22, .iadd, 1, 0, 0, 0, 0), (23, .iaload, 1, 0, 0, 0, 0), (24, .ifCond .ne 5, 3, 29, 0, 0, 0), (27, .iconst (-1), 1, 0, 0, 0, 0), (28, .ireturn, 1, 0, 0, 0, 0), (29, .aload_n 0, 1, 0, 0, 0, 0), (30, .invokevirtual 306, 3, 1524, 177, 0, 0), (33, .aload_n 0, 1, 0, 0, 0, 0), (34, .getfield 161, 3, 1199, 8, 15, 3), (37, .bipush 10, 2, 0, 0, 0, 0), (39, .iload_n 1, 1, 0, 0, 0, 0), (40, .iadd, 1, 0, 0, 0, 0), (41, .iaload, 1, 0, 0, 0, 0), (42, .istore_n 2, 1, 0, 0, 0, 0), (43, .aload_n 0, 1, 0, 0, 0, 0), (44, .getfield 161, 3, 1199, 8, 15, 3), (47, .bipush 10, 2, 0, 0, 0, 0), (49, .iload_n 1, 1, 0, 0, 0, 0), (50, .iadd, 1, 0, 0, 0, 0), (51, .iconst 0, 1, 0, 0, 0, 0), (52, .iastore, 1, 0, 0, 0, 0), (53, .aload_n 0, 1, 0, 0, 0, 0), (54, .getfield 161, 3, 1199, 8, 15, 3), (57, .bipush 6, 2, 0, 0, 0, 0), (59, .iload_n 1, 1, 0, 0, 0, 0), (60, .iadd, 1, 0, 0, 0, 0), (61, .iconst 0, 1, 0, 0, 0, 0), (62, .iastore, 1, 0, 0, 0, 0), (63, .iload_n 2, 1, 0, 0, 0, 0), (64, .ireturn, 1, 0, 0, 0, 0)]
def T196 : List CE := [(0, .iload_n 1, 1, 0, 0, 0, 0), (1, .ifCond .ne 8, 3, 9, 0, 0, 0), (4, .bipush 7, 2, 0, 0, 0, 0), (6, .goto 4, 3, 10, 0, 0, 0), (9, .iconst 3, 1, 0, 0, 0, 0), (10, .istore_n 2, 1, 0, 0, 0, 0), (11, .iload_n 1, 1, 0, 0, 0, 0), (12, .ifCond .ne 8, 3, 20, 0, 0, 0), (15, .bipush 51, 2, 0, 0, 0, 0), (17, .goto 5, 3, 22, 0, 0, 0), (20, .bipush 107, 2, 0, 0, 0, 0), (22, .istore_n 3, 1, 0, 0, 0, 0), (23, .aload_n 0, 1, 0, 0, 0, 0), (24, .getfield 161, 3, 1199, 8, 15, 3), (27, .bipush 10, 2, 0, 0, 0, 0), (29, .iload_n 1, 1, 0, 0, 0, 0), (30, .iadd, 1, 0, 0, 0, 0), (31, .dup2, 1, 0, 0, 0, 0), (32, .iaload, 1, 0, 0, 0, 0), (33, .iconst 1, 1, 0, 0, 0, 0), (34, .isub, 1, 0, 0, 0, 0), (35, .iastore, 1, 0, 0, 0, 0), (36, .iconst 0, 1, 0, 0, 0, 0), (37, .istore 4, 2, 0, 0, 0, 0), (39, .iload 4, 2, 0, 0, 0, 0), (41, .iload_n 2, 1, 0, 0, 0, 0), (42, .aload_n 0, 1, 0, 0, 0, 0), (43, .getfield 161, 3, 1199, 8, 15, 3), (46, .bipush 10, 2, 0, 0, 0, 0), (48, .iload_n 1, 1, 0, 0, 0, 0), (49, .iadd, 1, 0, 0, 0, 0), (50, .iaload, 1, 0, 0, 0, 0), (51, .imul, 1, 0, 0, 0, 0), (52, .if_icmp .ge 29, 3, 81, 0, 0, 0), (55, .aload_n 0, 1, 0, 0, 0, 0), (56, .getfield 161, 3, 1199, 8, 15, 3), (59, .iload_n 3, 1, 0, 0, 0, 0), (60, .iload 4, 2, 0, 0, 0, 0), (62, .iadd, 1, 0, 0, 0, 0), (63, .aload_n 0, 1, 0, 0, 0, 0), (64, .getfield 161, 3, 1199, 8, 15, 3), (67, .iload_n 3, 1, 0, 0, 0, 0), (68, .iload_n 2, 1, 0, 0, 0, 0), (69, .iadd, 1, 0, 0, 0, 0), (70, .iload 4, 2, 0, 0, 0, 0), (72, .iadd, 1, 0, 0, 0, 0), (73, .iaload, 1, 0, 0, 0, 0), (74, .iastore, 1, 0, 0, 0, 0), (75, .iinc 4 1, 3, 0, 0, 0, 0), (78, .goto (-39), 3, 39, 0, 0, 0), (81, .aload_n 0, 1, 0, 0, 0, 0), (82, .getfield 161, 3, 1199, 8, 15, 3), (85, .bipush 6, 2, 0, 0, 0, 0), (87, .iload_n 1, 1, 0, 0, 0, 0), (88, .iadd, 1, 0, 0, 0, 0), (89, .iconst 0, 1, 0, 0, 0, 0), (90, .iastore, 1, 0, 0, 0, 0), (91, .return_, 1, 0, 0, 0, 0)]
def T197 : List CE := [(0, .aload_n 0, 1, 0, 0, 0, 0), (1, .getfield 161, 3, 1199, 8, 15, 3), (4, .bipush 8, 2, 0, 0, 0, 0), (6, .iload_n 1, 1, 0, 0, 0, 0), (7, .iadd, 1, 0, 0, 0, 0), (8, .dup2, 1, 0, 0, 0, 0), (9, .iaload, 1, 0, 0, 0, 0), (10, .iconst 1, 1, 0, 0, 0, 0), (11, .iadd, 1, 0, 0, 0, 0), (12, .iastore, 1, 0, 0, 0, 0), (13, .iconst 1, 1, 0, 0, 0, 0), (14, .ireturn, 1, 0, 0, 0, 0)]
def T198 : List CE := [(0, .aload_n 0, 1, 0, 0, 0, 0), (1, .getfield 161, 3, 1199, 8, 15, 3), (4, .iconst 4, 1, 0, 0, 0, 0), (5, .iload_n 1, 1, 0, 0, 0, 0), (6, .iadd, 1, 0, 0, 0, 0), (7, .dup2, 1, 0, 0, 0, 0), (8, .iaload, 1, 0, 0, 0, 0), (9, .iconst 1, 1, 0, 0, 0, 0), (10, .iadd, 1, 0, 0, 0, 0), (11, .iastore, 1, 0, 0, 0, 0), (12, .aload_n 0, 1, 0, 0, 0, 0), (13, .iload_n 1, 1, 0, 0, 0, 0), (14, .iload_n 2, 1, 0, 0, 0, 0), (15, .iload_n 3, 1, 0, 0, 0, 0), (16, .invokevirtual 316, 3, 1543, 176, 3, 0), (19, .return_, 1, 0, 0, 0, 0)]
def T199 : List CE := [(0, .aload_n 0, 1, 0, 0, 0, 0), (1, .iload_n 1, 1, 0, 0, 0, 0), (2, .iload_n 2, 1, 0, 0, 0, 0), (3, .invokevirtual 268, 3, 1512, 170, 2, 0), (6, .ifCond .ne 115, 3, 121, 0, 0, 0), (9, .aload_n 0, 1, 0, 0, 0, 0), (10, .getfield 161, 3, 1199, 8, 15, 3), (13, .bipush 6, 2, 0, 0, 0, 0), (15, .iload_n 1, 1, 0, 0, 0, 0), (16, .iadd, 1, 0, 0, 0, 0), (17, .iaload, 1, 0, 0, 0, 0), (18, .bipush 10, 2, 0, 0, 0, 0), (20, .if_icmp .ne 7, 3, 27, 0, 0, 0), (23, .iconst 1, 1, 0, 0, 0, 0), (24, .goto 4, 3, 28, 0, 0, 0), (27, .iconst 0, 1, 0, 0, 0, 0), (28, .istore 4, 2, 0, 0, 0, 0), (30, .iload 4, 2, 0, 0, 0, 0), (32, .ifCond .ne 16, 3, 48, 0, 0, 0), (35, .aload_n 0, 1, 0, 0, 0, 0), (36, .getfield 161, 3, 1199, 8, 15, 3), (39, .bipush 6, 2, 0, 0, 0, 0), (41, .iload_n 1, 1, 0, 0, 0, 0), (42, .iadd, 1, 0, 0, 0, 0), (43, .dup2, 1, 0, 0, 0, 0), (44, .iaload, 1, 0, 0, 0, 0), (45, .iconst 1, 1, 0, 0, 0, 0), (46, .iadd, 1, 0, 0, 0, 0), (47, .iastore, 1, 0, 0, 0, 0), (48, .aload_n 0, 1, 0, 0, 0, 0), (49, .getfield 161, 3, 1199, 8, 15, 3), (52, .bipush 6, 2, 0, 0, 0, 0), (54, .iload_n 1, 1, 0, 0, 0, 0), (55, .iadd, 1, 0, 0, 0, 0), (56, .iaload, 1, 0, 0, 0, 0), (57, .bipush 10, 2, 0, 0, 0, 0), (59, .if_icmp .ge 5, 3, 64, 0, 0, 0), (62, .iconst 0, 1, 0, 0, 0, 0), (63, .ireturn, 1, 0, 0, 0, 0), (64, .aload_n 0, 1, 0, 0, 0, 0), (65, .iload_n 1, 1, 0, 0, 0, 0), (66, .iload_n 2, 1, 0, 0, 0, 0), (67, .iload_n 3, 1, 0, 0, 0, 0), (68, .invokevirtual 280, 3, 1508, 172, 3, 0), (71, .ifCond .ne 18, 3, 89, 0, 0, 0), (74, .iload 4, 2, 0, 0, 0, 0), (76, .ifCond .eq 11, 3, 87, 0, 0, 0), (79, .aload_n 0, 1, 0, 0, 0, 0), (80, .iload_n 1, 1, 0, 0, 0, 0), (81, .invokevirtual 334, 3, 1616, 197, 1, 0), (84, .goto 4, 3, 88, 0, 0, 0), (87, .iconst 0, 1, 0, 0, 0, 0), (88, .ireturn, 1, 0, 0, 0, 0), (89, .aload_n 0, 1, 0, 0, 0, 0), (90, .iload_n 1, 1, 0, 0, 0, 0), (91, .iload_n 2, 1, 0, 0, 0, 0), (92, .iload_n 3, 1, 0, 0, 0, 0), (93, .invokevirtual 316, 3, 1543, 176, 3, 0), (96, .aload_n 0, 1, 0, 0, 0, 0), (97, .getfield 161, 3, 1199, 8, 15, 3), (100, .iconst 4, 1, 0, 0, 0, 0), (101, .iload_n 1, 1, 0, 0, 0, 0), (102, .iadd, 1, 0, 0, 0, 0), (103, .dup2, 1, 0, 0, 0, 0), (104, .iaload, 1, 0, 0, 0, 0), (105, .bipush 10, 2, 0, 0, 0, 0), (107, .iadd, 1, 0, 0, 0, 0), (108, .iastore, 1, 0, 0, 0, 0), (109, .aload_n 0, 1, 0, 0, 0, 0), (110, .getfield 161, 3, 1199, 8, 15, 3), (113, .bipush 6, 2, 0, 0, 0, 0), (115, .iload_n 1, 1, 0, 0, 0, 0), (116, .iadd, 1, 0, 0, 0, 0), (117, .iconst 0, 1, 0, 0, 0, 0), (118, .iastore, 1, 0, 0, 0, 0), (119, .iconst 0, 1, 0, 0, 0, 0), (120, .ireturn, 1, 0, 0, 0, 0), (121, .aload_n 0, 1, 0, 0, 0, 0), (122, .iload_n 1, 1, 0, 0, 0, 0), (123, .invokevirtual 271, 3, 1516, 171, 1, 0), (126, .istore 4, 2, 0, 0, 0, 0), (128, .iload 4, 2, 0, 0, 0, 0), (130, .iload_n 3, 1, 0, 0, 0, 0), (131, .if_icmp .ne 5, 3, 136, 0, 0, 0), (134, .iconst 3, 1, 0, 0, 0, 0), (135, .ireturn, 1, 0, 0, 0, 0), (136, .iload 4, 2, 0, 0, 0, 0), (138, .iload_n 3, 1, 0, 0, 0, 0), (139, .if_icmp .ge 10, 3, 149, 0, 0, 0), (142, .iload 4, 2, 0, 0, 0, 0), (144, .iconst 1, 1, 0, 0, 0, 0), (145, .iadd, 1, 0, 0, 0, 0), (146, .goto 7, 3, 153, 0, 0, 0), (149, .iload 4, 2, 0, 0, 0, 0), (151, .iconst 1, 1, 0, 0, 0, 0), (152, .isub, 1, 0, 0, 0, 0), (153, .istore 5, 2, 0, 0, 0, 0), (155, .aload_n 0, 1, 0, 0, 0, 0), (156, .iload_n 1, 1, 0, 0, 0, 0), (157, .iload_n 2, 1, 0, 0, 0, 0), (158, .iload 5, 2, 0, 0, 0, 0), (160, .invokevirtual 280, 3, 1508, 172, 3, 0), (163, .ifCond .ne 9, 3, 172, 0, 0, 0), (166, .aload_n 0, 1, 0, 0, 0, 0), (167, .iload_n 1, 1, 0, 0, 0, 0), (168, .invokevirtual 334, 3, 1616, 197, 1, 0), (171, .ireturn, 1, 0, 0, 0, 0), (172, .aload_n 0, 1, 0, 0, 0, 0), (173, .iload_n 1, 1, 0, 0, 0, 0), (174, .iload_n 2, 1, 0, 0, 0, 0), (175, .iload 5, 2, 0, 0, 0, 0), (177, .invokevirtual 337, 3, 1620, 198, 3, 0), (180, .iconst 0, 1, 0, 0, 0, 0), (181, .ireturn, 1, 0, 0, 0, 0)]
def T200 : List CE := [(0, .aload_n 0, 1, 0, 0, 0, 0), (1, .getfield 161, 3, 1199, 8, 15, 3), (4, .bipush 11, 2, 0, 0, 0, 0), (6, .iaload, 1, 0, 0, 0, 0), (7, .ifCond .ne 5, 3, 12, 0, 0, 0), (10, .iconst 2, 1, 0, 0, 0, 0), (11, .ireturn, 1, 0, 0, 0, 0), (12, .aload_n 0, 1, 0, 0, 0, 0), (13, .getfield 161, 3, 1199, 8, 15, 3), (16, .bipush 107, 2, 0, 0, 0, 0), (18, .iaload, 1, 0, 0, 0, 0), (19, .istore_n 1, 1, 0, 0, 0, 0), (20, .aload_n 0, 1, 0, 0, 0, 0), (21, .getfield 161, 3, 1199, 8, 15, 3), (24, .bipush 108, 2, 0, 0, 0, 0), (26, .iaload, 1, 0, 0, 0, 0), (27, .istore_n 2, 1, 0, 0, 0, 0), (28, .aload_n 0, 1, 0, 0, 0, 0), (29, .getfield 161, 3, 1199, 8, 15, 3), (32, .bipush 109, 2, 0, 0, 0, 0), (34, .iaload, 1, 0, 0, 0, 0), (35, .istore_n 3, 1, 0, 0, 0, 0), (36, .aload_n 0, 1, 0, 0, 0, 0), (37, .iconst 1, 1, 0, 0, 0, 0), (38, .iload_n 1, 1, 0, 0, 0, 0), (39, .iload_n 2, 1, 0, 0, 0, 0), (40, .invokevirtual 340, 3, 1612, 199, 3, 0), (43, .istore 4, 2, 0, 0, 0, 0), (45, .iload 4, 2, 0, 0, 0, 0), (47, .iconst 3, 1, 0, 0, 0, 0), (48, .if_icmp .eq 6, 3, 54, 0, 0, 0), (51, .iload 4, 2, 0, 0, 0, 0), (53, .ireturn, 1, 0, 0, 0, 0), (54, .aload_n 0, 1, 0, 0, 0, 0), (55, .getfield 161, 3, 1199, 8, 15, 3), (58, .bipush 43, 2, 0, 0, 0, 0), (60, .iload_n 3, 1, 0, 0, 0, 0), (61, .iadd, 1, 0, 0, 0, 0), (62, .iaload, 1, 0, 0, 0, 0), (63, .ifCond .ne 19, 3, 82, 0, 0, 0), (66, .aload_n 0, 1, 0, 0, 0, 0), (67, .iload_n 3, 1, 0, 0, 0, 0), (68, .invokevirtual 322, 3, 1559, 159, 1, 0), (71, .ifCond .ne 11, 3, 82, 0, 0, 0), (74, .aload_n 0, 1, 0, 0, 0, 0), (75, .iload_n 1, 1, 0, 0, 0, 0), (76, .iload_n 2, 1, 0, 0, 0, 0), (77, .iload_n 3, 1, 0, 0, 0, 0), (78, .invokevirtual 328, 3, 1567, 187, 3, 0), (81, .pop, 1, 0, 0, 0, 0), (82, .aload_n 0, 1, 0, 0, 0, 0), (83, .iconst 1, 1, 0, 0, 0, 0), (84, .invokevirtual 343, 3, 1624, 196, 1, 0), (87, .iconst 0, 1, 0, 0, 0, 0), (88, .ireturn, 1, 0, 0, 0, 0)]
def T201 : List CE := [(0, .aload_n 0, 1, 0, 0, 0, 0), (1, .getfield 161, 3, 1199, 8, 15, 3), (4, .bipush 10, 2, 0, 0, 0, 0), (6, .iaload, 1, 0, 0, 0, 0), (7, .ifCond .ne 5, 3, 12, 0, 0, 0), (10, .iconst 2, 1, 0, 0, 0, 0), (11, .ireturn, 1, 0, 0, 0, 0), (12, .aload_n 0, 1, 0, 0, 0, 0), (13, .getfield 161, 3, 1199, 8, 15, 3), (16, .bipush 51, 2, 0, 0, 0, 0), (18, .iaload, 1, 0, 0, 0, 0), (19, .istore_n 1, 1, 0, 0, 0, 0), (20, .aload_n 0, 1, 0, 0, 0, 0), (21, .getfield 161, 3, 1199, 8, 15, 3), (24, .bipush 52, 2, 0, 0, 0, 0), (26, .iaload, 1, 0, 0, 0, 0), (27, .istore_n 2, 1, 0, 0, 0, 0), (28, .aload_n 0, 1, 0, 0, 0, 0), (29, .getfield 161, 3, 1199, 8, 15, 3), (32, .bipush 56, 2, 0, 0, 0, 0), (34, .iaload, 1, 0, 0, 0, 0), (35, .istore_n 3, 1, 0, 0, 0, 0), (36, .aload_n 0, 1, 0, 0, 0, 0), (37, .iconst 0, 1, 0, 0, 0, 0), (38, .iload_n 1, 1, 0, 0, 0, 0), (39, .iload_n 3, 1, 0, 0, 0, 0), (40, .invokevirtual 340, 3, 1612, 199, 3, 0), (43, .istore 4, 2, 0, 0, 0, 0), (45, .iload 4, 2, 0, 0, 0, 0), (47, .iconst 3, 1, 0, 0, 0, 0), (48, .if_icmp .eq 6, 3, 54, 0, 0, 0), (51, .iload 4, 2, 0, 0, 0, 0), (53, .ireturn, 1, 0, 0, 0, 0), (54, .aload_n 0, 1, 0, 0, 0, 0), (55, .getfield 161, 3, 1199, 8, 15, 3), (58, .bipush 57, 2, 0, 0, 0, 0), (60, .iaload, 1, 0, 0, 0, 0), (61, .ifCond .ne 7, 3, 68, 0, 0, 0), (64, .iconst 1, 1, 0, 0, 0, 0), (65, .goto 4, 3, 69, 0, 0, 0), (68, .iconst 0, 1, 0, 0, 0, 0), (69, .istore 5, 2, 0, 0, 0, 0), (71, .aload_n 0, 1, 0, 0, 0, 0), (72, .getfield 161, 3, 1199, 8, 15, 3), (75, .bipush 12, 2, 0, 0, 0, 0), (77, .iload_n 2, 1, 0, 0, 0, 0), (78, .iadd, 1, 0, 0, 0, 0), (79, .iaload, 1, 0, 0, 0, 0), (80, .ifCond .eq 22, 3, 102, 0, 0, 0), (83, .iload 5, 2, 0, 0, 0, 0), (85, .ifCond .eq 24, 3, 109, 0, 0, 0), (88, .aload_n 0, 1, 0, 0, 0, 0), (89, .getfield 161, 3, 1199, 8, 15, 3), (92, .bipush 24, 2, 0, 0, 0, 0), (94, .iload_n 1, 1, 0, 0, 0, 0), (95, .iadd, 1, 0, 0, 0, 0), (96, .iaload, 1, 0, 0, 0, 0), (97, .bipush 60, 2, 0, 0, 0, 0), (99, .if_icmp .ne 10, 3, 109, 0, 0, 0), (102, .aload_n 0, 1, 0, 0, 0, 0), (103, .iconst 0, 1, 0, 0, 0, 0), (104, .invokevirtual 343, 3, 1624, 196, 1, 0), (107, .iconst 0, 1, 0, 0, 0, 0), (108, .ireturn, 1, 0, 0, 0, 0), (109, .iload 5, 2, 0, 0, 0, 0), (111, .ifCond .eq 18, 3, 129, 0, 0, 0), (114, .aload_n 0, 1, 0, 0, 0, 0), (115, .getfield 161, 3, 1199, 8, 15, 3), (118, .bipush 57, 2, 0, 0, 0, 0), (120, .aload_n 0, 1, 0, 0, 0, 0), (121, .iload_n 1, 1, 0, 0, 0, 0), (122, .iload_n 2, 1, 0, 0, 0, 0), (123, .invokevirtual 303, 3, 1539, 181, 2, 0), (126, .iconst 1, 1, 0, 0, 0, 0), (127, .iadd, 1, 0, 0, 0, 0), (128, .iastore, 1, 0, 0, 0, 0), (129, .aload_n 0, 1, 0, 0, 0, 0), (130, .getfield 161, 3, 1199, 8, 15, 3), (133, .bipush 55, 2, 0, 0, 0, 0), (135, .iaload, 1, 0, 0, 0, 0), (136, .aload_n 0, 1, 0, 0, 0, 0), (137, .getfield 161, 3, 1199, 8, 15, 3), (140, .bipush 12, 2, 0, 0, 0, 0), (142, .iload_n 2, 1, 0, 0, 0, 0), (143, .iadd, 1, 0, 0, 0, 0), (144, .iaload, 1, 0, 0, 0, 0), (145, .invokestatic 274, 3, 1506, 0, 2, 11), (148, .istore 6, 2, 0, 0, 0, 0), (150, .aload_n 0, 1, 0, 0, 0, 0), (151, .getfield 161, 3, 1199, 8, 15, 3), (154, .iload_n 1, 1, 0, 0, 0, 0), (155, .aload_n 0, 1, 0, 0, 0, 0), (156, .getfield 161, 3, 1199, 8, 15, 3), (159, .bipush 57, 2, 0, 0, 0, 0), (161, .iaload, 1, 0, 0, 0, 0), (162, .iconst 1, 1, 0, 0, 0, 0), (163, .isub, 1, 0, 0, 0, 0), (164, .iload_n 3, 1, 0, 0, 0, 0), (165, .invokestatic 229, 3, 1453, 156, 3, 1), (168, .dup2, 1, 0, 0, 0, 0), (169, .iaload, 1, 0, 0, 0, 0), (170, .iload 6, 2, 0, 0, 0, 0), (172, .iadd, 1, 0, 0, 0, 0), (173, .iastore, 1, 0, 0, 0, 0), (174, .aload_n 0, 1, 0, 0, 0, 0), (175, .getfield 161, 3, 1199, 8, 15, 3), (178, .bipush 12, 2, 0, 0, 0, 0), (180, .iload_n 2, 1, 0, 0, 0, 0), (181, .iadd, 1, 0, 0, 0, 0), (182, .dup2, 1, 0, 0, 0, 0), (183, .iaload, 1, 0, 0, 0, 0), (184, .iload 6, 2, 0, 0, 0, 0), (186, .isub, 1, 0, 0, 0, 0), (187, .iastore, 1, 0, 0, 0, 0), (188, .iload_n 3, 1, 0, 0, 0, 0), (189, .aload_n 0, 1, 0, 0, 0, 0), (190, .getfield 161, 3, 1199, 8, 15, 3), (193, .bipush 54, 2, 0, 0, 0, 0), (195, .iaload, 1, 0, 0, 0, 0), (196, .if_icmp .ne 10, 3, 206, 0, 0, 0), (199, .aload_n 0, 1, 0, 0, 0, 0), (200, .iconst 0, 1, 0, 0, 0, 0), (201, .invokevirtual 343, 3, 1624, 196, 1, 0), (204, .iconst 0, 1, 0, 0, 0, 0), (205, .ireturn, 1, 0, 0, 0, 0), (206, .iload_n 3, 1, 0, 0, 0, 0), (207, .aload_n 0, 1, 0, 0, 0, 0), (208, .getfield 161, 3, 1199, 8, 15, 3), (211, .bipush 54, 2, 0, 0, 0, 0), (213, .iaload, 1, 0, 0, 0, 0), (214, .if_icmp .ge 9, 3, 223, 0, 0, 0), (217, .iload_n 3, 1, 0, 0, 0, 0), (218, .iconst 1, 1, 0, 0, 0, 0), (219, .iadd, 1, 0, 0, 0, 0), (220, .goto 6, 3, 226, 0, 0, 0), (223, .iload_n 3, 1, 0, 0, 0, 0), (224, .iconst 1, 1, 0, 0, 0, 0), (225, .isub, 1, 0, 0, 0, 0), (226, .istore 7, 2, 0, 0, 0, 0), (228, .aload_n 0, 1, 0, 0, 0, 0), (229, .getfield 161, 3, 1199, 8, 15, 3), (232, .bipush 56, 2, 0, 0, 0, 0), (234, .iload 7, 2, 0, 0, 0, 0), (236, .iastore, 1, 0, 0, 0, 0), (237, .aload_n 0, 1, 0, 0, 0, 0), (238, .iconst 0, 1, 0, 0, 0, 0), (239, .iload_n 1, 1, 0, 0, 0, 0), (240, .iload 7, 2, 0, 0, 0, 0), (242, .invokevirtual 280, 3, 1508, 172, 3, 0), (245, .ifCond .eq 11, 3, 256, 0, 0, 0), (248, .aload_n 0, 1, 0, 0, 0, 0), (249, .iconst 0, 1, 0, 0, 0, 0), (250, .iload_n 1, 1, 0, 0, 0, 0), (251, .iload 7, 2, 0, 0, 0, 0), (253, .invokevirtual 337, 3, 1620, 198, 3, 0), (256, .iconst 0, 1, 0, 0, 0, 0), (257, .ireturn, 1, 0, 0, 0, 0)]
def T202 : List CE := [(0, .aload_n 0, 1, 0, 0, 0, 0), (1, .invokevirtual 346, 3, 1608, 200, 0, 0), (4, .istore_n 1, 1, 0, 0, 0, 0), (5, .aload_n 0, 1, 0, 0, 0, 0), (6, .invokevirtual 350, 3, 1628, 201, 0, 0), (9, .istore_n 2, 1, 0, 0, 0, 0), (10, .aload_n 0, 1, 0, 0, 0, 0), (11, .getfield 161, 3, 1199, 8, 15, 3), (14, .iconst 1, 1, 0, 0, 0, 0), (15, .dup2, 1, 0, 0, 0, 0), (16, .iaload, 1, 0, 0, 0, 0), (17, .iconst 1, 1, 0, 0, 0, 0), (18, .iadd, 1, 0, 0, 0, 0), (19, .iastore, 1, 0, 0, 0, 0), (20, .iload_n 1, 1, 0, 0, 0, 0), (21, .ifCond .eq 21, 3, 42, 0, 0, 0), (24, .iload_n 2, 1, 0, 0, 0, 0), (25, .ifCond .eq 17, 3, 42, 0, 0, 0), (28, .iload_n 1, 1, 0, 0, 0, 0), (29, .iconst 1, 1, 0, 0, 0, 0), (30, .if_icmp .eq 8, 3, 38, 0, 0, 0), (33, .iload_n 2, 1, 0, 0, 0, 0), (34, .iconst 1, 1, 0, 0, 0, 0), (35, .if_icmp .ne 7, 3, 42, 0, 0, 0), (38, .iconst 1, 1, 0, 0, 0, 0), (39, .goto 4, 3, 43, 0, 0, 0), (42, .iconst 0, 1, 0, 0, 0, 0), (43, .ireturn, 1, 0, 0, 0, 0)]
def T203 : List CE := [(0, .aload_n 0, 1, 0, 0, 0, 0), (1, .iconst 0, 1, 0, 0, 0, 0), (2, .putfield 1, 3, 1184, 8, 0, 0), (5, .iload_n 1, 1, 0, 0, 0, 0), (6, .i2l, 1, 0, 0, 0, 0), (7, .lconst 1, 1, 0, 0, 0, 0), (8, .ldc2_w 353, 3, 1603, 200, 0, 0), (11, .invokestatic 44, 3, 1318, 129, 3, 1), (14, .ifCond .ne 5, 3, 19, 0, 0, 0), (17, .iconst (-1), 1, 0, 0, 0, 0), (18, .ireturn, 1, 0, 0, 0, 0), (19, .aload_n 0, 1, 0, 0, 0, 0), (20, .invokevirtual 306, 3, 1524, 177, 0, 0), (23, .iconst 0, 1, 0, 0, 0, 0), (24, .istore_n 2, 1, 0, 0, 0, 0), (25, .iconst 0, 1, 0, 0, 0, 0), (26, .istore_n 3, 1, 0, 0, 0, 0), (27, .iload_n 3, 1, 0, 0, 0, 0), (28, .iload_n 1, 1, 0, 0, 0, 0), (29, .if_icmp .ge 24, 3, 53, 0, 0, 0), (32, .iload_n 2, 1, 0, 0, 0, 0), (33, .aload_n 0, 1, 0, 0, 0, 0), (34, .invokevirtual 355, 3, 1604, 202, 0, 0), (37, .ifCond .eq 7, 3, 44, 0, 0, 0), (40, .iconst 1, 1, 0, 0, 0, 0), (41, .goto 4, 3, 45, 0, 0, 0), (44, .iconst 0, 1, 0, 0, 0, 0), (45, .iadd, 1, 0, 0, 0, 0), (46, .istore_n 2, 1, 0, 0, 0, 0), (47, .iinc 3 1, 3, 0, 0, 0, 0), (50, .goto (-23), 3, 27, 0, 0, 0), (53, .iload_n 2, 1, 0, 0, 0, 0), (54, .ireturn, 1, 0, 0, 0, 0)]
def T204 : List CE := [(0, .aload_n 0, 1, 0, 0, 0, 0), (1, .iconst 0, 1, 0, 0, 0, 0), (2, .putfield 1, 3, 1184, 8, 0, 0), (5, .aload_n 0, 1, 0, 0, 0, 0), (6, .getfield 161, 3, 1199, 8, 15, 3), (9, .iconst 0, 1, 0, 0, 0, 0), (10, .aload_n 0, 1, 0, 0, 0, 0), (11, .getfield 174, 3, 1206, 8, 22, 3), (14, .iconst 0, 1, 0, 0, 0, 0), (15, .invokestatic 286, 3, 1528, 149, 4, 1), (18, .iconst 0, 1, 0, 0, 0, 0), (19, .istore_n 1, 1, 0, 0, 0, 0), (20, .iload_n 1, 1, 0, 0, 0, 0), (21, .sipush 500, 3, 0, 0, 0, 0), (24, .if_icmp .ge 32, 3, 56, 0, 0, 0), (27, .aload_n 0, 1, 0, 0, 0, 0), (28, .getfield 161, 3, 1199, 8, 15, 3), (31, .bipush 10, 2, 0, 0, 0, 0), (33, .iaload, 1, 0, 0, 0, 0), (34, .aload_n 0, 1, 0, 0, 0, 0), (35, .getfield 161, 3, 1199, 8, 15, 3), (38, .bipush 11, 2, 0, 0, 0, 0), (40, .iaload, 1, 0, 0, 0, 0), (41, .iadd, 1, 0, 0, 0, 0), (42, .ifCond .le 14, 3, 56, 0, 0, 0), (45, .aload_n 0, 1, 0, 0, 0, 0), (46, .invokevirtual 355, 3, 1604, 202, 0, 0), (49, .pop, 1, 0, 0, 0, 0), (50, .iinc 1 1, 3, 0, 0, 0, 0), (53, .goto (-33), 3, 20, 0, 0, 0), (56, .aload_n 0, 1, 0, 0, 0, 0), (57, .getfield 161, 3, 1199, 8, 15, 3), (60, .bipush 10, 2, 0, 0, 0, 0), (62, .iaload, 1, 0, 0, 0, 0), (63, .aload_n 0, 1, 0, 0, 0, 0), (64, .getfield 161, 3, 1199, 8, 15, 3), (67, .bipush 11, 2, 0, 0, 0, 0), (69, .iaload, 1, 0, 0, 0, 0), (70, .iadd, 1, 0, 0, 0, 0), (71, .ifCond .le 7, 3, 78, 0, 0, 0), (74, .iconst 1, 1, 0, 0, 0, 0), (75, .goto 4, 3, 79, 0, 0, 0), (78, .iconst 0, 1, 0, 0, 0, 0), (79, .istore_n 2, 1, 0, 0, 0, 0), (80, .aload_n 0, 1, 0, 0, 0, 0), (81, .getfield 174, 3, 1206, 8, 22, 3), (84, .iconst 0, 1, 0, 0, 0, 0), (85, .aload_n 0, 1, 0, 0, 0, 0), (86, .getfield 161, 3, 1199, 8, 15, 3), (89, .iconst 0, 1, 0, 0, 0, 0), (90, .invokestatic 286, 3, 1528, 149, 4, 1), (93, .iload_n 2, 1, 0, 0, 0, 0), (94, .ifCond .eq 8, 3, 102, 0, 0, 0), (97, .bipush (-2), 2, 0, 0, 0, 0), (99, .goto 4, 3, 103, 0, 0, 0), (102, .iload_n 1, 1, 0, 0, 0, 0), (103, .ireturn, 1, 0, 0, 0, 0)]
def T205 : List CE := [(0, .aload_n 0, 1, 0, 0, 0, 0), (1, .iconst 0, 1, 0, 0, 0, 0), (2, .putfield 1, 3, 1184, 8, 0, 0), (5, .aload_n 0, 1, 0, 0, 0, 0), (6, .getfield 217, 3, 1202, 8, 18, 0), (9, .ifCond .ne 5, 3, 14, 0, 0, 0), (12, .iconst (-1), 1, 0, 0, 0, 0), (13, .ireturn, 1, 0, 0, 0, 0), (14, .aload_n 0, 1, 0, 0, 0, 0), (15, .dup, 1, 0, 0, 0, 0), (16, .getfield 217, 3, 1202, 8, 18, 0), (19, .iconst 1, 1, 0, 0, 0, 0), (20, .isub, 1, 0, 0, 0, 0), (21, .putfield 217, 3, 1202, 8, 18, 0), (24, .aload_n 0, 1, 0, 0, 0, 0), (25, .getfield 164, 3, 1203, 8, 19, 3), (28, .sipush 2471, 3, 0, 0, 0, 0), (31, .aload_n 0, 1, 0, 0, 0, 0), (32, .getfield 217, 3, 1202, 8, 18, 0), (35, .imul, 1, 0, 0, 0, 0), (36, .aload_n 0, 1, 0, 0, 0, 0), (37, .getfield 161, 3, 1199, 8, 15, 3), (40, .iconst 0, 1, 0, 0, 0, 0), (41, .invokestatic 286, 3, 1528, 149, 4, 1), (44, .aload_n 0, 1, 0, 0, 0, 0), (45, .getfield 217, 3, 1202, 8, 18, 0), (48, .ireturn, 1, 0, 0, 0, 0)]
def T206 : List CE := [(0, .aload_n 0, 1, 0, 0, 0, 0), (1, .iconst 0, 1, 0, 0, 0, 0), (2, .putfield 1, 3, 1184, 8, 0, 0), (5, .iload_n 1, 1, 0, 0, 0, 0), (6, .i2l, 1, 0, 0, 0, 0), (7, .lconst 0, 1, 0, 0, 0, 0), (8, .lconst 1, 1, 0, 0, 0, 0), (9, .invokestatic 44, 3, 1318, 129, 3, 1), (12, .ifCond .eq 16, 3, 28, 0, 0, 0), (15, .iload_n 2, 1, 0, 0, 0, 0), (16, .ifCond .eq 14, 3, 30, 0, 0, 0), (19, .aload_n 0, 1, 0, 0, 0, 0), (20, .getfield 167, 3, 1204, 8, 20, 3), (23, .iload_n 1, 1, 0, 0, 0, 0), (24, .baload, 1, 0, 0, 0, 0), (25, .ifCond .ne 5, 3, 30, 0, 0, 0), (28, .iconst 0, 1, 0, 0, 0, 0), (29, .ireturn, 1, 0, 0, 0, 0), (30, .iload_n 2, 1, 0, 0, 0, 0), (31, .ifCond .eq 28, 3, 59, 0, 0, 0), (34, .aload_n 0, 1, 0, 0, 0, 0), (35, .getfield 171, 3, 1205, 8, 21, 3), (38, .sipush 2471, 3, 0, 0, 0, 0), (41, .iload_n 1, 1, 0, 0, 0, 0), (42, .imul, 1, 0, 0, 0, 0), (43, .aload_n 0, 1, 0, 0, 0, 0), (44, .getfield 161, 3, 1199, 8, 15, 3), (47, .iconst 0, 1, 0, 0, 0, 0), (48, .invokestatic 286, 3, 1528, 149, 4, 1), (51, .aload_n 0, 1, 0, 0, 0, 0), (52, .iconst 0, 1, 0, 0, 0, 0), (53, .putfield 217, 3, 1202, 8, 18, 0), (56, .goto 27, 3, 83, 0, 0, 0), (59, .aload_n 0, 1, 0, 0, 0, 0), (60, .getfield 161, 3, 1199, 8, 15, 3), (63, .iconst 0, 1, 0, 0, 0, 0), (64, .aload_n 0, 1, 0, 0, 0, 0), (65, .getfield 171, 3, 1205, 8, 21, 3), (68, .sipush 2471, 3, 0, 0, 0, 0), (71, .iload_n 1, 1, 0, 0, 0, 0), (72, .imul, 1, 0, 0, 0, 0), (73, .invokestatic 286, 3, 1528, 149, 4, 1), (76, .aload_n 0, 1, 0, 0, 0, 0), (77, .getfield 167, 3, 1204, 8, 20, 3), (80, .iload_n 1, 1, 0, 0, 0, 0), (81, .iconst 1, 1, 0, 0, 0, 0), (82, .bastore, 1, 0, 0, 0, 0), (83, .iconst 1, 1, 0, 0, 0, 0), (84, .ireturn, 1, 0, 0, 0, 0)]
def T207 : List CE := [(0, .lload_n 0, 1, 0, 0, 0, 0), (1, .lstore 4, 2, 0, 0, 0, 0), (3, .lload_n 2, 1, 0, 0, 0, 0), (4, .lstore 6, 2, 0, 0, 0, 0), (6, .lload 6, 2, 0, 0, 0, 0), (8, .lconst 0, 1, 0, 0, 0, 0), (9, .lcmp, 1, 0, 0, 0, 0), (10, .ifCond .eq 21, 3, 31, 0, 0, 0), (13, .lload 4, 2, 0, 0, 0, 0), (15, .lload 6, 2, 0, 0, 0, 0), (17, .lrem, 1, 0, 0, 0, 0), (18, .lstore 8, 2, 0, 0, 0, 0), (20, .lload 6, 2, 0, 0, 0, 0), (22, .lstore 4, 2, 0, 0, 0, 0), (24, .lload 8, 2, 0, 0, 0, 0), (26, .lstore 6, 2, 0, 0, 0, 0), (28, .goto (-22), 3, 6, 0, 0, 0), (31, .lload 4, 2, 0, 0, 0, 0), (33, .lreturn, 1, 0, 0, 0, 0)]
def T208 : List CE := [(0, .iload_n 1, 1, 0, 0, 0, 0), (1, .i2l, 1, 0, 0, 0, 0), (2, .iload_n 2, 1, 0, 0, 0, 0), (3, .i2l, 1, 0, 0, 0, 0), (4, .invokestatic 358, 3, 1656, 207, 2, 1), (7, .l2i, 1, 0, 0, 0, 0), (8, .istore_n 3, 1, 0, 0, 0, 0), (9, .aload_n 0, 1, 0, 0, 0, 0), (10, .iload_n 2, 1, 0, 0, 0, 0), (11, .iload_n 3, 1, 0, 0, 0, 0), (12, .idiv, 1, 0, 0, 0, 0), (13, .putfield 177, 3, 1207, 8, 23, 0), (16, .iload_n 1, 1, 0, 0, 0, 0), (17, .iload_n 3, 1, 0, 0, 0, 0), (18, .idiv, 1, 0, 0, 0, 0), (19, .ireturn, 1, 0, 0, 0, 0)]
def T209 : List CE := [(0, .aload_n 0, 1, 0, 0, 0, 0), (1, .getfield 223, 3, 1200, 8, 16, 0), (4, .ifCond .ne 8, 3, 12, 0, 0, 0), (7, .bipush (-2), 2, 0, 0, 0, 0), (9, .goto 15, 3, 24, 0, 0, 0), (12, .aload_n 0, 1, 0, 0, 0, 0), (13, .aload_n 0, 1, 0, 0, 0, 0), (14, .getfield 226, 3, 1201, 8, 17, 0), (17, .aload_n 0, 1, 0, 0, 0, 0), (18, .getfield 223, 3, 1200, 8, 16, 0), (21, .invokevirtual 362, 3, 1652, 208, 2, 0), (24, .ireturn, 1, 0, 0, 0, 0)]
def T210 : List CE := [(0, .aload_n 0, 1, 0, 0, 0, 0), (1, .iconst 0, 1, 0, 0, 0, 0), (2, .putfield 1, 3, 1184, 8, 0, 0), (5, .aload_n 0, 1, 0, 0, 0, 0), (6, .iload_n 1, 1, 0, 0, 0, 0), (7, .iload_n 2, 1, 0, 0, 0, 0), (8, .invokevirtual 260, 3, 1472, 154, 2, 0), (11, .ifCond .ne 5, 3, 16, 0, 0, 0), (14, .iconst (-1), 1, 0, 0, 0, 0), (15, .ireturn, 1, 0, 0, 0, 0), (16, .aload_n 0, 1, 0, 0, 0, 0), (17, .iload_n 1, 1, 0, 0, 0, 0), (18, .iload_n 2, 1, 0, 0, 0, 0), (19, .iload_n 2, 1, 0, 0, 0, 0), (20, .invokevirtual 253, 3, 1449, 158, 3, 0), (23, .aload_n 0, 1, 0, 0, 0, 0), (24, .invokevirtual 365, 3, 1648, 209, 0, 0), (27, .ireturn, 1, 0, 0, 0, 0)]
def T211 : List CE := [(0, .aload_n 0, 1, 0, 0, 0, 0), (1, .iconst 0, 1, 0, 0, 0, 0), (2, .putfield 1, 3, 1184, 8, 0, 0), (5, .aload_n 0, 1, 0, 0, 0, 0), (6, .iload_n 1, 1, 0, 0, 0, 0), (7, .invokevirtual 220, 3, 1445, 152, 1, 0), (10, .ifCond .ne 5, 3, 15, 0, 0, 0), (13, .iconst (-1), 1, 0, 0, 0, 0), (14, .ireturn, 1, 0, 0, 0, 0), (15, .aload_n 0, 1, 0, 0, 0, 0), (16, .iload_n 1, 1, 0, 0, 0, 0), (17, .iconst 0, 1, 0, 0, 0, 0), (18, .aload_n 0, 1, 0, 0, 0, 0), (19, .getfield 158, 3, 1195, 8, 11, 3), (22, .bipush 28, 2, 0, 0, 0, 0), (24, .iload_n 1, 1, 0, 0, 0, 0), (25, .iadd, 1, 0, 0, 0, 0), (26, .iaload, 1, 0, 0, 0, 0), (27, .iconst 1, 1, 0, 0, 0, 0), (28, .isub, 1, 0, 0, 0, 0), (29, .invokevirtual 253, 3, 1449, 158, 3, 0), (32, .aload_n 0, 1, 0, 0, 0, 0), (33, .invokevirtual 365, 3, 1648, 209, 0, 0), (36, .ireturn, 1, 0, 0, 0, 0)]
def T212 : List CE := [(0, .aload_n 0, 1, 0, 0, 0, 0), (1, .iconst 0, 1, 0, 0, 0, 0), (2, .putfield 1, 3, 1184, 8, 0, 0), (5, .aload_n 0, 1, 0, 0, 0, 0), (6, .iload_n 1, 1, 0, 0, 0, 0), (7, .invokevirtual 248, 3, 1436, 153, 1, 0), (10, .ifCond .ne 5, 3, 15, 0, 0, 0), (13, .iconst (-1), 1, 0, 0, 0, 0), (14, .ireturn, 1, 0, 0, 0, 0), (15, .aload_n 0, 1, 0, 0, 0, 0), (16, .aload_n 0, 1, 0, 0, 0, 0), (17, .getfield 161, 3, 1199, 8, 15, 3), (20, .bipush 27, 2, 0, 0, 0, 0), (22, .iload_n 1, 1, 0, 0, 0, 0), (23, .iadd, 1, 0, 0, 0, 0), (24, .iaload, 1, 0, 0, 0, 0), (25, .putfield 223, 3, 1200, 8, 16, 0), (28, .aload_n 0, 1, 0, 0, 0, 0), (29, .aload_n 0, 1, 0, 0, 0, 0), (30, .getfield 161, 3, 1199, 8, 15, 3), (33, .bipush 35, 2, 0, 0, 0, 0), (35, .iload_n 1, 1, 0, 0, 0, 0), (36, .iadd, 1, 0, 0, 0, 0), (37, .iaload, 1, 0, 0, 0, 0), (38, .putfield 226, 3, 1201, 8, 17, 0), (41, .aload_n 0, 1, 0, 0, 0, 0), (42, .invokevirtual 365, 3, 1648, 209, 0, 0), (45, .ireturn, 1, 0, 0, 0, 0)]
def T213 : List CE := [(0, .aload_n 0, 1, 0, 0, 0, 0), (1, .iconst 0, 1, 0, 0, 0, 0), (2, .putfield 1, 3, 1184, 8, 0, 0), (5, .aload_n 0, 1, 0, 0, 0, 0), (6, .getfield 177, 3, 1207, 8, 23, 0), (9, .ireturn, 1, 0, 0, 0, 0)]
def T214 : List CE := [(0, .aload_n 0, 1, 0, 0, 0, 0), (1, .iconst 0, 1, 0, 0, 0, 0), (2, .putfield 1, 3, 1184, 8, 0, 0), (5, .aload_n 0, 1, 0, 0, 0, 0), (6, .iload_n 1, 1, 0, 0, 0, 0), (7, .invokevirtual 220, 3, 1445, 152, 1, 0), (10, .ifCond .eq 28, 3, 38, 0, 0, 0), (13, .iload_n 2, 1, 0, 0, 0, 0), (14, .i2l, 1, 0, 0, 0, 0), (15, .lconst 0, 1, 0, 0, 0, 0), (16, .ldc2_w 368, 3, 1675, 999, 0, 0), (19, .invokestatic 44, 3, 1318, 129, 3, 1), (22, .ifCond .eq 16, 3, 38, 0, 0, 0), (25, .iload_n 3, 1, 0, 0, 0, 0), (26, .i2l, 1, 0, 0, 0, 0), (27, .iload_n 2, 1, 0, 0, 0, 0), (28, .i2l, 1, 0, 0, 0, 0), (29, .ldc2_w 368, 3, 1675, 999, 0, 0), (32, .invokestatic 44, 3, 1318, 129, 3, 1), (35, .ifCond .ne 5, 3, 40, 0, 0, 0), (38, .iconst (-1), 1, 0, 0, 0, 0), (39, .ireturn, 1, 0, 0, 0, 0), (40, .iconst 0, 1, 0, 0, 0, 0), (41, .istore 4, 2, 0, 0, 0, 0), (43, .iconst 0, 1, 0, 0, 0, 0), (44, .istore 5, 2, 0, 0, 0, 0), (46, .iload 5, 2, 0, 0, 0, 0), (48, .aload_n 0, 1, 0, 0, 0, 0), (49, .getfield 158, 3, 1195, 8, 11, 3), (52, .bipush 28, 2, 0, 0, 0, 0), (54, .iload_n 1, 1, 0, 0, 0, 0), (55, .iadd, 1, 0, 0, 0, 0), (56, .iaload, 1, 0, 0, 0, 0), (57, .if_icmp .ge 72, 3, 129, 0, 0, 0), (60, .aload_n 0, 1, 0, 0, 0, 0), (61, .iload_n 1, 1, 0, 0, 0, 0), (62, .iload 5, 2, 0, 0, 0, 0), (64, .iload 5, 2, 0, 0, 0, 0), (66, .invokevirtual 253, 3, 1449, 158, 3, 0), (69, .iload 4, 2, 0, 0, 0, 0), (71, .aload_n 0, 1, 0, 0, 0, 0), (72, .getfield 223, 3, 1200, 8, 16, 0), (75, .ifCond .le 44, 3, 119, 0, 0, 0), (78, .iload_n 2, 1, 0, 0, 0, 0), (79, .i2l, 1, 0, 0, 0, 0), (80, .aload_n 0, 1, 0, 0, 0, 0), (81, .getfield 223, 3, 1200, 8, 16, 0), (84, .i2l, 1, 0, 0, 0, 0), (85, .lmul, 1, 0, 0, 0, 0), (86, .aload_n 0, 1, 0, 0, 0, 0), (87, .getfield 226, 3, 1201, 8, 17, 0), (90, .i2l, 1, 0, 0, 0, 0), (91, .lcmp, 1, 0, 0, 0, 0), (92, .ifCond .gt 27, 3, 119, 0, 0, 0), (95, .aload_n 0, 1, 0, 0, 0, 0), (96, .getfield 226, 3, 1201, 8, 17, 0), (99, .i2l, 1, 0, 0, 0, 0), (100, .iload_n 3, 1, 0, 0, 0, 0), (101, .i2l, 1, 0, 0, 0, 0), (102, .aload_n 0, 1, 0, 0, 0, 0), (103, .getfield 223, 3, 1200, 8, 16, 0), (106, .i2l, 1, 0, 0, 0, 0), (107, .lmul, 1, 0, 0, 0, 0), (108, .lcmp, 1, 0, 0, 0, 0), (109, .ifCond .gt 10, 3, 119, 0, 0, 0), (112, .iconst 1, 1, 0, 0, 0, 0), (113, .iload 5, 2, 0, 0, 0, 0), (115, .ishl, 1, 0, 0, 0, 0), (116, .goto 4, 3, 120, 0, 0, 0), (119, .iconst 0, 1, 0, 0, 0, 0), (120, .ior, 1, 0, 0, 0, 0), (121, .istore 4, 2, 0, 0, 0, 0), (123, .iinc 5 1, 3, 0, 0, 0, 0), (126, .goto (-80), 3, 46, 0, 0, 0), (129, .iload 4, 2, 0, 0, 0, 0), (131, .ireturn, 1, 0, 0, 0, 0)]
def T215 : List CE := [(0, .aload_n 0, 1, 0, 0, 0, 0), (1, .iconst 0, 1, 0, 0, 0, 0), (2, .putfield 1, 3, 1184, 8, 0, 0), (5, .aload_n 0, 1, 0, 0, 0, 0), (6, .iload_n 1, 1, 0, 0, 0, 0), (7, .invokevirtual 220, 3, 1445, 152, 1, 0), (10, .ifCond .ne 7, 3, 17, 0, 0, 0), (13, .ldc2_w 370, 3, 1680, 18446744073709551615, 0, 0), (16, .lreturn, 1, 0, 0, 0, 0), (17, .lconst 0, 1, 0, 0, 0, 0), (18, .lstore_n 2, 1, 0, 0, 0, 0), (19, .lconst 0, 1, 0, 0, 0, 0), (20, .lstore 4, 2, 0, 0, 0, 0), (22, .lconst 0, 1, 0, 0, 0, 0), (23, .lstore 6, 2, 0, 0, 0, 0), (25, .lconst 0, 1, 0, 0, 0, 0), (26, .lstore 8, 2, 0, 0, 0, 0), (28, .iconst 0, 1, 0, 0, 0, 0), (29, .istore 10, 2, 0, 0, 0, 0), (31, .iload 10, 2, 0, 0, 0, 0), (33, .aload_n 0, 1, 0, 0, 0, 0), (34, .getfield 158, 3, 1195, 8, 11, 3), (37, .bipush 28, 2, 0, 0, 0, 0), (39, .iload_n 1, 1, 0, 0, 0, 0), (40, .iadd, 1, 0, 0, 0, 0), (41, .iaload, 1, 0, 0, 0, 0), (42, .if_icmp .ge 107, 3, 149, 0, 0, 0), (45, .aload_n 0, 1, 0, 0, 0, 0), (46, .iload_n 1, 1, 0, 0, 0, 0), (47, .iload 10, 2, 0, 0, 0, 0), (49, .iload 10, 2, 0, 0, 0, 0), (51, .invokevirtual 253, 3, 1449, 158, 3, 0), (54, .aload_n 0, 1, 0, 0, 0, 0), (55, .getfield 223, 3, 1200, 8, 16, 0), (58, .ifCond .ne 6, 3, 64, 0, 0, 0), (61, .goto 82, 3, 143, 0, 0, 0), (64, .lload_n 2, 1, 0, 0, 0, 0), (65, .lconst 0, 1, 0, 0, 0, 0), (66, .lcmp, 1, 0, 0, 0, 0), (67, .ifCond .eq 22, 3, 89, 0, 0, 0), (70, .aload_n 0, 1, 0, 0, 0, 0), (71, .getfield 226, 3, 1201, 8, 17, 0), (74, .i2l, 1, 0, 0, 0, 0), (75, .lload_n 2, 1, 0, 0, 0, 0), (76, .lmul, 1, 0, 0, 0, 0), (77, .lload 4, 2, 0, 0, 0, 0), (79, .aload_n 0, 1, 0, 0, 0, 0), (80, .getfield 223, 3, 1200, 8, 16, 0), (83, .i2l, 1, 0, 0, 0, 0), (84, .lmul, 1, 0, 0, 0, 0), (85, .lcmp, 1, 0, 0, 0, 0), (86, .ifCond .ge 16, 3, 102, 0, 0, 0), (89, .aload_n 0, 1, 0, 0, 0, 0), (90, .getfield 223, 3, 1200, 8, 16, 0), (93, .i2l, 1, 0, 0, 0, 0), (94, .lstore_n 2, 1, 0, 0, 0, 0), (95, .aload_n 0, 1, 0, 0, 0, 0), (96, .getfield 226, 3, 1201, 8, 17, 0), (99, .i2l, 1, 0, 0, 0, 0), (100, .lstore 4, 2, 0, 0, 0, 0), (102, .lload 6, 2, 0, 0, 0, 0), (104, .lconst 0, 1, 0, 0, 0, 0), (105, .lcmp, 1, 0, 0, 0, 0), (106, .ifCond .eq 23, 3, 129, 0, 0, 0), (109, .aload_n 0, 1, 0, 0, 0, 0), (110, .getfield 226, 3, 1201, 8, 17, 0), (113, .i2l, 1, 0, 0, 0, 0), (114, .lload 6, 2, 0, 0, 0, 0), (116, .lmul, 1, 0, 0, 0, 0), (117, .lload 8, 2, 0, 0, 0, 0), (119, .aload_n 0, 1, 0, 0, 0, 0), (120, .getfield 223, 3, 1200, 8, 16, 0), (123, .i2l, 1, 0, 0, 0, 0), (124, .lmul, 1, 0, 0, 0, 0), (125, .lcmp, 1, 0, 0, 0, 0), (126, .ifCond .le 17, 3, 143, 0, 0, 0), (129, .aload_n 0, 1, 0, 0, 0, 0), (130, .getfield 223, 3, 1200, 8, 16, 0), (133, .i2l, 1, 0, 0, 0, 0), (134, .lstore 6, 2, 0, 0, 0, 0), (136, .aload_n 0, 1, 0, 0, 0, 0), (137, .getfield 226, 3, 1201, 8, 17, 0), (140, .i2l, 1, 0, 0, 0, 0), (141, .lstore 8, 2, 0, 0, 0, 0), (143, .iinc 10 1, 3, 0, 0, 0, 0), (146, .goto (-115), 3, 31, 0, 0, 0), (149, .lload_n 2, 1, 0, 0, 0, 0), (150, .lconst 0, 1, 0, 0, 0, 0), (151, .lcmp, 1, 0, 0, 0, 0), (152, .ifCond .ne 7, 3, 159, 0, 0, 0), (155, .ldc2_w 372, 3, 1681, 18446744073709551614, 0, 0), (158, .lreturn, 1, 0, 0, 0, 0), (159, .lload 8, 2, 0, 0, 0, 0), (161, .lload_n 2, 1, 0, 0, 0, 0), (162, .lmul, 1, 0, 0, 0, 0), (163, .lload 4, 2, 0, 0, 0, 0), (165, .lload 6, 2, 0, 0, 0, 0), (167, .lmul, 1, 0, 0, 0, 0), (168, .lsub, 1, 0, 0, 0, 0), (169, .lstore 10, 2, 0, 0, 0, 0), (171, .lload 6, 2, 0, 0, 0, 0), (173, .lload_n 2, 1, 0, 0, 0, 0), (174, .lmul, 1, 0, 0, 0, 0), (175, .lstore 12, 2, 0, 0, 0, 0), (177, .lload 10, 2, 0, 0, 0, 0), (179, .lload 12, 2, 0, 0, 0, 0), (181, .invokestatic 358, 3, 1656, 207, 2, 1), (184, .lstore 14, 2, 0, 0, 0, 0), (186, .aload_n 0, 1, 0, 0, 0, 0), (187, .lload 12, 2, 0, 0, 0, 0), (189, .lload 14, 2, 0, 0, 0, 0), (191, .ldiv, 1, 0, 0, 0, 0), (192, .putfield 180, 3, 1208, 8, 24, 1), (195, .lload 10, 2, 0, 0, 0, 0), (197, .lload 14, 2, 0, 0, 0, 0), (199, .ldiv, 1, 0, 0, 0, 0), (200, .lreturn, 1, 0, 0, 0, 0)]
def T216 : List CE := [(0, .aload_n 0, 1, 0, 0, 0, 0), (1, .iconst 0, 1, 0, 0, 0, 0), (2, .putfield 1, 3, 1184, 8, 0, 0), (5, .aload_n 0, 1, 0, 0, 0, 0), (6, .getfield 180, 3, 1208, 8, 24, 1), (9, .lreturn, 1, 0, 0, 0, 0)]
def T217 : List CE := [(0, .aload_n 0, 1, 0, 0, 0, 0), (1, .iconst 0, 1, 0, 0, 0, 0), (2, .putfield 1, 3, 1184, 8, 0, 0), (5, .aload_n 0, 1, 0, 0, 0, 0), (6, .iload_n 1, 1, 0, 0, 0, 0), (7, .iload 6, 2, 0, 0, 0, 0), (9, .invokevirtual 260, 3, 1472, 154, 2, 0), (12, .ifCond .eq 17, 3, 29, 0, 0, 0), (15, .aload_n 0, 1, 0, 0, 0, 0), (16, .iload_n 1, 1, 0, 0, 0, 0), (17, .iload_n 2, 1, 0, 0, 0, 0), (18, .iload_n 3, 1, 0, 0, 0, 0), (19, .iload 4, 2, 0, 0, 0, 0), (21, .iload 5, 2, 0, 0, 0, 0), (23, .invokevirtual 299, 3, 1489, 179, 5, 0), (26, .ifCond .le 5, 3, 31, 0, 0, 0), (29, .iconst (-1), 1, 0, 0, 0, 0), (30, .ireturn, 1, 0, 0, 0, 0), (31, .aload_n 0, 1, 0, 0, 0, 0), (32, .iload_n 1, 1, 0, 0, 0, 0), (33, .iload 6, 2, 0, 0, 0, 0), (35, .iload 6, 2, 0, 0, 0, 0), (37, .invokevirtual 253, 3, 1449, 158, 3, 0), (40, .iload 6, 2, 0, 0, 0, 0), (42, .i2l, 1, 0, 0, 0, 0), (43, .iload_n 3, 1, 0, 0, 0, 0), (44, .iload 4, 2, 0, 0, 0, 0), (46, .invokestatic 274, 3, 1506, 0, 2, 11), (49, .i2l, 1, 0, 0, 0, 0), (50, .iload_n 3, 1, 0, 0, 0, 0), (51, .iload 4, 2, 0, 0, 0, 0), (53, .invokestatic 277, 3, 1507, 0, 2, 10), (56, .i2l, 1, 0, 0, 0, 0), (57, .invokestatic 44, 3, 1318, 129, 3, 1), (60, .ifCond .eq 35, 3, 95, 0, 0, 0), (63, .aload_n 0, 1, 0, 0, 0, 0), (64, .dup, 1, 0, 0, 0, 0), (65, .getfield 223, 3, 1200, 8, 16, 0), (68, .iload 5, 2, 0, 0, 0, 0), (70, .iadd, 1, 0, 0, 0, 0), (71, .putfield 223, 3, 1200, 8, 16, 0), (74, .aload_n 0, 1, 0, 0, 0, 0), (75, .dup, 1, 0, 0, 0, 0), (76, .getfield 226, 3, 1201, 8, 17, 0), (79, .iload 5, 2, 0, 0, 0, 0), (81, .aload_n 0, 1, 0, 0, 0, 0), (82, .getfield 158, 3, 1195, 8, 11, 3), (85, .bipush 16, 2, 0, 0, 0, 0), (87, .iload_n 2, 1, 0, 0, 0, 0), (88, .iadd, 1, 0, 0, 0, 0), (89, .iaload, 1, 0, 0, 0, 0), (90, .imul, 1, 0, 0, 0, 0), (91, .iadd, 1, 0, 0, 0, 0), (92, .putfield 226, 3, 1201, 8, 17, 0), (95, .aload_n 0, 1, 0, 0, 0, 0), (96, .invokevirtual 365, 3, 1648, 209, 0, 0), (99, .ireturn, 1, 0, 0, 0, 0)]
def T218 : List CE := [(0, .iload_n 1, 1, 0, 0, 0, 0), (1, .aload_n 0, 1, 0, 0, 0, 0), (2, .getfield 374, 3, 1211, 8, 27, 0), (5, .if_icmp .ne 75, 3, 80, 0, 0, 0), (8, .aload_n 0, 1, 0, 0, 0, 0), (9, .getfield 377, 3, 1216, 8, 32, 1), (12, .lconst 0, 1, 0, 0, 0, 0), (13, .lcmp, 1, 0, 0, 0, 0), (14, .ifCond .eq 21, 3, 35, 0, 0, 0), (17, .lload 7, 2, 0, 0, 0, 0), (19, .aload_n 0, 1, 0, 0, 0, 0), (20, .getfield 377, 3, 1216, 8, 32, 1), (23, .lmul, 1, 0, 0, 0, 0), (24, .aload_n 0, 1, 0, 0, 0, 0), (25, .getfield 380, 3, 1215, 8, 31, 1), (28, .lload 9, 2, 0, 0, 0, 0), (30, .lmul, 1, 0, 0, 0, 0), (31, .lcmp, 1, 0, 0, 0, 0), (32, .ifCond .ge 47, 3, 79, 0, 0, 0), (35, .aload_n 0, 1, 0, 0, 0, 0), (36, .lload 7, 2, 0, 0, 0, 0), (38, .putfield 380, 3, 1215, 8, 31, 1), (41, .aload_n 0, 1, 0, 0, 0, 0), (42, .lload 9, 2, 0, 0, 0, 0), (44, .putfield 377, 3, 1216, 8, 32, 1), (47, .iconst 0, 1, 0, 0, 0, 0), (48, .istore 11, 2, 0, 0, 0, 0), (50, .iload 11, 2, 0, 0, 0, 0), (52, .aload_n 0, 1, 0, 0, 0, 0), (53, .getfield 374, 3, 1211, 8, 27, 0), (56, .if_icmp .ge 23, 3, 79, 0, 0, 0), (59, .aload_n 0, 1, 0, 0, 0, 0), (60, .getfield 193, 3, 1214, 8, 30, 3), (63, .iload 11, 2, 0, 0, 0, 0), (65, .aload_n 0, 1, 0, 0, 0, 0), (66, .getfield 190, 3, 1213, 8, 29, 3), (69, .iload 11, 2, 0, 0, 0, 0), (71, .iaload, 1, 0, 0, 0, 0), (72, .iastore, 1, 0, 0, 0, 0), (73, .iinc 11 1, 3, 0, 0, 0, 0), (76, .goto (-26), 3, 50, 0, 0, 0), (79, .return_, 1, 0, 0, 0, 0), (80, .iconst 0, 1, 0, 0, 0, 0), (81, .istore 11, 2, 0, 0, 0, 0), (83, .iload 11, 2, 0, 0, 0, 0), (85, .aload_n 0, 1, 0, 0, 0, 0), (86, .getfield 374, 3, 1211, 8, 27, 0), (89, .if_icmp .ge 156, 3, 245, 0, 0, 0), (92, .iload_n 2, 1, 0, 0, 0, 0), (93, .iload 11, 2, 0, 0, 0, 0), (95, .ishr, 1, 0, 0, 0, 0), (96, .iconst 1, 1, 0, 0, 0, 0), (97, .iand, 1, 0, 0, 0, 0), (98, .ifCond .ne 141, 3, 239, 0, 0, 0), (101, .aload_n 0, 1, 0, 0, 0, 0), (102, .getfield 187, 3, 1212, 8, 28, 3), (105, .iload 11, 2, 0, 0, 0, 0), (107, .iaload, 1, 0, 0, 0, 0), (108, .istore 12, 2, 0, 0, 0, 0), (110, .aload_n 0, 1, 0, 0, 0, 0), (111, .getfield 190, 3, 1213, 8, 29, 3), (114, .iload_n 1, 1, 0, 0, 0, 0), (115, .iload 12, 2, 0, 0, 0, 0), (117, .iastore, 1, 0, 0, 0, 0), (118, .lload_n 3, 1, 0, 0, 0, 0), (119, .aload_n 0, 1, 0, 0, 0, 0), (120, .getfield 161, 3, 1199, 8, 15, 3), (123, .bipush 12, 2, 0, 0, 0, 0), (125, .iload 12, 2, 0, 0, 0, 0), (127, .iadd, 1, 0, 0, 0, 0), (128, .iaload, 1, 0, 0, 0, 0), (129, .i2l, 1, 0, 0, 0, 0), (130, .ladd, 1, 0, 0, 0, 0), (131, .lstore 13, 2, 0, 0, 0, 0), (133, .lload 5, 2, 0, 0, 0, 0), (135, .aload_n 0, 1, 0, 0, 0, 0), (136, .getfield 161, 3, 1199, 8, 15, 3), (139, .bipush 12, 2, 0, 0, 0, 0), (141, .iload 12, 2, 0, 0, 0, 0), (143, .iadd, 1, 0, 0, 0, 0), (144, .iaload, 1, 0, 0, 0, 0), (145, .i2l, 1, 0, 0, 0, 0), (146, .aload_n 0, 1, 0, 0, 0, 0), (147, .getfield 158, 3, 1195, 8, 11, 3), (150, .bipush 16, 2, 0, 0, 0, 0), (152, .iload 12, 2, 0, 0, 0, 0), (154, .iadd, 1, 0, 0, 0, 0), (155, .iaload, 1, 0, 0, 0, 0), (156, .i2l, 1, 0, 0, 0, 0), (157, .lmul, 1, 0, 0, 0, 0), (158, .ladd, 1, 0, 0, 0, 0), (159, .lstore 15, 2, 0, 0, 0, 0), (161, .lload 15, 2, 0, 0, 0, 0), (163, .aload_n 0, 1, 0, 0, 0, 0), (164, .getfield 383, 3, 1210, 8, 26, 0), (167, .i2l, 1, 0, 0, 0, 0), (168, .lload 13, 2, 0, 0, 0, 0), (170, .lmul, 1, 0, 0, 0, 0), (171, .lsub, 1, 0, 0, 0, 0), (172, .invokestatic 386, 3, 1703, 0, 1, 13), (175, .lstore 17, 2, 0, 0, 0, 0), (177, .lload 17, 2, 0, 0, 0, 0), (179, .lload 9, 2, 0, 0, 0, 0), (181, .lmul, 1, 0, 0, 0, 0), (182, .lload 7, 2, 0, 0, 0, 0), (184, .lload 13, 2, 0, 0, 0, 0), (186, .lmul, 1, 0, 0, 0, 0), (187, .lcmp, 1, 0, 0, 0, 0), (188, .ifCond .le 7, 3, 195, 0, 0, 0), (191, .iconst 1, 1, 0, 0, 0, 0), (192, .goto 4, 3, 196, 0, 0, 0), (195, .iconst 0, 1, 0, 0, 0, 0), (196, .istore 19, 2, 0, 0, 0, 0), (198, .aload_n 0, 1, 0, 0, 0, 0), (199, .iload_n 1, 1, 0, 0, 0, 0), (200, .iconst 1, 1, 0, 0, 0, 0), (201, .iadd, 1, 0, 0, 0, 0), (202, .iload_n 2, 1, 0, 0, 0, 0), (203, .iconst 1, 1, 0, 0, 0, 0), (204, .iload 11, 2, 0, 0, 0, 0), (206, .ishl, 1, 0, 0, 0, 0), (207, .ior, 1, 0, 0, 0, 0), (208, .lload 13, 2, 0, 0, 0, 0), (210, .lload 15, 2, 0, 0, 0, 0), (212, .iload 19, 2, 0, 0, 0, 0), (214, .ifCond .eq 8, 3, 222, 0, 0, 0), (217, .lload 17, 2, 0, 0, 0, 0), (219, .goto 5, 3, 224, 0, 0, 0), (222, .lload 7, 2, 0, 0, 0, 0), (224, .iload 19, 2, 0, 0, 0, 0), (226, .ifCond .eq 8, 3, 234, 0, 0, 0), (229, .lload 13, 2, 0, 0, 0, 0), (231, .goto 5, 3, 236, 0, 0, 0), (234, .lload 9, 2, 0, 0, 0, 0), (236, .invokevirtual 389, 3, 1699, 218, 6, 0), (239, .iinc 11 1, 3, 0, 0, 0, 0), (242, .goto (-159), 3, 83, 0, 0, 0), (245, .return_, 1, 0, 0, 0, 0)]
def T219 : List CE := [(0, .iload_n 1, 1, 0, 0, 0, 0), (1, .ifCond .lt 26, 3, 27, 0, 0, 0), (4, .iload_n 1, 1, 0, 0, 0, 0), (5, .aload_n 0, 1, 0, 0, 0, 0), (6, .getfield 158, 3, 1195, 8, 11, 3), (9, .iconst 0, 1, 0, 0, 0, 0), (10, .iaload, 1, 0, 0, 0, 0), (11, .ishr, 1, 0, 0, 0, 0), (12, .ifCond .ne 15, 3, 27, 0, 0, 0), (15, .iload_n 2, 1, 0, 0, 0, 0), (16, .i2l, 1, 0, 0, 0, 0), (17, .lconst 0, 1, 0, 0, 0, 0), (18, .ldc2_w 368, 3, 1675, 999, 0, 0), (21, .invokestatic 44, 3, 1318, 129, 3, 1), (24, .ifCond .ne 5, 3, 29, 0, 0, 0), (27, .iconst 0, 1, 0, 0, 0, 0), (28, .ireturn, 1, 0, 0, 0, 0), (29, .iconst 0, 1, 0, 0, 0, 0), (30, .istore_n 3, 1, 0, 0, 0, 0), (31, .aload_n 0, 1, 0, 0, 0, 0), (32, .iconst 0, 1, 0, 0, 0, 0), (33, .putfield 374, 3, 1211, 8, 27, 0), (36, .iconst 0, 1, 0, 0, 0, 0), (37, .istore 4, 2, 0, 0, 0, 0), (39, .iload 4, 2, 0, 0, 0, 0), (41, .aload_n 0, 1, 0, 0, 0, 0), (42, .getfield 158, 3, 1195, 8, 11, 3), (45, .iconst 0, 1, 0, 0, 0, 0), (46, .iaload, 1, 0, 0, 0, 0), (47, .if_icmp .ge 67, 3, 114, 0, 0, 0), (50, .iload_n 1, 1, 0, 0, 0, 0), (51, .iload 4, 2, 0, 0, 0, 0), (53, .ishr, 1, 0, 0, 0, 0), (54, .iconst 1, 1, 0, 0, 0, 0), (55, .iand, 1, 0, 0, 0, 0), (56, .ifCond .ne 6, 3, 62, 0, 0, 0), (59, .goto 49, 3, 108, 0, 0, 0), (62, .iinc 3 1, 3, 0, 0, 0, 0), (65, .aload_n 0, 1, 0, 0, 0, 0), (66, .getfield 161, 3, 1199, 8, 15, 3), (69, .bipush 12, 2, 0, 0, 0, 0), (71, .iload 4, 2, 0, 0, 0, 0), (73, .iadd, 1, 0, 0, 0, 0), (74, .iaload, 1, 0, 0, 0, 0), (75, .ifCond .le 33, 3, 108, 0, 0, 0), (78, .aload_n 0, 1, 0, 0, 0, 0), (79, .getfield 374, 3, 1211, 8, 27, 0), (82, .bipush 6, 2, 0, 0, 0, 0), (84, .if_icmp .ge 24, 3, 108, 0, 0, 0), (87, .aload_n 0, 1, 0, 0, 0, 0), (88, .getfield 187, 3, 1212, 8, 28, 3), (91, .aload_n 0, 1, 0, 0, 0, 0), (92, .getfield 374, 3, 1211, 8, 27, 0), (95, .iload 4, 2, 0, 0, 0, 0), (97, .iastore, 1, 0, 0, 0, 0), (98, .aload_n 0, 1, 0, 0, 0, 0), (99, .dup, 1, 0, 0, 0, 0), (100, .getfield 374, 3, 1211, 8, 27, 0), (103, .iconst 1, 1, 0, 0, 0, 0), (104, .iadd, 1, 0, 0, 0, 0), (105, .putfield 374, 3, 1211, 8, 27, 0), (108, .iinc 4 1, 3, 0, 0, 0, 0), (111, .goto (-72), 3, 39, 0, 0, 0), (114, .iload_n 3, 1, 0, 0, 0, 0), (115, .i2l, 1, 0, 0, 0, 0), (116, .ldc2_w 246, 3, 1431, 2, 0, 0), (119, .ldc2_w 393, 3, 1698, 6, 0, 0), (122, .invokestatic 44, 3, 1318, 129, 3, 1), (125, .ifCond .eq 10, 3, 135, 0, 0, 0), (128, .aload_n 0, 1, 0, 0, 0, 0), (129, .getfield 374, 3, 1211, 8, 27, 0), (132, .ifCond .ne 5, 3, 137, 0, 0, 0), (135, .iconst 0, 1, 0, 0, 0, 0), (136, .ireturn, 1, 0, 0, 0, 0), (137, .aload_n 0, 1, 0, 0, 0, 0), (138, .iload_n 2, 1, 0, 0, 0, 0), (139, .putfield 383, 3, 1210, 8, 26, 0), (142, .aload_n 0, 1, 0, 0, 0, 0), (143, .lconst 0, 1, 0, 0, 0, 0), (144, .putfield 377, 3, 1216, 8, 32, 1), (147, .aload_n 0, 1, 0, 0, 0, 0), (148, .iconst 0, 1, 0, 0, 0, 0), (149, .iconst 0, 1, 0, 0, 0, 0), (150, .lconst 0, 1, 0, 0, 0, 0), (151, .lconst 0, 1, 0, 0, 0, 0), (152, .lconst 0, 1, 0, 0, 0, 0), (153, .lconst 1, 1, 0, 0, 0, 0), (154, .invokevirtual 389, 3, 1699, 218, 6, 0), (157, .iconst 1, 1, 0, 0, 0, 0), (158, .ireturn, 1, 0, 0, 0, 0)]
def T220 : List CE := [(0, .aload_n 0, 1, 0, 0, 0, 0), (1, .iconst 0, 1, 0, 0, 0, 0), (2, .putfield 1, 3, 1184, 8, 0, 0), (5, .aload_n 0, 1, 0, 0, 0, 0), (6, .iload_n 1, 1, 0, 0, 0, 0), (7, .iload_n 2, 1, 0, 0, 0, 0), (8, .invokevirtual 395, 3, 1694, 219, 2, 0), (11, .ifCond .ne 5, 3, 16, 0, 0, 0), (14, .iconst (-1), 1, 0, 0, 0, 0), (15, .ireturn, 1, 0, 0, 0, 0), (16, .iload_n 3, 1, 0, 0, 0, 0), (17, .i2l, 1, 0, 0, 0, 0), (18, .lconst 0, 1, 0, 0, 0, 0), (19, .aload_n 0, 1, 0, 0, 0, 0), (20, .getfield 374, 3, 1211, 8, 27, 0), (23, .iconst 1, 1, 0, 0, 0, 0), (24, .isub, 1, 0, 0, 0, 0), (25, .i2l, 1, 0, 0, 0, 0), (26, .invokestatic 44, 3, 1318, 129, 3, 1), (29, .ifCond .eq 12, 3, 41, 0, 0, 0), (32, .aload_n 0, 1, 0, 0, 0, 0), (33, .getfield 193, 3, 1214, 8, 30, 3), (36, .iload_n 3, 1, 0, 0, 0, 0), (37, .iaload, 1, 0, 0, 0, 0), (38, .goto 5, 3, 43, 0, 0, 0), (41, .bipush (-2), 2, 0, 0, 0, 0), (43, .ireturn, 1, 0, 0, 0, 0)]
def T221 : List CE := [(0, .aload_n 0, 1, 0, 0, 0, 0), (1, .iconst 0, 1, 0, 0, 0, 0), (2, .putfield 1, 3, 1184, 8, 0, 0), (5, .aload_n 0, 1, 0, 0, 0, 0), (6, .iload_n 1, 1, 0, 0, 0, 0), (7, .iload_n 2, 1, 0, 0, 0, 0), (8, .invokevirtual 395, 3, 1694, 219, 2, 0), (11, .ifCond .ne 7, 3, 18, 0, 0, 0), (14, .ldc2_w 370, 3, 1680, 18446744073709551615, 0, 0), (17, .lreturn, 1, 0, 0, 0, 0), (18, .aload_n 0, 1, 0, 0, 0, 0), (19, .getfield 380, 3, 1215, 8, 31, 1), (22, .aload_n 0, 1, 0, 0, 0, 0), (23, .getfield 377, 3, 1216, 8, 32, 1), (26, .invokestatic 358, 3, 1656, 207, 2, 1), (29, .lstore_n 3, 1, 0, 0, 0, 0), (30, .aload_n 0, 1, 0, 0, 0, 0), (31, .aload_n 0, 1, 0, 0, 0, 0), (32, .getfield 377, 3, 1216, 8, 32, 1), (35, .lload_n 3, 1, 0, 0, 0, 0), (36, .ldiv, 1, 0, 0, 0, 0), (37, .putfield 184, 3, 1209, 8, 25, 1), (40, .aload_n 0, 1, 0, 0, 0, 0), (41, .getfield 380, 3, 1215, 8, 31, 1), (44, .lload_n 3, 1, 0, 0, 0, 0), (45, .ldiv, 1, 0, 0, 0, 0), (46, .lreturn, 1, 0, 0, 0, 0)]
def T222 : List CE := [(0, .aload_n 0, 1, 0, 0, 0, 0), (1, .iconst 0, 1, 0, 0, 0, 0), (2, .putfield 1, 3, 1184, 8, 0, 0), (5, .aload_n 0, 1, 0, 0, 0, 0), (6, .getfield 184, 3, 1209, 8, 25, 1), (9, .lreturn, 1, 0, 0, 0, 0)]
def T223 : List CE := [(0, .aload_n 0, 1, 0, 0, 0, 0), (1, .iconst 0, 1, 0, 0, 0, 0), (2, .putfield 1, 3, 1184, 8, 0, 0), (5, .aload_n 0, 1, 0, 0, 0, 0), (6, .iload_n 1, 1, 0, 0, 0, 0), (7, .invokevirtual 220, 3, 1445, 152, 1, 0), (10, .ifCond .eq 27, 3, 37, 0, 0, 0), (13, .iload_n 2, 1, 0, 0, 0, 0), (14, .i2l, 1, 0, 0, 0, 0), (15, .lconst 1, 1, 0, 0, 0, 0), (16, .ldc2_w 290, 3, 1497, 99, 0, 0), (19, .invokestatic 44, 3, 1318, 129, 3, 1), (22, .ifCond .eq 15, 3, 37, 0, 0, 0), (25, .iload_n 3, 1, 0, 0, 0, 0), (26, .i2l, 1, 0, 0, 0, 0), (27, .lconst 0, 1, 0, 0, 0, 0), (28, .ldc2_w 368, 3, 1675, 999, 0, 0), (31, .invokestatic 44, 3, 1318, 129, 3, 1), (34, .ifCond .ne 5, 3, 39, 0, 0, 0), (37, .iconst (-1), 1, 0, 0, 0, 0), (38, .ireturn, 1, 0, 0, 0, 0), (39, .aload_n 0, 1, 0, 0, 0, 0), (40, .iload_n 1, 1, 0, 0, 0, 0), (41, .iconst 0, 1, 0, 0, 0, 0), (42, .aload_n 0, 1, 0, 0, 0, 0), (43, .getfield 158, 3, 1195, 8, 11, 3), (46, .bipush 28, 2, 0, 0, 0, 0), (48, .iload_n 1, 1, 0, 0, 0, 0), (49, .iadd, 1, 0, 0, 0, 0), (50, .iaload, 1, 0, 0, 0, 0), (51, .iconst 1, 1, 0, 0, 0, 0), (52, .isub, 1, 0, 0, 0, 0), (53, .invokevirtual 253, 3, 1449, 158, 3, 0), (56, .iload_n 2, 1, 0, 0, 0, 0), (57, .i2l, 1, 0, 0, 0, 0), (58, .aload_n 0, 1, 0, 0, 0, 0), (59, .getfield 158, 3, 1195, 8, 11, 3), (62, .bipush 28, 2, 0, 0, 0, 0), (64, .iload_n 1, 1, 0, 0, 0, 0), (65, .iadd, 1, 0, 0, 0, 0), (66, .iaload, 1, 0, 0, 0, 0), (67, .i2l, 1, 0, 0, 0, 0), (68, .lmul, 1, 0, 0, 0, 0), (69, .lstore 4, 2, 0, 0, 0, 0), (71, .bipush (-2), 2, 0, 0, 0, 0), (73, .istore 6, 2, 0, 0, 0, 0), (75, .lconst 0, 1, 0, 0, 0, 0), (76, .lstore 7, 2, 0, 0, 0, 0), (78, .iconst 0, 1, 0, 0, 0, 0), (79, .istore 9, 2, 0, 0, 0, 0), (81, .iload 9, 2, 0, 0, 0, 0), (83, .aload_n 0, 1, 0, 0, 0, 0), (84, .getfield 158, 3, 1195, 8, 11, 3), (87, .iconst 0, 1, 0, 0, 0, 0), (88, .iaload, 1, 0, 0, 0, 0), (89, .if_icmp .ge 89, 3, 178, 0, 0, 0), (92, .aload_n 0, 1, 0, 0, 0, 0), (93, .getfield 161, 3, 1199, 8, 15, 3), (96, .bipush 12, 2, 0, 0, 0, 0), (98, .iload 9, 2, 0, 0, 0, 0), (100, .iadd, 1, 0, 0, 0, 0), (101, .iaload, 1, 0, 0, 0, 0), (102, .i2l, 1, 0, 0, 0, 0), (103, .lload 4, 2, 0, 0, 0, 0), (105, .lcmp, 1, 0, 0, 0, 0), (106, .ifCond .ge 6, 3, 112, 0, 0, 0), (109, .goto 63, 3, 172, 0, 0, 0), (112, .aload_n 0, 1, 0, 0, 0, 0), (113, .getfield 226, 3, 1201, 8, 17, 0), (116, .i2l, 1, 0, 0, 0, 0), (117, .lload 4, 2, 0, 0, 0, 0), (119, .aload_n 0, 1, 0, 0, 0, 0), (120, .getfield 158, 3, 1195, 8, 11, 3), (123, .bipush 16, 2, 0, 0, 0, 0), (125, .iload 9, 2, 0, 0, 0, 0), (127, .iadd, 1, 0, 0, 0, 0), (128, .iaload, 1, 0, 0, 0, 0), (129, .i2l, 1, 0, 0, 0, 0), (130, .lmul, 1, 0, 0, 0, 0), (131, .ladd, 1, 0, 0, 0, 0), (132, .iload_n 3, 1, 0, 0, 0, 0), (133, .i2l, 1, 0, 0, 0, 0), (134, .aload_n 0, 1, 0, 0, 0, 0), (135, .getfield 223, 3, 1200, 8, 16, 0), (138, .i2l, 1, 0, 0, 0, 0), (139, .lload 4, 2, 0, 0, 0, 0), (141, .ladd, 1, 0, 0, 0, 0), (142, .lmul, 1, 0, 0, 0, 0), (143, .lsub, 1, 0, 0, 0, 0), (144, .invokestatic 386, 3, 1703, 0, 1, 13), (147, .lstore 10, 2, 0, 0, 0, 0), (149, .iload 6, 2, 0, 0, 0, 0), (151, .bipush (-2), 2, 0, 0, 0, 0), (153, .if_icmp .eq 11, 3, 164, 0, 0, 0), (156, .lload 10, 2, 0, 0, 0, 0), (158, .lload 7, 2, 0, 0, 0, 0), (160, .lcmp, 1, 0, 0, 0, 0), (161, .ifCond .ge 11, 3, 172, 0, 0, 0), (164, .iload 9, 2, 0, 0, 0, 0), (166, .istore 6, 2, 0, 0, 0, 0), (168, .lload 10, 2, 0, 0, 0, 0), (170, .lstore 7, 2, 0, 0, 0, 0), (172, .iinc 9 1, 3, 0, 0, 0, 0), (175, .goto (-94), 3, 81, 0, 0, 0), (178, .iload 6, 2, 0, 0, 0, 0), (180, .ireturn, 1, 0, 0, 0, 0)]
def T224 : List CE := [(0, .aload_n 0, 1, 0, 0, 0, 0), (1, .iconst 1, 1, 0, 0, 0, 0), (2, .iload_n 1, 1, 0, 0, 0, 0), (3, .invokevirtual 268, 3, 1512, 170, 2, 0), (6, .ifCond .ne 19, 3, 25, 0, 0, 0), (9, .aload_n 0, 1, 0, 0, 0, 0), (10, .bipush 10, 2, 0, 0, 0, 0), (12, .iload_n 3, 1, 0, 0, 0, 0), (13, .iadd, 1, 0, 0, 0, 0), (14, .iload_n 2, 1, 0, 0, 0, 0), (15, .isub, 1, 0, 0, 0, 0), (16, .putfield 398, 3, 1219, 8, 35, 0), (19, .aload_n 0, 1, 0, 0, 0, 0), (20, .iload_n 3, 1, 0, 0, 0, 0), (21, .putfield 401, 3, 1220, 8, 36, 0), (24, .return_, 1, 0, 0, 0, 0), (25, .aload_n 0, 1, 0, 0, 0, 0), (26, .iconst 1, 1, 0, 0, 0, 0), (27, .invokevirtual 271, 3, 1516, 171, 1, 0), (30, .iload_n 2, 1, 0, 0, 0, 0), (31, .isub, 1, 0, 0, 0, 0), (32, .invokestatic 263, 3, 1484, 0, 1, 12), (35, .istore 4, 2, 0, 0, 0, 0), (37, .aload_n 0, 1, 0, 0, 0, 0), (38, .iconst 1, 1, 0, 0, 0, 0), (39, .invokevirtual 271, 3, 1516, 171, 1, 0), (42, .iload_n 3, 1, 0, 0, 0, 0), (43, .isub, 1, 0, 0, 0, 0), (44, .invokestatic 263, 3, 1484, 0, 1, 12), (47, .istore 5, 2, 0, 0, 0, 0), (49, .aload_n 0, 1, 0, 0, 0, 0), (50, .iload 4, 2, 0, 0, 0, 0), (52, .iload 5, 2, 0, 0, 0, 0), (54, .invokestatic 274, 3, 1506, 0, 2, 11), (57, .iload_n 3, 1, 0, 0, 0, 0), (58, .iadd, 1, 0, 0, 0, 0), (59, .iload_n 2, 1, 0, 0, 0, 0), (60, .isub, 1, 0, 0, 0, 0), (61, .putfield 398, 3, 1219, 8, 35, 0), (64, .aload_n 0, 1, 0, 0, 0, 0), (65, .iload 4, 2, 0, 0, 0, 0), (67, .iload 5, 2, 0, 0, 0, 0), (69, .if_icmp .gt 7, 3, 76, 0, 0, 0), (72, .iload_n 3, 1, 0, 0, 0, 0), (73, .goto 4, 3, 77, 0, 0, 0), (76, .iload_n 2, 1, 0, 0, 0, 0), (77, .putfield 401, 3, 1220, 8, 36, 0), (80, .return_, 1, 0, 0, 0, 0)]
def T225 : List CE := [(0, .iconst 0, 1, 0, 0, 0, 0), (1, .istore_n 1, 1, 0, 0, 0, 0), (2, .iconst 0, 1, 0, 0, 0, 0), (3, .istore_n 2, 1, 0, 0, 0, 0), (4, .iload_n 2, 1, 0, 0, 0, 0), (5, .bipush 12, 2, 0, 0, 0, 0), (7, .if_icmp .ge 17, 3, 24, 0, 0, 0), (10, .iload_n 1, 1, 0, 0, 0, 0), (11, .iload_n 0, 1, 0, 0, 0, 0), (12, .iload_n 2, 1, 0, 0, 0, 0), (13, .ishr, 1, 0, 0, 0, 0), (14, .iconst 1, 1, 0, 0, 0, 0), (15, .iand, 1, 0, 0, 0, 0), (16, .iadd, 1, 0, 0, 0, 0), (17, .istore_n 1, 1, 0, 0, 0, 0), (18, .iinc 2 1, 3, 0, 0, 0, 0), (21, .goto (-17), 3, 4, 0, 0, 0), (24, .iload_n 1, 1, 0, 0, 0, 0), (25, .ireturn, 1, 0, 0, 0, 0)]
def T226 : List CE := [(0, .iconst (-1), 1, 0, 0, 0, 0), (1, .istore 4, 2, 0, 0, 0, 0), (3, .iconst (-1), 1, 0, 0, 0, 0), (4, .istore 5, 2, 0, 0, 0, 0), (6, .aload_n 0, 1, 0, 0, 0, 0), (7, .aload_n 0, 1, 0, 0, 0, 0), (8, .getfield 161, 3, 1199, 8, 15, 3), (11, .bipush 27, 2, 0, 0, 0, 0), (13, .iload_n 1, 1, 0, 0, 0, 0), (14, .iadd, 1, 0, 0, 0, 0), (15, .iaload, 1, 0, 0, 0, 0), (16, .putfield 404, 3, 1221, 8, 37, 0), (19, .aload_n 0, 1, 0, 0, 0, 0), (20, .getfield 161, 3, 1199, 8, 15, 3), (23, .bipush 35, 2, 0, 0, 0, 0), (25, .iload_n 1, 1, 0, 0, 0, 0), (26, .iadd, 1, 0, 0, 0, 0), (27, .iaload, 1, 0, 0, 0, 0), (28, .istore 6, 2, 0, 0, 0, 0), (30, .iconst 0, 1, 0, 0, 0, 0), (31, .istore 7, 2, 0, 0, 0, 0), (33, .iload 7, 2, 0, 0, 0, 0), (35, .aload_n 0, 1, 0, 0, 0, 0), (36, .getfield 158, 3, 1195, 8, 11, 3), (39, .bipush 28, 2, 0, 0, 0, 0), (41, .iload_n 2, 1, 0, 0, 0, 0), (42, .iadd, 1, 0, 0, 0, 0), (43, .iaload, 1, 0, 0, 0, 0), (44, .if_icmp .ge 78, 3, 122, 0, 0, 0), (47, .iload_n 3, 1, 0, 0, 0, 0), (48, .iload 7, 2, 0, 0, 0, 0), (50, .ishr, 1, 0, 0, 0, 0), (51, .iconst 1, 1, 0, 0, 0, 0), (52, .iand, 1, 0, 0, 0, 0), (53, .iconst 1, 1, 0, 0, 0, 0), (54, .if_icmp .ne 62, 3, 116, 0, 0, 0), (57, .aload_n 0, 1, 0, 0, 0, 0), (58, .getfield 196, 3, 1217, 8, 33, 3), (61, .iload 7, 2, 0, 0, 0, 0), (63, .iaload, 1, 0, 0, 0, 0), (64, .ifCond .ne 5, 3, 69, 0, 0, 0), (67, .iconst 0, 1, 0, 0, 0, 0), (68, .ireturn, 1, 0, 0, 0, 0), (69, .iload 4, 2, 0, 0, 0, 0), (71, .iconst (-1), 1, 0, 0, 0, 0), (72, .if_icmp .ne 8, 3, 80, 0, 0, 0), (75, .iload 7, 2, 0, 0, 0, 0), (77, .goto 5, 3, 82, 0, 0, 0), (80, .iload 4, 2, 0, 0, 0, 0), (82, .istore 4, 2, 0, 0, 0, 0), (84, .iload 7, 2, 0, 0, 0, 0), (86, .istore 5, 2, 0, 0, 0, 0), (88, .aload_n 0, 1, 0, 0, 0, 0), (89, .dup, 1, 0, 0, 0, 0), (90, .getfield 404, 3, 1221, 8, 37, 0), (93, .aload_n 0, 1, 0, 0, 0, 0), (94, .getfield 196, 3, 1217, 8, 33, 3), (97, .iload 7, 2, 0, 0, 0, 0), (99, .iaload, 1, 0, 0, 0, 0), (100, .iadd, 1, 0, 0, 0, 0), (101, .putfield 404, 3, 1221, 8, 37, 0), (104, .iload 6, 2, 0, 0, 0, 0), (106, .aload_n 0, 1, 0, 0, 0, 0), (107, .getfield 199, 3, 1218, 8, 34, 3), (110, .iload 7, 2, 0, 0, 0, 0), (112, .iaload, 1, 0, 0, 0, 0), (113, .iadd, 1, 0, 0, 0, 0), (114, .istore 6, 2, 0, 0, 0, 0), (116, .iinc 7 1, 3, 0, 0, 0, 0), (119, .goto (-86), 3, 33, 0, 0, 0), (122, .aload_n 0, 1, 0, 0, 0, 0), (123, .iload_n 2, 1, 0, 0, 0, 0), (124, .iload 4, 2, 0, 0, 0, 0), (126, .iload 5, 2, 0, 0, 0, 0), (128, .invokevirtual 407, 3, 1724, 224, 3, 0), (131, .aload_n 0, 1, 0, 0, 0, 0), (132, .getfield 404, 3, 1221, 8, 37, 0), (135, .aload_n 0, 1, 0, 0, 0, 0), (136, .iload_n 1, 1, 0, 0, 0, 0), (137, .iconst 0, 1, 0, 0, 0, 0), (138, .invokevirtual 237, 3, 1419, 155, 2, 0), (141, .if_icmp .lt 44, 3, 185, 0, 0, 0), (144, .aload_n 0, 1, 0, 0, 0, 0), (145, .getfield 404, 3, 1221, 8, 37, 0), (148, .aload_n 0, 1, 0, 0, 0, 0), (149, .getfield 196, 3, 1217, 8, 33, 3), (152, .aload_n 0, 1, 0, 0, 0, 0), (153, .getfield 401, 3, 1220, 8, 36, 0), (156, .iaload, 1, 0, 0, 0, 0), (157, .isub, 1, 0, 0, 0, 0), (158, .aload_n 0, 1, 0, 0, 0, 0), (159, .iload_n 1, 1, 0, 0, 0, 0), (160, .iconst 0, 1, 0, 0, 0, 0), (161, .invokevirtual 237, 3, 1419, 155, 2, 0), (164, .if_icmp .ge 21, 3, 185, 0, 0, 0), (167, .aload_n 0, 1, 0, 0, 0, 0), (168, .iload_n 1, 1, 0, 0, 0, 0), (169, .aload_n 0, 1, 0, 0, 0, 0), (170, .getfield 404, 3, 1221, 8, 37, 0), (173, .iload 6, 2, 0, 0, 0, 0), (175, .invokevirtual 331, 3, 1579, 190, 3, 0), (178, .ifCond .eq 7, 3, 185, 0, 0, 0), (181, .iconst 1, 1, 0, 0, 0, 0), (182, .goto 4, 3, 186, 0, 0, 0), (185, .iconst 0, 1, 0, 0, 0, 0), (186, .ireturn, 1, 0, 0, 0, 0)]
def T227 : List CE := [(0, .aload_n 0, 1, 0, 0, 0, 0), (1, .iconst 0, 1, 0, 0, 0, 0), (2, .putfield 1, 3, 1184, 8, 0, 0), (5, .aload_n 0, 1, 0, 0, 0, 0), (6, .iload_n 1, 1, 0, 0, 0, 0), (7, .invokevirtual 248, 3, 1436, 153, 1, 0), (10, .ifCond .eq 43, 3, 53, 0, 0, 0), (13, .aload_n 0, 1, 0, 0, 0, 0), (14, .iload_n 2, 1, 0, 0, 0, 0), (15, .invokevirtual 220, 3, 1445, 152, 1, 0), (18, .ifCond .eq 35, 3, 53, 0, 0, 0), (21, .iload_n 3, 1, 0, 0, 0, 0), (22, .i2l, 1, 0, 0, 0, 0), (23, .lconst 0, 1, 0, 0, 0, 0), (24, .ldc2_w 246, 3, 1431, 2, 0, 0), (27, .invokestatic 44, 3, 1318, 129, 3, 1), (30, .ifCond .eq 23, 3, 53, 0, 0, 0), (33, .aload_n 0, 1, 0, 0, 0, 0), (34, .getfield 161, 3, 1199, 8, 15, 3), (37, .bipush 43, 2, 0, 0, 0, 0), (39, .iload_n 1, 1, 0, 0, 0, 0), (40, .iadd, 1, 0, 0, 0, 0), (41, .iaload, 1, 0, 0, 0, 0), (42, .ifCond .gt 11, 3, 53, 0, 0, 0), (45, .aload_n 0, 1, 0, 0, 0, 0), (46, .iload_n 1, 1, 0, 0, 0, 0), (47, .invokevirtual 322, 3, 1559, 159, 1, 0), (50, .ifCond .eq 5, 3, 55, 0, 0, 0), (53, .iconst (-1), 1, 0, 0, 0, 0), (54, .ireturn, 1, 0, 0, 0, 0), (55, .iconst 0, 1, 0, 0, 0, 0), (56, .istore 4, 2, 0, 0, 0, 0), (58, .iload 4, 2, 0, 0, 0, 0), (60, .aload_n 0, 1, 0, 0, 0, 0), (61, .getfield 158, 3, 1195, 8, 11, 3), (64, .bipush 28, 2, 0, 0, 0, 0), (66, .iload_n 2, 1, 0, 0, 0, 0), (67, .iadd, 1, 0, 0, 0, 0), (68, .iaload, 1, 0, 0, 0, 0), (69, .if_icmp .ge 40, 3, 109, 0, 0, 0), (72, .aload_n 0, 1, 0, 0, 0, 0), (73, .iload_n 2, 1, 0, 0, 0, 0), (74, .iload 4, 2, 0, 0, 0, 0), (76, .iload 4, 2, 0, 0, 0, 0), (78, .invokevirtual 253, 3, 1449, 158, 3, 0), (81, .aload_n 0, 1, 0, 0, 0, 0), (82, .getfield 196, 3, 1217, 8, 33, 3), (85, .iload 4, 2, 0, 0, 0, 0), (87, .aload_n 0, 1, 0, 0, 0, 0), (88, .getfield 223, 3, 1200, 8, 16, 0), (91, .iastore, 1, 0, 0, 0, 0), (92, .aload_n 0, 1, 0, 0, 0, 0), (93, .getfield 199, 3, 1218, 8, 34, 3), (96, .iload 4, 2, 0, 0, 0, 0), (98, .aload_n 0, 1, 0, 0, 0, 0), (99, .getfield 226, 3, 1201, 8, 17, 0), (102, .iastore, 1, 0, 0, 0, 0), (103, .iinc 4 1, 3, 0, 0, 0, 0), (106, .goto (-48), 3, 58, 0, 0, 0), (109, .iconst 0, 1, 0, 0, 0, 0), (110, .istore 4, 2, 0, 0, 0, 0), (112, .iconst 0, 1, 0, 0, 0, 0), (113, .istore 5, 2, 0, 0, 0, 0), (115, .iconst 0, 1, 0, 0, 0, 0), (116, .istore 6, 2, 0, 0, 0, 0), (118, .iconst 1, 1, 0, 0, 0, 0), (119, .istore 7, 2, 0, 0, 0, 0), (121, .iload 7, 2, 0, 0, 0, 0), (123, .iconst 1, 1, 0, 0, 0, 0), (124, .aload_n 0, 1, 0, 0, 0, 0), (125, .getfield 158, 3, 1195, 8, 11, 3), (128, .bipush 28, 2, 0, 0, 0, 0), (130, .iload_n 2, 1, 0, 0, 0, 0), (131, .iadd, 1, 0, 0, 0, 0), (132, .iaload, 1, 0, 0, 0, 0), (133, .ishl, 1, 0, 0, 0, 0), (134, .if_icmp .ge 75, 3, 209, 0, 0, 0), (137, .aload_n 0, 1, 0, 0, 0, 0), (138, .iload_n 1, 1, 0, 0, 0, 0), (139, .iload_n 2, 1, 0, 0, 0, 0), (140, .iload 7, 2, 0, 0, 0, 0), (142, .invokevirtual 410, 3, 1720, 226, 3, 0), (145, .ifCond .ne 6, 3, 151, 0, 0, 0), (148, .goto 55, 3, 203, 0, 0, 0), (151, .iload 4, 2, 0, 0, 0, 0), (153, .ifCond .eq 34, 3, 187, 0, 0, 0), (156, .aload_n 0, 1, 0, 0, 0, 0), (157, .getfield 398, 3, 1219, 8, 35, 0), (160, .iload 5, 2, 0, 0, 0, 0), (162, .if_icmp .lt 25, 3, 187, 0, 0, 0), (165, .aload_n 0, 1, 0, 0, 0, 0), (166, .getfield 398, 3, 1219, 8, 35, 0), (169, .iload 5, 2, 0, 0, 0, 0), (171, .if_icmp .ne 32, 3, 203, 0, 0, 0), (174, .iload 7, 2, 0, 0, 0, 0), (176, .invokestatic 413, 3, 1728, 225, 1, 1), (179, .iload 4, 2, 0, 0, 0, 0), (181, .invokestatic 413, 3, 1728, 225, 1, 1), (184, .if_icmp .ge 19, 3, 203, 0, 0, 0), (187, .iload 7, 2, 0, 0, 0, 0), (189, .istore 4, 2, 0, 0, 0, 0), (191, .aload_n 0, 1, 0, 0, 0, 0), (192, .getfield 398, 3, 1219, 8, 35, 0), (195, .istore 5, 2, 0, 0, 0, 0), (197, .aload_n 0, 1, 0, 0, 0, 0), (198, .getfield 404, 3, 1221, 8, 37, 0), (201, .istore 6, 2, 0, 0, 0, 0), (203, .iinc 7 1, 3, 0, 0, 0, 0), (206, .goto (-85), 3, 121, 0, 0, 0), (209, .iload 4, 2, 0, 0, 0, 0), (211, .ifCond .ne 8, 3, 219, 0, 0, 0), (214, .bipush (-2), 2, 0, 0, 0, 0), (216, .goto 24, 3, 240, 0, 0, 0), (219, .iload_n 3, 1, 0, 0, 0, 0), (220, .ifCond .ne 8, 3, 228, 0, 0, 0), (223, .iload 5, 2, 0, 0, 0, 0), (225, .goto 15, 3, 240, 0, 0, 0), (228, .iload_n 3, 1, 0, 0, 0, 0), (229, .iconst 1, 1, 0, 0, 0, 0), (230, .if_icmp .ne 8, 3, 238, 0, 0, 0), (233, .iload 4, 2, 0, 0, 0, 0), (235, .goto 5, 3, 240, 0, 0, 0), (238, .iload 6, 2, 0, 0, 0, 0), (240, .ireturn, 1, 0, 0, 0, 0)]
def T228 : List CE := [(0, .aload_n 0, 1, 0, 0, 0, 0), (1, .getfield 161, 3, 1199, 8, 15, 3), (4, .bipush 43, 2, 0, 0, 0, 0), (6, .iload_n 1, 1, 0, 0, 0, 0), (7, .iadd, 1, 0, 0, 0, 0), (8, .iaload, 1, 0, 0, 0, 0), (9, .ifCond .ne 7, 3, 16, 0, 0, 0), (12, .iconst 1, 1, 0, 0, 0, 0), (13, .goto 4, 3, 17, 0, 0, 0), (16, .iconst 0, 1, 0, 0, 0, 0), (17, .ireturn, 1, 0, 0, 0, 0)]
def T229 : List CE := [(0, .iconst (-1), 1, 0, 0, 0, 0), (1, .istore_n 1, 1, 0, 0, 0, 0), (2, .iconst 0, 1, 0, 0, 0, 0), (3, .istore_n 2, 1, 0, 0, 0, 0), (4, .iload_n 2, 1, 0, 0, 0, 0), (5, .aload_n 0, 1, 0, 0, 0, 0), (6, .getfield 158, 3, 1195, 8, 11, 3), (9, .iconst 2, 1, 0, 0, 0, 0), (10, .iaload, 1, 0, 0, 0, 0), (11, .if_icmp .ge 48, 3, 59, 0, 0, 0), (14, .aload_n 0, 1, 0, 0, 0, 0), (15, .iload_n 2, 1, 0, 0, 0, 0), (16, .invokevirtual 416, 3, 1743, 228, 1, 0), (19, .ifCond .eq 34, 3, 53, 0, 0, 0), (22, .aload_n 0, 1, 0, 0, 0, 0), (23, .getfield 205, 3, 1223, 8, 39, 3), (26, .iload_n 2, 1, 0, 0, 0, 0), (27, .baload, 1, 0, 0, 0, 0), (28, .ifCond .ne 25, 3, 53, 0, 0, 0), (31, .iload_n 1, 1, 0, 0, 0, 0), (32, .iconst (-1), 1, 0, 0, 0, 0), (33, .if_icmp .eq 18, 3, 51, 0, 0, 0), (36, .aload_n 0, 1, 0, 0, 0, 0), (37, .iload_n 2, 1, 0, 0, 0, 0), (38, .iconst 3, 1, 0, 0, 0, 0), (39, .invokevirtual 237, 3, 1419, 155, 2, 0), (42, .aload_n 0, 1, 0, 0, 0, 0), (43, .iload_n 1, 1, 0, 0, 0, 0), (44, .iconst 3, 1, 0, 0, 0, 0), (45, .invokevirtual 237, 3, 1419, 155, 2, 0), (48, .if_icmp .ge 5, 3, 53, 0, 0, 0), (51, .iload_n 2, 1, 0, 0, 0, 0), (52, .istore_n 1, 1, 0, 0, 0, 0), (53, .iinc 2 1, 3, 0, 0, 0, 0), (56, .goto (-52), 3, 4, 0, 0, 0), (59, .iload_n 1, 1, 0, 0, 0, 0), (60, .ireturn, 1, 0, 0, 0, 0)]
def T230 : List CE := [(0, .iconst (-1), 1, 0, 0, 0, 0), (1, .istore_n 1, 1, 0, 0, 0, 0), (2, .iconst 0, 1, 0, 0, 0, 0), (3, .istore_n 2, 1, 0, 0, 0, 0), (4, .iload_n 2, 1, 0, 0, 0, 0), (5, .aload_n 0, 1, 0, 0, 0, 0), (6, .getfield 158, 3, 1195, 8, 11, 3), (9, .iconst 2, 1, 0, 0, 0, 0), (10, .iaload, 1, 0, 0, 0, 0), (11, .if_icmp .ge 49, 3, 60, 0, 0, 0), (14, .aload_n 0, 1, 0, 0, 0, 0), (15, .getfield 205, 3, 1223, 8, 39, 3), (18, .iload_n 2, 1, 0, 0, 0, 0), (19, .baload, 1, 0, 0, 0, 0), (20, .ifCond .eq 34, 3, 54, 0, 0, 0), (23, .aload_n 0, 1, 0, 0, 0, 0), (24, .getfield 202, 3, 1222, 8, 38, 3), (27, .iload_n 2, 1, 0, 0, 0, 0), (28, .baload, 1, 0, 0, 0, 0), (29, .ifCond .ne 25, 3, 54, 0, 0, 0), (32, .iload_n 1, 1, 0, 0, 0, 0), (33, .iconst (-1), 1, 0, 0, 0, 0), (34, .if_icmp .eq 18, 3, 52, 0, 0, 0), (37, .aload_n 0, 1, 0, 0, 0, 0), (38, .iload_n 2, 1, 0, 0, 0, 0), (39, .iconst 4, 1, 0, 0, 0, 0), (40, .invokevirtual 237, 3, 1419, 155, 2, 0), (43, .aload_n 0, 1, 0, 0, 0, 0), (44, .iload_n 1, 1, 0, 0, 0, 0), (45, .iconst 4, 1, 0, 0, 0, 0), (46, .invokevirtual 237, 3, 1419, 155, 2, 0), (49, .if_icmp .lt 5, 3, 54, 0, 0, 0), (52, .iload_n 2, 1, 0, 0, 0, 0), (53, .istore_n 1, 1, 0, 0, 0, 0), (54, .iinc 2 1, 3, 0, 0, 0, 0), (57, .goto (-53), 3, 4, 0, 0, 0), (60, .iload_n 1, 1, 0, 0, 0, 0), (61, .ireturn, 1, 0, 0, 0, 0)]
def T231 : List CE := [(0, .iconst 0, 1, 0, 0, 0, 0), (1, .istore_n 1, 1, 0, 0, 0, 0), (2, .iload_n 1, 1, 0, 0, 0, 0), (3, .bipush 8, 2, 0, 0, 0, 0), (5, .if_icmp .ge 23, 3, 28, 0, 0, 0), (8, .aload_n 0, 1, 0, 0, 0, 0), (9, .getfield 202, 3, 1222, 8, 38, 3), (12, .iload_n 1, 1, 0, 0, 0, 0), (13, .iconst 0, 1, 0, 0, 0, 0), (14, .bastore, 1, 0, 0, 0, 0), (15, .aload_n 0, 1, 0, 0, 0, 0), (16, .getfield 205, 3, 1223, 8, 39, 3), (19, .iload_n 1, 1, 0, 0, 0, 0), (20, .iconst 0, 1, 0, 0, 0, 0), (21, .bastore, 1, 0, 0, 0, 0), (22, .iinc 1 1, 3, 0, 0, 0, 0), (25, .goto (-23), 3, 2, 0, 0, 0), (28, .aload_n 0, 1, 0, 0, 0, 0), (29, .iconst 0, 1, 0, 0, 0, 0), (30, .putfield 419, 3, 1226, 8, 42, 0), (33, .aload_n 0, 1, 0, 0, 0, 0), (34, .getfield 161, 3, 1199, 8, 15, 3), (37, .iconst 0, 1, 0, 0, 0, 0), (38, .iaload, 1, 0, 0, 0, 0), (39, .iconst 1, 1, 0, 0, 0, 0), (40, .isub, 1, 0, 0, 0, 0), (41, .istore_n 1, 1, 0, 0, 0, 0), (42, .aload_n 0, 1, 0, 0, 0, 0), (43, .invokevirtual 422, 3, 1739, 229, 0, 0), (46, .istore_n 2, 1, 0, 0, 0, 0), (47, .iload_n 2, 1, 0, 0, 0, 0), (48, .iconst (-1), 1, 0, 0, 0, 0), (49, .if_icmp .eq 68, 3, 117, 0, 0, 0), (52, .aload_n 0, 1, 0, 0, 0, 0), (53, .getfield 205, 3, 1223, 8, 39, 3), (56, .iload_n 2, 1, 0, 0, 0, 0), (57, .iconst 1, 1, 0, 0, 0, 0), (58, .bastore, 1, 0, 0, 0, 0), (59, .iload_n 1, 1, 0, 0, 0, 0), (60, .aload_n 0, 1, 0, 0, 0, 0), (61, .iload_n 2, 1, 0, 0, 0, 0), (62, .iconst 4, 1, 0, 0, 0, 0), (63, .invokevirtual 237, 3, 1419, 155, 2, 0), (66, .iadd, 1, 0, 0, 0, 0), (67, .istore_n 1, 1, 0, 0, 0, 0), (68, .iload_n 1, 1, 0, 0, 0, 0), (69, .aload_n 0, 1, 0, 0, 0, 0), (70, .iload_n 2, 1, 0, 0, 0, 0), (71, .iconst 3, 1, 0, 0, 0, 0), (72, .invokevirtual 237, 3, 1419, 155, 2, 0), (75, .if_icmp .le 34, 3, 109, 0, 0, 0), (78, .aload_n 0, 1, 0, 0, 0, 0), (79, .invokevirtual 425, 3, 1747, 230, 0, 0), (82, .istore_n 3, 1, 0, 0, 0, 0), (83, .aload_n 0, 1, 0, 0, 0, 0), (84, .getfield 202, 3, 1222, 8, 38, 3), (87, .iload_n 3, 1, 0, 0, 0, 0), (88, .iconst 1, 1, 0, 0, 0, 0), (89, .bastore, 1, 0, 0, 0, 0), (90, .aload_n 0, 1, 0, 0, 0, 0), (91, .dup, 1, 0, 0, 0, 0), (92, .getfield 419, 3, 1226, 8, 42, 0), (95, .iconst 1, 1, 0, 0, 0, 0), (96, .iadd, 1, 0, 0, 0, 0), (97, .putfield 419, 3, 1226, 8, 42, 0), (100, .iload_n 1, 1, 0, 0, 0, 0), (101, .aload_n 0, 1, 0, 0, 0, 0), (102, .iload_n 3, 1, 0, 0, 0, 0), (103, .iconst 4, 1, 0, 0, 0, 0), (104, .invokevirtual 237, 3, 1419, 155, 2, 0), (107, .isub, 1, 0, 0, 0, 0), (108, .istore_n 1, 1, 0, 0, 0, 0), (109, .aload_n 0, 1, 0, 0, 0, 0), (110, .invokevirtual 422, 3, 1739, 229, 0, 0), (113, .istore_n 2, 1, 0, 0, 0, 0), (114, .goto (-67), 3, 47, 0, 0, 0), (117, .aload_n 0, 1, 0, 0, 0, 0), (118, .iconst 0, 1, 0, 0, 0, 0), (119, .putfield 428, 3, 1225, 8, 41, 0), (122, .iconst 0, 1, 0, 0, 0, 0), (123, .istore_n 2, 1, 0, 0, 0, 0), (124, .iload_n 2, 1, 0, 0, 0, 0), (125, .bipush 8, 2, 0, 0, 0, 0), (127, .if_icmp .ge 16, 3, 143, 0, 0, 0), (130, .aload_n 0, 1, 0, 0, 0, 0), (131, .getfield 205, 3, 1223, 8, 39, 3), (134, .iload_n 2, 1, 0, 0, 0, 0), (135, .iconst 0, 1, 0, 0, 0, 0), (136, .bastore, 1, 0, 0, 0, 0), (137, .iinc 2 1, 3, 0, 0, 0, 0), (140, .goto (-16), 3, 124, 0, 0, 0), (143, .aload_n 0, 1, 0, 0, 0, 0), (144, .invokevirtual 422, 3, 1739, 229, 0, 0), (147, .istore_n 2, 1, 0, 0, 0, 0), (148, .iload_n 2, 1, 0, 0, 0, 0), (149, .iconst (-1), 1, 0, 0, 0, 0), (150, .if_icmp .eq 47, 3, 197, 0, 0, 0), (153, .aload_n 0, 1, 0, 0, 0, 0), (154, .getfield 205, 3, 1223, 8, 39, 3), (157, .iload_n 2, 1, 0, 0, 0, 0), (158, .iconst 1, 1, 0, 0, 0, 0), (159, .bastore, 1, 0, 0, 0, 0), (160, .aload_n 0, 1, 0, 0, 0, 0), (161, .getfield 202, 3, 1222, 8, 38, 3), (164, .iload_n 2, 1, 0, 0, 0, 0), (165, .baload, 1, 0, 0, 0, 0), (166, .ifCond .ne 23, 3, 189, 0, 0, 0), (169, .aload_n 0, 1, 0, 0, 0, 0), (170, .getfield 208, 3, 1224, 8, 40, 3), (173, .aload_n 0, 1, 0, 0, 0, 0), (174, .getfield 428, 3, 1225, 8, 41, 0), (177, .iload_n 2, 1, 0, 0, 0, 0), (178, .iastore, 1, 0, 0, 0, 0), (179, .aload_n 0, 1, 0, 0, 0, 0), (180, .dup, 1, 0, 0, 0, 0), (181, .getfield 428, 3, 1225, 8, 41, 0), (184, .iconst 1, 1, 0, 0, 0, 0), (185, .iadd, 1, 0, 0, 0, 0), (186, .putfield 428, 3, 1225, 8, 41, 0), (189, .aload_n 0, 1, 0, 0, 0, 0), (190, .invokevirtual 422, 3, 1739, 229, 0, 0), (193, .istore_n 2, 1, 0, 0, 0, 0), (194, .goto (-46), 3, 148, 0, 0, 0), (197, .iconst 0, 1, 0, 0, 0, 0), (198, .istore_n 2, 1, 0, 0, 0, 0), (199, .iload_n 2, 1, 0, 0, 0, 0), (200, .aload_n 0, 1, 0, 0, 0, 0), (201, .getfield 158, 3, 1195, 8, 11, 3), (204, .iconst 2, 1, 0, 0, 0, 0), (205, .iaload, 1, 0, 0, 0, 0), (206, .if_icmp .ge 38, 3, 244, 0, 0, 0), (209, .aload_n 0, 1, 0, 0, 0, 0), (210, .getfield 202, 3, 1222, 8, 38, 3), (213, .iload_n 2, 1, 0, 0, 0, 0), (214, .baload, 1, 0, 0, 0, 0), (215, .ifCond .eq 23, 3, 238, 0, 0, 0), (218, .aload_n 0, 1, 0, 0, 0, 0), (219, .getfield 208, 3, 1224, 8, 40, 3), (222, .aload_n 0, 1, 0, 0, 0, 0), (223, .getfield 428, 3, 1225, 8, 41, 0), (226, .iload_n 2, 1, 0, 0, 0, 0), (227, .iastore, 1, 0, 0, 0, 0), (228, .aload_n 0, 1, 0, 0, 0, 0), (229, .dup, 1, 0, 0, 0, 0), (230, .getfield 428, 3, 1225, 8, 41, 0), (233, .iconst 1, 1, 0, 0, 0, 0), (234, .iadd, 1, 0, 0, 0, 0), (235, .putfield 428, 3, 1225, 8, 41, 0), (238, .iinc 2 1, 3, 0, 0, 0, 0), (241, .goto (-42), 3, 199, 0, 0, 0), (244, .return_, 1, 0, 0, 0, 0)]
def T232 : List CE := [(0, .aload_n 0, 1, 0, 0, 0, 0), (1, .iconst 0, 1, 0, 0, 0, 0), (2, .putfield 1, 3, 1184, 8, 0, 0), (5, .aload_n 0, 1, 0, 0, 0, 0), (6, .invokevirtual 431, 3, 1735, 231, 0, 0), (9, .aload_n 0, 1, 0, 0, 0, 0), (10, .getfield 419, 3, 1226, 8, 42, 0), (13, .ireturn, 1, 0, 0, 0, 0)]
def T233 : List CE := [(0, .aload_n 0, 1, 0, 0, 0, 0), (1, .iconst 0, 1, 0, 0, 0, 0), (2, .putfield 1, 3, 1184, 8, 0, 0), (5, .aload_n 0, 1, 0, 0, 0, 0), (6, .invokevirtual 431, 3, 1735, 231, 0, 0), (9, .iload_n 1, 1, 0, 0, 0, 0), (10, .iconst (-1), 1, 0, 0, 0, 0), (11, .if_icmp .ne 8, 3, 19, 0, 0, 0), (14, .aload_n 0, 1, 0, 0, 0, 0), (15, .getfield 428, 3, 1225, 8, 41, 0), (18, .ireturn, 1, 0, 0, 0, 0), (19, .iload_n 1, 1, 0, 0, 0, 0), (20, .i2l, 1, 0, 0, 0, 0), (21, .lconst 0, 1, 0, 0, 0, 0), (22, .aload_n 0, 1, 0, 0, 0, 0), (23, .getfield 428, 3, 1225, 8, 41, 0), (26, .iconst 1, 1, 0, 0, 0, 0), (27, .isub, 1, 0, 0, 0, 0), (28, .i2l, 1, 0, 0, 0, 0), (29, .invokestatic 44, 3, 1318, 129, 3, 1), (32, .ifCond .eq 12, 3, 44, 0, 0, 0), (35, .aload_n 0, 1, 0, 0, 0, 0), (36, .getfield 208, 3, 1224, 8, 40, 3), (39, .iload_n 1, 1, 0, 0, 0, 0), (40, .iaload, 1, 0, 0, 0, 0), (41, .goto 5, 3, 46, 0, 0, 0), (44, .bipush (-2), 2, 0, 0, 0, 0), (46, .ireturn, 1, 0, 0, 0, 0)]
def T234 : List CE := [(0, .aload_n 0, 1, 0, 0, 0, 0), (1, .getfield 161, 3, 1199, 8, 15, 3), (4, .iconst 0, 1, 0, 0, 0, 0), (5, .iaload, 1, 0, 0, 0, 0), (6, .iconst 1, 1, 0, 0, 0, 0), (7, .isub, 1, 0, 0, 0, 0), (8, .istore_n 2, 1, 0, 0, 0, 0), (9, .iconst 0, 1, 0, 0, 0, 0), (10, .istore_n 3, 1, 0, 0, 0, 0), (11, .iload_n 3, 1, 0, 0, 0, 0), (12, .aload_n 0, 1, 0, 0, 0, 0), (13, .getfield 428, 3, 1225, 8, 41, 0), (16, .if_icmp .ge 35, 3, 51, 0, 0, 0), (19, .iload_n 2, 1, 0, 0, 0, 0), (20, .aload_n 0, 1, 0, 0, 0, 0), (21, .aload_n 0, 1, 0, 0, 0, 0), (22, .getfield 208, 3, 1224, 8, 40, 3), (25, .iload_n 3, 1, 0, 0, 0, 0), (26, .iaload, 1, 0, 0, 0, 0), (27, .iconst 4, 1, 0, 0, 0, 0), (28, .invokevirtual 237, 3, 1419, 155, 2, 0), (31, .iadd, 1, 0, 0, 0, 0), (32, .istore_n 2, 1, 0, 0, 0, 0), (33, .aload_n 0, 1, 0, 0, 0, 0), (34, .getfield 208, 3, 1224, 8, 40, 3), (37, .iload_n 3, 1, 0, 0, 0, 0), (38, .iaload, 1, 0, 0, 0, 0), (39, .iload_n 1, 1, 0, 0, 0, 0), (40, .if_icmp .ne 5, 3, 45, 0, 0, 0), (43, .iload_n 2, 1, 0, 0, 0, 0), (44, .ireturn, 1, 0, 0, 0, 0), (45, .iinc 3 1, 3, 0, 0, 0, 0), (48, .goto (-37), 3, 11, 0, 0, 0), (51, .bipush (-2), 2, 0, 0, 0, 0), (53, .ireturn, 1, 0, 0, 0, 0)]
def T235 : List CE := [(0, .aload_n 0, 1, 0, 0, 0, 0), (1, .iconst 0, 1, 0, 0, 0, 0), (2, .putfield 1, 3, 1184, 8, 0, 0), (5, .aload_n 0, 1, 0, 0, 0, 0), (6, .iload_n 1, 1, 0, 0, 0, 0), (7, .invokevirtual 248, 3, 1436, 153, 1, 0), (10, .ifCond .ne 5, 3, 15, 0, 0, 0), (13, .iconst (-1), 1, 0, 0, 0, 0), (14, .ireturn, 1, 0, 0, 0, 0), (15, .aload_n 0, 1, 0, 0, 0, 0), (16, .invokevirtual 431, 3, 1735, 231, 0, 0), (19, .aload_n 0, 1, 0, 0, 0, 0), (20, .iload_n 1, 1, 0, 0, 0, 0), (21, .invokevirtual 434, 3, 1759, 234, 1, 0), (24, .ireturn, 1, 0, 0, 0, 0)]
def T236 : List CE := [(0, .aload_n 0, 1, 0, 0, 0, 0), (1, .iconst 0, 1, 0, 0, 0, 0), (2, .putfield 1, 3, 1184, 8, 0, 0), (5, .iload_n 1, 1, 0, 0, 0, 0), (6, .i2l, 1, 0, 0, 0, 0), (7, .lconst 0, 1, 0, 0, 0, 0), (8, .lconst 1, 1, 0, 0, 0, 0), (9, .invokestatic 44, 3, 1318, 129, 3, 1), (12, .ifCond .ne 5, 3, 17, 0, 0, 0), (15, .iconst (-1), 1, 0, 0, 0, 0), (16, .ireturn, 1, 0, 0, 0, 0), (17, .aload_n 0, 1, 0, 0, 0, 0), (18, .invokevirtual 431, 3, 1735, 231, 0, 0), (21, .iconst 0, 1, 0, 0, 0, 0), (22, .istore_n 2, 1, 0, 0, 0, 0), (23, .iconst 0, 1, 0, 0, 0, 0), (24, .istore_n 3, 1, 0, 0, 0, 0), (25, .iload_n 3, 1, 0, 0, 0, 0), (26, .aload_n 0, 1, 0, 0, 0, 0), (27, .getfield 158, 3, 1195, 8, 11, 3), (30, .iconst 2, 1, 0, 0, 0, 0), (31, .iaload, 1, 0, 0, 0, 0), (32, .if_icmp .ge 59, 3, 91, 0, 0, 0), (35, .iload_n 1, 1, 0, 0, 0, 0), (36, .ifCond .eq 11, 3, 47, 0, 0, 0), (39, .aload_n 0, 1, 0, 0, 0, 0), (40, .iload_n 3, 1, 0, 0, 0, 0), (41, .invokevirtual 416, 3, 1743, 228, 1, 0), (44, .ifCond .ne 11, 3, 55, 0, 0, 0), (47, .aload_n 0, 1, 0, 0, 0, 0), (48, .iload_n 3, 1, 0, 0, 0, 0), (49, .invokevirtual 240, 3, 1415, 160, 1, 0), (52, .goto 19, 3, 71, 0, 0, 0), (55, .iconst 0, 1, 0, 0, 0, 0), (56, .aload_n 0, 1, 0, 0, 0, 0), (57, .iload_n 3, 1, 0, 0, 0, 0), (58, .invokevirtual 434, 3, 1759, 234, 1, 0), (61, .aload_n 0, 1, 0, 0, 0, 0), (62, .iload_n 3, 1, 0, 0, 0, 0), (63, .iconst 3, 1, 0, 0, 0, 0), (64, .invokevirtual 237, 3, 1419, 155, 2, 0), (67, .isub, 1, 0, 0, 0, 0), (68, .invokestatic 277, 3, 1507, 0, 2, 10), (71, .istore 4, 2, 0, 0, 0, 0), (73, .iload_n 2, 1, 0, 0, 0, 0), (74, .iload 4, 2, 0, 0, 0, 0), (76, .aload_n 0, 1, 0, 0, 0, 0), (77, .iload_n 3, 1, 0, 0, 0, 0), (78, .iconst 5, 1, 0, 0, 0, 0), (79, .invokevirtual 237, 3, 1419, 155, 2, 0), (82, .imul, 1, 0, 0, 0, 0), (83, .iadd, 1, 0, 0, 0, 0), (84, .istore_n 2, 1, 0, 0, 0, 0), (85, .iinc 3 1, 3, 0, 0, 0, 0), (88, .goto (-63), 3, 25, 0, 0, 0), (91, .iload_n 2, 1, 0, 0, 0, 0), (92, .ireturn, 1, 0, 0, 0, 0)]
def T237 : List CE := [(0, .iload_n 0, 1, 0, 0, 0, 0), (1, .ifCond .gt 14, 3, 15, 0, 0, 0), (4, .iload_n 0, 1, 0, 0, 0, 0), (5, .ifCond .ne 8, 3, 13, 0, 0, 0), (8, .bipush 32, 2, 0, 0, 0, 0), (10, .goto 4, 3, 14, 0, 0, 0), (13, .iconst 0, 1, 0, 0, 0, 0), (14, .ireturn, 1, 0, 0, 0, 0), (15, .bipush 31, 2, 0, 0, 0, 0), (17, .istore_n 1, 1, 0, 0, 0, 0), (18, .iload_n 0, 1, 0, 0, 0, 0), (19, .ldc_w 264, 3, 1038, 65536, 0, 0), (22, .if_icmp .lt 11, 3, 33, 0, 0, 0), (25, .iinc 1 (-16), 3, 0, 0, 0, 0), (28, .iload_n 0, 1, 0, 0, 0, 0), (29, .bipush 16, 2, 0, 0, 0, 0), (31, .iushr, 1, 0, 0, 0, 0), (32, .istore_n 0, 1, 0, 0, 0, 0), (33, .iload_n 0, 1, 0, 0, 0, 0), (34, .sipush 256, 3, 0, 0, 0, 0), (37, .if_icmp .lt 11, 3, 48, 0, 0, 0), (40, .iinc 1 (-8), 3, 0, 0, 0, 0), (43, .iload_n 0, 1, 0, 0, 0, 0), (44, .bipush 8, 2, 0, 0, 0, 0), (46, .iushr, 1, 0, 0, 0, 0), (47, .istore_n 0, 1, 0, 0, 0, 0), (48, .iload_n 0, 1, 0, 0, 0, 0), (49, .bipush 16, 2, 0, 0, 0, 0), (51, .if_icmp .lt 10, 3, 61, 0, 0, 0), (54, .iinc 1 (-4), 3, 0, 0, 0, 0), (57, .iload_n 0, 1, 0, 0, 0, 0), (58, .iconst 4, 1, 0, 0, 0, 0), (59, .iushr, 1, 0, 0, 0, 0), (60, .istore_n 0, 1, 0, 0, 0, 0), (61, .iload_n 0, 1, 0, 0, 0, 0), (62, .iconst 4, 1, 0, 0, 0, 0), (63, .if_icmp .lt 10, 3, 73, 0, 0, 0), (66, .iinc 1 (-2), 3, 0, 0, 0, 0), (69, .iload_n 0, 1, 0, 0, 0, 0), (70, .iconst 2, 1, 0, 0, 0, 0), (71, .iushr, 1, 0, 0, 0, 0), (72, .istore_n 0, 1, 0, 0, 0, 0), (73, .iload_n 1, 1, 0, 0, 0, 0), (74, .iload_n 0, 1, 0, 0, 0, 0), (75, .iconst 1, 1, 0, 0, 0, 0), (76, .iushr, 1, 0, 0, 0, 0), (77, .isub, 1, 0, 0, 0, 0), (78, .ireturn, 1, 0, 0, 0, 0)]
def T238 : List CE := [(0, .iload_n 0, 1, 0, 0, 0, 0), (1, .iconst (-1), 1, 0, 0, 0, 0), (2, .ixor, 1, 0, 0, 0, 0), (3, .iload_n 0, 1, 0, 0, 0, 0), (4, .iconst 1, 1, 0, 0, 0, 0), (5, .isub, 1, 0, 0, 0, 0), (6, .iand, 1, 0, 0, 0, 0), (7, .istore_n 0, 1, 0, 0, 0, 0), (8, .iload_n 0, 1, 0, 0, 0, 0), (9, .ifCond .gt 8, 3, 17, 0, 0, 0), (12, .iload_n 0, 1, 0, 0, 0, 0), (13, .bipush 32, 2, 0, 0, 0, 0), (15, .iand, 1, 0, 0, 0, 0), (16, .ireturn, 1, 0, 0, 0, 0), (17, .iconst 1, 1, 0, 0, 0, 0), (18, .istore_n 1, 1, 0, 0, 0, 0), (19, .iload_n 0, 1, 0, 0, 0, 0), (20, .ldc_w 264, 3, 1038, 65536, 0, 0), (23, .if_icmp .le 11, 3, 34, 0, 0, 0), (26, .iinc 1 16, 3, 0, 0, 0, 0), (29, .iload_n 0, 1, 0, 0, 0, 0), (30, .bipush 16, 2, 0, 0, 0, 0), (32, .iushr, 1, 0, 0, 0, 0), (33, .istore_n 0, 1, 0, 0, 0, 0), (34, .iload_n 0, 1, 0, 0, 0, 0), (35, .sipush 256, 3, 0, 0, 0, 0), (38, .if_icmp .le 11, 3, 49, 0, 0, 0), (41, .iinc 1 8, 3, 0, 0, 0, 0), (44, .iload_n 0, 1, 0, 0, 0, 0), (45, .bipush 8, 2, 0, 0, 0, 0), (47, .iushr, 1, 0, 0, 0, 0), (48, .istore_n 0, 1, 0, 0, 0, 0), (49, .iload_n 0, 1, 0, 0, 0, 0), (50, .bipush 16, 2, 0, 0, 0, 0), (52, .if_icmp .le 10, 3, 62, 0, 0, 0), (55, .iinc 1 4, 3, 0, 0, 0, 0), (58, .iload_n 0, 1, 0, 0, 0, 0), (59, .iconst 4, 1, 0, 0, 0, 0), (60, .iushr, 1, 0, 0, 0, 0), (61, .istore_n 0, 1, 0, 0, 0, 0), (62, .iload_n 0, 1, 0, 0, 0, 0), (63, .iconst 4, 1, 0, 0, 0, 0), (64, .if_icmp .le 10, 3, 74, 0, 0, 0), (67, .iinc 1 2, 3, 0, 0, 0, 0), (70, .iload_n 0, 1, 0, 0, 0, 0), (71, .iconst 2, 1, 0, 0, 0, 0), (72, .iushr, 1, 0, 0, 0, 0), (73, .istore_n 0, 1, 0, 0, 0, 0), (74, .iload_n 1, 1, 0, 0, 0, 0), (75, .iload_n 0, 1, 0, 0, 0, 0), (76, .iconst 1, 1, 0, 0, 0, 0), (77, .iushr, 1, 0, 0, 0, 0), (78, .iadd, 1, 0, 0, 0, 0), (79, .ireturn, 1, 0, 0, 0, 0)]
def T239 : List CE := [(0, .iload_n 0, 1, 0, 0, 0, 0), (1, .iload_n 0, 1, 0, 0, 0, 0), (2, .iconst 1, 1, 0, 0, 0, 0), (3, .iushr, 1, 0, 0, 0, 0), (4, .ldc_w 265, 3, 977, 1431655765, 0, 0), (7, .iand, 1, 0, 0, 0, 0), (8, .isub, 1, 0, 0, 0, 0), (9, .istore_n 0, 1, 0, 0, 0, 0), (10, .iload_n 0, 1, 0, 0, 0, 0), (11, .ldc_w 266, 3, 978, 858993459, 0, 0), (14, .iand, 1, 0, 0, 0, 0), (15, .iload_n 0, 1, 0, 0, 0, 0), (16, .iconst 2, 1, 0, 0, 0, 0), (17, .iushr, 1, 0, 0, 0, 0), (18, .ldc_w 266, 3, 978, 858993459, 0, 0), (21, .iand, 1, 0, 0, 0, 0), (22, .iadd, 1, 0, 0, 0, 0), (23, .istore_n 0, 1, 0, 0, 0, 0), (24, .iload_n 0, 1, 0, 0, 0, 0), (25, .iload_n 0, 1, 0, 0, 0, 0), (26, .iconst 4, 1, 0, 0, 0, 0), (27, .iushr, 1, 0, 0, 0, 0), (28, .iadd, 1, 0, 0, 0, 0), (29, .ldc_w 267, 3, 979, 252645135, 0, 0), (32, .iand, 1, 0, 0, 0, 0), (33, .istore_n 0, 1, 0, 0, 0, 0), (34, .iload_n 0, 1, 0, 0, 0, 0), (35, .iload_n 0, 1, 0, 0, 0, 0), (36, .bipush 8, 2, 0, 0, 0, 0), (38, .iushr, 1, 0, 0, 0, 0), (39, .iadd, 1, 0, 0, 0, 0), (40, .istore_n 0, 1, 0, 0, 0, 0), (41, .iload_n 0, 1, 0, 0, 0, 0), (42, .iload_n 0, 1, 0, 0, 0, 0), (43, .bipush 16, 2, 0, 0, 0, 0), (45, .iushr, 1, 0, 0, 0, 0), (46, .iadd, 1, 0, 0, 0, 0), (47, .istore_n 0, 1, 0, 0, 0, 0), (48, .iload_n 0, 1, 0, 0, 0, 0), (49, .bipush 63, 2, 0, 0, 0, 0), (51, .iand, 1, 0, 0, 0, 0), (52, .ireturn, 1, 0, 0, 0, 0)]
def T240 : List CE := [(0, .new 8, 3, 118, 7, 14, 0), (3, .dup, 1, 0, 0, 0, 0), (4, .invokespecial 18, 3, 120, 75, 0, 2), (7, .astore_n 1, 1, 0, 0, 0, 0), (8, .new 19, 3, 1175, 8, 43, 0), (11, .dup, 1, 0, 0, 0, 0), (12, .invokespecial 21, 3, 1176, 147, 0, 2), (15, .astore_n 2, 1, 0, 0, 0, 0), (16, .iconst 1, 1, 0, 0, 0, 0), (17, .newarray .long, 2, 0, 0, 0, 0), (19, .astore_n 3, 1, 0, 0, 0, 0), (20, .iconst 0, 1, 0, 0, 0, 0), (21, .istore 4, 2, 0, 0, 0, 0), (23, .iload 4, 2, 0, 0, 0, 0), (25, .aload_n 0, 1, 0, 0, 0, 0), (26, .arraylength, 1, 0, 0, 0, 0), (27, .bipush 7, 2, 0, 0, 0, 0), (29, .isub, 1, 0, 0, 0, 0), (30, .if_icmp .gt 1761, 3, 1791, 0, 0, 0), (33, .aload_n 0, 1, 0, 0, 0, 0), (34, .iload 4, 2, 0, 0, 0, 0), (36, .iaload, 1, 0, 0, 0, 0), (37, .bipush 63, 2, 0, 0, 0, 0), (39, .iand, 1, 0, 0, 0, 0), (40, .tableswitch 1745 0 40 #[180, 253, 278, 303, 371, 439, 476, 525, 574, 599, 612, 685, 758, 807, 856, 881, 906, 931, 1004, 1053, 1078, 1103, 1116, 1129, 1182, 1219, 1244, 1269, 1282, 1331, 1357, 1371, 1458, 1507, 1545, 1559, 1608, 1657, 1670, 1695, 1720], 180, 1785, 0, 0, 0), (220, .aload_n 1, 1, 0, 0, 0, 0), (221, .aload_n 0, 1, 0, 0, 0, 0), (222, .iload 4, 2, 0, 0, 0, 0), (224, .iconst 1, 1, 0, 0, 0, 0), (225, .iadd, 1, 0, 0, 0, 0), (226, .iaload, 1, 0, 0, 0, 0), (227, .aload_n 0, 1, 0, 0, 0, 0), (228, .iload 4, 2, 0, 0, 0, 0), (230, .iconst 2, 1, 0, 0, 0, 0), (231, .iadd, 1, 0, 0, 0, 0), (232, .iaload, 1, 0, 0, 0, 0), (233, .aload_n 0, 1, 0, 0, 0, 0), (234, .iload 4, 2, 0, 0, 0, 0), (236, .iconst 3, 1, 0, 0, 0, 0), (237, .iadd, 1, 0, 0, 0, 0), (238, .iaload, 1, 0, 0, 0, 0), (239, .aload_n 0, 1, 0, 0, 0, 0), (240, .iload 4, 2, 0, 0, 0, 0), (242, .iconst 4, 1, 0, 0, 0, 0), (243, .iadd, 1, 0, 0, 0, 0), (244, .iaload, 1, 0, 0, 0, 0), (245, .aload_n 0, 1, 0, 0, 0, 0), (246, .iload 4, 2, 0, 0, 0, 0), (248, .iconst 5, 1, 0, 0, 0, 0), (249, .iadd, 1, 0, 0, 0, 0), (250, .iaload, 1, 0, 0, 0, 0), (251, .invokevirtual 22, 3, 501, 76, 5, 0), (254, .aload_n 2, 1, 0, 0, 0, 0), (255, .aload_n 0, 1, 0, 0, 0, 0), (256, .iload 4, 2, 0, 0, 0, 0), (258, .iconst 1, 1, 0, 0, 0, 0), (259, .iadd, 1, 0, 0, 0, 0), (260, .iaload, 1, 0, 0, 0, 0), (261, .aload_n 0, 1, 0, 0, 0, 0), (262, .iload 4, 2, 0, 0, 0, 0), (264, .iconst 2, 1, 0, 0, 0, 0), (265, .iadd, 1, 0, 0, 0, 0), (266, .iaload, 1, 0, 0, 0, 0), (267, .aload_n 0, 1, 0, 0, 0, 0), (268, .iload 4, 2, 0, 0, 0, 0), (270, .iconst 3, 1, 0, 0, 0, 0), (271, .iadd, 1, 0, 0, 0, 0), (272, .iaload, 1, 0, 0, 0, 0), (273, .aload_n 0, 1, 0, 0, 0, 0), (274, .iload 4, 2, 0, 0, 0, 0), (276, .iconst 4, 1, 0, 0, 0, 0), (277, .iadd, 1, 0, 0, 0, 0), (278, .iaload, 1, 0, 0, 0, 0), (279, .aload_n 0, 1, 0, 0, 0, 0), (280, .iload 4, 2, 0, 0, 0, 0), (282, .iconst 5, 1, 0, 0, 0, 0), (283, .iadd, 1, 0, 0, 0, 0), (284, .iaload, 1, 0, 0, 0, 0), (285, .invokevirtual 26, 3, 1166, 130, 5, 0), (288, .if_icmp .eq 1497, 3, 1785, 0, 0, 0), (291, .iconst 0, 1, 0, 0, 0, 0), (292, .ireturn, 1, 0, 0, 0, 0), (293, .aload_n 1, 1, 0, 0, 0, 0), (294, .aload_n 0, 1, 0, 0, 0, 0), (295, .iload 4, 2, 0, 0, 0, 0), (297, .iconst 1, 1, 0, 0, 0, 0), (298, .iadd, 1, 0, 0, 0, 0), (299, .iaload, 1, 0, 0, 0, 0), (300, .invokevirtual 27, 3, 509, 77, 1, 0), (303, .aload_n 2, 1, 0, 0, 0, 0), (304, .aload_n 0, 1, 0, 0, 0, 0), (305, .iload 4, 2, 0, 0, 0, 0), (307, .iconst 1, 1, 0, 0, 0, 0), (308, .iadd, 1, 0, 0, 0, 0), (309, .iaload, 1, 0, 0, 0, 0), (310, .invokevirtual 31, 3, 1314, 148, 1, 0), (313, .if_icmp .eq 1472, 3, 1785, 0, 0, 0), (316, .iconst 0, 1, 0, 0, 0, 0), (317, .ireturn, 1, 0, 0, 0, 0), (318, .aload_n 1, 1, 0, 0, 0, 0), (319, .aload_n 0, 1, 0, 0, 0, 0), (320, .iload 4, 2, 0, 0, 0, 0), (322, .iconst 1, 1, 0, 0, 0, 0), (323, .iadd, 1, 0, 0, 0, 0), (324, .iaload, 1, 0, 0, 0, 0), (325, .invokevirtual 32, 3, 650, 78, 1, 0), (328, .aload_n 2, 1, 0, 0, 0, 0), (329, .aload_n 0, 1, 0, 0, 0, 0), (330, .iload 4, 2, 0, 0, 0, 0), (332, .iconst 1, 1, 0, 0, 0, 0), (333, .iadd, 1, 0, 0, 0, 0), (334, .iaload, 1, 0, 0, 0, 0), (335, .invokevirtual 35, 3, 1411, 161, 1, 0), (338, .if_icmp .eq 1447, 3, 1785, 0, 0, 0), (341, .iconst 0, 1, 0, 0, 0, 0), (342, .ireturn, 1, 0, 0, 0, 0), (343, .aload_n 1, 1, 0, 0, 0, 0), (344, .aload_n 0, 1, 0, 0, 0, 0), (345, .iload 4, 2, 0, 0, 0, 0), (347, .iconst 1, 1, 0, 0, 0, 0), (348, .iadd, 1, 0, 0, 0, 0), (349, .iaload, 1, 0, 0, 0, 0), (350, .aload_n 0, 1, 0, 0, 0, 0), (351, .iload 4, 2, 0, 0, 0, 0), (353, .iconst 2, 1, 0, 0, 0, 0), (354, .iadd, 1, 0, 0, 0, 0), (355, .iaload, 1, 0, 0, 0, 0), (356, .aload_n 3, 1, 0, 0, 0, 0), (357, .invokestatic 36, 3, 1086, 79, 4, 19), (360, .istore 5, 2, 0, 0, 0, 0), (362, .aload_n 2, 1, 0, 0, 0, 0), (363, .aload_n 0, 1, 0, 0, 0, 0), (364, .iload 4, 2, 0, 0, 0, 0), (366, .iconst 1, 1, 0, 0, 0, 0), (367, .iadd, 1, 0, 0, 0, 0), (368, .iaload, 1, 0, 0, 0, 0), (369, .aload_n 0, 1, 0, 0, 0, 0), (370, .iload 4, 2, 0, 0, 0, 0), (372, .iconst 2, 1, 0, 0, 0, 0), (373, .iadd, 1, 0, 0, 0, 0), (374, .iaload, 1, 0, 0, 0, 0), (375, .invokevirtual 41, 3, 1423, 162, 2, 0), (378, .istore 6, 2, 0, 0, 0, 0), (380, .aload_n 2, 1, 0, 0, 0, 0), (381, .invokevirtual 42, 3, 1162, 128, 0, 0), (384, .iload 5, 2, 0, 0, 0, 0), (386, .if_icmp .eq 5, 3, 391, 0, 0, 0), (389, .iconst 0, 1, 0, 0, 0, 0), (390, .ireturn, 1, 0, 0, 0, 0), (391, .iload 5, 2, 0, 0, 0, 0), (393, .ifCond .ne 15, 3, 408, 0, 0, 0), (396, .aload_n 3, 1, 0, 0, 0, 0), (397, .iconst 0, 1, 0, 0, 0, 0), (398, .laload, 1, 0, 0, 0, 0), (399, .iload 6, 2, 0, 0, 0, 0), (401, .i2l, 1, 0, 0, 0, 0), (402, .lcmp, 1, 0, 0, 0, 0), (403, .ifCond .eq 5, 3, 408, 0, 0, 0), (406, .iconst 0, 1, 0, 0, 0, 0), (407, .ireturn, 1, 0, 0, 0, 0), (408, .goto 1377, 3, 1785, 0, 0, 0), (411, .aload_n 1, 1, 0, 0, 0, 0), (412, .aload_n 0, 1, 0, 0, 0, 0), (413, .iload 4, 2, 0, 0, 0, 0), (415, .iconst 1, 1, 0, 0, 0, 0), (416, .iadd, 1, 0, 0, 0, 0), (417, .iaload, 1, 0, 0, 0, 0), (418, .aload_n 0, 1, 0, 0, 0, 0), (419, .iload 4, 2, 0, 0, 0, 0), (421, .iconst 2, 1, 0, 0, 0, 0), (422, .iadd, 1, 0, 0, 0, 0), (423, .iaload, 1, 0, 0, 0, 0), (424, .aload_n 3, 1, 0, 0, 0, 0), (425, .invokestatic 46, 3, 1155, 80, 4, 19), (428, .istore 5, 2, 0, 0, 0, 0), (430, .aload_n 2, 1, 0, 0, 0, 0), (431, .aload_n 0, 1, 0, 0, 0, 0), (432, .iload 4, 2, 0, 0, 0, 0), (434, .iconst 1, 1, 0, 0, 0, 0), (435, .iadd, 1, 0, 0, 0, 0), (436, .iaload, 1, 0, 0, 0, 0), (437, .aload_n 0, 1, 0, 0, 0, 0), (438, .iload 4, 2, 0, 0, 0, 0), (440, .iconst 2, 1, 0, 0, 0, 0), (441, .iadd, 1, 0, 0, 0, 0), (442, .iaload, 1, 0, 0, 0, 0), (443, .invokevirtual 48, 3, 1432, 163, 2, 0), (446, .istore 6, 2, 0, 0, 0, 0), (448, .aload_n 2, 1, 0, 0, 0, 0), (449, .invokevirtual 42, 3, 1162, 128, 0, 0), (452, .iload 5, 2, 0, 0, 0, 0), (454, .if_icmp .eq 5, 3, 459, 0, 0, 0), (457, .iconst 0, 1, 0, 0, 0, 0), (458, .ireturn, 1, 0, 0, 0, 0), (459, .iload 5, 2, 0, 0, 0, 0), (461, .ifCond .ne 15, 3, 476, 0, 0, 0), (464, .aload_n 3, 1, 0, 0, 0, 0), (465, .iconst 0, 1, 0, 0, 0, 0), (466, .laload, 1, 0, 0, 0, 0), (467, .iload 6, 2, 0, 0, 0, 0), (469, .i2l, 1, 0, 0, 0, 0), (470, .lcmp, 1, 0, 0, 0, 0), (471, .ifCond .eq 5, 3, 476, 0, 0, 0), (474, .iconst 0, 1, 0, 0, 0, 0), (475, .ireturn, 1, 0, 0, 0, 0), (476, .goto 1309, 3, 1785, 0, 0, 0), (479, .aload_n 1, 1, 0, 0, 0, 0), (480, .aload_n 0, 1, 0, 0, 0, 0), (481, .iload 4, 2, 0, 0, 0, 0), (483, .iconst 1, 1, 0, 0, 0, 0), (484, .iadd, 1, 0, 0, 0, 0), (485, .iaload, 1, 0, 0, 0, 0), (486, .aload_n 0, 1, 0, 0, 0, 0), (487, .iload 4, 2, 0, 0, 0, 0), (489, .iconst 2, 1, 0, 0, 0, 0), (490, .iadd, 1, 0, 0, 0, 0), (491, .iaload, 1, 0, 0, 0, 0), (492, .invokevirtual 49, 3, 673, 81, 2, 0), (495, .aload_n 2, 1, 0, 0, 0, 0), (496, .aload_n 0, 1, 0, 0, 0, 0), (497, .iload 4, 2, 0, 0, 0, 0), (499, .iconst 1, 1, 0, 0, 0, 0), (500, .iadd, 1, 0, 0, 0, 0), (501, .iaload, 1, 0, 0, 0, 0), (502, .aload_n 0, 1, 0, 0, 0, 0), (503, .iload 4, 2, 0, 0, 0, 0), (505, .iconst 2, 1, 0, 0, 0, 0), (506, .iadd, 1, 0, 0, 0, 0), (507, .iaload, 1, 0, 0, 0, 0), (508, .invokevirtual 52, 3, 1441, 164, 2, 0), (511, .if_icmp .eq 1274, 3, 1785, 0, 0, 0), (514, .iconst 0, 1, 0, 0, 0, 0), (515, .ireturn, 1, 0, 0, 0, 0), (516, .aload_n 1, 1, 0, 0, 0, 0), (517, .aload_n 0, 1, 0, 0, 0, 0), (518, .iload 4, 2, 0, 0, 0, 0), (520, .iconst 1, 1, 0, 0, 0, 0), (521, .iadd, 1, 0, 0, 0, 0), (522, .iaload, 1, 0, 0, 0, 0), (523, .aload_n 0, 1, 0, 0, 0, 0), (524, .iload 4, 2, 0, 0, 0, 0), (526, .iconst 2, 1, 0, 0, 0, 0), (527, .iadd, 1, 0, 0, 0, 0), (528, .iaload, 1, 0, 0, 0, 0), (529, .aload_n 0, 1, 0, 0, 0, 0), (530, .iload 4, 2, 0, 0, 0, 0), (532, .iconst 3, 1, 0, 0, 0, 0), (533, .iadd, 1, 0, 0, 0, 0), (534, .iaload, 1, 0, 0, 0, 0), (535, .invokevirtual 53, 3, 692, 82, 3, 0), (538, .aload_n 2, 1, 0, 0, 0, 0), (539, .aload_n 0, 1, 0, 0, 0, 0), (540, .iload 4, 2, 0, 0, 0, 0), (542, .iconst 1, 1, 0, 0, 0, 0), (543, .iadd, 1, 0, 0, 0, 0), (544, .iaload, 1, 0, 0, 0, 0), (545, .aload_n 0, 1, 0, 0, 0, 0), (546, .iload 4, 2, 0, 0, 0, 0), (548, .iconst 2, 1, 0, 0, 0, 0), (549, .iadd, 1, 0, 0, 0, 0), (550, .iaload, 1, 0, 0, 0, 0), (551, .aload_n 0, 1, 0, 0, 0, 0), (552, .iload 4, 2, 0, 0, 0, 0), (554, .iconst 3, 1, 0, 0, 0, 0), (555, .iadd, 1, 0, 0, 0, 0), (556, .iaload, 1, 0, 0, 0, 0), (557, .invokevirtual 57, 3, 1460, 166, 3, 0), (560, .if_icmp .eq 1225, 3, 1785, 0, 0, 0), (563, .iconst 0, 1, 0, 0, 0, 0), (564, .ireturn, 1, 0, 0, 0, 0), (565, .aload_n 1, 1, 0, 0, 0, 0), (566, .aload_n 0, 1, 0, 0, 0, 0), (567, .iload 4, 2, 0, 0, 0, 0), (569, .iconst 1, 1, 0, 0, 0, 0), (570, .iadd, 1, 0, 0, 0, 0), (571, .iaload, 1, 0, 0, 0, 0), (572, .aload_n 0, 1, 0, 0, 0, 0), (573, .iload 4, 2, 0, 0, 0, 0), (575, .iconst 2, 1, 0, 0, 0, 0), (576, .iadd, 1, 0, 0, 0, 0), (577, .iaload, 1, 0, 0, 0, 0), (578, .aload_n 0, 1, 0, 0, 0, 0), (579, .iload 4, 2, 0, 0, 0, 0), (581, .iconst 3, 1, 0, 0, 0, 0), (582, .iadd, 1, 0, 0, 0, 0), (583, .iaload, 1, 0, 0, 0, 0), (584, .invokevirtual 58, 3, 704, 83, 3, 0), (587, .aload_n 2, 1, 0, 0, 0, 0), (588, .aload_n 0, 1, 0, 0, 0, 0), (589, .iload 4, 2, 0, 0, 0, 0), (591, .iconst 1, 1, 0, 0, 0, 0), (592, .iadd, 1, 0, 0, 0, 0), (593, .iaload, 1, 0, 0, 0, 0), (594, .aload_n 0, 1, 0, 0, 0, 0), (595, .iload 4, 2, 0, 0, 0, 0), (597, .iconst 2, 1, 0, 0, 0, 0), (598, .iadd, 1, 0, 0, 0, 0), (599, .iaload, 1, 0, 0, 0, 0), (600, .aload_n 0, 1, 0, 0, 0, 0), (601, .iload 4, 2, 0, 0, 0, 0), (603, .iconst 3, 1, 0, 0, 0, 0), (604, .iadd, 1, 0, 0, 0, 0), (605, .iaload, 1, 0, 0, 0, 0), (606, .invokevirtual 61, 3, 1468, 167, 3, 0), (609, .if_icmp .eq 1176, 3, 1785, 0, 0, 0), (612, .iconst 0, 1, 0, 0, 0, 0), (613, .ireturn, 1, 0, 0, 0, 0), (614, .aload_n 1, 1, 0, 0, 0, 0), (615, .aload_n 0, 1, 0, 0, 0, 0), (616, .iload 4, 2, 0, 0, 0, 0), (618, .iconst 1, 1, 0, 0, 0, 0), (619, .iadd, 1, 0, 0, 0, 0), (620, .iaload, 1, 0, 0, 0, 0), (621, .invokevirtual 62, 3, 713, 84, 1, 0), (624, .aload_n 2, 1, 0, 0, 0, 0), (625, .aload_n 0, 1, 0, 0, 0, 0), (626, .iload 4, 2, 0, 0, 0, 0), (628, .iconst 1, 1, 0, 0, 0, 0), (629, .iadd, 1, 0, 0, 0, 0), (630, .iaload, 1, 0, 0, 0, 0), (631, .invokevirtual 65, 3, 1476, 168, 1, 0), (634, .if_icmp .eq 1151, 3, 1785, 0, 0, 0), (637, .iconst 0, 1, 0, 0, 0, 0), (638, .ireturn, 1, 0, 0, 0, 0), (639, .aload_n 1, 1, 0, 0, 0, 0), (640, .invokevirtual 66, 3, 720, 85, 0, 0), (643, .aload_n 2, 1, 0, 0, 0, 0), (644, .invokevirtual 69, 3, 1480, 169, 0, 0), (647, .if_icmp .eq 1138, 3, 1785, 0, 0, 0), (650, .iconst 0, 1, 0, 0, 0, 0), (651, .ireturn, 1, 0, 0, 0, 0), (652, .aload_n 1, 1, 0, 0, 0, 0), (653, .aload_n 0, 1, 0, 0, 0, 0), (654, .iload 4, 2, 0, 0, 0, 0), (656, .iconst 1, 1, 0, 0, 0, 0), (657, .iadd, 1, 0, 0, 0, 0), (658, .iaload, 1, 0, 0, 0, 0), (659, .aload_n 0, 1, 0, 0, 0, 0), (660, .iload 4, 2, 0, 0, 0, 0), (662, .iconst 2, 1, 0, 0, 0, 0), (663, .iadd, 1, 0, 0, 0, 0), (664, .iaload, 1, 0, 0, 0, 0), (665, .aload_n 0, 1, 0, 0, 0, 0), (666, .iload 4, 2, 0, 0, 0, 0), (668, .iconst 3, 1, 0, 0, 0, 0), (669, .iadd, 1, 0, 0, 0, 0), (670, .iaload, 1, 0, 0, 0, 0), (671, .aload_n 0, 1, 0, 0, 0, 0), (672, .iload 4, 2, 0, 0, 0, 0), (674, .iconst 4, 1, 0, 0, 0, 0), (675, .iadd, 1, 0, 0, 0, 0), (676, .iaload, 1, 0, 0, 0, 0), (677, .aload_n 0, 1, 0, 0, 0, 0), (678, .iload 4, 2, 0, 0, 0, 0), (680, .iconst 5, 1, 0, 0, 0, 0), (681, .iadd, 1, 0, 0, 0, 0), (682, .iaload, 1, 0, 0, 0, 0), (683, .invokevirtual 70, 3, 735, 86, 5, 0), (686, .aload_n 2, 1, 0, 0, 0, 0), (687, .aload_n 0, 1, 0, 0, 0, 0), (688, .iload 4, 2, 0, 0, 0, 0), (690, .iconst 1, 1, 0, 0, 0, 0), (691, .iadd, 1, 0, 0, 0, 0), (692, .iaload, 1, 0, 0, 0, 0), (693, .aload_n 0, 1, 0, 0, 0, 0), (694, .iload 4, 2, 0, 0, 0, 0), (696, .iconst 2, 1, 0, 0, 0, 0), (697, .iadd, 1, 0, 0, 0, 0), (698, .iaload, 1, 0, 0, 0, 0), (699, .aload_n 0, 1, 0, 0, 0, 0), (700, .iload 4, 2, 0, 0, 0, 0), (702, .iconst 3, 1, 0, 0, 0, 0), (703, .iadd, 1, 0, 0, 0, 0), (704, .iaload, 1, 0, 0, 0, 0), (705, .aload_n 0, 1, 0, 0, 0, 0), (706, .iload 4, 2, 0, 0, 0, 0), (708, .iconst 4, 1, 0, 0, 0, 0), (709, .iadd, 1, 0, 0, 0, 0), (710, .iaload, 1, 0, 0, 0, 0), (711, .aload_n 0, 1, 0, 0, 0, 0), (712, .iload 4, 2, 0, 0, 0, 0), (714, .iconst 5, 1, 0, 0, 0, 0), (715, .iadd, 1, 0, 0, 0, 0), (716, .iaload, 1, 0, 0, 0, 0), (717, .invokevirtual 73, 3, 1485, 180, 5, 0), (720, .if_icmp .eq 1065, 3, 1785, 0, 0, 0), (723, .iconst 0, 1, 0, 0, 0, 0), (724, .ireturn, 1, 0, 0, 0, 0), (725, .aload_n 1, 1, 0, 0, 0, 0), (726, .aload_n 0, 1, 0, 0, 0, 0), (727, .iload 4, 2, 0, 0, 0, 0), (729, .iconst 1, 1, 0, 0, 0, 0), (730, .iadd, 1, 0, 0, 0, 0), (731, .iaload, 1, 0, 0, 0, 0), (732, .aload_n 0, 1, 0, 0, 0, 0), (733, .iload 4, 2, 0, 0, 0, 0), (735, .iconst 2, 1, 0, 0, 0, 0), (736, .iadd, 1, 0, 0, 0, 0), (737, .iaload, 1, 0, 0, 0, 0), (738, .aload_n 0, 1, 0, 0, 0, 0), (739, .iload 4, 2, 0, 0, 0, 0), (741, .iconst 3, 1, 0, 0, 0, 0), (742, .iadd, 1, 0, 0, 0, 0), (743, .iaload, 1, 0, 0, 0, 0), (744, .aload_n 0, 1, 0, 0, 0, 0), (745, .iload 4, 2, 0, 0, 0, 0), (747, .iconst 4, 1, 0, 0, 0, 0), (748, .iadd, 1, 0, 0, 0, 0), (749, .iaload, 1, 0, 0, 0, 0), (750, .aload_n 0, 1, 0, 0, 0, 0), (751, .iload 4, 2, 0, 0, 0, 0), (753, .iconst 5, 1, 0, 0, 0, 0), (754, .iadd, 1, 0, 0, 0, 0), (755, .iaload, 1, 0, 0, 0, 0), (756, .invokevirtual 74, 3, 752, 87, 5, 0), (759, .aload_n 2, 1, 0, 0, 0, 0), (760, .aload_n 0, 1, 0, 0, 0, 0), (761, .iload 4, 2, 0, 0, 0, 0), (763, .iconst 1, 1, 0, 0, 0, 0), (764, .iadd, 1, 0, 0, 0, 0), (765, .iaload, 1, 0, 0, 0, 0), (766, .aload_n 0, 1, 0, 0, 0, 0), (767, .iload 4, 2, 0, 0, 0, 0), (769, .iconst 2, 1, 0, 0, 0, 0), (770, .iadd, 1, 0, 0, 0, 0), (771, .iaload, 1, 0, 0, 0, 0), (772, .aload_n 0, 1, 0, 0, 0, 0), (773, .iload 4, 2, 0, 0, 0, 0), (775, .iconst 3, 1, 0, 0, 0, 0), (776, .iadd, 1, 0, 0, 0, 0), (777, .iaload, 1, 0, 0, 0, 0), (778, .aload_n 0, 1, 0, 0, 0, 0), (779, .iload 4, 2, 0, 0, 0, 0), (781, .iconst 4, 1, 0, 0, 0, 0), (782, .iadd, 1, 0, 0, 0, 0), (783, .iaload, 1, 0, 0, 0, 0), (784, .aload_n 0, 1, 0, 0, 0, 0), (785, .iload 4, 2, 0, 0, 0, 0), (787, .iconst 5, 1, 0, 0, 0, 0), (788, .iadd, 1, 0, 0, 0, 0), (789, .iaload, 1, 0, 0, 0, 0), (790, .invokevirtual 77, 3, 1520, 183, 5, 0), (793, .if_icmp .eq 992, 3, 1785, 0, 0, 0), (796, .iconst 0, 1, 0, 0, 0, 0), (797, .ireturn, 1, 0, 0, 0, 0), (798, .aload_n 1, 1, 0, 0, 0, 0), (799, .aload_n 0, 1, 0, 0, 0, 0), (800, .iload 4, 2, 0, 0, 0, 0), (802, .iconst 1, 1, 0, 0, 0, 0), (803, .iadd, 1, 0, 0, 0, 0), (804, .iaload, 1, 0, 0, 0, 0), (805, .aload_n 0, 1, 0, 0, 0, 0), (806, .iload 4, 2, 0, 0, 0, 0), (808, .iconst 2, 1, 0, 0, 0, 0), (809, .iadd, 1, 0, 0, 0, 0), (810, .iaload, 1, 0, 0, 0, 0), (811, .aload_n 0, 1, 0, 0, 0, 0), (812, .iload 4, 2, 0, 0, 0, 0), (814, .iconst 3, 1, 0, 0, 0, 0), (815, .iadd, 1, 0, 0, 0, 0), (816, .iaload, 1, 0, 0, 0, 0), (817, .invokevirtual 78, 3, 785, 88, 3, 0), (820, .aload_n 2, 1, 0, 0, 0, 0), (821, .aload_n 0, 1, 0, 0, 0, 0), (822, .iload 4, 2, 0, 0, 0, 0), (824, .iconst 1, 1, 0, 0, 0, 0), (825, .iadd, 1, 0, 0, 0, 0), (826, .iaload, 1, 0, 0, 0, 0), (827, .aload_n 0, 1, 0, 0, 0, 0), (828, .iload 4, 2, 0, 0, 0, 0), (830, .iconst 2, 1, 0, 0, 0, 0), (831, .iadd, 1, 0, 0, 0, 0), (832, .iaload, 1, 0, 0, 0, 0), (833, .aload_n 0, 1, 0, 0, 0, 0), (834, .iload 4, 2, 0, 0, 0, 0), (836, .iconst 3, 1, 0, 0, 0, 0), (837, .iadd, 1, 0, 0, 0, 0), (838, .iaload, 1, 0, 0, 0, 0), (839, .invokevirtual 81, 3, 1547, 186, 3, 0), (842, .if_icmp .eq 943, 3, 1785, 0, 0, 0), (845, .iconst 0, 1, 0, 0, 0, 0), (846, .ireturn, 1, 0, 0, 0, 0), (847, .aload_n 1, 1, 0, 0, 0, 0), (848, .aload_n 0, 1, 0, 0, 0, 0), (849, .iload 4, 2, 0, 0, 0, 0), (851, .iconst 1, 1, 0, 0, 0, 0), (852, .iadd, 1, 0, 0, 0, 0), (853, .iaload, 1, 0, 0, 0, 0), (854, .aload_n 0, 1, 0, 0, 0, 0), (855, .iload 4, 2, 0, 0, 0, 0), (857, .iconst 2, 1, 0, 0, 0, 0), (858, .iadd, 1, 0, 0, 0, 0), (859, .iaload, 1, 0, 0, 0, 0), (860, .aload_n 0, 1, 0, 0, 0, 0), (861, .iload 4, 2, 0, 0, 0, 0), (863, .iconst 3, 1, 0, 0, 0, 0), (864, .iadd, 1, 0, 0, 0, 0), (865, .iaload, 1, 0, 0, 0, 0), (866, .invokevirtual 82, 3, 798, 89, 3, 0), (869, .aload_n 2, 1, 0, 0, 0, 0), (870, .aload_n 0, 1, 0, 0, 0, 0), (871, .iload 4, 2, 0, 0, 0, 0), (873, .iconst 1, 1, 0, 0, 0, 0), (874, .iadd, 1, 0, 0, 0, 0), (875, .iaload, 1, 0, 0, 0, 0), (876, .aload_n 0, 1, 0, 0, 0, 0), (877, .iload 4, 2, 0, 0, 0, 0), (879, .iconst 2, 1, 0, 0, 0, 0), (880, .iadd, 1, 0, 0, 0, 0), (881, .iaload, 1, 0, 0, 0, 0), (882, .aload_n 0, 1, 0, 0, 0, 0), (883, .iload 4, 2, 0, 0, 0, 0), (885, .iconst 3, 1, 0, 0, 0, 0), (886, .iadd, 1, 0, 0, 0, 0), (887, .iaload, 1, 0, 0, 0, 0), (888, .invokevirtual 85, 3, 1563, 188, 3, 0), (891, .if_icmp .eq 894, 3, 1785, 0, 0, 0), (894, .iconst 0, 1, 0, 0, 0, 0), (895, .ireturn, 1, 0, 0, 0, 0), (896, .aload_n 1, 1, 0, 0, 0, 0), (897, .aload_n 0, 1, 0, 0, 0, 0), (898, .iload 4, 2, 0, 0, 0, 0), (900, .iconst 1, 1, 0, 0, 0, 0), (901, .iadd, 1, 0, 0, 0, 0), (902, .iaload, 1, 0, 0, 0, 0), (903, .invokevirtual 86, 3, 811, 90, 1, 0), (906, .aload_n 2, 1, 0, 0, 0, 0), (907, .aload_n 0, 1, 0, 0, 0, 0), (908, .iload 4, 2, 0, 0, 0, 0), (910, .iconst 1, 1, 0, 0, 0, 0), (911, .iadd, 1, 0, 0, 0, 0), (912, .iaload, 1, 0, 0, 0, 0), (913, .invokevirtual 90, 3, 1571, 189, 1, 0), (916, .if_icmp .eq 869, 3, 1785, 0, 0, 0), (919, .iconst 0, 1, 0, 0, 0, 0), (920, .ireturn, 1, 0, 0, 0, 0), (921, .aload_n 1, 1, 0, 0, 0, 0), (922, .aload_n 0, 1, 0, 0, 0, 0), (923, .iload 4, 2, 0, 0, 0, 0), (925, .iconst 1, 1, 0, 0, 0, 0), (926, .iadd, 1, 0, 0, 0, 0), (927, .iaload, 1, 0, 0, 0, 0), (928, .invokevirtual 91, 3, 815, 91, 1, 0), (931, .aload_n 2, 1, 0, 0, 0, 0), (932, .aload_n 0, 1, 0, 0, 0, 0), (933, .iload 4, 2, 0, 0, 0, 0), (935, .iconst 1, 1, 0, 0, 0, 0), (936, .iadd, 1, 0, 0, 0, 0), (937, .iaload, 1, 0, 0, 0, 0), (938, .invokevirtual 94, 3, 1575, 191, 1, 0), (941, .if_icmp .eq 844, 3, 1785, 0, 0, 0), (944, .iconst 0, 1, 0, 0, 0, 0), (945, .ireturn, 1, 0, 0, 0, 0), (946, .aload_n 1, 1, 0, 0, 0, 0), (947, .aload_n 0, 1, 0, 0, 0, 0), (948, .iload 4, 2, 0, 0, 0, 0), (950, .iconst 1, 1, 0, 0, 0, 0), (951, .iadd, 1, 0, 0, 0, 0), (952, .iaload, 1, 0, 0, 0, 0), (953, .invokevirtual 95, 3, 823, 92, 1, 0), (956, .aload_n 2, 1, 0, 0, 0, 0), (957, .aload_n 0, 1, 0, 0, 0, 0), (958, .iload 4, 2, 0, 0, 0, 0), (960, .iconst 1, 1, 0, 0, 0, 0), (961, .iadd, 1, 0, 0, 0, 0), (962, .iaload, 1, 0, 0, 0, 0), (963, .invokevirtual 98, 3, 1583, 192, 1, 0), (966, .if_icmp .eq 819, 3, 1785, 0, 0, 0), (969, .iconst 0, 1, 0, 0, 0, 0), (970, .ireturn, 1, 0, 0, 0, 0), (971, .aload_n 1, 1, 0, 0, 0, 0), (972, .aload_n 0, 1, 0, 0, 0, 0), (973, .iload 4, 2, 0, 0, 0, 0), (975, .iconst 1, 1, 0, 0, 0, 0), (976, .iadd, 1, 0, 0, 0, 0), (977, .iaload, 1, 0, 0, 0, 0), (978, .aload_n 0, 1, 0, 0, 0, 0), (979, .iload 4, 2, 0, 0, 0, 0), (981, .iconst 2, 1, 0, 0, 0, 0), (982, .iadd, 1, 0, 0, 0, 0), (983, .iaload, 1, 0, 0, 0, 0), (984, .aload_n 0, 1, 0, 0, 0, 0), (985, .iload 4, 2, 0, 0, 0, 0), (987, .iconst 3, 1, 0, 0, 0, 0), (988, .iadd, 1, 0, 0, 0, 0), (989, .iaload, 1, 0, 0, 0, 0), (990, .aload_n 0, 1, 0, 0, 0, 0), (991, .iload 4, 2, 0, 0, 0, 0), (993, .iconst 4, 1, 0, 0, 0, 0), (994, .iadd, 1, 0, 0, 0, 0), (995, .iaload, 1, 0, 0, 0, 0), (996, .aload_n 0, 1, 0, 0, 0, 0), (997, .iload 4, 2, 0, 0, 0, 0), (999, .iconst 5, 1, 0, 0, 0, 0), (1000, .iadd, 1, 0, 0, 0, 0), (1001, .iaload, 1, 0, 0, 0, 0), (1002, .invokevirtual 99, 3, 827, 93, 5, 0), (1005, .aload_n 2, 1, 0, 0, 0, 0), (1006, .aload_n 0, 1, 0, 0, 0, 0), (1007, .iload 4, 2, 0, 0, 0, 0), (1009, .iconst 1, 1, 0, 0, 0, 0), (1010, .iadd, 1, 0, 0, 0, 0), (1011, .iaload, 1, 0, 0, 0, 0), (1012, .aload_n 0, 1, 0, 0, 0, 0), (1013, .iload 4, 2, 0, 0, 0, 0), (1015, .iconst 2, 1, 0, 0, 0, 0), (1016, .iadd, 1, 0, 0, 0, 0), (1017, .iaload, 1, 0, 0, 0, 0), (1018, .aload_n 0, 1, 0, 0, 0, 0), (1019, .iload 4, 2, 0, 0, 0, 0), (1021, .iconst 3, 1, 0, 0, 0, 0), (1022, .iadd, 1, 0, 0, 0, 0), (1023, .iaload, 1, 0, 0, 0, 0), (1024, .aload_n 0, 1, 0, 0, 0, 0), (1025, .iload 4, 2, 0, 0, 0, 0), (1027, .iconst 4, 1, 0, 0, 0, 0), (1028, .iadd, 1, 0, 0, 0, 0), (1029, .iaload, 1, 0, 0, 0, 0), (1030, .aload_n 0, 1, 0, 0, 0, 0), (1031, .iload 4, 2, 0, 0, 0, 0), (1033, .iconst 5, 1, 0, 0, 0, 0), (1034, .iadd, 1, 0, 0, 0, 0), (1035, .iaload, 1, 0, 0, 0, 0), (1036, .invokevirtual 102, 3, 1587, 193, 5, 0), (1039, .if_icmp .eq 746, 3, 1785, 0, 0, 0), (1042, .iconst 0, 1, 0, 0, 0, 0), (1043, .ireturn, 1, 0, 0, 0, 0), (1044, .aload_n 1, 1, 0, 0, 0, 0), (1045, .aload_n 0, 1, 0, 0, 0, 0), (1046, .iload 4, 2, 0, 0, 0, 0), (1048, .iconst 1, 1, 0, 0, 0, 0), (1049, .iadd, 1, 0, 0, 0, 0), (1050, .iaload, 1, 0, 0, 0, 0), (1051, .aload_n 0, 1, 0, 0, 0, 0), (1052, .iload 4, 2, 0, 0, 0, 0), (1054, .iconst 2, 1, 0, 0, 0, 0), (1055, .iadd, 1, 0, 0, 0, 0), (1056, .iaload, 1, 0, 0, 0, 0), (1057, .aload_n 0, 1, 0, 0, 0, 0), (1058, .iload 4, 2, 0, 0, 0, 0), (1060, .iconst 3, 1, 0, 0, 0, 0), (1061, .iadd, 1, 0, 0, 0, 0), (1062, .iaload, 1, 0, 0, 0, 0), (1063, .invokevirtual 103, 3, 838, 94, 3, 0), (1066, .aload_n 2, 1, 0, 0, 0, 0), (1067, .aload_n 0, 1, 0, 0, 0, 0), (1068, .iload 4, 2, 0, 0, 0, 0), (1070, .iconst 1, 1, 0, 0, 0, 0), (1071, .iadd, 1, 0, 0, 0, 0), (1072, .iaload, 1, 0, 0, 0, 0), (1073, .aload_n 0, 1, 0, 0, 0, 0), (1074, .iload 4, 2, 0, 0, 0, 0), (1076, .iconst 2, 1, 0, 0, 0, 0), (1077, .iadd, 1, 0, 0, 0, 0), (1078, .iaload, 1, 0, 0, 0, 0), (1079, .aload_n 0, 1, 0, 0, 0, 0), (1080, .iload 4, 2, 0, 0, 0, 0), (1082, .iconst 3, 1, 0, 0, 0, 0), (1083, .iadd, 1, 0, 0, 0, 0), (1084, .iaload, 1, 0, 0, 0, 0), (1085, .invokevirtual 106, 3, 1591, 194, 3, 0), (1088, .if_icmp .eq 697, 3, 1785, 0, 0, 0), (1091, .iconst 0, 1, 0, 0, 0, 0), (1092, .ireturn, 1, 0, 0, 0, 0), (1093, .aload_n 1, 1, 0, 0, 0, 0), (1094, .aload_n 0, 1, 0, 0, 0, 0), (1095, .iload 4, 2, 0, 0, 0, 0), (1097, .iconst 1, 1, 0, 0, 0, 0), (1098, .iadd, 1, 0, 0, 0, 0), (1099, .iaload, 1, 0, 0, 0, 0), (1100, .invokevirtual 107, 3, 842, 95, 1, 0), (1103, .aload_n 2, 1, 0, 0, 0, 0), (1104, .aload_n 0, 1, 0, 0, 0, 0), (1105, .iload 4, 2, 0, 0, 0, 0), (1107, .iconst 1, 1, 0, 0, 0, 0), (1108, .iadd, 1, 0, 0, 0, 0), (1109, .iaload, 1, 0, 0, 0, 0), (1110, .invokevirtual 110, 3, 1595, 195, 1, 0), (1113, .if_icmp .eq 672, 3, 1785, 0, 0, 0), (1116, .iconst 0, 1, 0, 0, 0, 0), (1117, .ireturn, 1, 0, 0, 0, 0), (1118, .aload_n 1, 1, 0, 0, 0, 0), (1119, .aload_n 0, 1, 0, 0, 0, 0), (1120, .iload 4, 2, 0, 0, 0, 0), (1122, .iconst 1, 1, 0, 0, 0, 0), (1123, .iadd, 1, 0, 0, 0, 0), (1124, .iaload, 1, 0, 0, 0, 0), (1125, .invokevirtual 111, 3, 846, 96, 1, 0), (1128, .aload_n 2, 1, 0, 0, 0, 0), (1129, .aload_n 0, 1, 0, 0, 0, 0), (1130, .iload 4, 2, 0, 0, 0, 0), (1132, .iconst 1, 1, 0, 0, 0, 0), (1133, .iadd, 1, 0, 0, 0, 0), (1134, .iaload, 1, 0, 0, 0, 0), (1135, .invokevirtual 114, 3, 1599, 203, 1, 0), (1138, .if_icmp .eq 647, 3, 1785, 0, 0, 0), (1141, .iconst 0, 1, 0, 0, 0, 0), (1142, .ireturn, 1, 0, 0, 0, 0), (1143, .aload_n 1, 1, 0, 0, 0, 0), (1144, .invokevirtual 115, 3, 885, 97, 0, 0), (1147, .aload_n 2, 1, 0, 0, 0, 0), (1148, .invokevirtual 118, 3, 1632, 204, 0, 0), (1151, .if_icmp .eq 634, 3, 1785, 0, 0, 0), (1154, .iconst 0, 1, 0, 0, 0, 0), (1155, .ireturn, 1, 0, 0, 0, 0), (1156, .aload_n 1, 1, 0, 0, 0, 0), (1157, .invokevirtual 119, 3, 894, 98, 0, 0), (1160, .aload_n 2, 1, 0, 0, 0, 0), (1161, .invokevirtual 122, 3, 1636, 205, 0, 0), (1164, .if_icmp .eq 621, 3, 1785, 0, 0, 0), (1167, .iconst 0, 1, 0, 0, 0, 0), (1168, .ireturn, 1, 0, 0, 0, 0), (1169, .aload_n 1, 1, 0, 0, 0, 0), (1170, .aload_n 0, 1, 0, 0, 0, 0), (1171, .iload 4, 2, 0, 0, 0, 0), (1173, .iconst 1, 1, 0, 0, 0, 0), (1174, .iadd, 1, 0, 0, 0, 0), (1175, .iaload, 1, 0, 0, 0, 0), (1176, .aload_n 0, 1, 0, 0, 0, 0), (1177, .iload 4, 2, 0, 0, 0, 0), (1179, .iconst 2, 1, 0, 0, 0, 0), (1180, .iadd, 1, 0, 0, 0, 0), (1181, .iaload, 1, 0, 0, 0, 0), (1182, .ifCond .eq 7, 3, 1189, 0, 0, 0), (1185, .iconst 1, 1, 0, 0, 0, 0), (1186, .goto 4, 3, 1190, 0, 0, 0), (1189, .iconst 0, 1, 0, 0, 0, 0), (1190, .invokevirtual 123, 3, 902, 99, 2, 0), (1193, .aload_n 2, 1, 0, 0, 0, 0), (1194, .aload_n 0, 1, 0, 0, 0, 0), (1195, .iload 4, 2, 0, 0, 0, 0), (1197, .iconst 1, 1, 0, 0, 0, 0), (1198, .iadd, 1, 0, 0, 0, 0), (1199, .iaload, 1, 0, 0, 0, 0), (1200, .aload_n 0, 1, 0, 0, 0, 0), (1201, .iload 4, 2, 0, 0, 0, 0), (1203, .iconst 2, 1, 0, 0, 0, 0), (1204, .iadd, 1, 0, 0, 0, 0), (1205, .iaload, 1, 0, 0, 0, 0), (1206, .ifCond .eq 7, 3, 1213, 0, 0, 0), (1209, .iconst 1, 1, 0, 0, 0, 0), (1210, .goto 4, 3, 1214, 0, 0, 0), (1213, .iconst 0, 1, 0, 0, 0, 0), (1214, .invokevirtual 127, 3, 1640, 206, 2, 0), (1217, .if_icmp .eq 568, 3, 1785, 0, 0, 0), (1220, .iconst 0, 1, 0, 0, 0, 0), (1221, .ireturn, 1, 0, 0, 0, 0), (1222, .aload_n 1, 1, 0, 0, 0, 0), (1223, .aload_n 0, 1, 0, 0, 0, 0), (1224, .iload 4, 2, 0, 0, 0, 0), (1226, .iconst 1, 1, 0, 0, 0, 0), (1227, .iadd, 1, 0, 0, 0, 0), (1228, .iaload, 1, 0, 0, 0, 0), (1229, .aload_n 0, 1, 0, 0, 0, 0), (1230, .iload 4, 2, 0, 0, 0, 0), (1232, .iconst 2, 1, 0, 0, 0, 0), (1233, .iadd, 1, 0, 0, 0, 0), (1234, .iaload, 1, 0, 0, 0, 0), (1235, .invokevirtual 128, 3, 914, 100, 2, 0), (1238, .aload_n 2, 1, 0, 0, 0, 0), (1239, .aload_n 0, 1, 0, 0, 0, 0), (1240, .iload 4, 2, 0, 0, 0, 0), (1242, .iconst 1, 1, 0, 0, 0, 0), (1243, .iadd, 1, 0, 0, 0, 0), (1244, .iaload, 1, 0, 0, 0, 0), (1245, .aload_n 0, 1, 0, 0, 0, 0), (1246, .iload 4, 2, 0, 0, 0, 0), (1248, .iconst 2, 1, 0, 0, 0, 0), (1249, .iadd, 1, 0, 0, 0, 0), (1250, .iaload, 1, 0, 0, 0, 0), (1251, .invokevirtual 131, 3, 1644, 210, 2, 0), (1254, .if_icmp .eq 531, 3, 1785, 0, 0, 0), (1257, .iconst 0, 1, 0, 0, 0, 0), (1258, .ireturn, 1, 0, 0, 0, 0), (1259, .aload_n 1, 1, 0, 0, 0, 0), (1260, .aload_n 0, 1, 0, 0, 0, 0), (1261, .iload 4, 2, 0, 0, 0, 0), (1263, .iconst 1, 1, 0, 0, 0, 0), (1264, .iadd, 1, 0, 0, 0, 0), (1265, .iaload, 1, 0, 0, 0, 0), (1266, .invokevirtual 132, 3, 929, 101, 1, 0), (1269, .aload_n 2, 1, 0, 0, 0, 0), (1270, .aload_n 0, 1, 0, 0, 0, 0), (1271, .iload 4, 2, 0, 0, 0, 0), (1273, .iconst 1, 1, 0, 0, 0, 0), (1274, .iadd, 1, 0, 0, 0, 0), (1275, .iaload, 1, 0, 0, 0, 0), (1276, .invokevirtual 135, 3, 1659, 211, 1, 0), (1279, .if_icmp .eq 506, 3, 1785, 0, 0, 0), (1282, .iconst 0, 1, 0, 0, 0, 0), (1283, .ireturn, 1, 0, 0, 0, 0), (1284, .aload_n 1, 1, 0, 0, 0, 0), (1285, .aload_n 0, 1, 0, 0, 0, 0), (1286, .iload 4, 2, 0, 0, 0, 0), (1288, .iconst 1, 1, 0, 0, 0, 0), (1289, .iadd, 1, 0, 0, 0, 0), (1290, .iaload, 1, 0, 0, 0, 0), (1291, .invokevirtual 136, 3, 937, 102, 1, 0), (1294, .aload_n 2, 1, 0, 0, 0, 0), (1295, .aload_n 0, 1, 0, 0, 0, 0), (1296, .iload 4, 2, 0, 0, 0, 0), (1298, .iconst 1, 1, 0, 0, 0, 0), (1299, .iadd, 1, 0, 0, 0, 0), (1300, .iaload, 1, 0, 0, 0, 0), (1301, .invokevirtual 139, 3, 1663, 212, 1, 0), (1304, .if_icmp .eq 481, 3, 1785, 0, 0, 0), (1307, .iconst 0, 1, 0, 0, 0, 0), (1308, .ireturn, 1, 0, 0, 0, 0), (1309, .aload_n 1, 1, 0, 0, 0, 0), (1310, .invokevirtual 140, 3, 941, 103, 0, 0), (1313, .aload_n 2, 1, 0, 0, 0, 0), (1314, .invokevirtual 143, 3, 1667, 213, 0, 0), (1317, .if_icmp .eq 468, 3, 1785, 0, 0, 0), (1320, .iconst 0, 1, 0, 0, 0, 0), (1321, .ireturn, 1, 0, 0, 0, 0), (1322, .aload_n 1, 1, 0, 0, 0, 0), (1323, .aload_n 0, 1, 0, 0, 0, 0), (1324, .iload 4, 2, 0, 0, 0, 0), (1326, .iconst 1, 1, 0, 0, 0, 0), (1327, .iadd, 1, 0, 0, 0, 0), (1328, .iaload, 1, 0, 0, 0, 0), (1329, .aload_n 0, 1, 0, 0, 0, 0), (1330, .iload 4, 2, 0, 0, 0, 0), (1332, .iconst 2, 1, 0, 0, 0, 0), (1333, .iadd, 1, 0, 0, 0, 0), (1334, .iaload, 1, 0, 0, 0, 0), (1335, .aload_n 0, 1, 0, 0, 0, 0), (1336, .iload 4, 2, 0, 0, 0, 0), (1338, .iconst 3, 1, 0, 0, 0, 0), (1339, .iadd, 1, 0, 0, 0, 0), (1340, .iaload, 1, 0, 0, 0, 0), (1341, .invokevirtual 144, 3, 945, 104, 3, 0), (1344, .aload_n 2, 1, 0, 0, 0, 0), (1345, .aload_n 0, 1, 0, 0, 0, 0), (1346, .iload 4, 2, 0, 0, 0, 0), (1348, .iconst 1, 1, 0, 0, 0, 0), (1349, .iadd, 1, 0, 0, 0, 0), (1350, .iaload, 1, 0, 0, 0, 0), (1351, .aload_n 0, 1, 0, 0, 0, 0), (1352, .iload 4, 2, 0, 0, 0, 0), (1354, .iconst 2, 1, 0, 0, 0, 0), (1355, .iadd, 1, 0, 0, 0, 0), (1356, .iaload, 1, 0, 0, 0, 0), (1357, .aload_n 0, 1, 0, 0, 0, 0), (1358, .iload 4, 2, 0, 0, 0, 0), (1360, .iconst 3, 1, 0, 0, 0, 0), (1361, .iadd, 1, 0, 0, 0, 0), (1362, .iaload, 1, 0, 0, 0, 0), (1363, .invokevirtual 147, 3, 1671, 214, 3, 0), (1366, .if_icmp .eq 419, 3, 1785, 0, 0, 0), (1369, .iconst 0, 1, 0, 0, 0, 0), (1370, .ireturn, 1, 0, 0, 0, 0), (1371, .aload_n 1, 1, 0, 0, 0, 0), (1372, .aload_n 0, 1, 0, 0, 0, 0), (1373, .iload 4, 2, 0, 0, 0, 0), (1375, .iconst 1, 1, 0, 0, 0, 0), (1376, .iadd, 1, 0, 0, 0, 0), (1377, .iaload, 1, 0, 0, 0, 0), (1378, .invokevirtual 148, 3, 952, 105, 1, 0), (1381, .aload_n 2, 1, 0, 0, 0, 0), (1382, .aload_n 0, 1, 0, 0, 0, 0), (1383, .iload 4, 2, 0, 0, 0, 0), (1385, .iconst 1, 1, 0, 0, 0, 0), (1386, .iadd, 1, 0, 0, 0, 0), (1387, .iaload, 1, 0, 0, 0, 0), (1388, .invokevirtual 152, 3, 1676, 215, 1, 0), (1391, .lcmp, 1, 0, 0, 0, 0), (1392, .ifCond .eq 393, 3, 1785, 0, 0, 0), (1395, .iconst 0, 1, 0, 0, 0, 0), (1396, .ireturn, 1, 0, 0, 0, 0), (1397, .aload_n 1, 1, 0, 0, 0, 0), (1398, .invokevirtual 153, 3, 958, 106, 0, 0), (1401, .aload_n 2, 1, 0, 0, 0, 0), (1402, .invokevirtual 157, 3, 1682, 216, 0, 0), (1405, .lcmp, 1, 0, 0, 0, 0), (1406, .ifCond .eq 379, 3, 1785, 0, 0, 0), (1409, .iconst 0, 1, 0, 0, 0, 0), (1410, .ireturn, 1, 0, 0, 0, 0), (1411, .aload_n 1, 1, 0, 0, 0, 0), (1412, .aload_n 0, 1, 0, 0, 0, 0), (1413, .iload 4, 2, 0, 0, 0, 0), (1415, .iconst 1, 1, 0, 0, 0, 0), (1416, .iadd, 1, 0, 0, 0, 0), (1417, .iaload, 1, 0, 0, 0, 0), (1418, .aload_n 0, 1, 0, 0, 0, 0), (1419, .iload 4, 2, 0, 0, 0, 0), (1421, .iconst 2, 1, 0, 0, 0, 0), (1422, .iadd, 1, 0, 0, 0, 0), (1423, .iaload, 1, 0, 0, 0, 0), (1424, .aload_n 0, 1, 0, 0, 0, 0), (1425, .iload 4, 2, 0, 0, 0, 0), (1427, .iconst 3, 1, 0, 0, 0, 0), (1428, .iadd, 1, 0, 0, 0, 0), (1429, .iaload, 1, 0, 0, 0, 0), (1430, .aload_n 0, 1, 0, 0, 0, 0), (1431, .iload 4, 2, 0, 0, 0, 0), (1433, .iconst 4, 1, 0, 0, 0, 0), (1434, .iadd, 1, 0, 0, 0, 0), (1435, .iaload, 1, 0, 0, 0, 0), (1436, .aload_n 0, 1, 0, 0, 0, 0), (1437, .iload 4, 2, 0, 0, 0, 0), (1439, .iconst 5, 1, 0, 0, 0, 0), (1440, .iadd, 1, 0, 0, 0, 0), (1441, .iaload, 1, 0, 0, 0, 0), (1442, .aload_n 0, 1, 0, 0, 0, 0), (1443, .iload 4, 2, 0, 0, 0, 0), (1445, .bipush 6, 2, 0, 0, 0, 0), (1447, .iadd, 1, 0, 0, 0, 0), (1448, .iaload, 1, 0, 0, 0, 0), (1449, .invokevirtual 158, 3, 962, 107, 6, 0), (1452, .aload_n 2, 1, 0, 0, 0, 0), (1453, .aload_n 0, 1, 0, 0, 0, 0), (1454, .iload 4, 2, 0, 0, 0, 0), (1456, .iconst 1, 1, 0, 0, 0, 0), (1457, .iadd, 1, 0, 0, 0, 0), (1458, .iaload, 1, 0, 0, 0, 0), (1459, .aload_n 0, 1, 0, 0, 0, 0), (1460, .iload 4, 2, 0, 0, 0, 0), (1462, .iconst 2, 1, 0, 0, 0, 0), (1463, .iadd, 1, 0, 0, 0, 0), (1464, .iaload, 1, 0, 0, 0, 0), (1465, .aload_n 0, 1, 0, 0, 0, 0), (1466, .iload 4, 2, 0, 0, 0, 0), (1468, .iconst 3, 1, 0, 0, 0, 0), (1469, .iadd, 1, 0, 0, 0, 0), (1470, .iaload, 1, 0, 0, 0, 0), (1471, .aload_n 0, 1, 0, 0, 0, 0), (1472, .iload 4, 2, 0, 0, 0, 0), (1474, .iconst 4, 1, 0, 0, 0, 0), (1475, .iadd, 1, 0, 0, 0, 0), (1476, .iaload, 1, 0, 0, 0, 0), (1477, .aload_n 0, 1, 0, 0, 0, 0), (1478, .iload 4, 2, 0, 0, 0, 0), (1480, .iconst 5, 1, 0, 0, 0, 0), (1481, .iadd, 1, 0, 0, 0, 0), (1482, .iaload, 1, 0, 0, 0, 0), (1483, .aload_n 0, 1, 0, 0, 0, 0), (1484, .iload 4, 2, 0, 0, 0, 0), (1486, .bipush 6, 2, 0, 0, 0, 0), (1488, .iadd, 1, 0, 0, 0, 0), (1489, .iaload, 1, 0, 0, 0, 0), (1490, .invokevirtual 162, 3, 1686, 217, 6, 0), (1493, .if_icmp .eq 292, 3, 1785, 0, 0, 0), (1496, .iconst 0, 1, 0, 0, 0, 0), (1497, .ireturn, 1, 0, 0, 0, 0), (1498, .aload_n 1, 1, 0, 0, 0, 0), (1499, .aload_n 0, 1, 0, 0, 0, 0), (1500, .iload 4, 2, 0, 0, 0, 0), (1502, .iconst 1, 1, 0, 0, 0, 0), (1503, .iadd, 1, 0, 0, 0, 0), (1504, .iaload, 1, 0, 0, 0, 0), (1505, .aload_n 0, 1, 0, 0, 0, 0), (1506, .iload 4, 2, 0, 0, 0, 0), (1508, .iconst 2, 1, 0, 0, 0, 0), (1509, .iadd, 1, 0, 0, 0, 0), (1510, .iaload, 1, 0, 0, 0, 0), (1511, .aload_n 0, 1, 0, 0, 0, 0), (1512, .iload 4, 2, 0, 0, 0, 0), (1514, .iconst 3, 1, 0, 0, 0, 0), (1515, .iadd, 1, 0, 0, 0, 0), (1516, .iaload, 1, 0, 0, 0, 0), (1517, .invokevirtual 163, 3, 966, 108, 3, 0), (1520, .aload_n 2, 1, 0, 0, 0, 0), (1521, .aload_n 0, 1, 0, 0, 0, 0), (1522, .iload 4, 2, 0, 0, 0, 0), (1524, .iconst 1, 1, 0, 0, 0, 0), (1525, .iadd, 1, 0, 0, 0, 0), (1526, .iaload, 1, 0, 0, 0, 0), (1527, .aload_n 0, 1, 0, 0, 0, 0), (1528, .iload 4, 2, 0, 0, 0, 0), (1530, .iconst 2, 1, 0, 0, 0, 0), (1531, .iadd, 1, 0, 0, 0, 0), (1532, .iaload, 1, 0, 0, 0, 0), (1533, .aload_n 0, 1, 0, 0, 0, 0), (1534, .iload 4, 2, 0, 0, 0, 0), (1536, .iconst 3, 1, 0, 0, 0, 0), (1537, .iadd, 1, 0, 0, 0, 0), (1538, .iaload, 1, 0, 0, 0, 0), (1539, .invokevirtual 166, 3, 1690, 220, 3, 0), (1542, .if_icmp .eq 243, 3, 1785, 0, 0, 0), (1545, .iconst 0, 1, 0, 0, 0, 0), (1546, .ireturn, 1, 0, 0, 0, 0), (1547, .aload_n 1, 1, 0, 0, 0, 0), (1548, .aload_n 0, 1, 0, 0, 0, 0), (1549, .iload 4, 2, 0, 0, 0, 0), (1551, .iconst 1, 1, 0, 0, 0, 0), (1552, .iadd, 1, 0, 0, 0, 0), (1553, .iaload, 1, 0, 0, 0, 0), (1554, .aload_n 0, 1, 0, 0, 0, 0), (1555, .iload 4, 2, 0, 0, 0, 0), (1557, .iconst 2, 1, 0, 0, 0, 0), (1558, .iadd, 1, 0, 0, 0, 0), (1559, .iaload, 1, 0, 0, 0, 0), (1560, .invokevirtual 167, 3, 1007, 109, 2, 0), (1563, .aload_n 2, 1, 0, 0, 0, 0), (1564, .aload_n 0, 1, 0, 0, 0, 0), (1565, .iload 4, 2, 0, 0, 0, 0), (1567, .iconst 1, 1, 0, 0, 0, 0), (1568, .iadd, 1, 0, 0, 0, 0), (1569, .iaload, 1, 0, 0, 0, 0), (1570, .aload_n 0, 1, 0, 0, 0, 0), (1571, .iload 4, 2, 0, 0, 0, 0), (1573, .iconst 2, 1, 0, 0, 0, 0), (1574, .iadd, 1, 0, 0, 0, 0), (1575, .iaload, 1, 0, 0, 0, 0), (1576, .invokevirtual 171, 3, 1704, 221, 2, 0), (1579, .lcmp, 1, 0, 0, 0, 0), (1580, .ifCond .eq 205, 3, 1785, 0, 0, 0), (1583, .iconst 0, 1, 0, 0, 0, 0), (1584, .ireturn, 1, 0, 0, 0, 0), (1585, .aload_n 1, 1, 0, 0, 0, 0), (1586, .invokevirtual 172, 3, 1011, 110, 0, 0), (1589, .aload_n 2, 1, 0, 0, 0, 0), (1590, .invokevirtual 175, 3, 1708, 222, 0, 0), (1593, .lcmp, 1, 0, 0, 0, 0), (1594, .ifCond .eq 191, 3, 1785, 0, 0, 0), (1597, .iconst 0, 1, 0, 0, 0, 0), (1598, .ireturn, 1, 0, 0, 0, 0), (1599, .aload_n 1, 1, 0, 0, 0, 0), (1600, .aload_n 0, 1, 0, 0, 0, 0), (1601, .iload 4, 2, 0, 0, 0, 0), (1603, .iconst 1, 1, 0, 0, 0, 0), (1604, .iadd, 1, 0, 0, 0, 0), (1605, .iaload, 1, 0, 0, 0, 0), (1606, .aload_n 0, 1, 0, 0, 0, 0), (1607, .iload 4, 2, 0, 0, 0, 0), (1609, .iconst 2, 1, 0, 0, 0, 0), (1610, .iadd, 1, 0, 0, 0, 0), (1611, .iaload, 1, 0, 0, 0, 0), (1612, .aload_n 0, 1, 0, 0, 0, 0), (1613, .iload 4, 2, 0, 0, 0, 0), (1615, .iconst 3, 1, 0, 0, 0, 0), (1616, .iadd, 1, 0, 0, 0, 0), (1617, .iaload, 1, 0, 0, 0, 0), (1618, .invokevirtual 176, 3, 1015, 111, 3, 0), (1621, .aload_n 2, 1, 0, 0, 0, 0), (1622, .aload_n 0, 1, 0, 0, 0, 0), (1623, .iload 4, 2, 0, 0, 0, 0), (1625, .iconst 1, 1, 0, 0, 0, 0), (1626, .iadd, 1, 0, 0, 0, 0), (1627, .iaload, 1, 0, 0, 0, 0), (1628, .aload_n 0, 1, 0, 0, 0, 0), (1629, .iload 4, 2, 0, 0, 0, 0), (1631, .iconst 2, 1, 0, 0, 0, 0), (1632, .iadd, 1, 0, 0, 0, 0), (1633, .iaload, 1, 0, 0, 0, 0), (1634, .aload_n 0, 1, 0, 0, 0, 0), (1635, .iload 4, 2, 0, 0, 0, 0), (1637, .iconst 3, 1, 0, 0, 0, 0), (1638, .iadd, 1, 0, 0, 0, 0), (1639, .iaload, 1, 0, 0, 0, 0), (1640, .invokevirtual 179, 3, 1712, 223, 3, 0), (1643, .if_icmp .eq 142, 3, 1785, 0, 0, 0), (1646, .iconst 0, 1, 0, 0, 0, 0), (1647, .ireturn, 1, 0, 0, 0, 0), (1648, .aload_n 1, 1, 0, 0, 0, 0), (1649, .aload_n 0, 1, 0, 0, 0, 0), (1650, .iload 4, 2, 0, 0, 0, 0), (1652, .iconst 1, 1, 0, 0, 0, 0), (1653, .iadd, 1, 0, 0, 0, 0), (1654, .iaload, 1, 0, 0, 0, 0), (1655, .aload_n 0, 1, 0, 0, 0, 0), (1656, .iload 4, 2, 0, 0, 0, 0), (1658, .iconst 2, 1, 0, 0, 0, 0), (1659, .iadd, 1, 0, 0, 0, 0), (1660, .iaload, 1, 0, 0, 0, 0), (1661, .aload_n 0, 1, 0, 0, 0, 0), (1662, .iload 4, 2, 0, 0, 0, 0), (1664, .iconst 3, 1, 0, 0, 0, 0), (1665, .iadd, 1, 0, 0, 0, 0), (1666, .iaload, 1, 0, 0, 0, 0), (1667, .invokevirtual 180, 3, 1019, 112, 3, 0), (1670, .aload_n 2, 1, 0, 0, 0, 0), (1671, .aload_n 0, 1, 0, 0, 0, 0), (1672, .iload 4, 2, 0, 0, 0, 0), (1674, .iconst 1, 1, 0, 0, 0, 0), (1675, .iadd, 1, 0, 0, 0, 0), (1676, .iaload, 1, 0, 0, 0, 0), (1677, .aload_n 0, 1, 0, 0, 0, 0), (1678, .iload 4, 2, 0, 0, 0, 0), (1680, .iconst 2, 1, 0, 0, 0, 0), (1681, .iadd, 1, 0, 0, 0, 0), (1682, .iaload, 1, 0, 0, 0, 0), (1683, .aload_n 0, 1, 0, 0, 0, 0), (1684, .iload 4, 2, 0, 0, 0, 0), (1686, .iconst 3, 1, 0, 0, 0, 0), (1687, .iadd, 1, 0, 0, 0, 0), (1688, .iaload, 1, 0, 0, 0, 0), (1689, .invokevirtual 183, 3, 1716, 227, 3, 0), (1692, .if_icmp .eq 93, 3, 1785, 0, 0, 0), (1695, .iconst 0, 1, 0, 0, 0, 0), (1696, .ireturn, 1, 0, 0, 0, 0), (1697, .aload_n 1, 1, 0, 0, 0, 0), (1698, .invokevirtual 184, 3, 1054, 113, 0, 0), (1701, .aload_n 2, 1, 0, 0, 0, 0), (1702, .invokevirtual 187, 3, 1731, 232, 0, 0), (1705, .if_icmp .eq 80, 3, 1785, 0, 0, 0), (1708, .iconst 0, 1, 0, 0, 0, 0), (1709, .ireturn, 1, 0, 0, 0, 0), (1710, .aload_n 1, 1, 0, 0, 0, 0), (1711, .aload_n 0, 1, 0, 0, 0, 0), (1712, .iload 4, 2, 0, 0, 0, 0), (1714, .iconst 1, 1, 0, 0, 0, 0), (1715, .iadd, 1, 0, 0, 0, 0), (1716, .iaload, 1, 0, 0, 0, 0), (1717, .invokevirtual 188, 3, 1074, 114, 1, 0), (1720, .aload_n 2, 1, 0, 0, 0, 0), (1721, .aload_n 0, 1, 0, 0, 0, 0), (1722, .iload 4, 2, 0, 0, 0, 0), (1724, .iconst 1, 1, 0, 0, 0, 0), (1725, .iadd, 1, 0, 0, 0, 0), (1726, .iaload, 1, 0, 0, 0, 0), (1727, .invokevirtual 191, 3, 1751, 233, 1, 0), (1730, .if_icmp .eq 55, 3, 1785, 0, 0, 0), (1733, .iconst 0, 1, 0, 0, 0, 0), (1734, .ireturn, 1, 0, 0, 0, 0), (1735, .aload_n 1, 1, 0, 0, 0, 0), (1736, .aload_n 0, 1, 0, 0, 0, 0), (1737, .iload 4, 2, 0, 0, 0, 0), (1739, .iconst 1, 1, 0, 0, 0, 0), (1740, .iadd, 1, 0, 0, 0, 0), (1741, .iaload, 1, 0, 0, 0, 0), (1742, .invokevirtual 192, 3, 1078, 115, 1, 0), (1745, .aload_n 2, 1, 0, 0, 0, 0), (1746, .aload_n 0, 1, 0, 0, 0, 0), (1747, .iload 4, 2, 0, 0, 0, 0), (1749, .iconst 1, 1, 0, 0, 0, 0), (1750, .iadd, 1, 0, 0, 0, 0), (1751, .iaload, 1, 0, 0, 0, 0), (1752, .invokevirtual 195, 3, 1755, 235, 1, 0), (1755, .if_icmp .eq 30, 3, 1785, 0, 0, 0), (1758, .iconst 0, 1, 0, 0, 0, 0), (1759, .ireturn, 1, 0, 0, 0, 0), (1760, .aload_n 1, 1, 0, 0, 0, 0), (1761, .aload_n 0, 1, 0, 0, 0, 0), (1762, .iload 4, 2, 0, 0, 0, 0), (1764, .iconst 1, 1, 0, 0, 0, 0), (1765, .iadd, 1, 0, 0, 0, 0), (1766, .iaload, 1, 0, 0, 0, 0), (1767, .invokevirtual 196, 3, 1082, 116, 1, 0), (1770, .aload_n 2, 1, 0, 0, 0, 0), (1771, .aload_n 0, 1, 0, 0, 0, 0), (1772, .iload 4, 2, 0, 0, 0, 0), (1774, .iconst 1, 1, 0, 0, 0, 0), (1775, .iadd, 1, 0, 0, 0, 0), (1776, .iaload, 1, 0, 0, 0, 0), (1777, .invokevirtual 199, 3, 1763, 236, 1, 0), (1780, .if_icmp .eq 5, 3, 1785, 0, 0, 0), (1783, .iconst 0, 1, 0, 0, 0, 0), (1784, .ireturn, 1, 0, 0, 0, 0), (1785, .iinc 4 7, 3, 0, 0, 0, 0), (1788, .goto (-1765), 3, 23, 0, 0, 0), (1791, .iconst 1, 1, 0, 0, 0, 0), (1792, .ireturn, 1, 0, 0, 0, 0)]
abbrev MInfo : Type := MethodName × ByteArray × Nat × Option FieldType × Nat × List CE × Nat × Nat × Nat × Nat
def MTB : List MInfo := [(yX0_init, cX0_init, 1, none, 0, T0, 392, 391, 0, 103),
  (yX0_find, cX0_find, 8, (some .boolean), 0, T1, 973, 971, 972, 103),
  (yX0_measure, cX0_measure, 12, none, 0, T2, 983, 982, 22, 103),
  (yX0_bestFrom, cX0_bestFrom, 5, (some .int), 0, T3, 990, 989, 23, 103),
  (yX0_isNearer, cX0_isNearer, 3, (some .boolean), 0, T4, 994, 993, 24, 103),
  (yX0_raiseTo, cX0_raiseTo, 3, none, 0, T5, 998, 997, 25, 103),
  (yX0_putInOrder, cX0_putInOrder, 5, none, 0, T6, 1002, 1001, 26, 103),
  (yX0_firstGood, cX0_firstGood, 4, (some .int), 0, T7, 1006, 1005, 27, 103),
  (yX1_init, cX1_init, 1, none, 1, T8, 337, 336, 0, 101),
  (yX1_forgetAll, cX1_forgetAll, 2, none, 1, T9, 648, 646, 647, 101),
  (yX1_imagesHeld, cX1_imagesHeld, 3, (some .int), 1, T10, 661, 659, 660, 101),
  (yX1_keep, cX1_keep, 3, none, 1, T11, 760, 758, 759, 101),
  (yX1_takeBack, cX1_takeBack, 3, (some .boolean), 1, T12, 901, 899, 900, 101),
  (yX1_layImage, cX1_layImage, 3, (some .boolean), 1, T13, 913, 911, 912, 101),
  (yX1_restoreImage, cX1_restoreImage, 3, (some .boolean), 1, T14, 909, 907, 908, 101),
  (yX2_init, cX2_init, 1, none, 2, T15, 363, 362, 0, 102),
  (yX2_plan, cX2_plan, 7, none, 2, T16, 1061, 1059, 1060, 102),
  (yX2_sortByDue, cX2_sortByDue, 5, none, 2, T17, 1065, 1064, 31, 102),
  (yX2_longestLoad, cX2_longestLoad, 8, (some .int), 2, T18, 1069, 1068, 32, 102),
  (yX2_putInOrder, cX2_putInOrder, 6, none, 2, T19, 1073, 1072, 33, 102),
  (yX3_passes, cX3_passes, 8, (some .boolean), 99, T20, 852, 851, 0, 116),
  (yX3_isKeptWaiting, cX3_isKeptWaiting, 7, (some .boolean), 99, T21, 855, 854, 0, 116),
  (yX3_travels, cX3_travels, 6, (some .boolean), 99, T22, 860, 859, 0, 116),
  (yX3_moves, cX3_moves, 5, (some .boolean), 99, T23, 863, 862, 0, 116),
  (yX3_cuts, cX3_cuts, 5, none, 99, T24, 872, 871, 0, 116),
  (yX3_lays, cX3_lays, 10, none, 99, T25, 881, 880, 0, 116),
  (yX4_init, cX4_init, 1, none, 3, T26, 130, 129, 0, 98),
  (yX4_read, cX4_read, 5, (some .int), 3, T27, 516, 514, 515, 98),
  (yX4_readLine, cX4_readLine, 1, none, 3, T28, 539, 538, 4, 98),
  (yX4_readLot, cX4_readLot, 1, none, 3, T29, 596, 595, 6, 98),
  (yX4_readPile, cX4_readPile, 1, none, 3, T30, 632, 631, 12, 98),
  (yX4_readShip, cX4_readShip, 2, none, 3, T31, 636, 635, 13, 98),
  (yX4_readGap, cX4_readGap, 1, none, 3, T32, 640, 639, 14, 98),
  (yX4_takeName, cX4_takeName, 3, none, 3, T33, 604, 603, 8, 98),
  (yX4_takeTold, cX4_takeTold, 5, (some .int), 3, T34, 624, 623, 10, 98),
  (yX4_numberHere, cX4_numberHere, 3, (some .int), 3, T35, 628, 627, 11, 98),
  (yX4_fail, cX4_fail, 2, none, 3, T36, 600, 599, 7, 98),
  (yX4_says, cX4_says, 3, (some .boolean), 3, T37, 544, 543, 5, 98),
  (yX4_isKept, cX4_isKept, 1, (some .boolean), 3, T38, 608, 607, 9, 98),
  (yX4_advance, cX4_advance, 1, none, 3, T39, 527, 526, 1, 98),
  (yX4_isLetter, cX4_isLetter, 2, (some .boolean), 3, T40, 531, 530, 2, 98),
  (yX4_isDigit, cX4_isDigit, 2, (some .boolean), 3, T41, 535, 534, 3, 98),
  (yX5_init, cX5_init, 1, none, 4, T42, 425, 424, 0, 104),
  (yX5_find, cX5_find, 10, (some .boolean), 4, T43, 1026, 1024, 1025, 104),
  (yX5_weighCells, cX5_weighCells, 6, (some .int), 4, T44, 1032, 1031, 28, 104),
  (yX5_consider, cX5_consider, 9, none, 4, T45, 1043, 1042, 29, 104),
  (yX5_isBetter, cX5_isBetter, 4, (some .boolean), 4, T46, 1052, 1051, 30, 104),
  (yX6_init, cX6_init, 1, none, 5, T47, 259, 258, 0, 100),
  (yX6_begin, cX6_begin, 3, none, 5, T48, 644, 642, 643, 100),
  (yX6_copyFrom, cX6_copyFrom, 5, none, 5, T49, 765, 763, 764, 100),
  (yX6_rowOf, cX6_rowOf, 2, (some .int), 99, T50, 702, 701, 0, 100),
  (yX6_placeOf, cX6_placeOf, 3, (some .int), 99, T51, 691, 690, 0, 100),
  (yX6_pileOf, cX6_pileOf, 2, (some .int), 5, T52, 727, 725, 726, 100),
  (yX6_cellOf, cX6_cellOf, 2, (some .int), 5, T53, 731, 729, 730, 100),
  (yX6_goTo, cX6_goTo, 5, none, 5, T54, 773, 771, 772, 100),
  (yX6_isFree, cX6_isFree, 6, (some .boolean), 5, T55, 867, 865, 866, 100),
  (yX6_tonnesOn, cX6_tonnesOn, 5, (some .int), 5, T56, 688, 686, 687, 100),
  (yX6_oreOn, cX6_oreOn, 6, (some .int), 5, T57, 810, 808, 809, 100),
  (yX6_tonnesOfPile, cX6_tonnesOfPile, 5, (some .int), 5, T58, 684, 682, 683, 100),
  (yX6_oreOfPile, cX6_oreOfPile, 5, (some .int), 5, T59, 936, 934, 935, 100),
  (yX6_addLayer, cX6_addLayer, 5, (some .int), 5, T60, 780, 778, 779, 100),
  (yX6_pour, cX6_pour, 5, none, 5, T61, 784, 782, 783, 100),
  (yX6_takesMore, cX6_takesMore, 3, (some .boolean), 5, T62, 797, 795, 796, 100),
  (yX6_moveIntoHold, cX6_moveIntoHold, 7, (some .int), 5, T63, 806, 804, 805, 100),
  (yX6_hasOrders, cX6_hasOrders, 1, (some .boolean), 5, T64, 893, 891, 892, 100),
  (yX6_firstOrder, cX6_firstOrder, 1, (some .int), 99, T65, 837, 836, 0, 100),
  (yX6_addOrder, cX6_addOrder, 8, none, 5, T66, 834, 832, 833, 100),
  (yX6_endOrder, cX6_endOrder, 5, none, 5, T67, 878, 876, 877, 100),
  (yX7_init, cX7_init, 1, none, 6, T68, 136, 135, 0, 99),
  (yX7_clear, cX7_clear, 1, none, 6, T69, 523, 521, 522, 99),
  (yX7_hasLot, cX7_hasLot, 2, (some .boolean), 6, T70, 746, 744, 745, 99),
  (yX7_hasPile, cX7_hasPile, 2, (some .boolean), 6, T71, 680, 678, 679, 99),
  (yX7_hasCell, cX7_hasCell, 3, (some .boolean), 6, T72, 711, 709, 710, 99),
  (yX7_hasShip, cX7_hasShip, 2, (some .boolean), 6, T73, 792, 790, 791, 99),
  (yX7_isWithin, cX7_isWithin, 4, (some .boolean), 6, T74, 822, 820, 821, 99),
  (yX8_init, cX8_init, 1, none, 7, T75, 122, 121, 0, 97),
  (yX8_feed, cX8_feed, 6, (some .int), 7, T76, 504, 502, 503, 97),
  (yX8_text, cX8_text, 4, (some .int), 7, T77, 512, 510, 511, 97),
  (yX8_count, cX8_count, 2, (some .int), 7, T78, 653, 651, 652, 97),
  (yX8_lot, cX8_lot, 3, (some .int), 7, T79, 1093, 1091, 1092, 97),
  (yX8_ship, cX8_ship, 3, (some .int), 7, T80, 1161, 1159, 1160, 97),
  (yX8_pile, cX8_pile, 3, (some .int), 7, T81, 676, 674, 675, 97),
  (yX8_layer, cX8_layer, 8, (some .int), 7, T82, 695, 693, 694, 97),
  (yX8_tonnes, cX8_tonnes, 4, (some .int), 7, T83, 707, 705, 706, 97),
  (yX8_stands, cX8_stands, 2, (some .int), 7, T84, 716, 714, 715, 97),
  (yX8_apart, cX8_apart, 2, (some .int), 7, T85, 723, 721, 722, 97),
  (yX8_whyLay, cX8_whyLay, 6, (some .int), 7, T86, 738, 736, 737, 97),
  (yX8_lay, cX8_lay, 10, (some .int), 7, T87, 755, 753, 754, 97),
  (yX8_whyCut, cX8_whyCut, 4, (some .int), 7, T88, 788, 786, 787, 97),
  (yX8_cut, cX8_cut, 4, (some .int), 7, T89, 801, 799, 800, 97),
  (yX8_park, cX8_park, 2, (some .boolean), 7, T90, 814, 812, 813, 97),
  (yX8_sail, cX8_sail, 2, (some .int), 7, T91, 818, 816, 817, 97),
  (yX8_days, cX8_days, 2, (some .int), 7, T92, 826, 824, 825, 97),
  (yX8_toLay, cX8_toLay, 6, (some .int), 7, T93, 830, 828, 829, 97),
  (yX8_toCut, cX8_toCut, 4, (some .int), 7, T94, 841, 839, 840, 97),
  (yX8_drop, cX8_drop, 3, (some .int), 7, T95, 845, 843, 844, 97),
  (yX8_minutes, cX8_minutes, 4, (some .int), 7, T96, 849, 847, 848, 97),
  (yX8_ends, cX8_ends, 2, (some .int), 7, T97, 888, 886, 887, 97),
  (yX8_undo, cX8_undo, 1, (some .int), 7, T98, 897, 895, 896, 97),
  (yX8_image, cX8_image, 3, (some .boolean), 7, T99, 905, 903, 904, 97),
  (yX8_cell, cX8_cell, 3, (some .int), 7, T100, 917, 915, 916, 97),
  (yX8_whole, cX8_whole, 2, (some .int), 7, T101, 932, 930, 931, 97),
  (yX8_hold, cX8_hold, 2, (some .int), 7, T102, 940, 938, 939, 97),
  (yX8_below, cX8_below, 1, (some .int), 7, T103, 944, 942, 943, 97),
  (yX8_within, cX8_within, 8, (some .int), 7, T104, 948, 946, 947, 97),
  (yX8_spread, cX8_spread, 15, (some .long), 7, T105, 955, 953, 954, 97),
  (yX8_spreadBelow, cX8_spreadBelow, 1, (some .long), 7, T106, 961, 959, 960, 97),
  (yX8_ifLaid, cX8_ifLaid, 9, (some .int), 7, T107, 965, 963, 964, 97),
  (yX8_layOrder, cX8_layOrder, 4, (some .int), 7, T108, 969, 967, 968, 97),
  (yX8_worst, cX8_worst, 5, (some .long), 7, T109, 1010, 1008, 1009, 97),
  (yX8_worstBelow, cX8_worstBelow, 1, (some .long), 7, T110, 1014, 1012, 1013, 97),
  (yX8_next, cX8_next, 11, (some .int), 7, T111, 1018, 1016, 1017, 97),
  (yX8_way, cX8_way, 4, (some .int), 7, T112, 1022, 1020, 1021, 97),
  (yX8_fewest, cX8_fewest, 1, (some .int), 7, T113, 1057, 1055, 1056, 97),
  (yX8_order, cX8_order, 2, (some .int), 7, T114, 1077, 1075, 1076, 97),
  (yX8_ready, cX8_ready, 2, (some .int), 7, T115, 1081, 1079, 1080, 97),
  (yX8_cost, cX8_cost, 6, (some .int), 7, T116, 1085, 1083, 1084, 97),
  (yX8_putBytes, cX8_putBytes, 3, none, 7, T117, 508, 507, 0, 97),
  (yX8_isMachine, cX8_isMachine, 1, (some .boolean), 99, T118, 719, 718, 0, 97),
  (yX8_isGrade, cX8_isGrade, 1, (some .boolean), 99, T119, 951, 950, 0, 97),
  (yX8_hasLayer, cX8_hasLayer, 3, (some .boolean), 7, T120, 699, 698, 18, 97),
  (yX8_canBeTold, cX8_canBeTold, 6, (some .boolean), 7, T121, 742, 741, 19, 97),
  (yX8_staysApart, cX8_staysApart, 9, (some .boolean), 7, T122, 750, 749, 20, 97),
  (yX8_shipsSailed, cX8_shipsSailed, 3, (some .int), 7, T123, 657, 656, 15, 97),
  (yX8_shipsLate, cX8_shipsLate, 3, (some .int), 7, T124, 665, 664, 16, 97),
  (yX8_lateDays, cX8_lateDays, 3, (some .int), 7, T125, 669, 668, 17, 97),
  (yX8_tellGrade, cX8_tellGrade, 4, (some .int), 7, T126, 922, 921, 21, 97),
  (yX8_commonDivisor, cX8_commonDivisor, 7, (some .long), 99, T127, 925, 924, 0, 97),
  (yX9_thrown, cX9_thrown, 1, (some .int), 8, T128, 1165, 1163, 1164, 105),
  (yX9_in, cX9_in, 6, (some .boolean), 99, T129, 1320, 1319, 0, 105),
  (yX9_feed, cX9_feed, 6, (some .int), 8, T130, 1169, 1167, 1168, 105),
  (yX9_puts, cX9_puts, 3, none, 8, T131, 1174, 1172, 35, 105),
  (yX9_byteAt, cX9_byteAt, 2, (some .int), 8, T132, 1328, 1327, 38, 105),
  (yX9_go, cX9_go, 2, none, 8, T133, 1324, 1323, 37, 105),
  (yX9_is, cX9_is, 2, (some .boolean), 8, T134, 1342, 1341, 40, 105),
  (yX9_isOwn, cX9_isOwn, 1, (some .boolean), 8, T135, 1362, 1361, 45, 105),
  (yX9_bad, cX9_bad, 2, (some .boolean), 8, T136, 1354, 1353, 43, 105),
  (yX9_number, cX9_number, 3, (some .boolean), 8, T137, 1394, 1393, 47, 105),
  (yX9_worded, cX9_worded, 4, (some .boolean), 8, T138, 1390, 1389, 46, 105),
  (yX9_name, cX9_name, 2, (some .boolean), 8, T139, 1358, 1357, 44, 105),
  (yX9_begins, cX9_begins, 3, (some .boolean), 8, T140, 1350, 1349, 42, 105),
  (yX9_lotLine, cX9_lotLine, 2, (some .boolean), 8, T141, 1346, 1345, 41, 105),
  (yX9_pileLine, cX9_pileLine, 2, (some .boolean), 8, T142, 1398, 1397, 48, 105),
  (yX9_part, cX9_part, 5, (some .boolean), 8, T143, 1406, 1405, 50, 105),
  (yX9_shipLine, cX9_shipLine, 2, (some .boolean), 8, T144, 1402, 1401, 49, 105),
  (yX9_gapLine, cX9_gapLine, 1, (some .boolean), 8, T145, 1410, 1409, 51, 105),
  (yX9_line, cX9_line, 1, (some .boolean), 8, T146, 1336, 1335, 39, 105),
  (yX9_init, cX9_init, 1, none, 8, T147, 1178, 1177, 0, 105),
  (yX9_text, cX9_text, 5, (some .int), 8, T148, 1317, 1315, 1316, 105),
  (yX9_copies, cX9_copies, 5, none, 99, T149, 1530, 1529, 0, 105),
  (yX9_plain, cX9_plain, 2, none, 8, T150, 1183, 1182, 36, 105),
  (yX9_isLot, cX9_isLot, 2, (some .boolean), 8, T151, 1430, 1429, 54, 105),
  (yX9_isPile, cX9_isPile, 2, (some .boolean), 8, T152, 1448, 1447, 56, 105),
  (yX9_isShip, cX9_isShip, 2, (some .boolean), 8, T153, 1439, 1438, 55, 105),
  (yX9_isCell, cX9_isCell, 3, (some .boolean), 8, T154, 1475, 1474, 60, 105),
  (yX9_shipOf, cX9_shipOf, 3, (some .int), 8, T155, 1422, 1421, 53, 105),
  (yX9_lies, cX9_lies, 3, (some .int), 99, T156, 1455, 1454, 0, 105),
  (yX9_gradeOfLayer, cX9_gradeOfLayer, 3, (some .int), 8, T157, 1459, 1458, 58, 105),
  (yX9_sums, cX9_sums, 7, none, 8, T158, 1452, 1451, 57, 105),
  (yX9_isFull, cX9_isFull, 2, (some .boolean), 8, T159, 1562, 1561, 75, 105),
  (yX9_late, cX9_late, 3, (some .int), 8, T160, 1418, 1417, 52, 105),
  (yX9_count, cX9_count, 4, (some .int), 8, T161, 1414, 1412, 1413, 105),
  (yX9_lot, cX9_lot, 3, (some .int), 8, T162, 1426, 1424, 1425, 105),
  (yX9_ship, cX9_ship, 3, (some .int), 8, T163, 1435, 1433, 1434, 105),
  (yX9_pile, cX9_pile, 3, (some .int), 8, T164, 1444, 1442, 1443, 105),
  (yX9_isLayer, cX9_isLayer, 3, (some .boolean), 8, T165, 1467, 1466, 59, 105),
  (yX9_layer, cX9_layer, 7, (some .int), 8, T166, 1463, 1461, 1462, 105),
  (yX9_tonnes, cX9_tonnes, 4, (some .int), 8, T167, 1471, 1469, 1470, 105),
  (yX9_stands, cX9_stands, 2, (some .int), 8, T168, 1479, 1477, 1478, 105),
  (yX9_apart, cX9_apart, 3, (some .int), 8, T169, 1483, 1481, 1482, 105),
  (yX9_isOn, cX9_isOn, 3, (some .boolean), 8, T170, 1515, 1514, 66, 105),
  (yX9_cellOf, cX9_cellOf, 2, (some .int), 8, T171, 1519, 1518, 67, 105),
  (yX9_isFree, cX9_isFree, 5, (some .boolean), 8, T172, 1511, 1510, 65, 105),
  (yX9_areFree, cX9_areFree, 7, (some .boolean), 8, T173, 1505, 1504, 64, 105),
  (yX9_isApart, cX9_isApart, 5, (some .boolean), 8, T174, 1501, 1500, 63, 105),
  (yX9_stepsTo, cX9_stepsTo, 4, (some .int), 8, T175, 1534, 1533, 69, 105),
  (yX9_stands_, cX9_stands_, 4, none, 8, T176, 1546, 1545, 72, 105),
  (yX9_keeps, cX9_keeps, 2, none, 8, T177, 1527, 1526, 68, 105),
  (yX9_isLaying, cX9_isLaying, 6, (some .boolean), 8, T178, 1496, 1495, 62, 105),
  (yX9_lays, cX9_lays, 6, (some .int), 8, T179, 1492, 1491, 61, 105),
  (yX9_whyLay, cX9_whyLay, 6, (some .int), 8, T180, 1488, 1486, 1487, 105),
  (yX9_newLayer, cX9_newLayer, 4, (some .int), 8, T181, 1542, 1541, 71, 105),
  (yX9_laid, cX9_laid, 8, none, 8, T182, 1538, 1537, 70, 105),
  (yX9_lay, cX9_lay, 7, (some .int), 8, T183, 1523, 1521, 1522, 105),
  (yX9_isCutting, cX9_isCutting, 4, (some .boolean), 8, T184, 1558, 1557, 74, 105),
  (yX9_cuts, cX9_cuts, 4, (some .int), 8, T185, 1554, 1553, 73, 105),
  (yX9_whyCut, cX9_whyCut, 4, (some .int), 8, T186, 1550, 1548, 1549, 105),
  (yX9_loads, cX9_loads, 5, (some .int), 8, T187, 1570, 1569, 76, 105),
  (yX9_cut, cX9_cut, 4, (some .int), 8, T188, 1566, 1564, 1565, 105),
  (yX9_park, cX9_park, 2, (some .boolean), 8, T189, 1574, 1572, 1573, 105),
  (yX9_isGood, cX9_isGood, 4, (some .boolean), 8, T190, 1582, 1581, 77, 105),
  (yX9_sail, cX9_sail, 2, (some .int), 8, T191, 1578, 1576, 1577, 105),
  (yX9_days, cX9_days, 2, (some .int), 8, T192, 1586, 1584, 1585, 105),
  (yX9_toLay, cX9_toLay, 7, (some .int), 8, T193, 1590, 1588, 1589, 105),
  (yX9_toCut, cX9_toCut, 5, (some .int), 8, T194, 1594, 1592, 1593, 105),
  (yX9_drop, cX9_drop, 3, (some .int), 8, T195, 1598, 1596, 1597, 105),
  (yX9_done, cX9_done, 5, none, 8, T196, 1627, 1626, 83, 105),
  (yX9_waits, cX9_waits, 2, (some .int), 8, T197, 1619, 1618, 81, 105),
  (yX9_steps, cX9_steps, 4, none, 8, T198, 1623, 1622, 82, 105),
  (yX9_nears, cX9_nears, 6, (some .int), 8, T199, 1615, 1614, 80, 105),
  (yX9_takes, cX9_takes, 5, (some .int), 8, T200, 1611, 1610, 79, 105),
  (yX9_stacks, cX9_stacks, 8, (some .int), 8, T201, 1631, 1630, 84, 105),
  (yX9_minute, cX9_minute, 3, (some .boolean), 8, T202, 1607, 1606, 78, 105),
  (yX9_minutes, cX9_minutes, 4, (some .int), 8, T203, 1602, 1600, 1601, 105),
  (yX9_ends, cX9_ends, 3, (some .int), 8, T204, 1635, 1633, 1634, 105),
  (yX9_undo, cX9_undo, 1, (some .int), 8, T205, 1639, 1637, 1638, 105),
  (yX9_image, cX9_image, 3, (some .boolean), 8, T206, 1643, 1641, 1642, 105),
  (yX9_common, cX9_common, 10, (some .long), 99, T207, 1658, 1657, 0, 105),
  (yX9_least, cX9_least, 4, (some .int), 8, T208, 1655, 1654, 86, 105),
  (yX9_summed, cX9_summed, 1, (some .int), 8, T209, 1651, 1650, 85, 105),
  (yX9_cell, cX9_cell, 3, (some .int), 8, T210, 1647, 1645, 1646, 105),
  (yX9_whole, cX9_whole, 2, (some .int), 8, T211, 1662, 1660, 1661, 105),
  (yX9_hold, cX9_hold, 2, (some .int), 8, T212, 1666, 1664, 1665, 105),
  (yX9_below, cX9_below, 1, (some .int), 8, T213, 1670, 1668, 1669, 105),
  (yX9_within, cX9_within, 6, (some .int), 8, T214, 1674, 1672, 1673, 105),
  (yX9_spread, cX9_spread, 16, (some .long), 8, T215, 1679, 1677, 1678, 105),
  (yX9_spreadBelow, cX9_spreadBelow, 1, (some .long), 8, T216, 1685, 1683, 1684, 105),
  (yX9_ifLaid, cX9_ifLaid, 7, (some .int), 8, T217, 1689, 1687, 1688, 105),
  (yX9_orders, cX9_orders, 20, none, 8, T218, 1702, 1701, 88, 105),
  (yX9_ordered, cX9_ordered, 5, (some .boolean), 8, T219, 1697, 1696, 87, 105),
  (yX9_layOrder, cX9_layOrder, 4, (some .int), 8, T220, 1693, 1691, 1692, 105),
  (yX9_worst, cX9_worst, 5, (some .long), 8, T221, 1707, 1705, 1706, 105),
  (yX9_worstBelow, cX9_worstBelow, 1, (some .long), 8, T222, 1711, 1709, 1710, 105),
  (yX9_next, cX9_next, 12, (some .int), 8, T223, 1715, 1713, 1714, 105),
  (yX9_wayOf, cX9_wayOf, 6, none, 8, T224, 1727, 1726, 90, 105),
  (yX9_bits, cX9_bits, 3, (some .int), 99, T225, 1730, 1729, 0, 105),
  (yX9_isWay, cX9_isWay, 8, (some .boolean), 8, T226, 1723, 1722, 89, 105),
  (yX9_way, cX9_way, 8, (some .int), 8, T227, 1719, 1717, 1718, 105),
  (yX9_isOpen, cX9_isOpen, 2, (some .boolean), 8, T228, 1746, 1745, 93, 105),
  (yX9_byDue, cX9_byDue, 3, (some .int), 8, T229, 1742, 1741, 92, 105),
  (yX9_longest, cX9_longest, 3, (some .int), 8, T230, 1750, 1749, 94, 105),
  (yX9_plans, cX9_plans, 4, none, 8, T231, 1738, 1737, 91, 105),
  (yX9_fewest, cX9_fewest, 1, (some .int), 8, T232, 1734, 1732, 1733, 105),
  (yX9_order, cX9_order, 2, (some .int), 8, T233, 1754, 1752, 1753, 105),
  (yX9_readyOn, cX9_readyOn, 4, (some .int), 8, T234, 1762, 1761, 95, 105),
  (yX9_ready, cX9_ready, 2, (some .int), 8, T235, 1758, 1756, 1757, 105),
  (yX9_cost, cX9_cost, 5, (some .int), 8, T236, 1766, 1764, 1765, 105),
  (yJ6_numberOfLeadingZeros_0f7a4, cJ6_numberOfLeadingZeros_0f7a4, 2, (some .int), 99, T237, 1046, 1045, 0, 117),
  (yJ6_numberOfTrailingZeros_0f7a4, cJ6_numberOfTrailingZeros_0f7a4, 2, (some .int), 99, T238, 1037, 1036, 0, 117),
  (yJ6_bitCount_0f7a4, cJ6_bitCount_0f7a4, 1, (some .int), 99, T239, 976, 975, 0, 117),
  (yL_law, cL_law, 7, some .boolean, 99, T240, 0, 0, 0, 0)]
def MI (k : Nat) : MInfo := MTB.getD k (yL_law, cL_law, 7, some .boolean, 99, [], 0, 0, 0, 0)
abbrev MY (k : Nat) : MethodName := (MI k).1
abbrev MB (k : Nat) : ByteArray := (MI k).2.1
abbrev ML (k : Nat) : Nat := (MI k).2.2.1
abbrev MR (k : Nat) : Option FieldType := (MI k).2.2.2.1
abbrev MCi (k : Nat) : Nat := (MI k).2.2.2.2.1
abbrev MC (k : Nat) : List CE := (MI k).2.2.2.2.2.1
abbrev MP (k : Nat) : Nat × Nat × Nat × Nat := (MI k).2.2.2.2.2.2
abbrev MO (k : Nat) : String := (MI k).1.cls
def CTB : List (List Value × Nat × Nat) := [([.int 0, .null, .long 0, .long 0, .null, .null, .null], 389, 103), ([.null, .int 0, .int 0, .null, .null], 334, 101), ([.int 0, .int 0, .null, .null, .null, .null], 360, 102), ([.null, .int 0, .int 0, .int 0, .int 0, .int 0, .int 0, .null, .null, .int 0], 127, 98), ([.int 0, .int 0, .int 0, .null, .null, .null, .int 0, .int 0, .int 0], 422, 104), ([.int 0, .int 0, .null, .null, .null, .null, .null, .null, .null, .null, .null, .null, .null, .null, .null], 256, 100), ([.int 0, .int 0, .int 0, .int 0, .int 0, .null, .null, .null, .null, .null, .null, .null, .null, .null], 133, 99), ([.null, .int 0, .null, .null, .null, .null, .null, .null, .null, .null, .null, .int 0, .long 0, .long 0], 119, 97), ([.int 0, .null, .int 0, .int 0, .int 0, .int 0, .int 0, .int 0, .int 0, .int 0, .int 0, .null, .null, .int 0, .int 0, .null, .int 0, .int 0, .int 0, .null, .null, .null, .null, .int 0, .long 0, .long 0, .int 0, .int 0, .null, .null, .null, .long 0, .long 0, .null, .null, .int 0, .int 0, .int 0, .null, .null, .null, .int 0, .int 0], 1173, 105)]
def CI (c : Nat) : List Value × Nat × Nat := CTB.getD c ([], 0, 0)
def STB : List (String × Int32) := [("W_LOT", 12788), ("W_PILE", 533893), ("W_SHIP", 631088), ("W_GAP", 7216), ("W_TONNES", 687290547), ("W_GRADE", 7931013), ("W_CELLS", 3322259), ("W_NEEDS", 14849171), ("W_LOW", 12791), ("W_HIGH", 271592), ("W_DUE", 4773), ("W_LOAD", 408612), ("W_FINE", 206277)]
-- builtins: [(10, 672, 671, 106), (11, 519, 518, 106), (12, 734, 733, 106), (13, 986, 985, 106), (14, 928, 927, 106), (15, 0, 767, 115)] native 768
-- objectInit: inst 124 code 125
-- arrayClass: {'int': 221, 'boolean': 358, 'long': 420, 'byte': 649}
end
section
def gW (i : Nat) (w : Cond) : Bool := decide (lw_tbl[i]? = some w)
theorem gW_in {i : Nat} {w : Cond} (h : gW i w = true) : w ∈ lw_tbl := List.mem_of_getElem? (of_decide_eq_true h)
def TB : List Cond := lw_tbl.filter goodWord
theorem gW_TB {i : Nat} {w : Cond} (h : gW i w = true) (g : goodWord w = true) : w ∈ TB := List.mem_filter.mpr ⟨gW_in h, g⟩
def nP (k : Nat) : Option Nat := (parseMethodDescriptor (MY k).desc).map (fun d => d.parameters.length)
def okMB (k : Nat) : Bool :=
  gW (MP k).2.2.2 (.initialized (MO k)) && plainName (MO k) && decide (MO k ≠ "java/lang/invoke/MethodHandle") && decide (MO k ≠ "java/lang/invoke/VarHandle") && decide (ML k ≤ 40) &&
  (if MCi k = 99 then gW (MP k).2.1 (.static (MY k)) else gW (MP k).2.1 (.instanceMethod (MY k)) && (decide ((MY k).name = "<init>") || gW (MP k).2.2.1 (.selects (MO k) (MY k) (MY k))) && decide ((vwCl[MCi k]?).map (fun q => q.1) = some (MO k)))
def tagB (d : Nat) (ty : FieldType) : Bool := match d, ty with
  | 0, .int => true
  | 1, .long => true
  | 2, .boolean => true
  | 3, .object _ => true
  | 3, .array _ => true
  | _, _ => false
def ilen : Instr → Nat
  | .bipush _ => 2
  | .ldc _ => 2
  | .iload _ => 2
  | .lload _ => 2
  | .aload _ => 2
  | .istore _ => 2
  | .lstore _ => 2
  | .astore _ => 2
  | .newarray _ => 2
  | .sipush _ => 3
  | .ldc_w _ => 3
  | .ldc2_w _ => 3
  | .iinc _ _ => 3
  | .goto _ => 3
  | .ifCond _ _ => 3
  | .if_icmp _ _ => 3
  | .ifnonnull _ => 3
  | .getstatic _ => 3
  | .getfield _ => 3
  | .putfield _ => 3
  | .anewarray _ => 3
  | .new _ => 3
  | .invokespecial _ => 3
  | .invokevirtual _ => 3
  | .invokestatic _ => 3
  | .tableswitch _ _ _ _ => 0
  | _ => 1
def okDB (k : Nat) (e : CE) : Bool := decide (decode (MB k) e.1 = .ok (e.2.1, e.2.2.1)) && (Nat.beq (ilen e.2.1) 0 || Nat.beq (ilen e.2.1) e.2.2.1)
def okEB (k : Nat) (e : CE) : Bool :=
  match e with
  | (pc, i, len, a, b, c, d) => match i with
    | .getfield ix => match vwCl[b]? with
      | some (C, T, N) => decide (c < N) && decide ((T c).1 = C) && gW a (.fieldLink (MO k) ix C (T c).2.1 (T c).2.2.1)
      | none => false
    | .putfield ix => match vwCl[b]? with
      | some (C, T, N) => decide (c < N) && decide ((T c).1 = C) && gW a (.fieldLink (MO k) ix C (T c).2.1 (T c).2.2.1) && (match parseFieldDescriptor (T c).2.2.1 with
        | some ty => tagB d ty
        | none => false) && (!(T c).2.2.2 || (decide ((MY k).name = "<init>") && decide (C = MO k)))
      | none => false
    | .getstatic ix => match STB[c]? with
      | some q => gW a (.fieldLink (MO k) ix "BlendYardModel" q.1 "I")
      | none => false
    | .invokevirtual ix => match d with
      | 0 => gW a (.methodLink (MO k) ix (MY b)) && decide (nP b = some c) && decide (b < 240) && decide (MCi b ≠ 99) && decide ((MY b).name ≠ "<init>")
      | _ => true
    | .invokestatic ix => match d with
      | 1 => gW a (.methodLink (MO k) ix (MY b)) && decide (nP b = some c) && decide (b < 240) && decide (MCi b = 99)
      | 10 => gW a (.methodLink (MO k) ix Lib.Math.max.name)
      | 11 => gW a (.methodLink (MO k) ix Lib.Math.min.name)
      | 12 => gW a (.methodLink (MO k) ix Lib.Math.abs.name)
      | 13 => gW a (.methodLink (MO k) ix Lib.MathLoose.abs_long.x)
      | 14 => gW a (.methodLink (MO k) ix Lib.MathLoose.max_long.x)
      | 15 => gW a (.methodLink (MO k) ix arraycopyName)
      | 19 => decide (k = 240)
      | _ => false
    | .invokespecial ix => match d with
      | 16 => gW a (.methodLink (MO k) ix objectInit)
      | 2 => gW a (.methodLink (MO k) ix (MY b)) && decide (nP b = some c) && decide (b < 240) && decide (MCi b ≠ 99) && decide ((MY b).name = "<init>") && decide (MR b = none)
      | 3 => gW a (.methodLinkNest (MO k) ix (MY b) "BlendYard") && decide (nP b = some c) && decide (b < 240) && decide (MCi b ≠ 99) && decide ((MY b).name = "<init>") && decide (MR b = none)
      | _ => true
    | .new ix => match d with
      | 0 => match vwCl[b]? with
        | some (C, _, N) => decide (c = N) && gW a (.classLink (MO k) ix C)
        | none => false
      | _ => true
    | .anewarray ix => gW a (.classLink (MO k) ix "BlendYard$State")
    | .ldc ix => match d with
      | 0 => gW a (.constant (MO k) ix (Int32.ofNat b))
      | _ => true
    | .ldc_w ix => match d with
      | 0 => gW a (.constant (MO k) ix (Int32.ofNat b))
      | _ => true
    | .ldc2_w ix => gW a (.constantLong (MO k) ix (Int64.ofNat b))
    | .goto off => decide ((pc : Int) + off = (a : Int))
    | .ifCond _ off => decide ((pc : Int) + off = (a : Int))
    | .if_icmp _ off => decide ((pc : Int) + off = (a : Int))
    | .ifnonnull off => decide ((pc : Int) + off = (a : Int))
    | .tableswitch dflt _ _ offs => decide ((pc : Int) + dflt = (a : Int)) && offs.toList.all (fun o => decide (0 ≤ (pc : Int) + o))
    | _ => true
set_option maxRecDepth 1000000 in
theorem okM_0 : (List.range 120).all okMB = true := by decide +kernel
set_option maxRecDepth 1000000 in
theorem okM_1 : (List.range 120).all (fun j => okMB (120 + j)) = true := by decide +kernel
set_option maxRecDepth 1000000 in
theorem okE_0 : (List.range 40).all (fun j => (MC (0 + j)).all (okEB (0 + j))) = true := by decide +kernel
set_option maxRecDepth 1000000 in
theorem okE_1 : (List.range 40).all (fun j => (MC (40 + j)).all (okEB (40 + j))) = true := by decide +kernel
set_option maxRecDepth 1000000 in
theorem okE_2 : (List.range 40).all (fun j => (MC (80 + j)).all (okEB (80 + j))) = true := by decide +kernel
set_option maxRecDepth 1000000 in
theorem okE_3 : (List.range 40).all (fun j => (MC (120 + j)).all (okEB (120 + j))) = true := by decide +kernel
set_option maxRecDepth 1000000 in
theorem okE_4 : (List.range 40).all (fun j => (MC (160 + j)).all (okEB (160 + j))) = true := by decide +kernel
set_option maxRecDepth 1000000 in
theorem okE_5 : (List.range 40).all (fun j => (MC (200 + j)).all (okEB (200 + j))) = true := by decide +kernel
set_option maxRecDepth 1000000 in
theorem okE_6 : (MC 240).all (okEB 240) = true := by decide +kernel
end
section
set_option maxRecDepth 1000000 in
theorem cw_0 : Cond.code (MY 0) (MB 0) (ML 0) (MR 0) ∈ lw_tbl := List.mem_of_getElem? (i := (MP 0).1) (by rfl)
set_option maxRecDepth 1000000 in
theorem cw_1 : Cond.code (MY 1) (MB 1) (ML 1) (MR 1) ∈ lw_tbl := List.mem_of_getElem? (i := (MP 1).1) (by rfl)
set_option maxRecDepth 1000000 in
theorem cw_2 : Cond.code (MY 2) (MB 2) (ML 2) (MR 2) ∈ lw_tbl := List.mem_of_getElem? (i := (MP 2).1) (by rfl)
set_option maxRecDepth 1000000 in
theorem cw_3 : Cond.code (MY 3) (MB 3) (ML 3) (MR 3) ∈ lw_tbl := List.mem_of_getElem? (i := (MP 3).1) (by rfl)
set_option maxRecDepth 1000000 in
theorem cw_4 : Cond.code (MY 4) (MB 4) (ML 4) (MR 4) ∈ lw_tbl := List.mem_of_getElem? (i := (MP 4).1) (by rfl)
set_option maxRecDepth 1000000 in
theorem cw_5 : Cond.code (MY 5) (MB 5) (ML 5) (MR 5) ∈ lw_tbl := List.mem_of_getElem? (i := (MP 5).1) (by rfl)
set_option maxRecDepth 1000000 in
theorem cw_6 : Cond.code (MY 6) (MB 6) (ML 6) (MR 6) ∈ lw_tbl := List.mem_of_getElem? (i := (MP 6).1) (by rfl)
set_option maxRecDepth 1000000 in
theorem cw_7 : Cond.code (MY 7) (MB 7) (ML 7) (MR 7) ∈ lw_tbl := List.mem_of_getElem? (i := (MP 7).1) (by rfl)
set_option maxRecDepth 1000000 in
theorem cw_8 : Cond.code (MY 8) (MB 8) (ML 8) (MR 8) ∈ lw_tbl := List.mem_of_getElem? (i := (MP 8).1) (by rfl)
set_option maxRecDepth 1000000 in
theorem cw_9 : Cond.code (MY 9) (MB 9) (ML 9) (MR 9) ∈ lw_tbl := List.mem_of_getElem? (i := (MP 9).1) (by rfl)
set_option maxRecDepth 1000000 in
theorem cw_10 : Cond.code (MY 10) (MB 10) (ML 10) (MR 10) ∈ lw_tbl := List.mem_of_getElem? (i := (MP 10).1) (by rfl)
set_option maxRecDepth 1000000 in
theorem cw_11 : Cond.code (MY 11) (MB 11) (ML 11) (MR 11) ∈ lw_tbl := List.mem_of_getElem? (i := (MP 11).1) (by rfl)
set_option maxRecDepth 1000000 in
theorem cw_12 : Cond.code (MY 12) (MB 12) (ML 12) (MR 12) ∈ lw_tbl := List.mem_of_getElem? (i := (MP 12).1) (by rfl)
set_option maxRecDepth 1000000 in
theorem cw_13 : Cond.code (MY 13) (MB 13) (ML 13) (MR 13) ∈ lw_tbl := List.mem_of_getElem? (i := (MP 13).1) (by rfl)
set_option maxRecDepth 1000000 in
theorem cw_14 : Cond.code (MY 14) (MB 14) (ML 14) (MR 14) ∈ lw_tbl := List.mem_of_getElem? (i := (MP 14).1) (by rfl)
set_option maxRecDepth 1000000 in
theorem cw_15 : Cond.code (MY 15) (MB 15) (ML 15) (MR 15) ∈ lw_tbl := List.mem_of_getElem? (i := (MP 15).1) (by rfl)
set_option maxRecDepth 1000000 in
theorem cw_16 : Cond.code (MY 16) (MB 16) (ML 16) (MR 16) ∈ lw_tbl := List.mem_of_getElem? (i := (MP 16).1) (by rfl)
set_option maxRecDepth 1000000 in
theorem cw_17 : Cond.code (MY 17) (MB 17) (ML 17) (MR 17) ∈ lw_tbl := List.mem_of_getElem? (i := (MP 17).1) (by rfl)
set_option maxRecDepth 1000000 in
theorem cw_18 : Cond.code (MY 18) (MB 18) (ML 18) (MR 18) ∈ lw_tbl := List.mem_of_getElem? (i := (MP 18).1) (by rfl)
set_option maxRecDepth 1000000 in
theorem cw_19 : Cond.code (MY 19) (MB 19) (ML 19) (MR 19) ∈ lw_tbl := List.mem_of_getElem? (i := (MP 19).1) (by rfl)
set_option maxRecDepth 1000000 in
theorem cw_20 : Cond.code (MY 20) (MB 20) (ML 20) (MR 20) ∈ lw_tbl := List.mem_of_getElem? (i := (MP 20).1) (by rfl)
set_option maxRecDepth 1000000 in
theorem cw_21 : Cond.code (MY 21) (MB 21) (ML 21) (MR 21) ∈ lw_tbl := List.mem_of_getElem? (i := (MP 21).1) (by rfl)
set_option maxRecDepth 1000000 in
theorem cw_22 : Cond.code (MY 22) (MB 22) (ML 22) (MR 22) ∈ lw_tbl := List.mem_of_getElem? (i := (MP 22).1) (by rfl)
set_option maxRecDepth 1000000 in
theorem cw_23 : Cond.code (MY 23) (MB 23) (ML 23) (MR 23) ∈ lw_tbl := List.mem_of_getElem? (i := (MP 23).1) (by rfl)
set_option maxRecDepth 1000000 in
theorem cw_24 : Cond.code (MY 24) (MB 24) (ML 24) (MR 24) ∈ lw_tbl := List.mem_of_getElem? (i := (MP 24).1) (by rfl)
set_option maxRecDepth 1000000 in
theorem cw_25 : Cond.code (MY 25) (MB 25) (ML 25) (MR 25) ∈ lw_tbl := List.mem_of_getElem? (i := (MP 25).1) (by rfl)
set_option maxRecDepth 1000000 in
theorem cw_26 : Cond.code (MY 26) (MB 26) (ML 26) (MR 26) ∈ lw_tbl := List.mem_of_getElem? (i := (MP 26).1) (by rfl)
set_option maxRecDepth 1000000 in
theorem cw_27 : Cond.code (MY 27) (MB 27) (ML 27) (MR 27) ∈ lw_tbl := List.mem_of_getElem? (i := (MP 27).1) (by rfl)
set_option maxRecDepth 1000000 in
theorem cw_28 : Cond.code (MY 28) (MB 28) (ML 28) (MR 28) ∈ lw_tbl := List.mem_of_getElem? (i := (MP 28).1) (by rfl)
set_option maxRecDepth 1000000 in
theorem cw_29 : Cond.code (MY 29) (MB 29) (ML 29) (MR 29) ∈ lw_tbl := List.mem_of_getElem? (i := (MP 29).1) (by rfl)
set_option maxRecDepth 1000000 in
theorem cw_30 : Cond.code (MY 30) (MB 30) (ML 30) (MR 30) ∈ lw_tbl := List.mem_of_getElem? (i := (MP 30).1) (by rfl)
set_option maxRecDepth 1000000 in
theorem cw_31 : Cond.code (MY 31) (MB 31) (ML 31) (MR 31) ∈ lw_tbl := List.mem_of_getElem? (i := (MP 31).1) (by rfl)
set_option maxRecDepth 1000000 in
theorem cw_32 : Cond.code (MY 32) (MB 32) (ML 32) (MR 32) ∈ lw_tbl := List.mem_of_getElem? (i := (MP 32).1) (by rfl)
set_option maxRecDepth 1000000 in
theorem cw_33 : Cond.code (MY 33) (MB 33) (ML 33) (MR 33) ∈ lw_tbl := List.mem_of_getElem? (i := (MP 33).1) (by rfl)
set_option maxRecDepth 1000000 in
theorem cw_34 : Cond.code (MY 34) (MB 34) (ML 34) (MR 34) ∈ lw_tbl := List.mem_of_getElem? (i := (MP 34).1) (by rfl)
set_option maxRecDepth 1000000 in
theorem cw_35 : Cond.code (MY 35) (MB 35) (ML 35) (MR 35) ∈ lw_tbl := List.mem_of_getElem? (i := (MP 35).1) (by rfl)
set_option maxRecDepth 1000000 in
theorem cw_36 : Cond.code (MY 36) (MB 36) (ML 36) (MR 36) ∈ lw_tbl := List.mem_of_getElem? (i := (MP 36).1) (by rfl)
set_option maxRecDepth 1000000 in
theorem cw_37 : Cond.code (MY 37) (MB 37) (ML 37) (MR 37) ∈ lw_tbl := List.mem_of_getElem? (i := (MP 37).1) (by rfl)
set_option maxRecDepth 1000000 in
theorem cw_38 : Cond.code (MY 38) (MB 38) (ML 38) (MR 38) ∈ lw_tbl := List.mem_of_getElem? (i := (MP 38).1) (by rfl)
set_option maxRecDepth 1000000 in
theorem cw_39 : Cond.code (MY 39) (MB 39) (ML 39) (MR 39) ∈ lw_tbl := List.mem_of_getElem? (i := (MP 39).1) (by rfl)
set_option maxRecDepth 1000000 in
theorem cw_40 : Cond.code (MY 40) (MB 40) (ML 40) (MR 40) ∈ lw_tbl := List.mem_of_getElem? (i := (MP 40).1) (by rfl)
set_option maxRecDepth 1000000 in
theorem cw_41 : Cond.code (MY 41) (MB 41) (ML 41) (MR 41) ∈ lw_tbl := List.mem_of_getElem? (i := (MP 41).1) (by rfl)
set_option maxRecDepth 1000000 in
theorem cw_42 : Cond.code (MY 42) (MB 42) (ML 42) (MR 42) ∈ lw_tbl := List.mem_of_getElem? (i := (MP 42).1) (by rfl)
set_option maxRecDepth 1000000 in
theorem cw_43 : Cond.code (MY 43) (MB 43) (ML 43) (MR 43) ∈ lw_tbl := List.mem_of_getElem? (i := (MP 43).1) (by rfl)
set_option maxRecDepth 1000000 in
theorem cw_44 : Cond.code (MY 44) (MB 44) (ML 44) (MR 44) ∈ lw_tbl := List.mem_of_getElem? (i := (MP 44).1) (by rfl)
set_option maxRecDepth 1000000 in
theorem cw_45 : Cond.code (MY 45) (MB 45) (ML 45) (MR 45) ∈ lw_tbl := List.mem_of_getElem? (i := (MP 45).1) (by rfl)
set_option maxRecDepth 1000000 in
theorem cw_46 : Cond.code (MY 46) (MB 46) (ML 46) (MR 46) ∈ lw_tbl := List.mem_of_getElem? (i := (MP 46).1) (by rfl)
set_option maxRecDepth 1000000 in
theorem cw_47 : Cond.code (MY 47) (MB 47) (ML 47) (MR 47) ∈ lw_tbl := List.mem_of_getElem? (i := (MP 47).1) (by rfl)
set_option maxRecDepth 1000000 in
theorem cw_48 : Cond.code (MY 48) (MB 48) (ML 48) (MR 48) ∈ lw_tbl := List.mem_of_getElem? (i := (MP 48).1) (by rfl)
set_option maxRecDepth 1000000 in
theorem cw_49 : Cond.code (MY 49) (MB 49) (ML 49) (MR 49) ∈ lw_tbl := List.mem_of_getElem? (i := (MP 49).1) (by rfl)
set_option maxRecDepth 1000000 in
theorem cw_50 : Cond.code (MY 50) (MB 50) (ML 50) (MR 50) ∈ lw_tbl := List.mem_of_getElem? (i := (MP 50).1) (by rfl)
set_option maxRecDepth 1000000 in
theorem cw_51 : Cond.code (MY 51) (MB 51) (ML 51) (MR 51) ∈ lw_tbl := List.mem_of_getElem? (i := (MP 51).1) (by rfl)
set_option maxRecDepth 1000000 in
theorem cw_52 : Cond.code (MY 52) (MB 52) (ML 52) (MR 52) ∈ lw_tbl := List.mem_of_getElem? (i := (MP 52).1) (by rfl)
set_option maxRecDepth 1000000 in
theorem cw_53 : Cond.code (MY 53) (MB 53) (ML 53) (MR 53) ∈ lw_tbl := List.mem_of_getElem? (i := (MP 53).1) (by rfl)
set_option maxRecDepth 1000000 in
theorem cw_54 : Cond.code (MY 54) (MB 54) (ML 54) (MR 54) ∈ lw_tbl := List.mem_of_getElem? (i := (MP 54).1) (by rfl)
set_option maxRecDepth 1000000 in
theorem cw_55 : Cond.code (MY 55) (MB 55) (ML 55) (MR 55) ∈ lw_tbl := List.mem_of_getElem? (i := (MP 55).1) (by rfl)
set_option maxRecDepth 1000000 in
theorem cw_56 : Cond.code (MY 56) (MB 56) (ML 56) (MR 56) ∈ lw_tbl := List.mem_of_getElem? (i := (MP 56).1) (by rfl)
set_option maxRecDepth 1000000 in
theorem cw_57 : Cond.code (MY 57) (MB 57) (ML 57) (MR 57) ∈ lw_tbl := List.mem_of_getElem? (i := (MP 57).1) (by rfl)
set_option maxRecDepth 1000000 in
theorem cw_58 : Cond.code (MY 58) (MB 58) (ML 58) (MR 58) ∈ lw_tbl := List.mem_of_getElem? (i := (MP 58).1) (by rfl)
set_option maxRecDepth 1000000 in
theorem cw_59 : Cond.code (MY 59) (MB 59) (ML 59) (MR 59) ∈ lw_tbl := List.mem_of_getElem? (i := (MP 59).1) (by rfl)
set_option maxRecDepth 1000000 in
theorem cw_60 : Cond.code (MY 60) (MB 60) (ML 60) (MR 60) ∈ lw_tbl := List.mem_of_getElem? (i := (MP 60).1) (by rfl)
set_option maxRecDepth 1000000 in
theorem cw_61 : Cond.code (MY 61) (MB 61) (ML 61) (MR 61) ∈ lw_tbl := List.mem_of_getElem? (i := (MP 61).1) (by rfl)
set_option maxRecDepth 1000000 in
theorem cw_62 : Cond.code (MY 62) (MB 62) (ML 62) (MR 62) ∈ lw_tbl := List.mem_of_getElem? (i := (MP 62).1) (by rfl)
set_option maxRecDepth 1000000 in
theorem cw_63 : Cond.code (MY 63) (MB 63) (ML 63) (MR 63) ∈ lw_tbl := List.mem_of_getElem? (i := (MP 63).1) (by rfl)
set_option maxRecDepth 1000000 in
theorem cw_64 : Cond.code (MY 64) (MB 64) (ML 64) (MR 64) ∈ lw_tbl := List.mem_of_getElem? (i := (MP 64).1) (by rfl)
set_option maxRecDepth 1000000 in
theorem cw_65 : Cond.code (MY 65) (MB 65) (ML 65) (MR 65) ∈ lw_tbl := List.mem_of_getElem? (i := (MP 65).1) (by rfl)
set_option maxRecDepth 1000000 in
theorem cw_66 : Cond.code (MY 66) (MB 66) (ML 66) (MR 66) ∈ lw_tbl := List.mem_of_getElem? (i := (MP 66).1) (by rfl)
set_option maxRecDepth 1000000 in
theorem cw_67 : Cond.code (MY 67) (MB 67) (ML 67) (MR 67) ∈ lw_tbl := List.mem_of_getElem? (i := (MP 67).1) (by rfl)
set_option maxRecDepth 1000000 in
theorem cw_68 : Cond.code (MY 68) (MB 68) (ML 68) (MR 68) ∈ lw_tbl := List.mem_of_getElem? (i := (MP 68).1) (by rfl)
set_option maxRecDepth 1000000 in
theorem cw_69 : Cond.code (MY 69) (MB 69) (ML 69) (MR 69) ∈ lw_tbl := List.mem_of_getElem? (i := (MP 69).1) (by rfl)
set_option maxRecDepth 1000000 in
theorem cw_70 : Cond.code (MY 70) (MB 70) (ML 70) (MR 70) ∈ lw_tbl := List.mem_of_getElem? (i := (MP 70).1) (by rfl)
set_option maxRecDepth 1000000 in
theorem cw_71 : Cond.code (MY 71) (MB 71) (ML 71) (MR 71) ∈ lw_tbl := List.mem_of_getElem? (i := (MP 71).1) (by rfl)
set_option maxRecDepth 1000000 in
theorem cw_72 : Cond.code (MY 72) (MB 72) (ML 72) (MR 72) ∈ lw_tbl := List.mem_of_getElem? (i := (MP 72).1) (by rfl)
set_option maxRecDepth 1000000 in
theorem cw_73 : Cond.code (MY 73) (MB 73) (ML 73) (MR 73) ∈ lw_tbl := List.mem_of_getElem? (i := (MP 73).1) (by rfl)
set_option maxRecDepth 1000000 in
theorem cw_74 : Cond.code (MY 74) (MB 74) (ML 74) (MR 74) ∈ lw_tbl := List.mem_of_getElem? (i := (MP 74).1) (by rfl)
set_option maxRecDepth 1000000 in
theorem cw_75 : Cond.code (MY 75) (MB 75) (ML 75) (MR 75) ∈ lw_tbl := List.mem_of_getElem? (i := (MP 75).1) (by rfl)
set_option maxRecDepth 1000000 in
theorem cw_76 : Cond.code (MY 76) (MB 76) (ML 76) (MR 76) ∈ lw_tbl := List.mem_of_getElem? (i := (MP 76).1) (by rfl)
set_option maxRecDepth 1000000 in
theorem cw_77 : Cond.code (MY 77) (MB 77) (ML 77) (MR 77) ∈ lw_tbl := List.mem_of_getElem? (i := (MP 77).1) (by rfl)
set_option maxRecDepth 1000000 in
theorem cw_78 : Cond.code (MY 78) (MB 78) (ML 78) (MR 78) ∈ lw_tbl := List.mem_of_getElem? (i := (MP 78).1) (by rfl)
set_option maxRecDepth 1000000 in
theorem cw_79 : Cond.code (MY 79) (MB 79) (ML 79) (MR 79) ∈ lw_tbl := List.mem_of_getElem? (i := (MP 79).1) (by rfl)
set_option maxRecDepth 1000000 in
theorem cw_80 : Cond.code (MY 80) (MB 80) (ML 80) (MR 80) ∈ lw_tbl := List.mem_of_getElem? (i := (MP 80).1) (by rfl)
set_option maxRecDepth 1000000 in
theorem cw_81 : Cond.code (MY 81) (MB 81) (ML 81) (MR 81) ∈ lw_tbl := List.mem_of_getElem? (i := (MP 81).1) (by rfl)
set_option maxRecDepth 1000000 in
theorem cw_82 : Cond.code (MY 82) (MB 82) (ML 82) (MR 82) ∈ lw_tbl := List.mem_of_getElem? (i := (MP 82).1) (by rfl)
set_option maxRecDepth 1000000 in
theorem cw_83 : Cond.code (MY 83) (MB 83) (ML 83) (MR 83) ∈ lw_tbl := List.mem_of_getElem? (i := (MP 83).1) (by rfl)
set_option maxRecDepth 1000000 in
theorem cw_84 : Cond.code (MY 84) (MB 84) (ML 84) (MR 84) ∈ lw_tbl := List.mem_of_getElem? (i := (MP 84).1) (by rfl)
set_option maxRecDepth 1000000 in
theorem cw_85 : Cond.code (MY 85) (MB 85) (ML 85) (MR 85) ∈ lw_tbl := List.mem_of_getElem? (i := (MP 85).1) (by rfl)
set_option maxRecDepth 1000000 in
theorem cw_86 : Cond.code (MY 86) (MB 86) (ML 86) (MR 86) ∈ lw_tbl := List.mem_of_getElem? (i := (MP 86).1) (by rfl)
set_option maxRecDepth 1000000 in
theorem cw_87 : Cond.code (MY 87) (MB 87) (ML 87) (MR 87) ∈ lw_tbl := List.mem_of_getElem? (i := (MP 87).1) (by rfl)
set_option maxRecDepth 1000000 in
theorem cw_88 : Cond.code (MY 88) (MB 88) (ML 88) (MR 88) ∈ lw_tbl := List.mem_of_getElem? (i := (MP 88).1) (by rfl)
set_option maxRecDepth 1000000 in
theorem cw_89 : Cond.code (MY 89) (MB 89) (ML 89) (MR 89) ∈ lw_tbl := List.mem_of_getElem? (i := (MP 89).1) (by rfl)
set_option maxRecDepth 1000000 in
theorem cw_90 : Cond.code (MY 90) (MB 90) (ML 90) (MR 90) ∈ lw_tbl := List.mem_of_getElem? (i := (MP 90).1) (by rfl)
set_option maxRecDepth 1000000 in
theorem cw_91 : Cond.code (MY 91) (MB 91) (ML 91) (MR 91) ∈ lw_tbl := List.mem_of_getElem? (i := (MP 91).1) (by rfl)
set_option maxRecDepth 1000000 in
theorem cw_92 : Cond.code (MY 92) (MB 92) (ML 92) (MR 92) ∈ lw_tbl := List.mem_of_getElem? (i := (MP 92).1) (by rfl)
set_option maxRecDepth 1000000 in
theorem cw_93 : Cond.code (MY 93) (MB 93) (ML 93) (MR 93) ∈ lw_tbl := List.mem_of_getElem? (i := (MP 93).1) (by rfl)
set_option maxRecDepth 1000000 in
theorem cw_94 : Cond.code (MY 94) (MB 94) (ML 94) (MR 94) ∈ lw_tbl := List.mem_of_getElem? (i := (MP 94).1) (by rfl)
set_option maxRecDepth 1000000 in
theorem cw_95 : Cond.code (MY 95) (MB 95) (ML 95) (MR 95) ∈ lw_tbl := List.mem_of_getElem? (i := (MP 95).1) (by rfl)
set_option maxRecDepth 1000000 in
theorem cw_96 : Cond.code (MY 96) (MB 96) (ML 96) (MR 96) ∈ lw_tbl := List.mem_of_getElem? (i := (MP 96).1) (by rfl)
set_option maxRecDepth 1000000 in
theorem cw_97 : Cond.code (MY 97) (MB 97) (ML 97) (MR 97) ∈ lw_tbl := List.mem_of_getElem? (i := (MP 97).1) (by rfl)
set_option maxRecDepth 1000000 in
theorem cw_98 : Cond.code (MY 98) (MB 98) (ML 98) (MR 98) ∈ lw_tbl := List.mem_of_getElem? (i := (MP 98).1) (by rfl)
set_option maxRecDepth 1000000 in
theorem cw_99 : Cond.code (MY 99) (MB 99) (ML 99) (MR 99) ∈ lw_tbl := List.mem_of_getElem? (i := (MP 99).1) (by rfl)
set_option maxRecDepth 1000000 in
theorem cw_100 : Cond.code (MY 100) (MB 100) (ML 100) (MR 100) ∈ lw_tbl := List.mem_of_getElem? (i := (MP 100).1) (by rfl)
set_option maxRecDepth 1000000 in
theorem cw_101 : Cond.code (MY 101) (MB 101) (ML 101) (MR 101) ∈ lw_tbl := List.mem_of_getElem? (i := (MP 101).1) (by rfl)
set_option maxRecDepth 1000000 in
theorem cw_102 : Cond.code (MY 102) (MB 102) (ML 102) (MR 102) ∈ lw_tbl := List.mem_of_getElem? (i := (MP 102).1) (by rfl)
set_option maxRecDepth 1000000 in
theorem cw_103 : Cond.code (MY 103) (MB 103) (ML 103) (MR 103) ∈ lw_tbl := List.mem_of_getElem? (i := (MP 103).1) (by rfl)
set_option maxRecDepth 1000000 in
theorem cw_104 : Cond.code (MY 104) (MB 104) (ML 104) (MR 104) ∈ lw_tbl := List.mem_of_getElem? (i := (MP 104).1) (by rfl)
set_option maxRecDepth 1000000 in
theorem cw_105 : Cond.code (MY 105) (MB 105) (ML 105) (MR 105) ∈ lw_tbl := List.mem_of_getElem? (i := (MP 105).1) (by rfl)
set_option maxRecDepth 1000000 in
theorem cw_106 : Cond.code (MY 106) (MB 106) (ML 106) (MR 106) ∈ lw_tbl := List.mem_of_getElem? (i := (MP 106).1) (by rfl)
set_option maxRecDepth 1000000 in
theorem cw_107 : Cond.code (MY 107) (MB 107) (ML 107) (MR 107) ∈ lw_tbl := List.mem_of_getElem? (i := (MP 107).1) (by rfl)
set_option maxRecDepth 1000000 in
theorem cw_108 : Cond.code (MY 108) (MB 108) (ML 108) (MR 108) ∈ lw_tbl := List.mem_of_getElem? (i := (MP 108).1) (by rfl)
set_option maxRecDepth 1000000 in
theorem cw_109 : Cond.code (MY 109) (MB 109) (ML 109) (MR 109) ∈ lw_tbl := List.mem_of_getElem? (i := (MP 109).1) (by rfl)
set_option maxRecDepth 1000000 in
theorem cw_110 : Cond.code (MY 110) (MB 110) (ML 110) (MR 110) ∈ lw_tbl := List.mem_of_getElem? (i := (MP 110).1) (by rfl)
set_option maxRecDepth 1000000 in
theorem cw_111 : Cond.code (MY 111) (MB 111) (ML 111) (MR 111) ∈ lw_tbl := List.mem_of_getElem? (i := (MP 111).1) (by rfl)
set_option maxRecDepth 1000000 in
theorem cw_112 : Cond.code (MY 112) (MB 112) (ML 112) (MR 112) ∈ lw_tbl := List.mem_of_getElem? (i := (MP 112).1) (by rfl)
set_option maxRecDepth 1000000 in
theorem cw_113 : Cond.code (MY 113) (MB 113) (ML 113) (MR 113) ∈ lw_tbl := List.mem_of_getElem? (i := (MP 113).1) (by rfl)
set_option maxRecDepth 1000000 in
theorem cw_114 : Cond.code (MY 114) (MB 114) (ML 114) (MR 114) ∈ lw_tbl := List.mem_of_getElem? (i := (MP 114).1) (by rfl)
set_option maxRecDepth 1000000 in
theorem cw_115 : Cond.code (MY 115) (MB 115) (ML 115) (MR 115) ∈ lw_tbl := List.mem_of_getElem? (i := (MP 115).1) (by rfl)
set_option maxRecDepth 1000000 in
theorem cw_116 : Cond.code (MY 116) (MB 116) (ML 116) (MR 116) ∈ lw_tbl := List.mem_of_getElem? (i := (MP 116).1) (by rfl)
set_option maxRecDepth 1000000 in
theorem cw_117 : Cond.code (MY 117) (MB 117) (ML 117) (MR 117) ∈ lw_tbl := List.mem_of_getElem? (i := (MP 117).1) (by rfl)
set_option maxRecDepth 1000000 in
theorem cw_118 : Cond.code (MY 118) (MB 118) (ML 118) (MR 118) ∈ lw_tbl := List.mem_of_getElem? (i := (MP 118).1) (by rfl)
set_option maxRecDepth 1000000 in
theorem cw_119 : Cond.code (MY 119) (MB 119) (ML 119) (MR 119) ∈ lw_tbl := List.mem_of_getElem? (i := (MP 119).1) (by rfl)
set_option maxRecDepth 1000000 in
theorem cw_120 : Cond.code (MY 120) (MB 120) (ML 120) (MR 120) ∈ lw_tbl := List.mem_of_getElem? (i := (MP 120).1) (by rfl)
set_option maxRecDepth 1000000 in
theorem cw_121 : Cond.code (MY 121) (MB 121) (ML 121) (MR 121) ∈ lw_tbl := List.mem_of_getElem? (i := (MP 121).1) (by rfl)
set_option maxRecDepth 1000000 in
theorem cw_122 : Cond.code (MY 122) (MB 122) (ML 122) (MR 122) ∈ lw_tbl := List.mem_of_getElem? (i := (MP 122).1) (by rfl)
set_option maxRecDepth 1000000 in
theorem cw_123 : Cond.code (MY 123) (MB 123) (ML 123) (MR 123) ∈ lw_tbl := List.mem_of_getElem? (i := (MP 123).1) (by rfl)
set_option maxRecDepth 1000000 in
theorem cw_124 : Cond.code (MY 124) (MB 124) (ML 124) (MR 124) ∈ lw_tbl := List.mem_of_getElem? (i := (MP 124).1) (by rfl)
set_option maxRecDepth 1000000 in
theorem cw_125 : Cond.code (MY 125) (MB 125) (ML 125) (MR 125) ∈ lw_tbl := List.mem_of_getElem? (i := (MP 125).1) (by rfl)
set_option maxRecDepth 1000000 in
theorem cw_126 : Cond.code (MY 126) (MB 126) (ML 126) (MR 126) ∈ lw_tbl := List.mem_of_getElem? (i := (MP 126).1) (by rfl)
set_option maxRecDepth 1000000 in
theorem cw_127 : Cond.code (MY 127) (MB 127) (ML 127) (MR 127) ∈ lw_tbl := List.mem_of_getElem? (i := (MP 127).1) (by rfl)
set_option maxRecDepth 1000000 in
theorem cw_128 : Cond.code (MY 128) (MB 128) (ML 128) (MR 128) ∈ lw_tbl := List.mem_of_getElem? (i := (MP 128).1) (by rfl)
set_option maxRecDepth 1000000 in
theorem cw_129 : Cond.code (MY 129) (MB 129) (ML 129) (MR 129) ∈ lw_tbl := List.mem_of_getElem? (i := (MP 129).1) (by rfl)
set_option maxRecDepth 1000000 in
theorem cw_130 : Cond.code (MY 130) (MB 130) (ML 130) (MR 130) ∈ lw_tbl := List.mem_of_getElem? (i := (MP 130).1) (by rfl)
set_option maxRecDepth 1000000 in
theorem cw_131 : Cond.code (MY 131) (MB 131) (ML 131) (MR 131) ∈ lw_tbl := List.mem_of_getElem? (i := (MP 131).1) (by rfl)
set_option maxRecDepth 1000000 in
theorem cw_132 : Cond.code (MY 132) (MB 132) (ML 132) (MR 132) ∈ lw_tbl := List.mem_of_getElem? (i := (MP 132).1) (by rfl)
set_option maxRecDepth 1000000 in
theorem cw_133 : Cond.code (MY 133) (MB 133) (ML 133) (MR 133) ∈ lw_tbl := List.mem_of_getElem? (i := (MP 133).1) (by rfl)
set_option maxRecDepth 1000000 in
theorem cw_134 : Cond.code (MY 134) (MB 134) (ML 134) (MR 134) ∈ lw_tbl := List.mem_of_getElem? (i := (MP 134).1) (by rfl)
set_option maxRecDepth 1000000 in
theorem cw_135 : Cond.code (MY 135) (MB 135) (ML 135) (MR 135) ∈ lw_tbl := List.mem_of_getElem? (i := (MP 135).1) (by rfl)
set_option maxRecDepth 1000000 in
theorem cw_136 : Cond.code (MY 136) (MB 136) (ML 136) (MR 136) ∈ lw_tbl := List.mem_of_getElem? (i := (MP 136).1) (by rfl)
set_option maxRecDepth 1000000 in
theorem cw_137 : Cond.code (MY 137) (MB 137) (ML 137) (MR 137) ∈ lw_tbl := List.mem_of_getElem? (i := (MP 137).1) (by rfl)
set_option maxRecDepth 1000000 in
theorem cw_138 : Cond.code (MY 138) (MB 138) (ML 138) (MR 138) ∈ lw_tbl := List.mem_of_getElem? (i := (MP 138).1) (by rfl)
set_option maxRecDepth 1000000 in
theorem cw_139 : Cond.code (MY 139) (MB 139) (ML 139) (MR 139) ∈ lw_tbl := List.mem_of_getElem? (i := (MP 139).1) (by rfl)
set_option maxRecDepth 1000000 in
theorem cw_140 : Cond.code (MY 140) (MB 140) (ML 140) (MR 140) ∈ lw_tbl := List.mem_of_getElem? (i := (MP 140).1) (by rfl)
set_option maxRecDepth 1000000 in
theorem cw_141 : Cond.code (MY 141) (MB 141) (ML 141) (MR 141) ∈ lw_tbl := List.mem_of_getElem? (i := (MP 141).1) (by rfl)
set_option maxRecDepth 1000000 in
theorem cw_142 : Cond.code (MY 142) (MB 142) (ML 142) (MR 142) ∈ lw_tbl := List.mem_of_getElem? (i := (MP 142).1) (by rfl)
set_option maxRecDepth 1000000 in
theorem cw_143 : Cond.code (MY 143) (MB 143) (ML 143) (MR 143) ∈ lw_tbl := List.mem_of_getElem? (i := (MP 143).1) (by rfl)
set_option maxRecDepth 1000000 in
theorem cw_144 : Cond.code (MY 144) (MB 144) (ML 144) (MR 144) ∈ lw_tbl := List.mem_of_getElem? (i := (MP 144).1) (by rfl)
set_option maxRecDepth 1000000 in
theorem cw_145 : Cond.code (MY 145) (MB 145) (ML 145) (MR 145) ∈ lw_tbl := List.mem_of_getElem? (i := (MP 145).1) (by rfl)
set_option maxRecDepth 1000000 in
theorem cw_146 : Cond.code (MY 146) (MB 146) (ML 146) (MR 146) ∈ lw_tbl := List.mem_of_getElem? (i := (MP 146).1) (by rfl)
set_option maxRecDepth 1000000 in
theorem cw_147 : Cond.code (MY 147) (MB 147) (ML 147) (MR 147) ∈ lw_tbl := List.mem_of_getElem? (i := (MP 147).1) (by rfl)
set_option maxRecDepth 1000000 in
theorem cw_148 : Cond.code (MY 148) (MB 148) (ML 148) (MR 148) ∈ lw_tbl := List.mem_of_getElem? (i := (MP 148).1) (by rfl)
set_option maxRecDepth 1000000 in
theorem cw_149 : Cond.code (MY 149) (MB 149) (ML 149) (MR 149) ∈ lw_tbl := List.mem_of_getElem? (i := (MP 149).1) (by rfl)
set_option maxRecDepth 1000000 in
theorem cw_150 : Cond.code (MY 150) (MB 150) (ML 150) (MR 150) ∈ lw_tbl := List.mem_of_getElem? (i := (MP 150).1) (by rfl)
set_option maxRecDepth 1000000 in
theorem cw_151 : Cond.code (MY 151) (MB 151) (ML 151) (MR 151) ∈ lw_tbl := List.mem_of_getElem? (i := (MP 151).1) (by rfl)
set_option maxRecDepth 1000000 in
theorem cw_152 : Cond.code (MY 152) (MB 152) (ML 152) (MR 152) ∈ lw_tbl := List.mem_of_getElem? (i := (MP 152).1) (by rfl)
set_option maxRecDepth 1000000 in
theorem cw_153 : Cond.code (MY 153) (MB 153) (ML 153) (MR 153) ∈ lw_tbl := List.mem_of_getElem? (i := (MP 153).1) (by rfl)
set_option maxRecDepth 1000000 in
theorem cw_154 : Cond.code (MY 154) (MB 154) (ML 154) (MR 154) ∈ lw_tbl := List.mem_of_getElem? (i := (MP 154).1) (by rfl)
set_option maxRecDepth 1000000 in
theorem cw_155 : Cond.code (MY 155) (MB 155) (ML 155) (MR 155) ∈ lw_tbl := List.mem_of_getElem? (i := (MP 155).1) (by rfl)
set_option maxRecDepth 1000000 in
theorem cw_156 : Cond.code (MY 156) (MB 156) (ML 156) (MR 156) ∈ lw_tbl := List.mem_of_getElem? (i := (MP 156).1) (by rfl)
set_option maxRecDepth 1000000 in
theorem cw_157 : Cond.code (MY 157) (MB 157) (ML 157) (MR 157) ∈ lw_tbl := List.mem_of_getElem? (i := (MP 157).1) (by rfl)
set_option maxRecDepth 1000000 in
theorem cw_158 : Cond.code (MY 158) (MB 158) (ML 158) (MR 158) ∈ lw_tbl := List.mem_of_getElem? (i := (MP 158).1) (by rfl)
set_option maxRecDepth 1000000 in
theorem cw_159 : Cond.code (MY 159) (MB 159) (ML 159) (MR 159) ∈ lw_tbl := List.mem_of_getElem? (i := (MP 159).1) (by rfl)
set_option maxRecDepth 1000000 in
theorem cw_160 : Cond.code (MY 160) (MB 160) (ML 160) (MR 160) ∈ lw_tbl := List.mem_of_getElem? (i := (MP 160).1) (by rfl)
set_option maxRecDepth 1000000 in
theorem cw_161 : Cond.code (MY 161) (MB 161) (ML 161) (MR 161) ∈ lw_tbl := List.mem_of_getElem? (i := (MP 161).1) (by rfl)
set_option maxRecDepth 1000000 in
theorem cw_162 : Cond.code (MY 162) (MB 162) (ML 162) (MR 162) ∈ lw_tbl := List.mem_of_getElem? (i := (MP 162).1) (by rfl)
set_option maxRecDepth 1000000 in
theorem cw_163 : Cond.code (MY 163) (MB 163) (ML 163) (MR 163) ∈ lw_tbl := List.mem_of_getElem? (i := (MP 163).1) (by rfl)
set_option maxRecDepth 1000000 in
theorem cw_164 : Cond.code (MY 164) (MB 164) (ML 164) (MR 164) ∈ lw_tbl := List.mem_of_getElem? (i := (MP 164).1) (by rfl)
set_option maxRecDepth 1000000 in
theorem cw_165 : Cond.code (MY 165) (MB 165) (ML 165) (MR 165) ∈ lw_tbl := List.mem_of_getElem? (i := (MP 165).1) (by rfl)
set_option maxRecDepth 1000000 in
theorem cw_166 : Cond.code (MY 166) (MB 166) (ML 166) (MR 166) ∈ lw_tbl := List.mem_of_getElem? (i := (MP 166).1) (by rfl)
set_option maxRecDepth 1000000 in
theorem cw_167 : Cond.code (MY 167) (MB 167) (ML 167) (MR 167) ∈ lw_tbl := List.mem_of_getElem? (i := (MP 167).1) (by rfl)
set_option maxRecDepth 1000000 in
theorem cw_168 : Cond.code (MY 168) (MB 168) (ML 168) (MR 168) ∈ lw_tbl := List.mem_of_getElem? (i := (MP 168).1) (by rfl)
set_option maxRecDepth 1000000 in
theorem cw_169 : Cond.code (MY 169) (MB 169) (ML 169) (MR 169) ∈ lw_tbl := List.mem_of_getElem? (i := (MP 169).1) (by rfl)
set_option maxRecDepth 1000000 in
theorem cw_170 : Cond.code (MY 170) (MB 170) (ML 170) (MR 170) ∈ lw_tbl := List.mem_of_getElem? (i := (MP 170).1) (by rfl)
set_option maxRecDepth 1000000 in
theorem cw_171 : Cond.code (MY 171) (MB 171) (ML 171) (MR 171) ∈ lw_tbl := List.mem_of_getElem? (i := (MP 171).1) (by rfl)
set_option maxRecDepth 1000000 in
theorem cw_172 : Cond.code (MY 172) (MB 172) (ML 172) (MR 172) ∈ lw_tbl := List.mem_of_getElem? (i := (MP 172).1) (by rfl)
set_option maxRecDepth 1000000 in
theorem cw_173 : Cond.code (MY 173) (MB 173) (ML 173) (MR 173) ∈ lw_tbl := List.mem_of_getElem? (i := (MP 173).1) (by rfl)
set_option maxRecDepth 1000000 in
theorem cw_174 : Cond.code (MY 174) (MB 174) (ML 174) (MR 174) ∈ lw_tbl := List.mem_of_getElem? (i := (MP 174).1) (by rfl)
set_option maxRecDepth 1000000 in
theorem cw_175 : Cond.code (MY 175) (MB 175) (ML 175) (MR 175) ∈ lw_tbl := List.mem_of_getElem? (i := (MP 175).1) (by rfl)
set_option maxRecDepth 1000000 in
theorem cw_176 : Cond.code (MY 176) (MB 176) (ML 176) (MR 176) ∈ lw_tbl := List.mem_of_getElem? (i := (MP 176).1) (by rfl)
set_option maxRecDepth 1000000 in
theorem cw_177 : Cond.code (MY 177) (MB 177) (ML 177) (MR 177) ∈ lw_tbl := List.mem_of_getElem? (i := (MP 177).1) (by rfl)
set_option maxRecDepth 1000000 in
theorem cw_178 : Cond.code (MY 178) (MB 178) (ML 178) (MR 178) ∈ lw_tbl := List.mem_of_getElem? (i := (MP 178).1) (by rfl)
set_option maxRecDepth 1000000 in
theorem cw_179 : Cond.code (MY 179) (MB 179) (ML 179) (MR 179) ∈ lw_tbl := List.mem_of_getElem? (i := (MP 179).1) (by rfl)
set_option maxRecDepth 1000000 in
theorem cw_180 : Cond.code (MY 180) (MB 180) (ML 180) (MR 180) ∈ lw_tbl := List.mem_of_getElem? (i := (MP 180).1) (by rfl)
set_option maxRecDepth 1000000 in
theorem cw_181 : Cond.code (MY 181) (MB 181) (ML 181) (MR 181) ∈ lw_tbl := List.mem_of_getElem? (i := (MP 181).1) (by rfl)
set_option maxRecDepth 1000000 in
theorem cw_182 : Cond.code (MY 182) (MB 182) (ML 182) (MR 182) ∈ lw_tbl := List.mem_of_getElem? (i := (MP 182).1) (by rfl)
set_option maxRecDepth 1000000 in
theorem cw_183 : Cond.code (MY 183) (MB 183) (ML 183) (MR 183) ∈ lw_tbl := List.mem_of_getElem? (i := (MP 183).1) (by rfl)
set_option maxRecDepth 1000000 in
theorem cw_184 : Cond.code (MY 184) (MB 184) (ML 184) (MR 184) ∈ lw_tbl := List.mem_of_getElem? (i := (MP 184).1) (by rfl)
set_option maxRecDepth 1000000 in
theorem cw_185 : Cond.code (MY 185) (MB 185) (ML 185) (MR 185) ∈ lw_tbl := List.mem_of_getElem? (i := (MP 185).1) (by rfl)
set_option maxRecDepth 1000000 in
theorem cw_186 : Cond.code (MY 186) (MB 186) (ML 186) (MR 186) ∈ lw_tbl := List.mem_of_getElem? (i := (MP 186).1) (by rfl)
set_option maxRecDepth 1000000 in
theorem cw_187 : Cond.code (MY 187) (MB 187) (ML 187) (MR 187) ∈ lw_tbl := List.mem_of_getElem? (i := (MP 187).1) (by rfl)
set_option maxRecDepth 1000000 in
theorem cw_188 : Cond.code (MY 188) (MB 188) (ML 188) (MR 188) ∈ lw_tbl := List.mem_of_getElem? (i := (MP 188).1) (by rfl)
set_option maxRecDepth 1000000 in
theorem cw_189 : Cond.code (MY 189) (MB 189) (ML 189) (MR 189) ∈ lw_tbl := List.mem_of_getElem? (i := (MP 189).1) (by rfl)
set_option maxRecDepth 1000000 in
theorem cw_190 : Cond.code (MY 190) (MB 190) (ML 190) (MR 190) ∈ lw_tbl := List.mem_of_getElem? (i := (MP 190).1) (by rfl)
set_option maxRecDepth 1000000 in
theorem cw_191 : Cond.code (MY 191) (MB 191) (ML 191) (MR 191) ∈ lw_tbl := List.mem_of_getElem? (i := (MP 191).1) (by rfl)
set_option maxRecDepth 1000000 in
theorem cw_192 : Cond.code (MY 192) (MB 192) (ML 192) (MR 192) ∈ lw_tbl := List.mem_of_getElem? (i := (MP 192).1) (by rfl)
set_option maxRecDepth 1000000 in
theorem cw_193 : Cond.code (MY 193) (MB 193) (ML 193) (MR 193) ∈ lw_tbl := List.mem_of_getElem? (i := (MP 193).1) (by rfl)
set_option maxRecDepth 1000000 in
theorem cw_194 : Cond.code (MY 194) (MB 194) (ML 194) (MR 194) ∈ lw_tbl := List.mem_of_getElem? (i := (MP 194).1) (by rfl)
set_option maxRecDepth 1000000 in
theorem cw_195 : Cond.code (MY 195) (MB 195) (ML 195) (MR 195) ∈ lw_tbl := List.mem_of_getElem? (i := (MP 195).1) (by rfl)
set_option maxRecDepth 1000000 in
theorem cw_196 : Cond.code (MY 196) (MB 196) (ML 196) (MR 196) ∈ lw_tbl := List.mem_of_getElem? (i := (MP 196).1) (by rfl)
set_option maxRecDepth 1000000 in
theorem cw_197 : Cond.code (MY 197) (MB 197) (ML 197) (MR 197) ∈ lw_tbl := List.mem_of_getElem? (i := (MP 197).1) (by rfl)
set_option maxRecDepth 1000000 in
theorem cw_198 : Cond.code (MY 198) (MB 198) (ML 198) (MR 198) ∈ lw_tbl := List.mem_of_getElem? (i := (MP 198).1) (by rfl)
set_option maxRecDepth 1000000 in
theorem cw_199 : Cond.code (MY 199) (MB 199) (ML 199) (MR 199) ∈ lw_tbl := List.mem_of_getElem? (i := (MP 199).1) (by rfl)
set_option maxRecDepth 1000000 in
theorem cw_200 : Cond.code (MY 200) (MB 200) (ML 200) (MR 200) ∈ lw_tbl := List.mem_of_getElem? (i := (MP 200).1) (by rfl)
set_option maxRecDepth 1000000 in
theorem cw_201 : Cond.code (MY 201) (MB 201) (ML 201) (MR 201) ∈ lw_tbl := List.mem_of_getElem? (i := (MP 201).1) (by rfl)
set_option maxRecDepth 1000000 in
theorem cw_202 : Cond.code (MY 202) (MB 202) (ML 202) (MR 202) ∈ lw_tbl := List.mem_of_getElem? (i := (MP 202).1) (by rfl)
set_option maxRecDepth 1000000 in
theorem cw_203 : Cond.code (MY 203) (MB 203) (ML 203) (MR 203) ∈ lw_tbl := List.mem_of_getElem? (i := (MP 203).1) (by rfl)
set_option maxRecDepth 1000000 in
theorem cw_204 : Cond.code (MY 204) (MB 204) (ML 204) (MR 204) ∈ lw_tbl := List.mem_of_getElem? (i := (MP 204).1) (by rfl)
set_option maxRecDepth 1000000 in
theorem cw_205 : Cond.code (MY 205) (MB 205) (ML 205) (MR 205) ∈ lw_tbl := List.mem_of_getElem? (i := (MP 205).1) (by rfl)
set_option maxRecDepth 1000000 in
theorem cw_206 : Cond.code (MY 206) (MB 206) (ML 206) (MR 206) ∈ lw_tbl := List.mem_of_getElem? (i := (MP 206).1) (by rfl)
set_option maxRecDepth 1000000 in
theorem cw_207 : Cond.code (MY 207) (MB 207) (ML 207) (MR 207) ∈ lw_tbl := List.mem_of_getElem? (i := (MP 207).1) (by rfl)
set_option maxRecDepth 1000000 in
theorem cw_208 : Cond.code (MY 208) (MB 208) (ML 208) (MR 208) ∈ lw_tbl := List.mem_of_getElem? (i := (MP 208).1) (by rfl)
set_option maxRecDepth 1000000 in
theorem cw_209 : Cond.code (MY 209) (MB 209) (ML 209) (MR 209) ∈ lw_tbl := List.mem_of_getElem? (i := (MP 209).1) (by rfl)
set_option maxRecDepth 1000000 in
theorem cw_210 : Cond.code (MY 210) (MB 210) (ML 210) (MR 210) ∈ lw_tbl := List.mem_of_getElem? (i := (MP 210).1) (by rfl)
set_option maxRecDepth 1000000 in
theorem cw_211 : Cond.code (MY 211) (MB 211) (ML 211) (MR 211) ∈ lw_tbl := List.mem_of_getElem? (i := (MP 211).1) (by rfl)
set_option maxRecDepth 1000000 in
theorem cw_212 : Cond.code (MY 212) (MB 212) (ML 212) (MR 212) ∈ lw_tbl := List.mem_of_getElem? (i := (MP 212).1) (by rfl)
set_option maxRecDepth 1000000 in
theorem cw_213 : Cond.code (MY 213) (MB 213) (ML 213) (MR 213) ∈ lw_tbl := List.mem_of_getElem? (i := (MP 213).1) (by rfl)
set_option maxRecDepth 1000000 in
theorem cw_214 : Cond.code (MY 214) (MB 214) (ML 214) (MR 214) ∈ lw_tbl := List.mem_of_getElem? (i := (MP 214).1) (by rfl)
set_option maxRecDepth 1000000 in
theorem cw_215 : Cond.code (MY 215) (MB 215) (ML 215) (MR 215) ∈ lw_tbl := List.mem_of_getElem? (i := (MP 215).1) (by rfl)
set_option maxRecDepth 1000000 in
theorem cw_216 : Cond.code (MY 216) (MB 216) (ML 216) (MR 216) ∈ lw_tbl := List.mem_of_getElem? (i := (MP 216).1) (by rfl)
set_option maxRecDepth 1000000 in
theorem cw_217 : Cond.code (MY 217) (MB 217) (ML 217) (MR 217) ∈ lw_tbl := List.mem_of_getElem? (i := (MP 217).1) (by rfl)
set_option maxRecDepth 1000000 in
theorem cw_218 : Cond.code (MY 218) (MB 218) (ML 218) (MR 218) ∈ lw_tbl := List.mem_of_getElem? (i := (MP 218).1) (by rfl)
set_option maxRecDepth 1000000 in
theorem cw_219 : Cond.code (MY 219) (MB 219) (ML 219) (MR 219) ∈ lw_tbl := List.mem_of_getElem? (i := (MP 219).1) (by rfl)
set_option maxRecDepth 1000000 in
theorem cw_220 : Cond.code (MY 220) (MB 220) (ML 220) (MR 220) ∈ lw_tbl := List.mem_of_getElem? (i := (MP 220).1) (by rfl)
set_option maxRecDepth 1000000 in
theorem cw_221 : Cond.code (MY 221) (MB 221) (ML 221) (MR 221) ∈ lw_tbl := List.mem_of_getElem? (i := (MP 221).1) (by rfl)
set_option maxRecDepth 1000000 in
theorem cw_222 : Cond.code (MY 222) (MB 222) (ML 222) (MR 222) ∈ lw_tbl := List.mem_of_getElem? (i := (MP 222).1) (by rfl)
set_option maxRecDepth 1000000 in
theorem cw_223 : Cond.code (MY 223) (MB 223) (ML 223) (MR 223) ∈ lw_tbl := List.mem_of_getElem? (i := (MP 223).1) (by rfl)
set_option maxRecDepth 1000000 in
theorem cw_224 : Cond.code (MY 224) (MB 224) (ML 224) (MR 224) ∈ lw_tbl := List.mem_of_getElem? (i := (MP 224).1) (by rfl)
set_option maxRecDepth 1000000 in
theorem cw_225 : Cond.code (MY 225) (MB 225) (ML 225) (MR 225) ∈ lw_tbl := List.mem_of_getElem? (i := (MP 225).1) (by rfl)
set_option maxRecDepth 1000000 in
theorem cw_226 : Cond.code (MY 226) (MB 226) (ML 226) (MR 226) ∈ lw_tbl := List.mem_of_getElem? (i := (MP 226).1) (by rfl)
set_option maxRecDepth 1000000 in
theorem cw_227 : Cond.code (MY 227) (MB 227) (ML 227) (MR 227) ∈ lw_tbl := List.mem_of_getElem? (i := (MP 227).1) (by rfl)
set_option maxRecDepth 1000000 in
theorem cw_228 : Cond.code (MY 228) (MB 228) (ML 228) (MR 228) ∈ lw_tbl := List.mem_of_getElem? (i := (MP 228).1) (by rfl)
set_option maxRecDepth 1000000 in
theorem cw_229 : Cond.code (MY 229) (MB 229) (ML 229) (MR 229) ∈ lw_tbl := List.mem_of_getElem? (i := (MP 229).1) (by rfl)
set_option maxRecDepth 1000000 in
theorem cw_230 : Cond.code (MY 230) (MB 230) (ML 230) (MR 230) ∈ lw_tbl := List.mem_of_getElem? (i := (MP 230).1) (by rfl)
set_option maxRecDepth 1000000 in
theorem cw_231 : Cond.code (MY 231) (MB 231) (ML 231) (MR 231) ∈ lw_tbl := List.mem_of_getElem? (i := (MP 231).1) (by rfl)
set_option maxRecDepth 1000000 in
theorem cw_232 : Cond.code (MY 232) (MB 232) (ML 232) (MR 232) ∈ lw_tbl := List.mem_of_getElem? (i := (MP 232).1) (by rfl)
set_option maxRecDepth 1000000 in
theorem cw_233 : Cond.code (MY 233) (MB 233) (ML 233) (MR 233) ∈ lw_tbl := List.mem_of_getElem? (i := (MP 233).1) (by rfl)
set_option maxRecDepth 1000000 in
theorem cw_234 : Cond.code (MY 234) (MB 234) (ML 234) (MR 234) ∈ lw_tbl := List.mem_of_getElem? (i := (MP 234).1) (by rfl)
set_option maxRecDepth 1000000 in
theorem cw_235 : Cond.code (MY 235) (MB 235) (ML 235) (MR 235) ∈ lw_tbl := List.mem_of_getElem? (i := (MP 235).1) (by rfl)
set_option maxRecDepth 1000000 in
theorem cw_236 : Cond.code (MY 236) (MB 236) (ML 236) (MR 236) ∈ lw_tbl := List.mem_of_getElem? (i := (MP 236).1) (by rfl)
set_option maxRecDepth 1000000 in
theorem cw_237 : Cond.code (MY 237) (MB 237) (ML 237) (MR 237) ∈ lw_tbl := List.mem_of_getElem? (i := (MP 237).1) (by rfl)
set_option maxRecDepth 1000000 in
theorem cw_238 : Cond.code (MY 238) (MB 238) (ML 238) (MR 238) ∈ lw_tbl := List.mem_of_getElem? (i := (MP 238).1) (by rfl)
set_option maxRecDepth 1000000 in
theorem cw_239 : Cond.code (MY 239) (MB 239) (ML 239) (MR 239) ∈ lw_tbl := List.mem_of_getElem? (i := (MP 239).1) (by rfl)
theorem cw_all : ∀ k, k < 240 → Cond.code (MY k) (MB k) (ML k) (MR k) ∈ lw_tbl := fun k h => match k, h with
  | 0, _ => cw_0
  | 1, _ => cw_1
  | 2, _ => cw_2
  | 3, _ => cw_3
  | 4, _ => cw_4
  | 5, _ => cw_5
  | 6, _ => cw_6
  | 7, _ => cw_7
  | 8, _ => cw_8
  | 9, _ => cw_9
  | 10, _ => cw_10
  | 11, _ => cw_11
  | 12, _ => cw_12
  | 13, _ => cw_13
  | 14, _ => cw_14
  | 15, _ => cw_15
  | 16, _ => cw_16
  | 17, _ => cw_17
  | 18, _ => cw_18
  | 19, _ => cw_19
  | 20, _ => cw_20
  | 21, _ => cw_21
  | 22, _ => cw_22
  | 23, _ => cw_23
  | 24, _ => cw_24
  | 25, _ => cw_25
  | 26, _ => cw_26
  | 27, _ => cw_27
  | 28, _ => cw_28
  | 29, _ => cw_29
  | 30, _ => cw_30
  | 31, _ => cw_31
  | 32, _ => cw_32
  | 33, _ => cw_33
  | 34, _ => cw_34
  | 35, _ => cw_35
  | 36, _ => cw_36
  | 37, _ => cw_37
  | 38, _ => cw_38
  | 39, _ => cw_39
  | 40, _ => cw_40
  | 41, _ => cw_41
  | 42, _ => cw_42
  | 43, _ => cw_43
  | 44, _ => cw_44
  | 45, _ => cw_45
  | 46, _ => cw_46
  | 47, _ => cw_47
  | 48, _ => cw_48
  | 49, _ => cw_49
  | 50, _ => cw_50
  | 51, _ => cw_51
  | 52, _ => cw_52
  | 53, _ => cw_53
  | 54, _ => cw_54
  | 55, _ => cw_55
  | 56, _ => cw_56
  | 57, _ => cw_57
  | 58, _ => cw_58
  | 59, _ => cw_59
  | 60, _ => cw_60
  | 61, _ => cw_61
  | 62, _ => cw_62
  | 63, _ => cw_63
  | 64, _ => cw_64
  | 65, _ => cw_65
  | 66, _ => cw_66
  | 67, _ => cw_67
  | 68, _ => cw_68
  | 69, _ => cw_69
  | 70, _ => cw_70
  | 71, _ => cw_71
  | 72, _ => cw_72
  | 73, _ => cw_73
  | 74, _ => cw_74
  | 75, _ => cw_75
  | 76, _ => cw_76
  | 77, _ => cw_77
  | 78, _ => cw_78
  | 79, _ => cw_79
  | 80, _ => cw_80
  | 81, _ => cw_81
  | 82, _ => cw_82
  | 83, _ => cw_83
  | 84, _ => cw_84
  | 85, _ => cw_85
  | 86, _ => cw_86
  | 87, _ => cw_87
  | 88, _ => cw_88
  | 89, _ => cw_89
  | 90, _ => cw_90
  | 91, _ => cw_91
  | 92, _ => cw_92
  | 93, _ => cw_93
  | 94, _ => cw_94
  | 95, _ => cw_95
  | 96, _ => cw_96
  | 97, _ => cw_97
  | 98, _ => cw_98
  | 99, _ => cw_99
  | 100, _ => cw_100
  | 101, _ => cw_101
  | 102, _ => cw_102
  | 103, _ => cw_103
  | 104, _ => cw_104
  | 105, _ => cw_105
  | 106, _ => cw_106
  | 107, _ => cw_107
  | 108, _ => cw_108
  | 109, _ => cw_109
  | 110, _ => cw_110
  | 111, _ => cw_111
  | 112, _ => cw_112
  | 113, _ => cw_113
  | 114, _ => cw_114
  | 115, _ => cw_115
  | 116, _ => cw_116
  | 117, _ => cw_117
  | 118, _ => cw_118
  | 119, _ => cw_119
  | 120, _ => cw_120
  | 121, _ => cw_121
  | 122, _ => cw_122
  | 123, _ => cw_123
  | 124, _ => cw_124
  | 125, _ => cw_125
  | 126, _ => cw_126
  | 127, _ => cw_127
  | 128, _ => cw_128
  | 129, _ => cw_129
  | 130, _ => cw_130
  | 131, _ => cw_131
  | 132, _ => cw_132
  | 133, _ => cw_133
  | 134, _ => cw_134
  | 135, _ => cw_135
  | 136, _ => cw_136
  | 137, _ => cw_137
  | 138, _ => cw_138
  | 139, _ => cw_139
  | 140, _ => cw_140
  | 141, _ => cw_141
  | 142, _ => cw_142
  | 143, _ => cw_143
  | 144, _ => cw_144
  | 145, _ => cw_145
  | 146, _ => cw_146
  | 147, _ => cw_147
  | 148, _ => cw_148
  | 149, _ => cw_149
  | 150, _ => cw_150
  | 151, _ => cw_151
  | 152, _ => cw_152
  | 153, _ => cw_153
  | 154, _ => cw_154
  | 155, _ => cw_155
  | 156, _ => cw_156
  | 157, _ => cw_157
  | 158, _ => cw_158
  | 159, _ => cw_159
  | 160, _ => cw_160
  | 161, _ => cw_161
  | 162, _ => cw_162
  | 163, _ => cw_163
  | 164, _ => cw_164
  | 165, _ => cw_165
  | 166, _ => cw_166
  | 167, _ => cw_167
  | 168, _ => cw_168
  | 169, _ => cw_169
  | 170, _ => cw_170
  | 171, _ => cw_171
  | 172, _ => cw_172
  | 173, _ => cw_173
  | 174, _ => cw_174
  | 175, _ => cw_175
  | 176, _ => cw_176
  | 177, _ => cw_177
  | 178, _ => cw_178
  | 179, _ => cw_179
  | 180, _ => cw_180
  | 181, _ => cw_181
  | 182, _ => cw_182
  | 183, _ => cw_183
  | 184, _ => cw_184
  | 185, _ => cw_185
  | 186, _ => cw_186
  | 187, _ => cw_187
  | 188, _ => cw_188
  | 189, _ => cw_189
  | 190, _ => cw_190
  | 191, _ => cw_191
  | 192, _ => cw_192
  | 193, _ => cw_193
  | 194, _ => cw_194
  | 195, _ => cw_195
  | 196, _ => cw_196
  | 197, _ => cw_197
  | 198, _ => cw_198
  | 199, _ => cw_199
  | 200, _ => cw_200
  | 201, _ => cw_201
  | 202, _ => cw_202
  | 203, _ => cw_203
  | 204, _ => cw_204
  | 205, _ => cw_205
  | 206, _ => cw_206
  | 207, _ => cw_207
  | 208, _ => cw_208
  | 209, _ => cw_209
  | 210, _ => cw_210
  | 211, _ => cw_211
  | 212, _ => cw_212
  | 213, _ => cw_213
  | 214, _ => cw_214
  | 215, _ => cw_215
  | 216, _ => cw_216
  | 217, _ => cw_217
  | 218, _ => cw_218
  | 219, _ => cw_219
  | 220, _ => cw_220
  | 221, _ => cw_221
  | 222, _ => cw_222
  | 223, _ => cw_223
  | 224, _ => cw_224
  | 225, _ => cw_225
  | 226, _ => cw_226
  | 227, _ => cw_227
  | 228, _ => cw_228
  | 229, _ => cw_229
  | 230, _ => cw_230
  | 231, _ => cw_231
  | 232, _ => cw_232
  | 233, _ => cw_233
  | 234, _ => cw_234
  | 235, _ => cw_235
  | 236, _ => cw_236
  | 237, _ => cw_237
  | 238, _ => cw_238
  | 239, _ => cw_239
  | n + 240, h => absurd h (by omega)
end
section
set_option maxRecDepth 1000000 in
theorem okD_0 : (List.range 8).all (fun j => (MC (0 + j)).all (okDB (0 + j))) = true := by decide +kernel
set_option maxRecDepth 1000000 in
theorem okD_4 : (List.range 8).all (fun j => (MC (32 + j)).all (okDB (32 + j))) = true := by decide +kernel
set_option maxRecDepth 1000000 in
theorem okD_8 : (List.range 8).all (fun j => (MC (64 + j)).all (okDB (64 + j))) = true := by decide +kernel
set_option maxRecDepth 1000000 in
theorem okD_12 : (List.range 8).all (fun j => (MC (96 + j)).all (okDB (96 + j))) = true := by decide +kernel
set_option maxRecDepth 1000000 in
theorem okD_16 : (List.range 8).all (fun j => (MC (128 + j)).all (okDB (128 + j))) = true := by decide +kernel
set_option maxRecDepth 1000000 in
theorem okD_20 : (List.range 8).all (fun j => (MC (160 + j)).all (okDB (160 + j))) = true := by decide +kernel
set_option maxRecDepth 1000000 in
theorem okD_24 : (List.range 8).all (fun j => (MC (192 + j)).all (okDB (192 + j))) = true := by decide +kernel
set_option maxRecDepth 1000000 in
theorem okD_28 : (List.range 8).all (fun j => (MC (224 + j)).all (okDB (224 + j))) = true := by decide +kernel
set_option maxRecDepth 1000000 in
theorem okDL_2 : (((MC 240).drop 240).take 120).all (okDB 240) = true := by decide +kernel
set_option maxRecDepth 1000000 in
theorem okDL_6 : (((MC 240).drop 720).take 120).all (okDB 240) = true := by decide +kernel
end
section
set_option maxRecDepth 1000000 in
theorem okD_1 : (List.range 8).all (fun j => (MC (8 + j)).all (okDB (8 + j))) = true := by decide +kernel
set_option maxRecDepth 1000000 in
theorem okD_5 : (List.range 8).all (fun j => (MC (40 + j)).all (okDB (40 + j))) = true := by decide +kernel
set_option maxRecDepth 1000000 in
theorem okD_9 : (List.range 8).all (fun j => (MC (72 + j)).all (okDB (72 + j))) = true := by decide +kernel
set_option maxRecDepth 1000000 in
theorem okD_13 : (List.range 8).all (fun j => (MC (104 + j)).all (okDB (104 + j))) = true := by decide +kernel
set_option maxRecDepth 1000000 in
theorem okD_17 : (List.range 8).all (fun j => (MC (136 + j)).all (okDB (136 + j))) = true := by decide +kernel
set_option maxRecDepth 1000000 in
theorem okD_21 : (List.range 8).all (fun j => (MC (168 + j)).all (okDB (168 + j))) = true := by decide +kernel
set_option maxRecDepth 1000000 in
theorem okD_25 : (List.range 8).all (fun j => (MC (200 + j)).all (okDB (200 + j))) = true := by decide +kernel
set_option maxRecDepth 1000000 in
theorem okD_29 : (List.range 8).all (fun j => (MC (232 + j)).all (okDB (232 + j))) = true := by decide +kernel
set_option maxRecDepth 1000000 in
theorem okDL_3 : (((MC 240).drop 360).take 120).all (okDB 240) = true := by decide +kernel
set_option maxRecDepth 1000000 in
theorem okDL_7 : (((MC 240).drop 840).take 120).all (okDB 240) = true := by decide +kernel
end
section
set_option maxRecDepth 1000000 in
theorem okD_2 : (List.range 8).all (fun j => (MC (16 + j)).all (okDB (16 + j))) = true := by decide +kernel
set_option maxRecDepth 1000000 in
theorem okD_6 : (List.range 8).all (fun j => (MC (48 + j)).all (okDB (48 + j))) = true := by decide +kernel
set_option maxRecDepth 1000000 in
theorem okD_10 : (List.range 8).all (fun j => (MC (80 + j)).all (okDB (80 + j))) = true := by decide +kernel
set_option maxRecDepth 1000000 in
theorem okD_14 : (List.range 8).all (fun j => (MC (112 + j)).all (okDB (112 + j))) = true := by decide +kernel
set_option maxRecDepth 1000000 in
theorem okD_18 : (List.range 8).all (fun j => (MC (144 + j)).all (okDB (144 + j))) = true := by decide +kernel
set_option maxRecDepth 1000000 in
theorem okD_22 : (List.range 8).all (fun j => (MC (176 + j)).all (okDB (176 + j))) = true := by decide +kernel
set_option maxRecDepth 1000000 in
theorem okD_26 : (List.range 8).all (fun j => (MC (208 + j)).all (okDB (208 + j))) = true := by decide +kernel
set_option maxRecDepth 1000000 in
theorem okDL_0 : (((MC 240).drop 0).take 120).all (okDB 240) = true := by decide +kernel
set_option maxRecDepth 1000000 in
theorem okDL_4 : (((MC 240).drop 480).take 120).all (okDB 240) = true := by decide +kernel
set_option maxRecDepth 1000000 in
theorem okDL_8 : (((MC 240).drop 960).take 120).all (okDB 240) = true := by decide +kernel
end
section
set_option maxRecDepth 1000000 in
theorem okD_3 : (List.range 8).all (fun j => (MC (24 + j)).all (okDB (24 + j))) = true := by decide +kernel
set_option maxRecDepth 1000000 in
theorem okD_7 : (List.range 8).all (fun j => (MC (56 + j)).all (okDB (56 + j))) = true := by decide +kernel
set_option maxRecDepth 1000000 in
theorem okD_11 : (List.range 8).all (fun j => (MC (88 + j)).all (okDB (88 + j))) = true := by decide +kernel
set_option maxRecDepth 1000000 in
theorem okD_15 : (List.range 8).all (fun j => (MC (120 + j)).all (okDB (120 + j))) = true := by decide +kernel
set_option maxRecDepth 1000000 in
theorem okD_19 : (List.range 8).all (fun j => (MC (152 + j)).all (okDB (152 + j))) = true := by decide +kernel
set_option maxRecDepth 1000000 in
theorem okD_23 : (List.range 8).all (fun j => (MC (184 + j)).all (okDB (184 + j))) = true := by decide +kernel
set_option maxRecDepth 1000000 in
theorem okD_27 : (List.range 8).all (fun j => (MC (216 + j)).all (okDB (216 + j))) = true := by decide +kernel
set_option maxRecDepth 1000000 in
theorem okDL_1 : (((MC 240).drop 120).take 120).all (okDB 240) = true := by decide +kernel
set_option maxRecDepth 1000000 in
theorem okDL_5 : (((MC 240).drop 600).take 120).all (okDB 240) = true := by decide +kernel
set_option maxRecDepth 1000000 in
theorem okDL_9 : (((MC 240).drop 1080).take 120).all (okDB 240) = true := by decide +kernel
end
section
theorem tb_arr_int : Cond.arrayClass .int ∈ TB := gW_TB (i := 221) (by decide +kernel) rfl
theorem tb_arr_long : Cond.arrayClass .long ∈ TB := gW_TB (i := 420) (by decide +kernel) rfl
theorem tb_arr_byte : Cond.arrayClass .byte ∈ TB := gW_TB (i := 649) (by decide +kernel) rfl
theorem tb_arr_boolean : Cond.arrayClass .boolean ∈ TB := gW_TB (i := 358) (by decide +kernel) rfl
theorem tb_oi_i : Cond.instanceMethod objectInit ∈ TB := gW_TB (i := 124) (by decide +kernel) rfl
theorem tb_oi_c : Cond.code objectInit ⟨#[0xb1]⟩ 1 none ∈ TB := gW_TB (i := 125) (by decide +kernel) rfl
theorem tb_s10 : Cond.static Lib.Math.max.name ∈ TB := gW_TB (i := 671) (by decide +kernel) rfl
theorem tb_c10 : Cond.code Lib.Math.max.name Lib.Math.max.code 2 (some .int) ∈ TB := gW_TB (i := 672) (by decide +kernel) rfl
theorem tb_s11 : Cond.static Lib.Math.min.name ∈ TB := gW_TB (i := 518) (by decide +kernel) rfl
theorem tb_c11 : Cond.code Lib.Math.min.name Lib.Math.min.code 2 (some .int) ∈ TB := gW_TB (i := 519) (by decide +kernel) rfl
theorem tb_s12 : Cond.static Lib.Math.abs.name ∈ TB := gW_TB (i := 733) (by decide +kernel) rfl
theorem tb_c12 : Cond.code Lib.Math.abs.name Lib.Math.abs.code 1 (some .int) ∈ TB := gW_TB (i := 734) (by decide +kernel) rfl
theorem tb_s13 : Cond.static Lib.MathLoose.abs_long.x ∈ TB := gW_TB (i := 985) (by decide +kernel) rfl
theorem tb_c13 : Cond.code Lib.MathLoose.abs_long.x Lib.MathLoose.abs_long.code 2 (some .long) ∈ TB := gW_TB (i := 986) (by decide +kernel) rfl
theorem tb_s14 : Cond.static Lib.MathLoose.max_long.x ∈ TB := gW_TB (i := 927) (by decide +kernel) rfl
theorem tb_c14 : Cond.code Lib.MathLoose.max_long.x Lib.MathLoose.max_long.code 4 (some .long) ∈ TB := gW_TB (i := 928) (by decide +kernel) rfl
theorem tb_s15 : Cond.static arraycopyName ∈ TB := gW_TB (i := 767) (by decide +kernel) rfl
theorem tb_i15 : Cond.initialized "java/lang/System" ∈ TB := gW_TB (i := 115) (by decide +kernel) rfl
theorem tb_n15 : Cond.native arraycopyName ∈ TB := gW_TB (i := 768) (by decide +kernel) rfl
theorem tb_imath : Cond.initialized "java/lang/Math" ∈ TB := gW_TB (i := 106) (by decide +kernel) rfl
theorem tb_inst0 : Cond.instantiable RX0 7 ∈ TB := gW_TB (i := 389) (by decide +kernel) rfl
theorem tb_ini0 : Cond.initialized RX0 ∈ TB := gW_TB (i := 103) (by decide +kernel) rfl
def up0 : List Nat := [405, 407, 409, 411, 413, 415, 417]
theorem tb_u0 : ∀ w ∈ u_ws RX0 TX0 7, w ∈ TB := by
  have h : (List.range 7).all (fun k => gW (up0.getD k 0) (u_lay RX0 TX0 k) && goodWord (u_lay RX0 TX0 k)) = true := by decide +kernel
  intro w hw
  obtain ⟨k, hk, rfl⟩ := List.mem_map.mp hw
  have h1 := List.all_eq_true.mp h k hk
  simp only [Bool.and_eq_true] at h1
  exact gW_TB h1.1 h1.2
theorem tb_inst1 : Cond.instantiable RX1 5 ∈ TB := gW_TB (i := 334) (by decide +kernel) rfl
theorem tb_ini1 : Cond.initialized RX1 ∈ TB := gW_TB (i := 101) (by decide +kernel) rfl
def up1 : List Nat := [347, 349, 351, 353, 355]
theorem tb_u1 : ∀ w ∈ u_ws RX1 TX1 5, w ∈ TB := by
  have h : (List.range 5).all (fun k => gW (up1.getD k 0) (u_lay RX1 TX1 k) && goodWord (u_lay RX1 TX1 k)) = true := by decide +kernel
  intro w hw
  obtain ⟨k, hk, rfl⟩ := List.mem_map.mp hw
  have h1 := List.all_eq_true.mp h k hk
  simp only [Bool.and_eq_true] at h1
  exact gW_TB h1.1 h1.2
theorem tb_inst2 : Cond.instantiable RX2 6 ∈ TB := gW_TB (i := 360) (by decide +kernel) rfl
theorem tb_ini2 : Cond.initialized RX2 ∈ TB := gW_TB (i := 102) (by decide +kernel) rfl
def up2 : List Nat := [375, 377, 379, 381, 383, 385]
theorem tb_u2 : ∀ w ∈ u_ws RX2 TX2 6, w ∈ TB := by
  have h : (List.range 6).all (fun k => gW (up2.getD k 0) (u_lay RX2 TX2 k) && goodWord (u_lay RX2 TX2 k)) = true := by decide +kernel
  intro w hw
  obtain ⟨k, hk, rfl⟩ := List.mem_map.mp hw
  have h1 := List.all_eq_true.mp h k hk
  simp only [Bool.and_eq_true] at h1
  exact gW_TB h1.1 h1.2
theorem tb_inst3 : Cond.instantiable RX4 10 ∈ TB := gW_TB (i := 127) (by decide +kernel) rfl
theorem tb_ini3 : Cond.initialized RX4 ∈ TB := gW_TB (i := 98) (by decide +kernel) rfl
def up3 : List Nat := [232, 234, 236, 238, 240, 242, 244, 246, 248, 250]
theorem tb_u3 : ∀ w ∈ u_ws RX4 TX4 10, w ∈ TB := by
  have h : (List.range 10).all (fun k => gW (up3.getD k 0) (u_lay RX4 TX4 k) && goodWord (u_lay RX4 TX4 k)) = true := by decide +kernel
  intro w hw
  obtain ⟨k, hk, rfl⟩ := List.mem_map.mp hw
  have h1 := List.all_eq_true.mp h k hk
  simp only [Bool.and_eq_true] at h1
  exact gW_TB h1.1 h1.2
theorem tb_inst4 : Cond.instantiable RX5 9 ∈ TB := gW_TB (i := 422) (by decide +kernel) rfl
theorem tb_ini4 : Cond.initialized RX5 ∈ TB := gW_TB (i := 104) (by decide +kernel) rfl
def up4 : List Nat := [439, 441, 443, 445, 447, 449, 451, 453, 455]
theorem tb_u4 : ∀ w ∈ u_ws RX5 TX5 9, w ∈ TB := by
  have h : (List.range 9).all (fun k => gW (up4.getD k 0) (u_lay RX5 TX5 k) && goodWord (u_lay RX5 TX5 k)) = true := by decide +kernel
  intro w hw
  obtain ⟨k, hk, rfl⟩ := List.mem_map.mp hw
  have h1 := List.all_eq_true.mp h k hk
  simp only [Bool.and_eq_true] at h1
  exact gW_TB h1.1 h1.2
theorem tb_inst5 : Cond.instantiable RX6 15 ∈ TB := gW_TB (i := 256) (by decide +kernel) rfl
theorem tb_ini5 : Cond.initialized RX6 ∈ TB := gW_TB (i := 100) (by decide +kernel) rfl
def up5 : List Nat := [302, 304, 306, 308, 310, 312, 314, 316, 318, 320, 322, 324, 326, 328, 330]
theorem tb_u5 : ∀ w ∈ u_ws RX6 TX6 15, w ∈ TB := by
  have h : (List.range 15).all (fun k => gW (up5.getD k 0) (u_lay RX6 TX6 k) && goodWord (u_lay RX6 TX6 k)) = true := by decide +kernel
  intro w hw
  obtain ⟨k, hk, rfl⟩ := List.mem_map.mp hw
  have h1 := List.all_eq_true.mp h k hk
  simp only [Bool.and_eq_true] at h1
  exact gW_TB h1.1 h1.2
theorem tb_inst6 : Cond.instantiable RX7 14 ∈ TB := gW_TB (i := 133) (by decide +kernel) rfl
theorem tb_ini6 : Cond.initialized RX7 ∈ TB := gW_TB (i := 99) (by decide +kernel) rfl
def up6 : List Nat := [192, 194, 196, 198, 200, 202, 204, 206, 208, 210, 212, 214, 216, 218]
theorem tb_u6 : ∀ w ∈ u_ws RX7 TX7 14, w ∈ TB := by
  have h : (List.range 14).all (fun k => gW (up6.getD k 0) (u_lay RX7 TX7 k) && goodWord (u_lay RX7 TX7 k)) = true := by decide +kernel
  intro w hw
  obtain ⟨k, hk, rfl⟩ := List.mem_map.mp hw
  have h1 := List.all_eq_true.mp h k hk
  simp only [Bool.and_eq_true] at h1
  exact gW_TB h1.1 h1.2
theorem tb_inst7 : Cond.instantiable RX8 14 ∈ TB := gW_TB (i := 119) (by decide +kernel) rfl
theorem tb_ini7 : Cond.initialized RX8 ∈ TB := gW_TB (i := 97) (by decide +kernel) rfl
def up7 : List Nat := [472, 474, 476, 478, 480, 482, 484, 486, 488, 490, 492, 494, 496, 498]
theorem tb_u7 : ∀ w ∈ u_ws RX8 TX8 14, w ∈ TB := by
  have h : (List.range 14).all (fun k => gW (up7.getD k 0) (u_lay RX8 TX8 k) && goodWord (u_lay RX8 TX8 k)) = true := by decide +kernel
  intro w hw
  obtain ⟨k, hk, rfl⟩ := List.mem_map.mp hw
  have h1 := List.all_eq_true.mp h k hk
  simp only [Bool.and_eq_true] at h1
  exact gW_TB h1.1 h1.2
theorem tb_inst8 : Cond.instantiable RX9 43 ∈ TB := gW_TB (i := 1173) (by decide +kernel) rfl
theorem tb_ini8 : Cond.initialized RX9 ∈ TB := gW_TB (i := 105) (by decide +kernel) rfl
def up8 : List Nat := [1227, 1229, 1231, 1233, 1235, 1237, 1239, 1241, 1243, 1245, 1247, 1249, 1251, 1253, 1255, 1257, 1259, 1261, 1263, 1265, 1267, 1269, 1271, 1273, 1275, 1277, 1279, 1281, 1283, 1285, 1287, 1289, 1291, 1293, 1295, 1297, 1299, 1301, 1303, 1305, 1307, 1309, 1311]
theorem tb_u8 : ∀ w ∈ u_ws RX9 TX9 43, w ∈ TB := by
  have h : (List.range 43).all (fun k => gW (up8.getD k 0) (u_lay RX9 TX9 k) && goodWord (u_lay RX9 TX9 k)) = true := by decide +kernel
  intro w hw
  obtain ⟨k, hk, rfl⟩ := List.mem_map.mp hw
  have h1 := List.all_eq_true.mp h k hk
  simp only [Bool.and_eq_true] at h1
  exact gW_TB h1.1 h1.2
theorem cls_words (c : Nat) (C : String) (T : u_T) (N : Nat) (h : vwCl[c]? = some (C, T, N)) : (∀ w ∈ u_ws C T N, w ∈ TB) ∧ Cond.instantiable C N ∈ TB ∧ Cond.initialized C ∈ TB := by
  match c, h with
  | 0, h => cases h; exact ⟨tb_u0, tb_inst0, tb_ini0⟩
  | 1, h => cases h; exact ⟨tb_u1, tb_inst1, tb_ini1⟩
  | 2, h => cases h; exact ⟨tb_u2, tb_inst2, tb_ini2⟩
  | 3, h => cases h; exact ⟨tb_u3, tb_inst3, tb_ini3⟩
  | 4, h => cases h; exact ⟨tb_u4, tb_inst4, tb_ini4⟩
  | 5, h => cases h; exact ⟨tb_u5, tb_inst5, tb_ini5⟩
  | 6, h => cases h; exact ⟨tb_u6, tb_inst6, tb_ini6⟩
  | 7, h => cases h; exact ⟨tb_u7, tb_inst7, tb_ini7⟩
  | 8, h => cases h; exact ⟨tb_u8, tb_inst8, tb_ini8⟩
  | n + 9, h => simp [vwCl] at h
end
section
abbrev LE : Type := (Nat × vp_A) ⊕ (Nat × List Value)
abbrev Hp : Type := Nat × Nat × Nat × (Nat → LE)
def hDum : LE := .inr (1000, [])
def hC (hp : Hp) : Nat := hp.1 + hp.2.1
def hSl (hp : Hp) : Nat := hp.2.2.1
def hAt (hp : Hp) (r : Nat) : LE := hp.2.2.2 r
def hSet (hp : Hp) (r : Nat) (e : LE) : Hp := (hp.1, hp.2.1, hp.2.2.1, fun j => if j = r then e else hp.2.2.2 j)
def hNew (hp : Hp) (w : Nat) (e : LE) : Hp := (hp.1 + 1, hp.2.1, hp.2.2.1 + w, fun j => if j = hp.1 then e else hp.2.2.2 j)
def hX (hp : Hp) : Hp := (hp.1, hp.2.1 + 1, hp.2.2.1 + 6, hp.2.2.2)
abbrev jk : Value := .retAddr 0
def kl (ls : List Value) : Nat → List Value
  | 0 => ls
  | j + 1 => match ls[j]? with
    | some (.long _) => ls.set j jk
    | some (.double _) => ls.set j jk
    | _ => ls
def st1 (ls : List Value) (i : Nat) (v : Value) : List Value := (kl ls i).set i v
def st2 (ls : List Value) (i : Nat) (v : Value) : List Value := ((kl ls i).set i v).set (i + 1) jk
def enF : List Value → List Value
  | [] => []
  | .long x :: vs => .long x :: jk :: enF vs
  | .double x :: vs => .double x :: jk :: enF vs
  | v :: vs => v :: enF vs
def enP : List Value → Nat → List Value
  | [], 0 => []
  | [], n + 1 => jk :: enP [] n
  | v :: vs, 0 => v :: vs
  | v :: vs, n + 1 => v :: enP vs n
def enL (vs : List Value) (n : Nat) : List Value := enP (enF vs) n
def fe (pc : Nat) : List CE → Option (Instr × Nat × Nat × Nat × Nat × Nat)
  | [] => none
  | (q, e) :: l => match Nat.beq q pc with
    | true => some e
    | false => fe pc l
def chk : Nat → Value → Bool
  | 0, .int _ => true
  | 1, .long _ => true
  | 2, .int x => x == 0 || x == 1
  | 3, .ref _ => true
  | 3, .null => true
  | _, _ => false
def vc : Value → Nat
  | .long _ => 2
  | .double _ => 2
  | _ => 1
def cs : List Value → Nat
  | [] => 0
  | v :: vs => vc v + cs vs
def inB (j : Int32) (n : Nat) : Bool := decide (0 ≤ j) && decide (j.toNatClampNeg < n)
theorem inB_vp {j : Int32} {n : Nat} (h : inB j n = true) : vp_in j n := by
  simp only [inB, Bool.and_eq_true, decide_eq_true_eq] at h
  intro q
  rcases q with q | q
  · exact absurd h.1 (by rw [Int32.le_iff_toInt_le]; rw [Int32.lt_iff_toInt_lt] at q; omega)
  · omega
def SCR : Nat := 1000000
def STR : Nat := 1000001
/-- one instruction, seen from what follows: fl: it can't go on; K: the next; rt: it returns; th: it throws; cl: a call -/
def step {R : Type} (fl : R) (e : Instr × Nat × Nat × Nat × Nat × Nat) (pc : Nat) (ls st : List Value) (hp : Hp) (K : Nat → List Value → List Value → Hp → R) (rt : Option Value → Hp → R) (th : Hp → R) (cl : Nat → List Value → Hp → (Option Value → Hp → R) → (Hp → R) → R) : R :=
  match e with
  | (i, len, a, b, c, d) =>
  match i with
  | .aconst_null => K (pc + 1) ls (.null :: st) hp
  | .iconst n => K (pc + 1) ls (.int (Int32.ofInt n) :: st) hp
  | .lconst n => K (pc + 1) ls (.long (Int64.ofNat (n : Nat)) :: st) hp
  | .bipush n => K (pc + 2) ls (.int (Int8.ofInt n).toInt32 :: st) hp
  | .sipush n => K (pc + 3) ls (.int (Int16.ofInt n).toInt32 :: st) hp
  | .ldc _ => match d with
    | 0 => K (pc + 2) ls (.int (Int32.ofNat b) :: st) hp
    | _ => fl
  | .ldc_w _ => match d with
    | 0 => K (pc + 3) ls (.int (Int32.ofNat b) :: st) hp
    | _ => fl
  | .ldc2_w _ => K (pc + 3) ls (.long (Int64.ofNat b) :: st) hp
  | .iload j => match ls[j]? with
    | some (.int x) => K (pc + 2) ls (.int x :: st) hp
    | _ => fl
  | .iload_n j => match ls[(j : Nat)]? with
    | some (.int x) => K (pc + 1) ls (.int x :: st) hp
    | _ => fl
  | .lload j => match ls[j]? with
    | some (.long x) => K (pc + 2) ls (.long x :: st) hp
    | _ => fl
  | .lload_n j => match ls[(j : Nat)]? with
    | some (.long x) => K (pc + 1) ls (.long x :: st) hp
    | _ => fl
  | .aload j => match ls[j]? with
    | some (.ref x) => K (pc + 2) ls (.ref x :: st) hp
    | some .null => K (pc + 2) ls (.null :: st) hp
    | _ => fl
  | .aload_n j => match ls[(j : Nat)]? with
    | some (.ref x) => K (pc + 1) ls (.ref x :: st) hp
    | some .null => K (pc + 1) ls (.null :: st) hp
    | _ => fl
  | .istore j => match st with
    | .int x :: r => if j < ls.length then K (pc + 2) (st1 ls j (.int x)) r hp else fl
    | _ => fl
  | .istore_n j => match st with
    | .int x :: r => if (j : Nat) < ls.length then K (pc + 1) (st1 ls (j : Nat) (.int x)) r hp else fl
    | _ => fl
  | .lstore j => match st with
    | .long x :: r => if j + 1 < ls.length then K (pc + 2) (st2 ls j (.long x)) r hp else fl
    | _ => fl
  | .lstore_n j => match st with
    | .long x :: r => if (j : Nat) + 1 < ls.length then K (pc + 1) (st2 ls (j : Nat) (.long x)) r hp else fl
    | _ => fl
  | .astore j => match st with
    | .ref x :: r => if j < ls.length then K (pc + 2) (st1 ls j (.ref x)) r hp else fl
    | .null :: r => if j < ls.length then K (pc + 2) (st1 ls j .null) r hp else fl
    | _ => fl
  | .astore_n j => match st with
    | .ref x :: r => if (j : Nat) < ls.length then K (pc + 1) (st1 ls (j : Nat) (.ref x)) r hp else fl
    | .null :: r => if (j : Nat) < ls.length then K (pc + 1) (st1 ls (j : Nat) .null) r hp else fl
    | _ => fl
  | .iinc j n => match ls[j]? with
    | some (.int x) => K (pc + 3) (st1 ls j (.int (x + Int32.ofInt n))) st hp
    | _ => fl
  | .dup => match st with
    | .int x :: r => K (pc + 1) ls (.int x :: .int x :: r) hp
    | .ref x :: r => K (pc + 1) ls (.ref x :: .ref x :: r) hp
    | _ => fl
  | .dup_x1 => match st with
    | .int x :: .ref y :: r => K (pc + 1) ls (.int x :: .ref y :: .int x :: r) hp
    | _ => fl
  | .dup2 => match st with
    | .int x :: .ref y :: r => K (pc + 1) ls (.int x :: .ref y :: .int x :: .ref y :: r) hp
    | _ => fl
  | .pop => match st with
    | .int _ :: r => K (pc + 1) ls r hp
    | _ => fl
  | .iadd => match st with
    | .int y :: .int x :: r => K (pc + 1) ls (.int (x + y) :: r) hp
    | _ => fl
  | .isub => match st with
    | .int y :: .int x :: r => K (pc + 1) ls (.int (x - y) :: r) hp
    | _ => fl
  | .imul => match st with
    | .int y :: .int x :: r => K (pc + 1) ls (.int (x * y) :: r) hp
    | _ => fl
  | .idiv => match st with
    | .int y :: .int x :: r => if ¬ y = 0 then K (pc + 1) ls (.int (x / y) :: r) hp else fl
    | _ => fl
  | .irem => match st with
    | .int y :: .int x :: r => if ¬ y = 0 then K (pc + 1) ls (.int (x - x / y * y) :: r) hp else fl
    | _ => fl
  | .ineg => match st with
    | .int x :: r => K (pc + 1) ls (.int (-x) :: r) hp
    | _ => fl
  | .ishl => match st with
    | .int y :: .int x :: r => K (pc + 1) ls (.int (x <<< (y &&& 31)) :: r) hp
    | _ => fl
  | .ishr => match st with
    | .int y :: .int x :: r => K (pc + 1) ls (.int (x >>> (y &&& 31)) :: r) hp
    | _ => fl
  | .iushr => match st with
    | .int y :: .int x :: r => K (pc + 1) ls (.int (x.toUInt32 >>> (y.toUInt32 &&& Int32.toUInt32 31)).toInt32 :: r) hp
    | _ => fl
  | .iand => match st with
    | .int y :: .int x :: r => K (pc + 1) ls (.int (x &&& y) :: r) hp
    | _ => fl
  | .ior => match st with
    | .int y :: .int x :: r => K (pc + 1) ls (.int (x ||| y) :: r) hp
    | _ => fl
  | .ixor => match st with
    | .int y :: .int x :: r => K (pc + 1) ls (.int (x ^^^ y) :: r) hp
    | _ => fl
  | .ladd => match st with
    | .long y :: .long x :: r => K (pc + 1) ls (.long (x + y) :: r) hp
    | _ => fl
  | .lsub => match st with
    | .long y :: .long x :: r => K (pc + 1) ls (.long (x - y) :: r) hp
    | _ => fl
  | .lmul => match st with
    | .long y :: .long x :: r => K (pc + 1) ls (.long (x * y) :: r) hp
    | _ => fl
  | .ldiv => match st with
    | .long y :: .long x :: r => if ¬ y = 0 then K (pc + 1) ls (.long (x / y) :: r) hp else fl
    | _ => fl
  | .lrem => match st with
    | .long y :: .long x :: r => if ¬ y = 0 then K (pc + 1) ls (.long (x - x / y * y) :: r) hp else fl
    | _ => fl
  | .lcmp => match st with
    | .long y :: .long x :: r => K (pc + 1) ls (.int (lg_cmp x y) :: r) hp
    | _ => fl
  | .i2l => match st with
    | .int x :: r => K (pc + 1) ls (.long x.toInt64 :: r) hp
    | _ => fl
  | .l2i => match st with
    | .long x :: r => K (pc + 1) ls (.int x.toInt32 :: r) hp
    | _ => fl
  | .i2b => match st with
    | .int x :: r => K (pc + 1) ls (.int x.toInt8.toInt32 :: r) hp
    | _ => fl
  | .goto _ => K a ls st hp
  | .ifCond cd _ => match st with
    | .int x :: r => match cd with
      | .eq => if x = 0 then K a ls r hp else K (pc + 3) ls r hp
      | .ne => if x = 0 then K (pc + 3) ls r hp else K a ls r hp
      | .lt => if x < 0 then K a ls r hp else K (pc + 3) ls r hp
      | .ge => if 0 ≤ x then K a ls r hp else K (pc + 3) ls r hp
      | .gt => if 0 < x then K a ls r hp else K (pc + 3) ls r hp
      | .le => if x ≤ 0 then K a ls r hp else K (pc + 3) ls r hp
    | _ => fl
  | .if_icmp cd _ => match st with
    | .int y :: .int x :: r => match cd with
      | .eq => if x = y then K a ls r hp else K (pc + 3) ls r hp
      | .ne => if x = y then K (pc + 3) ls r hp else K a ls r hp
      | .lt => if x < y then K a ls r hp else K (pc + 3) ls r hp
      | .ge => if y ≤ x then K a ls r hp else K (pc + 3) ls r hp
      | .gt => if y < x then K a ls r hp else K (pc + 3) ls r hp
      | .le => if x ≤ y then K a ls r hp else K (pc + 3) ls r hp
    | _ => fl
  | .ifnonnull _ => match st with
    | .ref _ :: r => K a ls r hp
    | .null :: r => K (pc + 3) ls r hp
    | _ => fl
  | .tableswitch _ lo hi offs => match st with
    | .int x :: r => if x.toInt < lo ∨ hi < x.toInt then K a ls r hp else match offs[(x.toInt - lo).toNat]? with
      | some off => K ((pc : Int) + off).toNat ls r hp
      | none => fl
    | _ => fl
  | .getstatic _ => match STB[c]? with
    | some q => K (pc + 3) ls (.int q.2 :: st) hp
    | none => fl
  | .getfield _ => match st with
    | .ref r :: t => match hAt hp r with
      | .inr (ci, fs) => if ci = b then (match fs[c]? with
        | some v => K (pc + 3) ls (v :: t) hp
        | none => fl) else fl
      | .inl _ => fl
    | _ => fl
  | .putfield _ => match st with
    | v :: .ref r :: t => match hAt hp r with
      | .inr (ci, fs) => if ci = b ∧ c < fs.length ∧ chk d v = true then K (pc + 3) ls t (hSet hp r (.inr (ci, fs.set c v))) else fl
      | .inl _ => fl
    | _ => fl
  | .iaload => match st with
    | .int j :: .ref r :: t => match hAt hp r with
      | .inl (0, n, .inl f) => if inB j n = true then K (pc + 1) ls (.int (f j.toNatClampNeg) :: t) hp else fl
      | .inl (7, n, .inl f) => if inB j n = true then K (pc + 1) ls (.int (f j.toNatClampNeg) :: t) hp else fl
      | _ => fl
    | _ => fl
  | .iastore => match st with
    | .int x :: .int j :: .ref r :: t => match hAt hp r with
      | .inl (0, n, .inl f) => if inB j n = true then K (pc + 1) ls t (hSet hp r (.inl (0, n, .inl (upd f j.toNatClampNeg x)))) else fl
      | _ => fl
    | _ => fl
  | .laload => match st with
    | .int j :: .ref r :: t => match hAt hp r with
      | .inl (1, n, .inr (.inl f)) => if inB j n = true then K (pc + 1) ls (.long (f j.toNatClampNeg) :: t) hp else fl
      | _ => fl
    | _ => fl
  | .lastore => match st with
    | .long x :: .int j :: .ref r :: t => match hAt hp r with
      | .inl (1, n, .inr (.inl f)) => if inB j n = true then K (pc + 1) ls t (hSet hp r (.inl (1, n, .inr (.inl (vp_updL f j.toNatClampNeg x))))) else fl
      | _ => fl
    | _ => fl
  | .baload => match st with
    | .int j :: .ref r :: t => match hAt hp r with
      | .inl (2, n, .inl f) => if inB j n = true then K (pc + 1) ls (.int (f j.toNatClampNeg) :: t) hp else fl
      | .inl (3, n, .inl f) => if inB j n = true then K (pc + 1) ls (.int (f j.toNatClampNeg) :: t) hp else fl
      | _ => fl
    | _ => fl
  | .bastore => match st with
    | .int x :: .int j :: .ref r :: t => match hAt hp r with
      | .inl (2, n, .inl f) => if inB j n = true then K (pc + 1) ls t (hSet hp r (.inl (2, n, .inl (upd f j.toNatClampNeg (vp_nar .byte x))))) else fl
      | .inl (3, n, .inl f) => if inB j n = true then K (pc + 1) ls t (hSet hp r (.inl (3, n, .inl (upd f j.toNatClampNeg (vp_nar .boolean x))))) else fl
      | _ => fl
    | _ => fl
  | .aaload => match st with
    | .int j :: .ref r :: t => match hAt hp r with
      | .inl (4, n, .inr (.inr (.inr (.inr f)))) => if inB j n = true then K (pc + 1) ls (va_rf (f j.toNatClampNeg) :: t) hp else fl
      | _ => fl
    | _ => fl
  | .aastore => match st with
    | .ref q :: .int j :: .ref r :: t => match hAt hp r with
      | .inl (4, n, .inr (.inr (.inr (.inr f)))) => match hAt hp q with
        | .inr (ci, _) => if ci = 5 ∧ inB j n = true then K (pc + 1) ls t (hSet hp r (.inl (4, n, .inr (.inr (.inr (.inr (va_up f j.toNatClampNeg (some q)))))))) else fl
        | .inl _ => fl
      | _ => fl
    | _ => fl
  | .arraylength => match st with
    | .ref r :: t => match hAt hp r with
      | .inl (0, n, .inl _) => K (pc + 1) ls (.int (Int32.ofNat n) :: t) hp
      | .inl (7, n, .inl _) => K (pc + 1) ls (.int (Int32.ofNat n) :: t) hp
      | _ => fl
    | _ => fl
  | .newarray at0 => match st with
    | .int n :: t => if ¬ n < 0 ∧ n.toNatClampNeg ≤ 100000 then (match at0 with
      | .int => K (pc + 2) ls (.ref hp.1 :: t) (hNew hp n.toNatClampNeg (.inl (0, n.toNatClampNeg, .inl (fun _ => 0))))
      | .long => K (pc + 2) ls (.ref hp.1 :: t) (hNew hp n.toNatClampNeg (.inl (1, n.toNatClampNeg, .inr (.inl (fun _ => 0)))))
      | .byte => K (pc + 2) ls (.ref hp.1 :: t) (hNew hp n.toNatClampNeg (.inl (2, n.toNatClampNeg, .inl (fun _ => 0))))
      | .boolean => K (pc + 2) ls (.ref hp.1 :: t) (hNew hp n.toNatClampNeg (.inl (3, n.toNatClampNeg, .inl (fun _ => 0))))
      | _ => fl) else fl
    | _ => fl
  | .anewarray _ => match st with
    | .int n :: t => if ¬ n < 0 ∧ n.toNatClampNeg ≤ 100000 then K (pc + 3) ls (.ref hp.1 :: t) (hNew hp n.toNatClampNeg (.inl (4, n.toNatClampNeg, .inr (.inr (.inr (.inr (fun _ => none))))))) else fl
    | _ => fl
  | .new _ => match d with
    | 0 => K (pc + 3) ls (.ref hp.1 :: st) (hNew hp c (.inr (b, (CI b).1)))
    | 99 => if cs st ≤ 8 then th (hX hp) else fl
    | _ => fl
  | .invokespecial _ => match d with
    | 16 => (match st with
      | .ref _ :: t => if cs t ≤ 8 then K (pc + 3) ls t hp else fl
      | _ => fl)
    | 2 => if c ≤ st.length then (match st.drop c with
      | .ref r :: t => if cs t ≤ 8 then cl b (.ref r :: (st.take c).reverse) hp (fun v hp' => K (pc + 3) ls (v.toList ++ t) hp') (fun _ => fl) else fl
      | _ => fl) else fl
    | 3 => if c ≤ st.length then (match st.drop c with
      | .ref r :: t => if cs t ≤ 8 then cl b (.ref r :: (st.take c).reverse) hp (fun v hp' => K (pc + 3) ls (v.toList ++ t) hp') (fun _ => fl) else fl
      | _ => fl) else fl
    | _ => fl
  | .invokevirtual _ => match d with
    | 0 => if c ≤ st.length then (match st.drop c with
      | .ref r :: t => match hAt hp r with
        | .inr (ci, _) => if ci = MCi b ∧ cs t ≤ 8 then cl b (.ref r :: (st.take c).reverse) hp (fun v hp' => K (pc + 3) ls (v.toList ++ t) hp') (fun _ => fl) else fl
        | .inl _ => fl
      | _ => fl) else fl
    | _ => fl
  | .invokestatic _ => match d with
    | 1 => if c ≤ st.length ∧ cs (st.drop c) ≤ 8 then cl b (st.take c).reverse hp (fun v hp' => K (pc + 3) ls (v.toList ++ st.drop c) hp') (fun _ => fl) else fl
    | 10 => (match st with
      | .int y :: .int x :: t => if cs t ≤ 8 then K (pc + 3) ls (.int (if x < y then y else x) :: t) hp else fl
      | _ => fl)
    | 11 => (match st with
      | .int y :: .int x :: t => if cs t ≤ 8 then K (pc + 3) ls (.int (if y < x then y else x) :: t) hp else fl
      | _ => fl)
    | 12 => (match st with
      | .int x :: t => if cs t ≤ 8 then K (pc + 3) ls (.int (if 0 ≤ x then x else 0 - x) :: t) hp else fl
      | _ => fl)
    | 13 => (match st with
      | .long x :: t => if cs t ≤ 8 then K (pc + 3) ls (.long (if 0 < x then x else -x) :: t) hp else fl
      | _ => fl)
    | 14 => (match st with
      | .long y :: .long x :: t => if cs t ≤ 8 then K (pc + 3) ls (.long (if y < x then x else y) :: t) hp else fl
      | _ => fl)
    | 15 => (match st with
      | .int n :: .int dp :: .ref r1 :: .int sp :: .ref r0 :: t => (match hAt hp r0 with
        | .inl (0, n0, .inl f) => (match hAt hp r1 with
          | .inl (0, n1, .inl g) => if cs t ≤ 8 ∧ ¬ sp < 0 ∧ ¬ dp < 0 ∧ ¬ n < 0 ∧ sp.toNatClampNeg + n.toNatClampNeg ≤ n0 ∧ dp.toNatClampNeg + n.toNatClampNeg ≤ n1 then K (pc + 3) ls t (hSet hp r1 (.inl (0, n1, .inl (va_cpy f g sp.toNatClampNeg dp.toNatClampNeg n.toNatClampNeg)))) else fl
          | _ => fl)
        | _ => fl)
      | _ => fl)
    | 19 => (match st with
      | .ref o :: .int p1 :: .int p0 :: .ref x :: t => if cs t ≤ 8 then (match hAt hp x with
        | .inr (7, _) => cl b [.ref x, .int p0, .int p1] hp (fun v hp' => match v, hAt hp' o with
          | some (.int w), .inl (1, n, .inr (.inl f)) => if inB 0 n = true then K (pc + 3) ls (.int 0 :: t) (hSet hp' o (.inl (1, n, .inr (.inl (vp_updL f 0 w.toInt64))))) else fl
          | _, _ => fl) (fun hp' => K (pc + 3) ls (.int 1 :: t) hp')
        | _ => fl) else fl
      | _ => fl)
    | _ => fl
  | .ireturn => match st with
    | [.int x] => rt (some (.int x)) hp
    | _ => fl
  | .lreturn => match st with
    | [.long x] => rt (some (.long x)) hp
    | _ => fl
  | .return_ => match st with
    | [] => rt none hp
    | _ => fl
  | _ => fl
def rvOK : Option FieldType → Option Value → Bool
  | some .int, some (.int _) => true
  | some .long, some (.long _) => true
  | some .boolean, some (.int x) => x == 0 || x == 1
  | none, none => true
  | _, _ => false
def run : Nat → Nat → Nat → Nat → List Value → List Value → Hp → Option (Option (Option Value) × Hp)
  | 0, _, _, _, _, _, _ => none
  | n + 1, d, k, pc, ls, st, hp => match fe pc (MC k) with
    | none => none
    | some e => step none e pc ls st hp (fun pc' ls' st' hp' => run n d k pc' ls' st' hp') (fun v hp' => match rvOK (MR k) v with
        | true => some (some v, hp')
        | false => none) (fun hp' => some (none, hp'))
      (fun j as hp' kr kt => match d with
        | 0 => none
        | d' + 1 => match Nat.ble (enF as).length (ML j) with
          | false => none
          | true => match run n d' j 0 (enL as (ML j)) [] hp' with
            | none => none
            | some (some v, h2) => kr v h2
            | some (none, h2) => kt h2)
/-- it comes to an end with Q -/
def Wp (k pc : Nat) (ls st : List Value) (hp : Hp) (Q : Option (Option Value) → Hp → Prop) (D : Nat) : Prop := ∃ n r hp', run n D k pc ls st hp = some (r, hp') ∧ Q r hp'
end
section
def rn (ad : Nat → Nat) : Value → Value
  | .ref q => .ref (ad q)
  | v => v
theorem rn_cat (ad : Nat → Nat) (v : Value) : (rn ad v).category = v.category := by cases v <;> rfl
theorem rn_cs (ad : Nat → Nat) : ∀ st : List Value, ((st.map (rn ad)).map fun v => v.category).sum = cs st
  | [] => rfl
  | v :: st => by
    have h := rn_cs ad st
    simp only [List.map_cons, List.sum_cons, cs, rn_cat] at h ⊢
    rw [h]
    cases v <;> rfl
def rE (tc : Nat → ClassId) (ad : Nat → Nat) : LE → va_E
  | .inl (t, n, .inr (.inr (.inr (.inr f)))) => .inl (tc t, n, .inr (.inr (.inr (.inr (fun j => (f j).map ad)))))
  | .inl (t, a) => .inl (tc t, a)
  | .inr (ci, fs) => .inr (ci, fs.map (rn ad))
def wsO (tc : Nat → ClassId) (ad : Nat → Nat) (hp : Hp) : va_W := (List.range hp.1).map (fun q => (ad q, rE tc ad (hAt hp q)))
def tysL (tc : Nat → ClassId) : List (ClassId × FieldType) := [(tc 0, .int), (tc 1, .long), (tc 2, .byte), (tc 3, .boolean), (tc 4, .object "BlendYard$State")]
def vO (n : Nat) (v : Value) : Prop := ∀ q : Nat, v = .ref q → q < n ∨ SCR ≤ q
def eO (n : Nat) : LE → Prop
  | .inl (_, _, .inr (.inr (.inr (.inr f)))) => ∀ j q, f j = some q → q < n ∨ SCR ≤ q
  | .inl _ => True
  | .inr (_, fs) => ∀ v ∈ fs, vO n v
def hO (hp : Hp) : Prop := ∀ r, eO hp.1 (hAt hp r)
def ag (n : Nat) (ad ad' : Nat → Nat) : Prop := ∀ q, (q < n ∨ SCR ≤ q) → ad' q = ad q
theorem ag_rf (n : Nat) (ad : Nat → Nat) : ag n ad ad := fun _ _ => rfl
theorem ag_tr {n n' : Nat} {ad ad1 ad2 : Nat → Nat} (h : ag n ad ad1) (h1 : ag n' ad1 ad2) (hn : n ≤ n') : ag n ad ad2 := fun q hq => by
  rw [h1 q (by omega), h q hq]
theorem rn_ag {n : Nat} {ad ad' : Nat → Nat} {v : Value} (h : ag n ad ad') (hv : vO n v) : rn ad' v = rn ad v := by
  cases v with
  | ref q => simp only [rn]; rw [h q (hv q rfl)]
  | _ => rfl
theorem rE_ag {n : Nat} {tc : Nat → ClassId} {ad ad' : Nat → Nat} {e : LE} (h : ag n ad ad') (he : eO n e) : rE tc ad' e = rE tc ad e := by
  rcases e with ⟨t, m, f | f | f | f | f⟩ | ⟨ci, fs⟩
  · rfl
  · rfl
  · rfl
  · rfl
  · have e1 : (fun j => (f j).map ad') = (fun j => (f j).map ad) := by
      funext j
      cases hj : f j with
      | none => rfl
      | some q => simp only [Option.map_some]; rw [h q (he j q hj)]
    simp only [rE, e1]
  · have e1 : fs.map (rn ad') = fs.map (rn ad) := List.map_congr_left fun v hv => rn_ag h (he v hv)
    simp only [rE, e1]
theorem vO_mono {n n' : Nat} {v : Value} (h : vO n v) (hn : n ≤ n') : vO n' v := fun q hq => by
  rcases h q hq with h | h
  · exact Or.inl (by omega)
  · exact Or.inr h
theorem eO_mono {n n' : Nat} {e : LE} (h : eO n e) (hn : n ≤ n') : eO n' e := by
  rcases e with ⟨t, m, f | f | f | f | f⟩ | ⟨ci, fs⟩
  · trivial
  · trivial
  · trivial
  · trivial
  · show ∀ j q, f j = some q → q < n' ∨ SCR ≤ q
    intro j q hq
    have h1 : q < n ∨ SCR ≤ q := h j q hq
    rcases h1 with h1 | h1
    · exact Or.inl (by omega)
    · exact Or.inr h1
  · exact fun v hv => vO_mono (h v hv) hn
theorem vO_int (n : Nat) (x : Int32) : vO n (.int x) := fun _ h => by cases h
theorem vO_long (n : Nat) (x : Int64) : vO n (.long x) := fun _ h => by cases h
theorem vO_null (n : Nat) : vO n .null := fun _ h => by cases h
theorem vO_jk (n : Nat) : vO n jk := fun _ h => by cases h
theorem hAt_set (hp : Hp) (r : Nat) (e : LE) (q : Nat) : hAt (hSet hp r e) q = if q = r then e else hAt hp q := rfl
theorem hAt_new (hp : Hp) (w : Nat) (e : LE) (q : Nat) : hAt (hNew hp w e) q = if q = hp.1 then e else hAt hp q := rfl
theorem hO_set {hp : Hp} {r : Nat} {e : LE} (h : hO hp) (he : eO hp.1 e) : hO (hSet hp r e) := fun q => by
  rw [hAt_set]
  by_cases hq : q = r
  · rw [if_pos hq]; exact he
  · rw [if_neg hq]; exact h q
theorem hO_new {hp : Hp} {w : Nat} {e : LE} (h : hO hp) (he : eO hp.1 e) : hO (hNew hp w e) := fun q => by
  rw [hAt_new]
  by_cases hq : q = hp.1
  · rw [if_pos hq]; exact eO_mono he (Nat.le_succ _)
  · rw [if_neg hq]; exact eO_mono (h q) (Nat.le_succ _)
theorem ws_get {tc : Nat → ClassId} {ad : Nat → Nat} {hp : Hp} {r : Nat} (h : r < hp.1) : (wsO tc ad hp)[r]? = some (ad r, rE tc ad (hAt hp r)) := by
  simp [wsO, h]
theorem ws_set {tc : Nat → ClassId} {ad : Nat → Nat} {hp : Hp} {r : Nat} {e : LE} (h : r < hp.1) : wsO tc ad (hSet hp r e) = (wsO tc ad hp).set r (ad r, rE tc ad e) := by
  apply List.ext_getElem?
  intro k
  by_cases hk : k < hp.1
  · rw [ws_get (show k < (hSet hp r e).1 from hk), hAt_set]
    by_cases hkr : k = r
    · subst hkr
      rw [if_pos rfl, List.getElem?_set_self (by simpa [wsO] using hk)]
    · rw [if_neg hkr, List.getElem?_set_ne (fun q => hkr q.symm), ws_get hk]
  · have h1 : (wsO tc ad (hSet hp r e)).length ≤ k := by simp [wsO, hSet]; omega
    have h2 : ((wsO tc ad hp).set r (ad r, rE tc ad e)).length ≤ k := by simp [wsO]; omega
    rw [List.getElem?_eq_none h1, List.getElem?_eq_none h2]
theorem ws_ag {tc : Nat → ClassId} {ad ad' : Nat → Nat} {hp : Hp} (h : ag hp.1 ad ad') (ho : hO hp) : wsO tc ad' hp = wsO tc ad hp := by
  refine List.map_congr_left fun q hq => ?_
  rw [h q (Or.inl (List.mem_range.mp hq)), rE_ag h (ho q)]
def adN (ad : Nat → Nat) (n q : Nat) : Nat → Nat := fun j => if j = n then q else ad j
theorem ag_new {ad : Nat → Nat} {n q : Nat} (hn : n < SCR) : ag n ad (adN ad n q) := fun j hj => by
  have : j ≠ n := by omega
  simp [adN, this]
theorem ws_new {tc : Nat → ClassId} {ad : Nat → Nat} {hp : Hp} {w q : Nat} {e : LE} (ho : hO hp) (he : eO hp.1 e) (hn : hp.1 < SCR) : wsO tc (adN ad hp.1 q) (hNew hp w e) = wsO tc ad hp ++ [(q, rE tc ad e)] := by
  have hag : ag hp.1 ad (adN ad hp.1 q) := ag_new hn
  have h1 : (hNew hp w e).1 = hp.1 + 1 := rfl
  unfold wsO
  rw [h1, List.range_succ, List.map_append]
  congr 1
  · refine List.map_congr_left fun j hj => ?_
    have hj' := List.mem_range.mp hj
    rw [hAt_new, if_neg (by omega), hag j (Or.inl hj'), rE_ag hag (ho j)]
  · simp only [List.map_cons, List.map_nil]
    rw [hAt_new, if_pos rfl, rE_ag hag he]
    simp [adN]
/-- locals -/
def LR (ls : Array Slot) (nL : Nat) (ad : Nat → Nat) (lm : List Value) : Prop := lm.length = nL ∧ ls.size = nL ∧ lv_wf ls ∧ ∀ (i : Nat) (v : Value), lm[i]? = some v → v ≠ jk → ls[i]? = some (.val (rn ad v))
def lvl (ad : Nat → Nat) (lm : List Value) : List (Nat × Value) := (List.range lm.length).filterMap (fun i => match lm[i]? with
  | some v => if v = jk then none else some (i, rn ad v)
  | none => none)
theorem lvl_in {ad : Nat → Nat} {lm : List Value} {i : Nat} {v : Value} (h : lm[i]? = some v) (hv : v ≠ jk) : (i, rn ad v) ∈ lvl ad lm := by
  refine List.mem_filterMap.mpr ⟨i, List.mem_range.mpr (List.getElem?_eq_some_iff.mp h).1, ?_⟩
  simp [h, hv]
theorem LR_has {ls : Array Slot} {nL : Nat} {ad : Nat → Nat} {lm : List Value} (h : LR ls nL ad lm) : lv_has ls nL (lvl ad lm) := by
  refine ⟨h.2.1, h.2.2.1, fun q hq => ?_⟩
  obtain ⟨i, hi, hq⟩ := List.mem_filterMap.mp hq
  cases hv : lm[i]? with
  | none => simp [hv] at hq
  | some v =>
    simp only [hv] at hq
    by_cases hj : v = jk
    · simp [hj] at hq
    · simp only [hj, if_false, Option.some.injEq] at hq
      subst hq
      exact h.2.2.2 i v hv hj
theorem kl_len (lm : List Value) (i : Nat) : (kl lm i).length = lm.length := by
  cases i with
  | zero => rfl
  | succ j =>
    simp only [kl]
    split <;> simp
theorem kl_get {lm : List Value} {i q : Nat} {w : Value} (h : (kl lm i)[q]? = some w) (hw : w ≠ jk) : lm[q]? = some w ∧ ¬ (q + 1 = i ∧ w.category = 2) := by
  cases i with
  | zero => exact ⟨h, fun z => by omega⟩
  | succ j =>
    simp only [kl] at h
    have key : ∀ x, lm[j]? = some x → (lm.set j jk)[q]? = some w → x.category = 2 → lm[q]? = some w ∧ ¬ (q + 1 = j + 1 ∧ w.category = 2) := by
      intro x hx h hc
      by_cases hqj : q = j
      · subst hqj
        have hl := (List.getElem?_eq_some_iff.mp hx).1
        rw [List.getElem?_set_self hl] at h
        cases h
        exact absurd rfl hw
      · rw [List.getElem?_set_ne (fun z => hqj z.symm)] at h
        exact ⟨h, fun z => by omega⟩
    split at h
    · rename_i x hx
      exact key _ hx h rfl
    · rename_i x hx
      exact key _ hx h rfl
    · rename_i hn1 hn2
      refine ⟨h, fun z => ?_⟩
      have hqj : q = j := by omega
      subst hqj
      cases w with
      | long x => exact hn1 _ h
      | double x => exact hn2 _ h
      | _ => exact absurd z.2 (by simp [Value.category])
theorem LR_s1 {ls ls' : Array Slot} {nL : Nat} {ad : Nat → Nat} {lm : List Value} {i : Nat} {v : Value} (h : LR ls nL ad lm) {l0 : List (Nat × Value)} (hl : ∀ q ∈ lvl ad lm, q ∈ l0)
    (h' : lv_has ls' nL ((i, rn ad v) :: l0.filter (fun q => !(q.1 == i) && !(q.1 + 1 == i && q.2.category == 2)))) : LR ls' nL ad (st1 lm i v) := by
  refine ⟨by simp only [st1, List.length_set, kl_len]; exact h.1, h'.1, h'.2.1, fun q w hq hw => ?_⟩
  refine h'.2.2 (q, rn ad w) ?_
  simp only [st1] at hq
  by_cases hqi : q = i
  · subst hqi
    have hl2 : q < (kl lm q).length := by
      have := (List.getElem?_eq_some_iff.mp hq).1
      simpa using this
    rw [List.getElem?_set_self hl2] at hq
    cases hq
    exact List.mem_cons_self
  · rw [List.getElem?_set_ne (fun z => hqi z.symm)] at hq
    obtain ⟨h1, h2⟩ := kl_get hq hw
    refine List.mem_cons_of_mem _ (List.mem_filter.mpr ⟨hl _ (lvl_in h1 hw), ?_⟩)
    simp only [rn_cat, Bool.and_eq_true, Bool.not_eq_true', Bool.and_eq_false_iff, beq_eq_false_iff_ne, beq_iff_eq]
    refine ⟨hqi, ?_⟩
    by_cases hz : q + 1 = i
    · right
      intro hc
      exact h2 ⟨hz, hc⟩
    · left; exact hz
theorem LR_s2 {ls ls' : Array Slot} {nL : Nat} {ad : Nat → Nat} {lm : List Value} {i : Nat} {v : Value} (h : LR ls nL ad lm)
    (h' : lv_has ls' nL ((i, rn ad v) :: (lvl ad lm).filter (fun q => !(q.1 == i) && (!(q.1 == i + 1) && !(q.1 + 1 == i && q.2.category == 2))))) : LR ls' nL ad (st2 lm i v) := by
  refine ⟨by simp only [st2, List.length_set, kl_len]; exact h.1, h'.1, h'.2.1, fun q w hq hw => ?_⟩
  refine h'.2.2 (q, rn ad w) ?_
  simp only [st2] at hq
  by_cases hq1 : q = i + 1
  · subst hq1
    have hl2 := (List.getElem?_eq_some_iff.mp hq).1
    rw [List.getElem?_set_self (by simpa using hl2)] at hq
    cases hq
    exact absurd rfl hw
  · rw [List.getElem?_set_ne (fun z => hq1 z.symm)] at hq
    by_cases hqi : q = i
    · subst hqi
      have hl2 : q < (kl lm q).length := by
        have := (List.getElem?_eq_some_iff.mp hq).1
        simpa using this
      rw [List.getElem?_set_self hl2] at hq
      cases hq
      exact List.mem_cons_self
    · rw [List.getElem?_set_ne (fun z => hqi z.symm)] at hq
      obtain ⟨h1, h2⟩ := kl_get hq hw
      refine List.mem_cons_of_mem _ (List.mem_filter.mpr ⟨lvl_in h1 hw, ?_⟩)
      simp only [rn_cat, Bool.and_eq_true, Bool.not_eq_true', Bool.and_eq_false_iff, beq_eq_false_iff_ne, beq_iff_eq]
      refine ⟨hqi, hq1, ?_⟩
      by_cases hz : q + 1 = i
      · right
        intro hc
        exact h2 ⟨hz, hc⟩
      · left; exact hz
theorem LR_ag {ls : Array Slot} {nL n : Nat} {ad ad' : Nat → Nat} {lm : List Value} (h : LR ls nL ad lm) (hg : ag n ad ad') (ho : ∀ v ∈ lm, vO n v) : LR ls nL ad' lm :=
  ⟨h.1, h.2.1, h.2.2.1, fun i v hi hv => by rw [rn_ag hg (ho v (List.mem_of_getElem? hi))]; exact h.2.2.2 i v hi hv⟩
theorem kl_O {n : Nat} {lm : List Value} (h : ∀ v ∈ lm, vO n v) (i : Nat) : ∀ v ∈ kl lm i, vO n v := by
  cases i with
  | zero => exact h
  | succ j =>
    simp only [kl]
    split
    · exact fun v hv => (List.mem_or_eq_of_mem_set hv).elim (h v) (fun e => by rw [e]; exact vO_jk n)
    · exact fun v hv => (List.mem_or_eq_of_mem_set hv).elim (h v) (fun e => by rw [e]; exact vO_jk n)
    · exact h
theorem st1_O {n : Nat} {lm : List Value} (h : ∀ v ∈ lm, vO n v) (i : Nat) {w : Value} (hw : vO n w) : ∀ v ∈ st1 lm i w, vO n v :=
  fun v hv => (List.mem_or_eq_of_mem_set hv).elim (kl_O h i v) (fun e => by rw [e]; exact hw)
theorem st2_O {n : Nat} {lm : List Value} (h : ∀ v ∈ lm, vO n v) (i : Nat) {w : Value} (hw : vO n w) : ∀ v ∈ st2 lm i w, vO n v :=
  fun v hv => (List.mem_or_eq_of_mem_set hv).elim (fun hv => (List.mem_or_eq_of_mem_set hv).elim (kl_O h i v) (fun e => by rw [e]; exact hw)) (fun e => by rw [e]; exact vO_jk n)
theorem cons_O {n : Nat} {v : Value} {st : List Value} (hv : vO n v) (h : ∀ v ∈ st, vO n v) : ∀ w ∈ v :: st, vO n w := fun w hw => (List.mem_cons.mp hw).elim (fun e => by rw [e]; exact hv) (h w)
theorem tail_O {n : Nat} {v : Value} {st : List Value} (h : ∀ w ∈ v :: st, vO n w) : ∀ w ∈ st, vO n w := fun w hw => h w (List.mem_cons_of_mem _ hw)
theorem fe_in {pc : Nat} {e : Instr × Nat × Nat × Nat × Nat × Nat} : ∀ {l : List CE}, fe pc l = some e → (pc, e) ∈ l
  | [], h => by simp [fe] at h
  | (q, e') :: l, h => by
    simp only [fe] at h
    split at h
    · rename_i hb
      have hq : q = pc := Nat.eq_of_beq_eq_true hb
      cases h
      subst hq
      exact List.mem_cons_self
    · exact List.mem_cons_of_mem _ (fe_in h)
end
section
/-- what decoding says of an entry -/
def okD (k : Nat) (pc : Nat) (i : Instr) : Prop := (∃ len, decode (MB k) pc = .ok (i, len) ∧ (ilen i = 0 ∨ ilen i = len))
theorem okD_at {k pc : Nat} {i : Instr} (h : okD k pc i) (n : Nat) (hn : ilen i = n + 1) : decode (MB k) pc = .ok (i, n + 1) := by
  obtain ⟨len, h1, h2⟩ := h
  rcases h2 with h2 | h2
  · omega
  · rw [h1]; rw [show len = n + 1 by omega]
def isN : Cond → Bool
  | .methodLinkNest .. => true
  | .castable .. => true
  | .declares _ => true
  | _ => false
def Nw (U : State) : Prop := (∀ w ∈ lw_tbl, isN w = true → va_Nw w U) ∧ va_AO "BlendYard$State" U
theorem Nw_same {u U : State} (h : u.vm = U.vm) (hN : Nw u) : Nw U := by
  refine ⟨fun w hw hi => ?_, va_AO.moved (by rw [h]; exact Vm.Alike.refl _) hN.2⟩
  have h1 := hN.1 w hw hi
  cases w with
  | methodLinkNest => exact va_Nw.same rfl h h1
  | castable => exact va_Nw.same rfl h h1
  | declares => exact va_Nw.same rfl h h1
  | _ => simp [isN] at hi
theorem Nw_warm {s U : State} (h : s.WarmedH U.vm) (hN : Nw s) : Nw U := by
  refine ⟨fun w hw hi => ?_, va_AO.moved h.alike hN.2⟩
  have h1 := hN.1 w hw hi
  cases w with
  | methodLinkNest => exact va_Nw.warmM h h1
  | castable => exact va_Nw.warmC h h1
  | declares => exact va_Nw.warmD h h1
  | _ => simp [isN] at hi
def Ev (b0 sb L : Nat) (xs : Nat → Int32) (U : State) (H : Heap) : Prop :=
  (∀ q ∈ STB, va_Z "BlendYardModel" q.1 "I" (.int q.2) (fun q => b0 ≤ q) U H) ∧ va_X sb L xs U H ∧ vx_Zq Bundle.tN "UNASSIGNED_STACK" Bundle.steD (fun q => b0 ≤ q) U H ∧ vx_Zq Bundle.tN "SUPPRESSED_SENTINEL" Bundle.listD (fun q => b0 ≤ q) U H ∧ b0 ≤ H.size ∧ sb < b0
theorem Ev_moved {b0 sb L : Nat} {xs : Nat → Int32} {u U : State} {H : Heap} (hvm : u.vm.Alike U.vm) (h : Ev b0 sb L xs u H) : Ev b0 sb L xs U H :=
  ⟨fun q hq => (h.1 q hq).moved hvm, h.2.1.moved hvm, h.2.2.1.moved hvm, h.2.2.2.1.moved hvm, h.2.2.2.2.1, h.2.2.2.2.2⟩
theorem Ev_kept {b0 sb L : Nat} {xs : Nat → Int32} {U : State} {H H1 : Heap} {locs : List Loc} (h : Ev b0 sb L xs U H) (hS : va_S (fun q => b0 ≤ q) H H1 locs) : Ev b0 sb L xs U H1 := by
  obtain ⟨h1, h2, h3, h4, h5, h6⟩ := h
  exact ⟨fun q hq => (h1 q hq).kept hS.2.1, h2.kept (hS.2.1 sb (by omega) (by omega)), h3.kept hS.2.1, h4.kept hS.2.1, Nat.le_trans h5 hS.1, h6⟩
def Gd (L : Nat) (xs : Nat → Int32) (sb : Nat) (ad : Nat → Nat) (hp : Hp) : Prop := (∀ q, hp.1 ≤ q → hAt hp q = hDum ∨ (q = SCR ∧ hAt hp q = .inl (7, L, .inl xs))) ∧ ad SCR = sb
theorem Gd_set {L : Nat} {xs : Nat → Int32} {sb : Nat} {ad : Nat → Nat} {hp : Hp} {r : Nat} {e : LE} (h : Gd L xs sb ad hp) (hr : r < hp.1) : Gd L xs sb ad (hSet hp r e) := by
  refine ⟨fun q hq => ?_, h.2⟩
  have hq' : hp.1 ≤ q := hq
  rw [hAt_set, if_neg (by omega)]
  exact h.1 q hq'
theorem Gd_new {L : Nat} {xs : Nat → Int32} {sb : Nat} {ad : Nat → Nat} {hp : Hp} {w q : Nat} {e : LE} (h : Gd L xs sb ad hp) (hn : hp.1 < SCR) : Gd L xs sb (adN ad hp.1 q) (hNew hp w e) := by
  refine ⟨fun j hj => ?_, ?_⟩
  · have hj' : hp.1 + 1 ≤ j := hj
    rw [hAt_new, if_neg (by omega)]
    exact h.1 j (by omega)
  · simp only [adN]
    rw [if_neg (by omega)]
    exact h.2
/-- a cell that isn't the dummy lies in the world -/
theorem Gd_lt {L : Nat} {xs : Nat → Int32} {sb : Nat} {ad : Nat → Nat} {hp : Hp} {r : Nat} (h : Gd L xs sb ad hp) (h1 : hAt hp r ≠ hDum) (h2 : hAt hp r ≠ .inl (7, L, .inl xs)) : r < hp.1 := by
  rcases Nat.lt_or_ge r hp.1 with q | q
  · exact q
  · rcases h.1 r q with z | z
    · exact absurd z h1
    · exact absurd z.2 h2
theorem Gd_arr {L : Nat} {xs : Nat → Int32} {sb : Nat} {ad : Nat → Nat} {hp : Hp} {r t : Nat} {a : vp_A} (h : Gd L xs sb ad hp) (h1 : hAt hp r = .inl (t, a)) (ht : t ≠ 7) : r < hp.1 := by
  refine Gd_lt h (by rw [h1]; intro z; cases z) (by rw [h1]; intro z; cases z; exact ht rfl)
theorem Gd_obj {L : Nat} {xs : Nat → Int32} {sb : Nat} {ad : Nat → Nat} {hp : Hp} {r ci : Nat} {fs : List Value} (h : Gd L xs sb ad hp) (h1 : hAt hp r = .inr (ci, fs)) (ht : ci ≠ 1000) : r < hp.1 := by
  refine Gd_lt h (by rw [h1]; intro z; cases z; exact ht rfl) (by rw [h1]; intro z; cases z)
theorem Gd_scr {L : Nat} {xs : Nat → Int32} {sb : Nat} {ad : Nat → Nat} {hp : Hp} {r n : Nat} {f : Nat → Int32} (h : Gd L xs sb ad hp) (h7 : ∀ q, q < hp.1 → ∀ a, hAt hp q ≠ .inl (7, a)) (h1 : hAt hp r = .inl (7, n, .inl f)) : r = SCR ∧ n = L ∧ f = xs := by
  have hr : hp.1 ≤ r := by
    rcases Nat.lt_or_ge r hp.1 with q | q
    · exact absurd h1 (h7 r q _)
    · exact q
  rcases h.1 r hr with z | z
  · rw [h1] at z; cases z
  · refine ⟨z.1, ?_⟩
    have z2 := z.2
    rw [h1] at z2
    cases z2
    exact ⟨rfl, rfl⟩
def Hok (L : Nat) (xs : Nat → Int32) (sb : Nat) (ad : Nat → Nat) (hp : Hp) : Prop := hO hp ∧ Gd L xs sb ad hp ∧ ∀ q, q < hp.1 → ∀ a, hAt hp q ≠ .inl (7, a)
theorem Hok_set {L : Nat} {xs : Nat → Int32} {sb : Nat} {ad : Nat → Nat} {hp : Hp} {r : Nat} {e : LE} (h : Hok L xs sb ad hp) (hr : r < hp.1) (he : eO hp.1 e) (h7 : ∀ a, e ≠ .inl (7, a)) : Hok L xs sb ad (hSet hp r e) := by
  refine ⟨hO_set h.1 he, Gd_set h.2.1 hr, fun q hq => ?_⟩
  rw [hAt_set]
  by_cases z : q = r
  · rw [if_pos z]; exact h7
  · rw [if_neg z]; exact h.2.2 q hq
theorem Hok_new {L : Nat} {xs : Nat → Int32} {sb : Nat} {ad : Nat → Nat} {hp : Hp} {w q : Nat} {e : LE} (h : Hok L xs sb ad hp) (hn : hp.1 < SCR) (he : eO hp.1 e) (h7 : ∀ a, e ≠ .inl (7, a)) : Hok L xs sb (adN ad hp.1 q) (hNew hp w e) := by
  refine ⟨hO_new h.1 he, Gd_new h.2.1 hn, fun j hj => ?_⟩
  have hj' : j < hp.1 + 1 := hj
  rw [hAt_new]
  by_cases z : j = hp.1
  · rw [if_pos z]; exact h7
  · rw [if_neg z]; exact h.2.2 j (by omega)
/-- the world -/
def Wd (D : va_G) (tc : Nat → ClassId) (b0 sb L : Nat) (xs : Nat → Int32) (ad : Nat → Nat) (hp : Hp) (U : State) : Prop :=
  va_P D vwCl (wsO tc ad hp) U.heap ∧ va_K D vwCl (tysL tc) U ∧ va_D (fun q => b0 ≤ q) (wsO tc ad hp) ∧ Ev b0 sb L xs U U.heap ∧ Nw U ∧ Hok L xs sb ad hp
theorem Wd_blind {D : va_G} {tc : Nat → ClassId} {b0 sb L : Nat} {xs : Nat → Int32} {ad : Nat → Nat} {hp : Hp} {U : State} (h : Wd D tc b0 sb L xs ad hp U) (a : Array Value) (g : JFrame) (mk : MethodId) : Wd D tc b0 sb L xs ad hp (U.calling g mk a) :=
  ⟨h.1, va_K.moved (u := U) (U := U.calling g mk a) (Vm.Alike.refl U.vm) h.2.1, h.2.2.1, Ev_moved (u := U) (U := U.calling g mk a) (Vm.Alike.refl U.vm) h.2.2.2.1, Nw_same (u := U) (U := U.calling g mk a) rfl h.2.2.2.2.1, h.2.2.2.2.2⟩
def QcO (D : va_G) (tc : Nat → ClassId) (b0 sb L : Nat) (xs : Nat → Int32) (ad : Nat → Nat) (n0 : Nat) (v : Option Value) (hp' : Hp) : Array Value → State → Outcome → State → Prop := fun _ st oc t =>
  (∃ ad' : Nat → Nat, oc = .returned v ∧ ag n0 ad ad' ∧ Wd D tc b0 sb L xs ad' hp' t ∧ ∀ w ∈ v.toList, ∀ q : Nat, w ≠ .ref q) ∧ va_F (fun q => b0 ≤ q) st t
def rmO (d mc ms : Nat) : Room := { frames := d + 8, cells := mc, slots := ms, locals := 64 * d + 256 }
def wsU (k : Nat) : List Cond := .code (MY k) (MB k) (ML k) (MR k) :: TB
section MYC
variable {p : Program} {l : Launch} {e : Env} {R : Room} {s : State} {m : MethodId} {args : Array Value} {below : List Frame} {meth : Method} {c : Code} {H : Heap} {locs : List Loc} {cells slots : Nat} {Q : State → Prop}
variable {pc : Nat} {ls : Array Slot} {rest st0 : List Value} {a : Array Value} {A0 : Nat → Prop} {H0 : Heap} {mc ms : Nat}
theorem my_call {D : va_G} {tc : Nat → ClassId} {b0 sb L n0 : Nat} {xs : Nat → Int32} {ad : Nat → Nat} {v : Option Value} {hp' : Hp} (hr : va_Run p l e R s m args below meth c H locs cells slots mc ms (F0 m pc ls st0) rest (QcO D tc b0 sb L xs ad n0 v hp' a) (fun q => b0 ≤ q)) (hS : va_S (fun q => b0 ≤ q) H0 H locs)
    (kk : ∀ (ad' : Nat → Nat) (t : State) (locs1 : List Loc), s.vm.Alike t.vm → ag n0 ad ad' → Wd D tc b0 sb L xs ad' hp' t → (∀ w ∈ v.toList, ∀ q : Nat, w ≠ .ref q) → va_S (fun q => b0 ≤ q) H0 t.heap locs1 → W p l e R s m args below meth c t.heap locs1 (cells + mc) (slots + ms) Q (F0 m (pc + 3) ls (v.toList ++ rest))) : W p l e R s m args below meth c H locs cells slots Q (F0 m pc ls st0) := by
  intro T hT X
  obtain ⟨v', st₀, t, T', L1, h0, X', hL, e1, e2, ⟨⟨ad', hv, hag, hw, hnr⟩, hz, hk⟩, st⟩ := hr T hT X
  cases hv
  rw [h0] at hz hk
  obtain ⟨t2, a1, b1⟩ := kk ad' t (locs ++ L1) (by rw [← e2]; exact X'.warmed.alike) hag hw hnr
    ⟨Nat.le_trans hS.1 hz, fun q h1 h2 => by rw [hk q (Nat.lt_of_lt_of_le h1 hS.1) h2]; exact hS.2.1 q h1 h2, fun q hq => by
      rcases List.mem_append.mp hq with h | h
      · exact hS.2.2 q h
      · exact hL q h⟩ T' e1 X'
  exact ⟨t2, st t2 a1, b1⟩
end MYC
theorem cls_facts (c : Nat) (C : String) (T : u_T) (N : Nat) (h : vwCl[c]? = some (C, T, N)) : ∃ ty : Nat → FieldType, (∀ k, k < N → parseFieldDescriptor (T k).2.2.1 = some (ty k)) ∧ (∀ a, a < N → ∀ b, b < N → a ≠ b → (T a).2.1 ≠ (T b).2.1) ∧ (∀ j, j < N → defaultValue (ty j) = vp_V (CI c).1 j) ∧ N = (CI c).1.length ∧ (∀ v ∈ (CI c).1, ∀ q : Nat, v ≠ .ref q) := by
  match c, h with
  | 0, h => cases h; exact ⟨tyX0, tyX0_ok, nmX0, by decide +kernel, rfl, by simp [CI, CTB]⟩
  | 1, h => cases h; exact ⟨tyX1, tyX1_ok, nmX1, by decide +kernel, rfl, by simp [CI, CTB]⟩
  | 2, h => cases h; exact ⟨tyX2, tyX2_ok, nmX2, by decide +kernel, rfl, by simp [CI, CTB]⟩
  | 3, h => cases h; exact ⟨tyX4, tyX4_ok, nmX4, by decide +kernel, rfl, by simp [CI, CTB]⟩
  | 4, h => cases h; exact ⟨tyX5, tyX5_ok, nmX5, by decide +kernel, rfl, by simp [CI, CTB]⟩
  | 5, h => cases h; exact ⟨tyX6, tyX6_ok, nmX6, by decide +kernel, rfl, by simp [CI, CTB]⟩
  | 6, h => cases h; exact ⟨tyX7, tyX7_ok, nmX7, by decide +kernel, rfl, by simp [CI, CTB]⟩
  | 7, h => cases h; exact ⟨tyX8, tyX8_ok, nmX8, by decide +kernel, rfl, by simp [CI, CTB]⟩
  | 8, h => cases h; exact ⟨tyX9, tyX9_ok, nmX9, by decide +kernel, rfl, by simp [CI, CTB]⟩
  | n + 9, h => simp [vwCl] at h
end
section
def hLe (a b : Hp) : Prop := a.1 ≤ b.1 ∧ hC a ≤ hC b ∧ hSl a ≤ hSl b
theorem hLe_rf (a : Hp) : hLe a a := ⟨Nat.le_refl _, Nat.le_refl _, Nat.le_refl _⟩
theorem hLe_tr {a b c : Hp} (h : hLe a b) (h' : hLe b c) : hLe a c := ⟨Nat.le_trans h.1 h'.1, Nat.le_trans h.2.1 h'.2.1, Nat.le_trans h.2.2 h'.2.2⟩
theorem hLe_set (hp : Hp) (r : Nat) (e : LE) : hLe hp (hSet hp r e) := hLe_rf hp
theorem hLe_new (hp : Hp) (w : Nat) (e : LE) : hLe hp (hNew hp w e) := ⟨Nat.le_succ _, by simp only [hC, hNew]; omega, by simp only [hSl, hNew]; omega⟩
theorem hLe_x (hp : Hp) : hLe hp (hX hp) := ⟨Nat.le_refl _, by simp only [hC, hX]; omega, by simp only [hSl, hX]; omega⟩
set_option maxHeartbeats 4000000 in
theorem run_mono : ∀ (n d k pc : Nat) (ls st : List Value) (hp : Hp) (r : Option (Option Value)) (hp' : Hp), run n d k pc ls st hp = some (r, hp') → hLe hp hp' := by
  intro n
  induction n with
  | zero => intro d k pc ls st hp r hp' h; simp [run] at h
  | succ n ih =>
    intro d k pc ls st hp r hp' h
    simp only [run] at h
    cases hf : fe pc (MC k) with
    | none => simp [hf] at h
    | some e =>
      simp only [hf] at h
      obtain ⟨i, len, a, b, c, d'⟩ := e
      have K0 : ∀ {pc' : Nat} {ls' st' : List Value}, run n d k pc' ls' st' hp = some (r, hp') → hLe hp hp' := fun h => ih _ _ _ _ _ _ _ _ h
      have K1 : ∀ {pc' : Nat} {ls' st' : List Value} {h1 : Hp}, hLe hp h1 → run n d k pc' ls' st' h1 = some (r, hp') → hLe hp hp' := fun q h => hLe_tr q (ih _ _ _ _ _ _ _ _ h)
      cases i <;> simp only [step] at h <;> (first | (cases h; done) | skip)
      all_goals (repeat' split at h)
      all_goals first
        | (cases h; done)
        | exact K0 h
        | exact K1 (hLe_set _ _ _) h
        | exact K1 (hLe_new _ _ _) h
        | (cases h; exact hLe_rf _)
        | (cases h; exact hLe_x _)
        | exact K1 (ih _ _ _ _ _ _ _ _ (by assumption)) h
        | exact K1 (hLe_tr (ih _ _ _ _ _ _ _ _ (by assumption)) (hLe_set _ _ _)) h
end
section
def okMX (j : Nat) : Prop := Cond.code (MY j) (MB j) (ML j) (MR j) ∈ lw_tbl ∧ okMB j = true
def CallOK (l : Launch) (D : va_G) (tc : Nat → ClassId) (b0 sb L : Nat) (xs : Nat → Int32) (n : Nat) : Prop :=
  ∀ (d j : Nat) (as : List Value) (hp : Hp) (v : Option Value) (hp' : Hp) (ad : Nat → Nat), j < 240 → Nat.ble (enF as).length (ML j) = true → run n d j 0 (enL as (ML j)) [] hp = some (some v, hp') → hC hp' ≤ 700000 → (∀ v ∈ as, vO hp.1 v) →
    Met l (MY j) (wsU j) (rmO d (hC hp' - hC hp) (hSl hp' - hSl hp)) (va_Pc (as.map (rn ad)) (Wd D tc b0 sb L xs ad hp)) (QcO D tc b0 sb L xs ad hp.1 v hp') (hC hp' - hC hp) (hSl hp' - hSl hp) (fun q => b0 ≤ q)
def Cxf (p : Program) (s : State) (m : MethodId) (args : Array Value) (meth : Method) (c : Code) (D : va_G) (tc : Nat → ClassId) (b0 sb L : Nat) (xs : Nat → Int32) (k : Nat) : Prop :=
  p.tables.exec = Jvm.exec ∧ c.code = MB k ∧ c.maxLocals = ML k ∧ s.vm.findClass (MO k) = some m.cls ∧ (∀ w ∈ TB, w.before args s = true) ∧ ((MY k).name = "<init>" → meth.name = "<init>") ∧ va_K D vwCl (tysL tc) s ∧ Ev b0 sb L xs s s.heap ∧ Nw s
def Frm (s : State) (D : va_G) (tc : Nat → ClassId) (b0 sb L : Nat) (xs : Nat → Int32) (k n0 : Nat) (ad0 : Nat → Nat) (c0 s0 : Nat) (ad : Nat → Nat) (hp : Hp) (H : Heap) (locs : List Loc) (cells slots : Nat) (ls : Array Slot) (lm st : List Value) : Prop :=
  va_P D vwCl (wsO tc ad hp) H ∧ va_D (fun q => b0 ≤ q) (wsO tc ad hp) ∧ va_S (fun q => b0 ≤ q) s.heap H locs ∧ LR ls (ML k) ad lm ∧ Hok L xs sb ad hp ∧ (∀ v ∈ lm, vO hp.1 v) ∧ (∀ v ∈ st, vO hp.1 v) ∧ c0 + cells = hC hp ∧ s0 + slots = hSl hp ∧ ag n0 ad0 ad ∧ n0 ≤ hp.1
def FinC (k : Nat) (r : Option (Option Value)) (hp' : Hp) (pc1 : Nat) (st1 : List Value) (hp1 : Hp) : Prop :=
  match r with
  | some none => hp1 = hp' ∧ rvOK (MR k) none = true ∧ st1 = [] ∧ decode (MB k) pc1 = .ok (.return_, 1)
  | some (some (.int x)) => hp1 = hp' ∧ rvOK (MR k) (some (.int x)) = true ∧ st1 = [.int x] ∧ decode (MB k) pc1 = .ok (.ireturn, 1)
  | some (some (.long x)) => hp1 = hp' ∧ rvOK (MR k) (some (.long x)) = true ∧ st1 = [.long x] ∧ decode (MB k) pc1 = .ok (.lreturn, 1)
  | some (some _) => False
  | none => hp' = hX hp1 ∧ cs st1 ≤ 8 ∧ ∃ ix len a b c, fe pc1 (MC k) = some (.new ix, len, a, b, c, 99)
section FRM
variable {s : State} {D : va_G} {tc : Nat → ClassId} {b0 sb L : Nat} {xs : Nat → Int32} {k n0 : Nat} {ad0 : Nat → Nat} {c0 s0 : Nat} {ad : Nat → Nat} {hp : Hp} {H H1 : Heap} {locs locs1 : List Loc} {cells slots : Nat} {ls ls' : Array Slot} {lm lm' st st' : List Value}
theorem Frm_st (F : Frm s D tc b0 sb L xs k n0 ad0 c0 s0 ad hp H locs cells slots ls lm st) (h : ∀ v ∈ st', vO hp.1 v) : Frm s D tc b0 sb L xs k n0 ad0 c0 s0 ad hp H locs cells slots ls lm st' :=
  ⟨F.1, F.2.1, F.2.2.1, F.2.2.2.1, F.2.2.2.2.1, F.2.2.2.2.2.1, h, F.2.2.2.2.2.2.2⟩
theorem Frm_ls (F : Frm s D tc b0 sb L xs k n0 ad0 c0 s0 ad hp H locs cells slots ls lm st) (h1 : LR ls' (ML k) ad lm') (h2 : ∀ v ∈ lm', vO hp.1 v) (h : ∀ v ∈ st', vO hp.1 v) : Frm s D tc b0 sb L xs k n0 ad0 c0 s0 ad hp H locs cells slots ls' lm' st' :=
  ⟨F.1, F.2.1, F.2.2.1, h1, F.2.2.2.2.1, h2, h, F.2.2.2.2.2.2.2⟩
theorem Frm_set {r : Nat} {e : LE} (F : Frm s D tc b0 sb L xs k n0 ad0 c0 s0 ad hp H locs cells slots ls lm st) (hr : r < hp.1) (he : eO hp.1 e) (h7 : ∀ a, e ≠ .inl (7, a)) (hP : va_P D vwCl ((wsO tc ad hp).set r (ad r, rE tc ad e)) H1) (hD : va_D (fun q => b0 ≤ q) ((wsO tc ad hp).set r (ad r, rE tc ad e))) (hS : va_S (fun q => b0 ≤ q) s.heap H1 locs1) (h : ∀ v ∈ st', vO hp.1 v) : Frm s D tc b0 sb L xs k n0 ad0 c0 s0 ad (hSet hp r e) H1 locs1 cells slots ls lm st' :=
  ⟨by rw [ws_set hr]; exact hP, by rw [ws_set hr]; exact hD, hS, F.2.2.2.1, Hok_set F.2.2.2.2.1 hr he h7, F.2.2.2.2.2.1, h, F.2.2.2.2.2.2.2⟩
theorem Frm_new {w q : Nat} {e : LE} (F : Frm s D tc b0 sb L xs k n0 ad0 c0 s0 ad hp H locs cells slots ls lm st) (hn : hp.1 < SCR) (he : eO hp.1 e) (h7 : ∀ a, e ≠ .inl (7, a)) (hP : va_P D vwCl (wsO tc ad hp ++ [(q, rE tc ad e)]) H1) (hD : va_D (fun q => b0 ≤ q) (wsO tc ad hp ++ [(q, rE tc ad e)])) (hS : va_S (fun q => b0 ≤ q) s.heap H1 locs1) (h : ∀ v ∈ st', vO (hp.1 + 1) v) : Frm s D tc b0 sb L xs k n0 ad0 c0 s0 (adN ad hp.1 q) (hNew hp w e) H1 locs1 (cells + 1) (slots + w) ls lm st' := by
  have hag : ag hp.1 ad (adN ad hp.1 q) := ag_new hn
  obtain ⟨f1, f2, f3, f4, f5, f6, f7, f8, f9, f10, f11⟩ := F
  refine ⟨by rw [ws_new f5.1 he hn]; exact hP, by rw [ws_new f5.1 he hn]; exact hD, hS, LR_ag f4 hag f6, Hok_new f5 hn he h7, fun v hv => vO_mono (f6 v hv) (Nat.le_succ _), h, ?_, ?_, ag_tr f10 hag f11, Nat.le_succ_of_le f11⟩
  · simp only [hC, hNew] at f8 ⊢; omega
  · simp only [hSl, hNew] at f9 ⊢; omega
theorem Frm_back {ad' : Nat → Nat} {h2 : Hp} {t : State} (F : Frm s D tc b0 sb L xs k n0 ad0 c0 s0 ad hp H locs cells slots ls lm st) (hl : hLe hp h2) (hag : ag hp.1 ad ad') (hw : Wd D tc b0 sb L xs ad' h2 t) (hS : va_S (fun q => b0 ≤ q) s.heap t.heap locs1) (h : ∀ v ∈ st', vO h2.1 v) : Frm s D tc b0 sb L xs k n0 ad0 c0 s0 ad' h2 t.heap locs1 (cells + (hC h2 - hC hp)) (slots + (hSl h2 - hSl hp)) ls lm st' := by
  obtain ⟨f1, f2, f3, f4, f5, f6, f7, f8, f9, f10, f11⟩ := F
  obtain ⟨l1, l2, l3⟩ := hl
  exact ⟨hw.1, hw.2.2.1, hS, LR_ag f4 hag f6, hw.2.2.2.2.2, fun v hv => vO_mono (f6 v hv) l1, h, by omega, by omega, ag_tr f10 hag f11, Nat.le_trans f11 l1⟩
theorem Frm_wd {U : State} (F : Frm s D tc b0 sb L xs k n0 ad0 c0 s0 ad hp H locs cells slots ls lm st) (hK : va_K D vwCl (tysL tc) s) (hE : Ev b0 sb L xs s s.heap) (hN : Nw s) (hU : U.heap = H) (hW : s.WarmedH U.vm) : Wd D tc b0 sb L xs ad hp U := by
  refine ⟨by rw [hU]; exact F.1, va_K.moved hW.alike hK, F.2.1, ?_, Nw_warm hW hN, F.2.2.2.2.1⟩
  rw [hU]
  exact Ev_moved hW.alike (Ev_kept hE F.2.2.1)
end FRM
end
section
theorem ws_arr {tc : Nat → ClassId} {ad : Nat → Nat} {hp : Hp} {L sb r t n : Nat} {xs : Nat → Int32} {f : Nat → Int32} (hk : Hok L xs sb ad hp) (h : hAt hp r = .inl (t, n, .inl f)) (ht : t ≠ 7) : (wsO tc ad hp)[r]? = some (ad r, .inl (tc t, n, .inl f)) := by
  rw [ws_get (Gd_arr hk.2.1 h ht), h]; rfl
theorem ws_arl {tc : Nat → ClassId} {ad : Nat → Nat} {hp : Hp} {L sb r t n : Nat} {xs : Nat → Int32} {f : Nat → Int64} (hk : Hok L xs sb ad hp) (h : hAt hp r = .inl (t, n, .inr (.inl f))) (ht : t ≠ 7) : (wsO tc ad hp)[r]? = some (ad r, .inl (tc t, n, .inr (.inl f))) := by
  rw [ws_get (Gd_arr hk.2.1 h ht), h]; rfl
theorem ws_arq {tc : Nat → ClassId} {ad : Nat → Nat} {hp : Hp} {L sb r t n : Nat} {xs : Nat → Int32} {f : Nat → Option Nat} (hk : Hok L xs sb ad hp) (h : hAt hp r = .inl (t, n, .inr (.inr (.inr (.inr f))))) (ht : t ≠ 7) : (wsO tc ad hp)[r]? = some (ad r, .inl (tc t, n, .inr (.inr (.inr (.inr (fun j => (f j).map ad)))))) := by
  rw [ws_get (Gd_arr hk.2.1 h ht), h]; rfl
theorem ws_obj {tc : Nat → ClassId} {ad : Nat → Nat} {hp : Hp} {L sb r ci : Nat} {xs : Nat → Int32} {fs : List Value} (hk : Hok L xs sb ad hp) (h : hAt hp r = .inr (ci, fs)) (ht : ci ≠ 1000) : (wsO tc ad hp)[r]? = some (ad r, .inr (ci, fs.map (rn ad))) := by
  rw [ws_get (Gd_obj hk.2.1 h ht), h]; rfl
theorem vwCl_lt {c : Nat} {q : vw_C} (h : vwCl[c]? = some q) : c ≠ 1000 := by
  intro z; subst z
  have := (List.getElem?_eq_some_iff.mp h).1
  simp [vwCl] at this
theorem chk_ok {d : Nat} {ty : FieldType} {v : Value} (ad : Nat → Nat) (h : chk d v = true) (ht : tagB d ty = true) : narrow ty (rn ad v) = rn ad v ∧ fits ty (rn ad v) = true := by
  match d, ty, v, h, ht with
  | 0, .int, .int x, _, _ => exact ⟨rfl, rfl⟩
  | 1, .long, .long x, _, _ => exact ⟨rfl, rfl⟩
  | 2, .boolean, .int x, h, _ =>
    simp only [chk, Bool.or_eq_true, beq_iff_eq] at h
    rcases h with rfl | rfl
    · exact ⟨show narrow .boolean (.int 0) = .int 0 by decide, show fits .boolean (.int 0) = true by decide⟩
    · exact ⟨show narrow .boolean (.int 1) = .int 1 by decide, show fits .boolean (.int 1) = true by decide⟩
  | 3, .object _, .ref q, _, _ => exact ⟨rfl, rfl⟩
  | 3, .object _, .null, _, _ => exact ⟨rfl, rfl⟩
  | 3, .array _, .ref q, _, _ => exact ⟨rfl, rfl⟩
  | 3, .array _, .null, _, _ => exact ⟨rfl, rfl⟩
theorem norefs_map {ad : Nat → Nat} : ∀ {vs : List Value}, (∀ v ∈ vs, ∀ q : Nat, v ≠ .ref q) → vs.map (rn ad) = vs
  | [], _ => rfl
  | v :: vs, h => by
    have h1 := norefs_map (ad := ad) (vs := vs) (fun w hw => h w (List.mem_cons_of_mem _ hw))
    have h2 : rn ad v = v := by
      cases v with
      | ref q => exact absurd rfl (h _ List.mem_cons_self q)
      | _ => rfl
    simp only [List.map_cons, h1, h2]
theorem norefs_O {n : Nat} {vs : List Value} (h : ∀ v ∈ vs, ∀ q : Nat, v ≠ .ref q) : ∀ v ∈ vs, vO n v := fun v hv q hq => absurd hq (h v hv q)
theorem map_rf (ad : Nat → Nat) (r : Option Nat) : va_rf (r.map ad) = rn ad (va_rf r) := by cases r <;> rfl
theorem app_O {n : Nat} {a b : List Value} (ha : ∀ v ∈ a, vO n v) (hb : ∀ v ∈ b, vO n v) : ∀ v ∈ a ++ b, vO n v := fun v hv => (List.mem_append.mp hv).elim (ha v) (hb v)
theorem take_O {n : Nat} {st : List Value} (h : ∀ v ∈ st, vO n v) (c : Nat) : ∀ v ∈ (st.take c).reverse, vO n v := fun v hv => h v (List.mem_of_mem_take (List.mem_reverse.mp hv))
theorem drop_O {n : Nat} {st : List Value} (h : ∀ v ∈ st, vO n v) (c : Nat) : ∀ v ∈ st.drop c, vO n v := fun v hv => h v (List.mem_of_mem_drop hv)
/-- what the tables say of a callee -/
theorem okM_all {j : Nat} (h : okMX j) : Cond.code (MY j) (MB j) (ML j) (MR j) ∈ TB ∧ Cond.initialized (MO j) ∈ TB ∧ plainName (MO j) = true ∧ (MO j ≠ "java/lang/invoke/MethodHandle" ∧ MO j ≠ "java/lang/invoke/VarHandle") ∧ ML j ≤ 40 ∧ (MCi j = 99 → Cond.static (MY j) ∈ TB) ∧ (MCi j ≠ 99 → Cond.instanceMethod (MY j) ∈ TB ∧ ((MY j).name ≠ "<init>" → Cond.selects (MO j) (MY j) (MY j) ∈ TB) ∧ (vwCl[MCi j]?).map (fun q => q.1) = some (MO j)) := by
  obtain ⟨hc, h⟩ := h
  simp only [okMB, Bool.and_eq_true, decide_eq_true_eq] at h
  obtain ⟨⟨⟨⟨⟨h2, h3⟩, h4⟩, h5⟩, h6⟩, h7⟩ := h
  refine ⟨List.mem_filter.mpr ⟨hc, rfl⟩, gW_TB h2 rfl, h3, ⟨h4, h5⟩, h6, fun z => ?_, fun z => ?_⟩
  · rw [if_pos z] at h7
    exact gW_TB h7 rfl
  · rw [if_neg z] at h7
    simp only [Bool.and_eq_true, Bool.or_eq_true, decide_eq_true_eq] at h7
    exact ⟨gW_TB h7.1.1 rfl, fun q => (h7.1.2.elim (fun e => absurd e q) (fun e => gW_TB e rfl)), h7.2⟩
theorem wsU_good {j : Nat} (h : okMX j) : GoodIn TB (wsU j) := by
  intro w hw
  rcases List.mem_cons.mp hw with rfl | hw
  · exact ⟨(okM_all h).1, good_of_word rfl⟩
  · exact ⟨hw, good_of_word (List.mem_filter.mp hw).2⟩
theorem rn_tail {ad : Nat → Nat} {n q : Nat} {st : List Value} (h : ∀ v ∈ st, vO n v) (hn : n < SCR) : st.map (rn (adN ad n q)) = st.map (rn ad) := List.map_congr_left fun v hv => rn_ag (ag_new hn) (h v hv)
theorem oi_room {m : MethodId} {pc d Rl : Nat} {ls : Array Slot} {st t : List Value} {ad : Nat → Nat} (h : cs t ≤ 8) (hR : 64 * d + 256 ≤ Rl) : 2 * (F0 m pc ls st).monitorRoom + ((t.map (rn ad)).map fun v => v.category).sum + 12 ≤ Rl := by
  have h1 := lv_room (m := m) (pc := pc) (ls := ls) (rest := st) (st := t.map (rn ad)) (by rw [rn_cs]; exact h)
  omega
section CB
variable {s : State} {args : Array Value} {R : Room}
theorem mkB {d mc ms n k index j : Nat} (ht : ∀ w ∈ TB, w.before args s = true) (h : okMX j) (hl : (Cond.methodLink (MO k) index (MY j)) ∈ TB) (hn : nP j = some n) (hR : d + 1 + 8 ≤ R.frames ∧ 64 * (d + 1) + 256 ≤ R.locals) : CallB R s args (MO k) index (MY j) (MB j) (ML j) (MR j) (wsU j) (rmO d mc ms) mc ms n := by
  obtain ⟨h1, h2, h3, h4, h5, -, -⟩ := okM_all h
  exact callB_of n ht (wsU_good h) rfl rfl rfl (ht _ h2) (ht _ hl) ⟨h4.1, h4.2, hn⟩ ⟨by simp only [rmO]; omega, by simp only [rmO]; omega⟩
end CB
end
section
section SC
variable {p : Program} {l : Launch} {e : Env} {R : Room} {s : State} {m : MethodId} {args : Array Value} {below : List Frame} {meth : Method} {c : Code} {Q : State → Prop}
variable {D : va_G} {tc : Nat → ClassId} {b0 sb L : Nat} {xs : Nat → Int32} {k n0 : Nat} {ad0 : Nat → Nat} {c0 s0 : Nat}
variable {ad : Nat → Nat} {hp h2 : Hp} {H : Heap} {locs : List Loc} {cells slots : Nat} {ls : Array Slot} {lm st t : List Value} {cc b ix rr d' pc : Nat} {fs : List Value} {v : Option Value}
theorem wd_blind (as : List Value) (h1 : Hp) : FrameBlind (va_Pc (as.map (rn ad)) (Wd D tc b0 sb L xs ad h1)) := fun _ _ g mk q => ⟨q.1, Wd_blind q.2 _ g mk⟩
theorem st_split (hlen : cc ≤ st.length) {u : List Value} (hdrop : st.drop cc = u) : st.map (rn ad) = (((st.take cc).reverse).map (rn ad)).reverse ++ u.map (rn ad) := by
  rw [← List.map_reverse, List.reverse_reverse, ← List.map_append, ← hdrop, List.take_append_drop]
theorem sim_V (C : Cxf p s m args meth c D tc b0 sb L xs k) (hM : okMX b) (F : Frm s D tc b0 sb L xs k n0 ad0 c0 s0 ad hp H locs cells slots ls lm st) (hlen : cc ≤ st.length) (hdrop : st.drop cc = .ref rr :: t) (hcs : cs t ≤ 8) (hAtr : hAt hp rr = .inr (MCi b, fs))
    (o1 : Cond.methodLink (MO k) ix (MY b) ∈ TB) (o2 : nP b = some cc) (o4 : MCi b ≠ 99) (o5 : (MY b).name ≠ "<init>") (hd : okD k pc (.invokevirtual ix)) {mc ms : Nat}
    (hmet : Met l (MY b) (wsU b) (rmO d' mc ms) (va_Pc ((.ref rr :: (st.take cc).reverse).map (rn ad)) (Wd D tc b0 sb L xs ad hp)) (QcO D tc b0 sb L xs ad hp.1 v h2) mc ms (fun q => b0 ≤ q))
    (hR : d' + 1 + 8 ≤ R.frames ∧ 64 * (d' + 1) + 256 ≤ R.locals) (hbd : cells + mc ≤ R.cells ∧ slots + ms ≤ R.slots)
    (kk : ∀ (ad' : Nat → Nat) (t2 : State) (locs1 : List Loc), ag hp.1 ad ad' → Wd D tc b0 sb L xs ad' h2 t2 → (∀ w ∈ v.toList, ∀ q : Nat, w ≠ .ref q) → va_S (fun q => b0 ≤ q) s.heap t2.heap locs1 → W p l e R s m args below meth c t2.heap locs1 (cells + mc) (slots + ms) Q (F0 m (pc + 3) ls (v.toList ++ t.map (rn ad)))) :
    W p l e R s m args below meth c H locs cells slots Q (F0 m pc ls (st.map (rn ad))) := by
  obtain ⟨hx, hb, hml, hown, hts, hini, hK, hEv, hNw⟩ := C
  obtain ⟨m1, m2, m3, m4, m5, m6, m7⟩ := okM_all hM
  obtain ⟨m8, m9, m10⟩ := m7 o4
  cases hq : vwCl[MCi b]? with
  | none => rw [hq] at m10; cases m10
  | some q =>
  rw [hq] at m10
  have hqc : q.1 = MO b := Option.some.inj m10
  have hrec := va_recv hK F.1 hq (ws_obj (tc := tc) F.2.2.2.2.1 hAtr (vwCl_lt hq))
  rw [hqc] at hrec
  rw [st_split hlen hdrop]
  have hcsr : ((t.map (rn ad)).map fun v => v.category).sum ≤ 8 := by rw [rn_cs]; exact hcs
  refine my_call (va_runV (As := ((st.take cc).reverse).map (rn ad)) (rest := t.map (rn ad)) (C := MO b) (b := ad rr) (g := F0 m pc ls _) ⟨hx, hb, hml, hown, hts⟩ hmet ⟨mkB hts hM o1 o2 hR, hts _ m8, hts _ (m9 o5)⟩ ⟨wd_blind _ _, hrec, fun U hU hW => ⟨rfl, Frm_wd F hK hEv hNw hU hW⟩⟩ rfl ?_ F.2.2.2.1.2.1 rfl (lv_room (m := m) (pc := pc) (ls := ls) hcsr) (okD_at hd 2 rfl) hbd) F.2.2.1 (fun ad' t2 locs1 _ h3 h4 h5 h6 => kk ad' t2 locs1 h3 h4 h5 h6)
  simp only [List.length_map, List.length_reverse, List.length_take]
  omega
theorem sim_S (C : Cxf p s m args meth c D tc b0 sb L xs k) (hM : okMX b) (F : Frm s D tc b0 sb L xs k n0 ad0 c0 s0 ad hp H locs cells slots ls lm st) (hlen : cc ≤ st.length) (hcs : cs (st.drop cc) ≤ 8)
    (o1 : Cond.methodLink (MO k) ix (MY b) ∈ TB) (o2 : nP b = some cc) (o4 : MCi b = 99) (hd : okD k pc (.invokestatic ix)) {mc ms : Nat}
    (hmet : Met l (MY b) (wsU b) (rmO d' mc ms) (va_Pc (((st.take cc).reverse).map (rn ad)) (Wd D tc b0 sb L xs ad hp)) (QcO D tc b0 sb L xs ad hp.1 v h2) mc ms (fun q => b0 ≤ q))
    (hR : d' + 1 + 8 ≤ R.frames ∧ 64 * (d' + 1) + 256 ≤ R.locals) (hbd : cells + mc ≤ R.cells ∧ slots + ms ≤ R.slots)
    (kk : ∀ (ad' : Nat → Nat) (t2 : State) (locs1 : List Loc), ag hp.1 ad ad' → Wd D tc b0 sb L xs ad' h2 t2 → (∀ w ∈ v.toList, ∀ q : Nat, w ≠ .ref q) → va_S (fun q => b0 ≤ q) s.heap t2.heap locs1 → W p l e R s m args below meth c t2.heap locs1 (cells + mc) (slots + ms) Q (F0 m (pc + 3) ls (v.toList ++ (st.drop cc).map (rn ad)))) :
    W p l e R s m args below meth c H locs cells slots Q (F0 m pc ls (st.map (rn ad))) := by
  obtain ⟨hx, hb, hml, hown, hts, hini, hK, hEv, hNw⟩ := C
  obtain ⟨m1, m2, m3, m4, m5, m6, m7⟩ := okM_all hM
  rw [st_split hlen rfl]
  have hcsr : (((st.drop cc).map (rn ad)).map fun v => v.category).sum ≤ 8 := by rw [rn_cs]; exact hcs
  refine my_call (va_runS (As := ((st.take cc).reverse).map (rn ad)) (rest := (st.drop cc).map (rn ad)) (g := F0 m pc ls _) ⟨hx, hb, hml, hown, hts⟩ hmet ⟨mkB hts hM o1 o2 hR, hts _ (m6 o4)⟩ ⟨wd_blind _ _, fun U hU hW => ⟨rfl, Frm_wd F hK hEv hNw hU hW⟩⟩ rfl ?_ F.2.2.2.1.2.1 rfl (lv_room (m := m) (pc := pc) (ls := ls) hcsr) (okD_at hd 2 rfl) hbd) F.2.2.1 (fun ad' t2 locs1 _ h3 h4 h5 h6 => kk ad' t2 locs1 h3 h4 h5 h6)
  simp only [List.length_map, List.length_reverse, List.length_take]
  omega
theorem sim_I (C : Cxf p s m args meth c D tc b0 sb L xs k) (hM : okMX b) (F : Frm s D tc b0 sb L xs k n0 ad0 c0 s0 ad hp H locs cells slots ls lm st) (hlen : cc ≤ st.length) (hdrop : st.drop cc = .ref rr :: t) (hcs : cs t ≤ 8)
    (o1 : Cond.methodLink (MO k) ix (MY b) ∈ TB) (o2 : nP b = some cc) (o4 : MCi b ≠ 99) (o5 : (MY b).name = "<init>") (o6 : MR b = none) (hd : okD k pc (.invokespecial ix)) {mc ms : Nat}
    (hmet : Met l (MY b) (wsU b) (rmO d' mc ms) (va_Pc ((.ref rr :: (st.take cc).reverse).map (rn ad)) (Wd D tc b0 sb L xs ad hp)) (QcO D tc b0 sb L xs ad hp.1 v h2) mc ms (fun q => b0 ≤ q))
    (hR : d' + 1 + 8 ≤ R.frames ∧ 64 * (d' + 1) + 256 ≤ R.locals) (hbd : cells + mc ≤ R.cells ∧ slots + ms ≤ R.slots)
    (kk : ∀ (ad' : Nat → Nat) (t2 : State) (locs1 : List Loc), ag hp.1 ad ad' → Wd D tc b0 sb L xs ad' h2 t2 → (∀ w ∈ v.toList, ∀ q : Nat, w ≠ .ref q) → va_S (fun q => b0 ≤ q) s.heap t2.heap locs1 → W p l e R s m args below meth c t2.heap locs1 (cells + mc) (slots + ms) Q (F0 m (pc + 3) ls (v.toList ++ t.map (rn ad)))) :
    W p l e R s m args below meth c H locs cells slots Q (F0 m pc ls (st.map (rn ad))) := by
  obtain ⟨hx, hb, hml, hown, hts, hini, hK, hEv, hNw⟩ := C
  obtain ⟨m1, m2, m3, m4, m5, m6, m7⟩ := okM_all hM
  obtain ⟨m8, m9, m10⟩ := m7 o4
  rw [st_split hlen hdrop]
  have hcsr : ((t.map (rn ad)).map fun v => v.category).sum ≤ 8 := by rw [rn_cs]; exact hcs
  have hB := mkB (mc := mc) (ms := ms) hts hM o1 o2 hR
  rw [o6] at hB
  refine my_call (va_runI (As := ((st.take cc).reverse).map (rn ad)) (rest := t.map (rn ad)) (b := ad rr) (g := F0 m pc ls _) ⟨hx, hb, hml, hown, hts⟩ hmet ⟨hB, o5, hts _ m8⟩ ⟨wd_blind _ _, fun U hU hW => ⟨rfl, Frm_wd F hK hEv hNw hU hW⟩⟩ rfl ?_ F.2.2.2.1.2.1 rfl (lv_room (m := m) (pc := pc) (ls := ls) hcsr) (okD_at hd 2 rfl) hbd) F.2.2.1 (fun ad' t2 locs1 _ h3 h4 h5 h6 => kk ad' t2 locs1 h3 h4 h5 h6)
  simp only [List.length_map, List.length_reverse, List.length_take]
  omega
theorem sim_N (C : Cxf p s m args meth c D tc b0 sb L xs k) (hM : okMX b) (F : Frm s D tc b0 sb L xs k n0 ad0 c0 s0 ad hp H locs cells slots ls lm st) (hlen : cc ≤ st.length) (hdrop : st.drop cc = .ref rr :: t) (hcs : cs t ≤ 8)
    (o1 : Cond.methodLinkNest (MO k) ix (MY b) "BlendYard" ∈ lw_tbl) (o2 : nP b = some cc) (o4 : MCi b ≠ 99) (o5 : (MY b).name = "<init>") (o6 : MR b = none) (hd : okD k pc (.invokespecial ix)) {mc ms : Nat}
    (hmet : Met l (MY b) (wsU b) (rmO d' mc ms) (va_Pc ((.ref rr :: (st.take cc).reverse).map (rn ad)) (Wd D tc b0 sb L xs ad hp)) (QcO D tc b0 sb L xs ad hp.1 v h2) mc ms (fun q => b0 ≤ q))
    (hR : d' + 1 + 8 ≤ R.frames ∧ 64 * (d' + 1) + 256 ≤ R.locals) (hbd : cells + mc ≤ R.cells ∧ slots + ms ≤ R.slots)
    (kk : ∀ (ad' : Nat → Nat) (t2 : State) (locs1 : List Loc), ag hp.1 ad ad' → Wd D tc b0 sb L xs ad' h2 t2 → (∀ w ∈ v.toList, ∀ q : Nat, w ≠ .ref q) → va_S (fun q => b0 ≤ q) s.heap t2.heap locs1 → W p l e R s m args below meth c t2.heap locs1 (cells + mc) (slots + ms) Q (F0 m (pc + 3) ls (v.toList ++ t.map (rn ad)))) :
    W p l e R s m args below meth c H locs cells slots Q (F0 m pc ls (st.map (rn ad))) := by
  obtain ⟨hx, hb, hml, hown, hts, hini, hK, hEv, hNw⟩ := C
  obtain ⟨m1, m2, m3, m4, m5, m6, m7⟩ := okM_all hM
  obtain ⟨m8, m9, m10⟩ := m7 o4
  rw [st_split hlen hdrop]
  have hcsr : ((t.map (rn ad)).map fun v => v.category).sum ≤ 8 := by rw [rn_cs]; exact hcs
  have hB := va_cnB (R := R) (s := s) (args := args) (mc := mc) (ms := ms) cc hts (wsU_good hM) rfl (rm := rmO d' mc ms) rfl rfl (hNw.1 _ o1 rfl) (hts _ m2) ⟨m4.1, m4.2, o2⟩ ⟨by simp only [rmO]; omega, by simp only [rmO]; omega⟩
  rw [o6] at hB
  refine my_call (va_runIN (As := ((st.take cc).reverse).map (rn ad)) (rest := t.map (rn ad)) (b := ad rr) (g := F0 m pc ls _) ⟨hx, hb, hml, hown, hts⟩ hmet ⟨hB, o5, hts _ m8⟩ ⟨wd_blind _ _, fun U hU hW => ⟨rfl, Frm_wd F hK hEv hNw hU hW⟩⟩ rfl ?_ F.2.2.2.1.2.1 rfl (lv_room (m := m) (pc := pc) (ls := ls) hcsr) (okD_at hd 2 rfl) hbd) F.2.2.1 (fun ad' t2 locs1 _ h3 h4 h5 h6 => kk ad' t2 locs1 h3 h4 h5 h6)
  simp only [List.length_map, List.length_reverse, List.length_take]
  omega
end SC
end
section
section SIM
variable {p : Program} {l : Launch} {e : Env} {R : Room} {s : State} {m : MethodId} {args : Array Value} {below : List Frame} {meth : Method} {c : Code} {Q : State → Prop}
variable {D : va_G} {tc : Nat → ClassId} {b0 sb L : Nat} {xs : Nat → Int32} {k n0 : Nat} {ad0 : Nat → Nat} {c0 s0 d : Nat} {r : Option (Option Value)} {hp' : Hp}
def zC (rv : Option (Option Value)) (h2 : Hp) (o : Nat) (z : Int32) (h3 : Hp) : Prop := match rv with
  | some (some (.int w)) => ∃ (nn : Nat) (f : Nat → Int64), hAt h2 o = .inl (1, nn, .inr (.inl f)) ∧ inB 0 nn = true ∧ z = 0 ∧ h3 = hSet h2 o (.inl (1, nn, .inr (.inl (vp_updL f 0 w.toInt64))))
  | none => z = 1 ∧ h3 = h2
  | _ => False
def Rule19 (p : Program) (l : Launch) (e : Env) (R : Room) (s : State) (m : MethodId) (args : Array Value) (below : List Frame) (meth : Method) (c : Code) (Q : State → Prop) (D : va_G) (tc : Nat → ClassId) (b0 sb L : Nat) (xs : Nat → Int32) (k n0 : Nat) (ad0 : Nat → Nat) (c0 s0 d : Nat) (hp' : Hp) : Prop :=
  ∀ (n pc ix len a b cc o x : Nat) (p0 p1 : Int32) (t fs lm : List Value) (hp h2 : Hp) (d' : Nat) (rv : Option (Option Value)) (ad : Nat → Nat) (H : Heap) (locs : List Loc) (cells slots : Nat) (ls : Array Slot),
    d = d' + 1 → (∀ n', n' ≤ n → CallOK l D tc b0 sb L xs n') → fe pc (MC k) = some (.invokestatic ix, len, a, b, cc, 19) → okD k pc (.invokestatic ix) → cs t ≤ 8 → hAt hp x = .inr (7, fs) → Nat.ble (enF [.ref x, .int p0, .int p1]).length (ML b) = true → run n d' b 0 (enL [.ref x, .int p0, .int p1] (ML b)) [] hp = some (rv, h2) → hLe h2 hp' →
    Frm s D tc b0 sb L xs k n0 ad0 c0 s0 ad hp H locs cells slots ls lm (.ref o :: .int p1 :: .int p0 :: .ref x :: t) →
    ∀ (z : Int32) (h3 : Hp), zC rv h2 o z h3 → (∀ (ad' : Nat → Nat) (H1 : Heap) (locs1 : List Loc) (cells1 slots1 : Nat), Frm s D tc b0 sb L xs k n0 ad0 c0 s0 ad' h3 H1 locs1 cells1 slots1 ls lm (.int z :: t) → W p l e R s m args below meth c H1 locs1 cells1 slots1 Q (F0 m (pc + 3) ls ((.int z :: t).map (rn ad')))) →
    W p l e R s m args below meth c H locs cells slots Q (F0 m pc ls ((.ref o :: .int p1 :: .int p0 :: .ref x :: t).map (rn ad)))
set_option maxHeartbeats 8000000 in
theorem sim (C : Cxf p s m args meth c D tc b0 sb L xs k)
    (hE : ∀ pc i len a b cc dd, fe pc (MC k) = some (i, len, a, b, cc, dd) → okD k pc i ∧ okEB k (pc, i, len, a, b, cc, dd) = true)
    (hM : ∀ j, j < 240 → okMX j) (hR : d + 8 ≤ R.frames ∧ 64 * d + 256 ≤ R.locals) (hB : hC hp' ≤ 700000 ∧ hC hp' ≤ c0 + R.cells ∧ hSl hp' ≤ s0 + R.slots)
    (hfin : ∀ ad H locs cells slots ls lm st hp pc, Frm s D tc b0 sb L xs k n0 ad0 c0 s0 ad hp H locs cells slots ls lm st → FinC k r hp' pc st hp → W p l e R s m args below meth c H locs cells slots Q (F0 m pc ls (st.map (rn ad))))
    (h19 : k = 240 → Rule19 p l e R s m args below meth c Q D tc b0 sb L xs k n0 ad0 c0 s0 d hp') :
    ∀ n, (∀ n', n' < n → CallOK l D tc b0 sb L xs n') → ∀ pc lm st hp, run n d k pc lm st hp = some (r, hp') → ∀ ad H locs cells slots ls, Frm s D tc b0 sb L xs k n0 ad0 c0 s0 ad hp H locs cells slots ls lm st → W p l e R s m args below meth c H locs cells slots Q (F0 m pc ls (st.map (rn ad))) := by
  obtain ⟨hx, hb, hml, hown, hts, hini, hK, hEv, hNw⟩ := id C
  intro n
  induction n with
  | zero => intro _ pc lm st hp h; simp [run] at h
  | succ n ih0 =>
  intro hcl pc lm st hp h ad H locs cells slots ls F
  have hmono := run_mono _ _ _ _ _ _ _ _ _ h
  simp only [run] at h
  cases hf : fe pc (MC k) with
  | none => simp [hf] at h
  | some ent =>
  simp only [hf] at h
  obtain ⟨i, len, a, b, cc, dd⟩ := ent
  obtain ⟨hd, hok⟩ := hE _ _ _ _ _ _ _ hf
  have ih : ∀ {pc : Nat} {lm st : List Value} {hp : Hp}, run n d k pc lm st hp = some (r, hp') → ∀ {ad : Nat → Nat} {H : Heap} {locs : List Loc} {cells slots : Nat} {ls : Array Slot}, Frm s D tc b0 sb L xs k n0 ad0 c0 s0 ad hp H locs cells slots ls lm st → W p l e R s m args below meth c H locs cells slots Q (F0 m pc ls (st.map (rn ad))) := fun h _ _ _ _ _ _ F => ih0 (fun n' hn => hcl n' (by omega)) _ _ _ _ h _ _ _ _ _ _ F
  clear ih0
  have hP := F.1
  have hDd := F.2.1
  have hSs := F.2.2.1
  have hl := F.2.2.2.1
  have hk := F.2.2.2.2.1
  have hOl := F.2.2.2.2.2.1
  have hOs := F.2.2.2.2.2.2.1
  have hcc : c0 + cells = hC hp := F.2.2.2.2.2.2.2.1
  have hss : s0 + slots = hSl hp := F.2.2.2.2.2.2.2.2.1
  have hA : ∀ q, s.heap.size ≤ q → (fun q : Nat => b0 ≤ q) q := fun q hq => Nat.le_trans hEv.2.2.2.2.1 hq
  have hbc : cells ≤ R.cells ∧ slots ≤ R.slots := by
    obtain ⟨z1, z2, z3⟩ := hmono
    omega
  have hLg : ∀ {j : Nat} {v : Value}, lm[j]? = some v → v ≠ jk → ls[j]? = some (.val (rn ad v)) := fun h1 h2 => hl.2.2.2 _ _ h1 h2
  have hLO : ∀ {j : Nat} {v : Value}, lm[j]? = some v → vO hp.1 v := fun h1 => hOl _ (List.mem_of_getElem? h1)
  have hLL : lm.length = ML k := hl.1
  have hsz : c.maxLocals = ls.size := by rw [hml, hl.2.1]
  have hhas := LR_has hl
  have nI' : ∀ x : Int32, (Value.int x) ≠ jk := fun _ z => by cases z
  have nL' : ∀ x : Int64, (Value.long x) ≠ jk := fun _ z => by cases z
  have nR' : ∀ x : Nat, (Value.ref x) ≠ jk := fun _ z => by cases z
  have nN' : Value.null ≠ jk := fun z => by cases z
  have blind : ∀ (as : List Value) (h1 : Hp), FrameBlind (va_Pc (as.map (rn ad)) (Wd D tc b0 sb L xs ad h1)) := fun as h1 a U g mk q => ⟨q.1, Wd_blind q.2 a g mk⟩
  have back : ∀ {t : List Value} {v : Option Value} {h2 : Hp} {ad' : Nat → Nat} {t2 : State} {locs1 : List Loc} {q : Nat}, (∀ w ∈ t, vO hp.1 w) → run n d k q lm (v.toList ++ t) h2 = some (r, hp') → hLe hp h2 → ag hp.1 ad ad' → Wd D tc b0 sb L xs ad' h2 t2 → (∀ w ∈ v.toList, ∀ q : Nat, w ≠ .ref q) → va_S (fun q => b0 ≤ q) s.heap t2.heap locs1 → W p l e R s m args below meth c t2.heap locs1 (cells + (hC h2 - hC hp)) (slots + (hSl h2 - hSl hp)) Q (F0 m q ls (v.toList ++ t.map (rn ad))) := by
    intro t v h2 ad' t2 locs1 q ht hr hle hag hw hnr hS1
    have h1 := ih hr (Frm_back F hle hag hw hS1 (app_O (norefs_O hnr) (fun w hw => vO_mono (ht w hw) hle.1)))
    rw [List.map_append, norefs_map hnr, List.map_congr_left (g := rn ad) (fun w hw => rn_ag hag (ht w hw))] at h1
    exact h1
  cases i with
  | aconst_null =>
    simp only [step] at h
    exact lv_null hx hb (okD_at hd 0 rfl) (ih h (Frm_st F (cons_O (vO_null _) hOs)))
  | iconst j =>
    simp only [step] at h
    exact lv_iconst hx hb (okD_at hd 0 rfl) rfl (ih h (Frm_st F (cons_O (vO_int _ _) hOs)))
  | lconst j =>
    simp only [step] at h
    exact lv_lconst hx hb (okD_at hd 0 rfl) rfl (ih h (Frm_st F (cons_O (vO_long _ _) hOs)))
  | bipush j =>
    simp only [step] at h
    exact lv_bipush hx hb (okD_at hd 1 rfl) rfl (ih h (Frm_st F (cons_O (vO_int _ _) hOs)))
  | sipush j =>
    simp only [step] at h
    exact lv_sipush hx hb (okD_at hd 2 rfl) rfl (ih h (Frm_st F (cons_O (vO_int _ _) hOs)))
  | ldc j =>
    simp only [step] at h
    split at h
    · simp only [okEB] at hok
      exact lv_ldc hx hb hown (hts _ (gW_TB hok rfl)) (okD_at hd 1 rfl) (ih h (Frm_st F (cons_O (vO_int _ _) hOs)))
    · cases h
  | ldc_w j =>
    simp only [step] at h
    split at h
    · simp only [okEB] at hok
      exact lv_ldcw hx hb hown (hts _ (gW_TB hok rfl)) (okD_at hd 2 rfl) (ih h (Frm_st F (cons_O (vO_int _ _) hOs)))
    · cases h
  | ldc2_w j =>
    simp only [step] at h
    simp only [okEB] at hok
    exact lv_ldc2 hx hb hown (hts _ (gW_TB hok rfl)) (okD_at hd 2 rfl) (ih h (Frm_st F (cons_O (vO_long _ _) hOs)))
  | iload j =>
    simp only [step] at h
    split at h
    · rename_i x h1
      exact lv_iload hx hb (okD_at hd 1 rfl) (hLg h1 (nI' _)) (ih h (Frm_st F (cons_O (vO_int _ _) hOs)))
    · cases h
  | iload_n j =>
    simp only [step] at h
    split at h
    · rename_i x h1
      exact lv_iload_n hx hb (okD_at hd 0 rfl) rfl (hLg h1 (nI' _)) (ih h (Frm_st F (cons_O (vO_int _ _) hOs)))
    · cases h
  | lload j =>
    simp only [step] at h
    split at h
    · rename_i x h1
      exact lv_lload hx hb (okD_at hd 1 rfl) (hLg h1 (nL' _)) (ih h (Frm_st F (cons_O (vO_long _ _) hOs)))
    · cases h
  | lload_n j =>
    simp only [step] at h
    split at h
    · rename_i x h1
      exact lv_lload_n hx hb (okD_at hd 0 rfl) rfl (hLg h1 (nL' _)) (ih h (Frm_st F (cons_O (vO_long _ _) hOs)))
    · cases h
  | aload j =>
    simp only [step] at h
    split at h
    · rename_i x h1
      exact lv_aload hx hb (okD_at hd 1 rfl) (hLg h1 (nR' _)) (ih h (Frm_st F (cons_O (hLO h1) hOs)))
    · rename_i h1
      exact lv_aloadN hx hb (okD_at hd 1 rfl) (hLg h1 nN') (ih h (Frm_st F (cons_O (vO_null _) hOs)))
    · cases h
  | aload_n j =>
    simp only [step] at h
    split at h
    · rename_i x h1
      exact lv_aload_n hx hb (okD_at hd 0 rfl) rfl (hLg h1 (nR' _)) (ih h (Frm_st F (cons_O (hLO h1) hOs)))
    · rename_i h1
      exact lv_aload_nN hx hb (okD_at hd 0 rfl) rfl (hLg h1 nN') (ih h (Frm_st F (cons_O (vO_null _) hOs)))
    · cases h
  | istore j =>
    simp only [step] at h
    repeat' split at h
    all_goals first
      | (cases h; done)
      | (rename_i hj
         exact lv_istore hx hb (okD_at hd 1 rfl) hhas (by omega) rfl (fun ls' hl' => ih h (Frm_ls F (LR_s1 hl (fun _ z => z) hl') (st1_O hOl _ (vO_int _ _)) (tail_O hOs))))
  | istore_n j =>
    simp only [step] at h
    repeat' split at h
    all_goals first
      | (cases h; done)
      | (rename_i hj
         exact lv_istore_n hx hb (okD_at hd 0 rfl) rfl hhas (by omega) rfl (fun ls' hl' => ih h (Frm_ls F (LR_s1 hl (fun _ z => z) hl') (st1_O hOl _ (vO_int _ _)) (tail_O hOs))))
  | lstore j =>
    simp only [step] at h
    repeat' split at h
    all_goals first
      | (cases h; done)
      | (rename_i hj
         exact lv_lstore hx hb (okD_at hd 1 rfl) hhas (by omega) rfl (fun ls' hl' => ih h (Frm_ls F (LR_s2 hl hl') (st2_O hOl _ (vO_long _ _)) (tail_O hOs))))
  | lstore_n j =>
    simp only [step] at h
    repeat' split at h
    all_goals first
      | (cases h; done)
      | (rename_i hj
         exact lv_lstore_n hx hb (okD_at hd 0 rfl) rfl hhas (by omega) rfl (fun ls' hl' => ih h (Frm_ls F (LR_s2 hl hl') (st2_O hOl _ (vO_long _ _)) (tail_O hOs))))
  | astore j =>
    simp only [step] at h
    repeat' split at h
    all_goals first
      | (cases h; done)
      | (rename_i hj
         exact lv_astore hx hb (okD_at hd 1 rfl) hhas (by omega) rfl (fun ls' hl' => ih h (Frm_ls F (LR_s1 hl (fun _ z => z) hl') (st1_O hOl _ (hOs _ List.mem_cons_self)) (tail_O hOs))))
      | (rename_i hj
         exact lv_astoreN hx hb (okD_at hd 1 rfl) hhas (by omega) rfl (fun ls' hl' => ih h (Frm_ls F (LR_s1 hl (fun _ z => z) hl') (st1_O hOl _ (vO_null _)) (tail_O hOs))))
  | astore_n j =>
    simp only [step] at h
    repeat' split at h
    all_goals first
      | (cases h; done)
      | (rename_i hj
         exact lv_astore_n hx hb (okD_at hd 0 rfl) rfl hhas (by omega) rfl (fun ls' hl' => ih h (Frm_ls F (LR_s1 hl (fun _ z => z) hl') (st1_O hOl _ (hOs _ List.mem_cons_self)) (tail_O hOs))))
      | (rename_i hj
         exact lv_astore_nN hx hb (okD_at hd 0 rfl) rfl hhas (by omega) rfl (fun ls' hl' => ih h (Frm_ls F (LR_s1 hl (fun _ z => z) hl') (st1_O hOl _ (vO_null _)) (tail_O hOs))))
  | iinc j z0 =>
    simp only [step] at h
    split at h
    · rename_i x h1
      have hj : j < ML k := by rw [← hLL]; exact (List.getElem?_eq_some_iff.mp h1).1
      have hh2 : lv_has ls (ML k) ((j, Value.int x) :: lvl ad lm) := ⟨hhas.1, hhas.2.1, fun q hq => (List.mem_cons.mp hq).elim (fun e => by rw [e]; exact hLg h1 (nI' _)) (hhas.2.2 q)⟩
      exact lv_iinc (k := 0) hx hb (okD_at hd 2 rfl) hh2 rfl rfl hj rfl (fun ls' hl' => ih h (Frm_ls F (LR_s1 hl (fun _ z => List.mem_cons_of_mem _ z) hl') (st1_O hOl _ (vO_int _ _)) hOs))
    · cases h
  | dup =>
    simp only [step] at h
    split at h
    · exact lv_dup hx hb (okD_at hd 0 rfl) rfl (ih h (Frm_st F (cons_O (vO_int _ _) hOs)))
    · exact lv_dup hx hb (okD_at hd 0 rfl) rfl (ih h (Frm_st F (cons_O (hOs _ List.mem_cons_self) hOs)))
    · cases h
  | dup_x1 =>
    simp only [step] at h
    split at h
    · exact lv_dup_x1 hx hb (okD_at hd 0 rfl) rfl rfl (ih h (Frm_st F (cons_O (vO_int _ _) (cons_O (hOs _ (List.mem_cons_of_mem _ List.mem_cons_self)) (cons_O (vO_int _ _) (tail_O (tail_O hOs)))))))
    · cases h
  | dup2 =>
    simp only [step] at h
    split at h
    · exact lv_dup2_11 hx hb (okD_at hd 0 rfl) rfl rfl (ih h (Frm_st F (cons_O (vO_int _ _) (cons_O (hOs _ (List.mem_cons_of_mem _ List.mem_cons_self)) hOs))))
    · cases h
  | pop =>
    simp only [step] at h
    split at h
    · exact lv_pop hx hb (okD_at hd 0 rfl) rfl (ih h (Frm_st F (tail_O hOs)))
    · cases h
  | iadd =>
    simp only [step] at h
    split at h
    · exact lv_iadd hx hb (okD_at hd 0 rfl) (ih h (Frm_st F (cons_O (vO_int _ _) (tail_O (tail_O hOs)))))
    · cases h
  | isub =>
    simp only [step] at h
    split at h
    · exact lv_isub hx hb (okD_at hd 0 rfl) (ih h (Frm_st F (cons_O (vO_int _ _) (tail_O (tail_O hOs)))))
    · cases h
  | imul =>
    simp only [step] at h
    split at h
    · exact lv_imul hx hb (okD_at hd 0 rfl) (ih h (Frm_st F (cons_O (vO_int _ _) (tail_O (tail_O hOs)))))
    · cases h
  | idiv =>
    simp only [step] at h
    repeat' split at h
    all_goals first
      | (cases h; done)
      | (rename_i hj; exact lv_idiv hx hb (okD_at hd 0 rfl) hj (ih h (Frm_st F (cons_O (vO_int _ _) (tail_O (tail_O hOs))))))
  | irem =>
    simp only [step] at h
    repeat' split at h
    all_goals first
      | (cases h; done)
      | (rename_i hj; exact lv_irem hx hb (okD_at hd 0 rfl) hj (ih h (Frm_st F (cons_O (vO_int _ _) (tail_O (tail_O hOs))))))
  | ineg =>
    simp only [step] at h
    split at h
    · exact lv_ineg hx hb (okD_at hd 0 rfl) (ih h (Frm_st F (cons_O (vO_int _ _) (tail_O hOs))))
    · cases h
  | ishl =>
    simp only [step] at h
    split at h
    · exact lv_ishl hx hb (okD_at hd 0 rfl) (ih h (Frm_st F (cons_O (vO_int _ _) (tail_O (tail_O hOs)))))
    · cases h
  | ishr =>
    simp only [step] at h
    split at h
    · exact lv_ishr hx hb (okD_at hd 0 rfl) (ih h (Frm_st F (cons_O (vO_int _ _) (tail_O (tail_O hOs)))))
    · cases h
  | iushr =>
    simp only [step] at h
    split at h
    · exact lv_iushr hx hb (okD_at hd 0 rfl) rfl (ih h (Frm_st F (cons_O (vO_int _ _) (tail_O (tail_O hOs)))))
    · cases h
  | iand =>
    simp only [step] at h
    split at h
    · exact lv_iand hx hb (okD_at hd 0 rfl) (ih h (Frm_st F (cons_O (vO_int _ _) (tail_O (tail_O hOs)))))
    · cases h
  | ior =>
    simp only [step] at h
    split at h
    · exact lv_ior hx hb (okD_at hd 0 rfl) (ih h (Frm_st F (cons_O (vO_int _ _) (tail_O (tail_O hOs)))))
    · cases h
  | ixor =>
    simp only [step] at h
    split at h
    · exact lv_ixor hx hb (okD_at hd 0 rfl) (ih h (Frm_st F (cons_O (vO_int _ _) (tail_O (tail_O hOs)))))
    · cases h
  | ladd =>
    simp only [step] at h
    split at h
    · exact lv_ladd hx hb (okD_at hd 0 rfl) (ih h (Frm_st F (cons_O (vO_long _ _) (tail_O (tail_O hOs)))))
    · cases h
  | lsub =>
    simp only [step] at h
    split at h
    · exact lv_lsub hx hb (okD_at hd 0 rfl) (ih h (Frm_st F (cons_O (vO_long _ _) (tail_O (tail_O hOs)))))
    · cases h
  | lmul =>
    simp only [step] at h
    split at h
    · exact lv_lmul hx hb (okD_at hd 0 rfl) (ih h (Frm_st F (cons_O (vO_long _ _) (tail_O (tail_O hOs)))))
    · cases h
  | ldiv =>
    simp only [step] at h
    repeat' split at h
    all_goals first
      | (cases h; done)
      | (rename_i hj; exact lv_ldiv hx hb (okD_at hd 0 rfl) hj (ih h (Frm_st F (cons_O (vO_long _ _) (tail_O (tail_O hOs))))))
  | lrem =>
    simp only [step] at h
    repeat' split at h
    all_goals first
      | (cases h; done)
      | (rename_i hj; exact lv_lrem hx hb (okD_at hd 0 rfl) hj (ih h (Frm_st F (cons_O (vO_long _ _) (tail_O (tail_O hOs))))))
  | lcmp =>
    simp only [step] at h
    split at h
    · exact W.lcmp hx hb (okD_at hd 0 rfl) (ih h (Frm_st F (cons_O (vO_int _ _) (tail_O (tail_O hOs)))))
    · cases h
  | i2l =>
    simp only [step] at h
    split at h
    · exact lv_i2l hx hb (okD_at hd 0 rfl) rfl (ih h (Frm_st F (cons_O (vO_long _ _) (tail_O hOs))))
    · cases h
  | l2i =>
    simp only [step] at h
    split at h
    · exact lv_l2i hx hb (okD_at hd 0 rfl) rfl (ih h (Frm_st F (cons_O (vO_int _ _) (tail_O hOs))))
    · cases h
  | i2b =>
    simp only [step] at h
    split at h
    · exact lv_i2b hx hb (okD_at hd 0 rfl) rfl (ih h (Frm_st F (cons_O (vO_int _ _) (tail_O hOs))))
    · cases h
  | goto off =>
    simp only [step] at h
    simp only [okEB, decide_eq_true_eq] at hok
    exact lv_goto hx hb (okD_at hd 2 rfl) hok (ih h F)
  | ifCond cd off =>
    simp only [step] at h
    simp only [okEB, decide_eq_true_eq] at hok
    split at h
    · have F1 := Frm_st F (tail_O hOs)
      cases cd with
      | eq => exact lv_if_eq hx hb (okD_at hd 2 rfl) hok (fun z => ih (by dsimp only at h; rw [if_pos z] at h; exact h) F1) (fun z => ih (by dsimp only at h; rw [if_neg z] at h; exact h) F1)
      | ne => exact lv_if_ne hx hb (okD_at hd 2 rfl) hok (fun z => ih (by dsimp only at h; rw [if_neg z] at h; exact h) F1) (fun z => ih (by dsimp only at h; rw [if_pos z] at h; exact h) F1)
      | lt => exact lv_if_lt hx hb (okD_at hd 2 rfl) hok (fun z => ih (by dsimp only at h; rw [if_pos z] at h; exact h) F1) (fun z => ih (by dsimp only at h; rw [if_neg z] at h; exact h) F1)
      | ge => exact lv_if_ge hx hb (okD_at hd 2 rfl) hok (fun z => ih (by dsimp only at h; rw [if_pos z] at h; exact h) F1) (fun z => ih (by dsimp only at h; rw [if_neg z] at h; exact h) F1)
      | gt => exact lv_if_gt hx hb (okD_at hd 2 rfl) hok (fun z => ih (by dsimp only at h; rw [if_pos z] at h; exact h) F1) (fun z => ih (by dsimp only at h; rw [if_neg z] at h; exact h) F1)
      | le => exact lv_if_le hx hb (okD_at hd 2 rfl) hok (fun z => ih (by dsimp only at h; rw [if_pos z] at h; exact h) F1) (fun z => ih (by dsimp only at h; rw [if_neg z] at h; exact h) F1)
    · cases h
  | if_icmp cd off =>
    simp only [step] at h
    simp only [okEB, decide_eq_true_eq] at hok
    split at h
    · have F1 := Frm_st F (tail_O (tail_O hOs))
      cases cd with
      | eq => exact lv_icmp_eq hx hb (okD_at hd 2 rfl) hok (fun z => ih (by dsimp only at h; rw [if_pos z] at h; exact h) F1) (fun z => ih (by dsimp only at h; rw [if_neg z] at h; exact h) F1)
      | ne => exact lv_icmp_ne hx hb (okD_at hd 2 rfl) hok (fun z => ih (by dsimp only at h; rw [if_neg z] at h; exact h) F1) (fun z => ih (by dsimp only at h; rw [if_pos z] at h; exact h) F1)
      | lt => exact lv_icmp_lt hx hb (okD_at hd 2 rfl) hok (fun z => ih (by dsimp only at h; rw [if_pos z] at h; exact h) F1) (fun z => ih (by dsimp only at h; rw [if_neg z] at h; exact h) F1)
      | ge => exact lv_icmp_ge hx hb (okD_at hd 2 rfl) hok (fun z => ih (by dsimp only at h; rw [if_pos z] at h; exact h) F1) (fun z => ih (by dsimp only at h; rw [if_neg z] at h; exact h) F1)
      | gt => exact lv_icmp_gt hx hb (okD_at hd 2 rfl) hok (fun z => ih (by dsimp only at h; rw [if_pos z] at h; exact h) F1) (fun z => ih (by dsimp only at h; rw [if_neg z] at h; exact h) F1)
      | le => exact lv_icmp_le hx hb (okD_at hd 2 rfl) hok (fun z => ih (by dsimp only at h; rw [if_pos z] at h; exact h) F1) (fun z => ih (by dsimp only at h; rw [if_neg z] at h; exact h) F1)
    · cases h
  | ifnonnull off =>
    simp only [step] at h
    simp only [okEB, decide_eq_true_eq] at hok
    split at h
    · exact lv_ifnonnull hx hb (okD_at hd 2 rfl) hok (ih h (Frm_st F (tail_O hOs)))
    · exact lv_ifnonnullN hx hb (okD_at hd 2 rfl) (ih h (Frm_st F (tail_O hOs)))
    · cases h
  | tableswitch dflt lo hi offs =>
    simp only [step] at h
    simp only [okEB, Bool.and_eq_true, decide_eq_true_eq] at hok
    obtain ⟨len', hdec, -⟩ := hd
    split at h
    · have F1 := Frm_st F (tail_O hOs)
      split at h
      · rename_i hz
        exact lv_tableOut hx hb hdec hz hok.1 (ih h F1)
      · rename_i hz
        split at h
        · rename_i off ho
          refine lv_tableIn hx hb hdec (fun q => hz (Or.inl q)) (fun q => hz (Or.inr q)) ho ?_ (ih h F1)
          have h1 := List.all_eq_true.mp hok.2 off (Array.mem_toList_iff.mpr (Array.mem_of_getElem? ho))
          rw [Int.toNat_of_nonneg (of_decide_eq_true h1)]
        · cases h
    · cases h
  | getstatic ix =>
    simp only [step] at h
    split at h
    · rename_i q hq
      simp only [okEB, hq] at hok
      exact va_gets hx hb (hEv.1 q (List.mem_of_getElem? hq)) hSs hown (hts _ (gW_TB hok rfl)) (fun _ h => h) (okD_at hd 2 rfl) (ih h (Frm_st F (cons_O (vO_int _ _) hOs)))
    · cases h
  | getfield ix =>
    simp only [step] at h
    repeat' split at h
    all_goals first
      | (cases h; done)
      | skip
    rename_i rr tt _ ci fs hAtr hci _ v hv
    subst hci
    simp only [okEB] at hok
    split at hok
    · rename_i C T N hcl2
      simp only [Bool.and_eq_true, decide_eq_true_eq] at hok
      have he := ws_obj (tc := tc) hk hAtr (vwCl_lt hcl2)
      have hO1 := hk.1 rr
      rw [hAtr] at hO1
      refine va_get (D := D) (cl := vwCl) (ref := C) (C := C) hx hb hts (cls_words _ _ _ _ hcl2).1 hown hK hP rr he hcl2 cc hok.1.1 (hts _ (gW_TB hok.2 rfl)) (fun x q => by rw [← hok.1.2]; exact q) (v := rn ad v) (by rw [List.getElem?_map, hv]; rfl) (okD_at hd 2 rfl) (ih h (Frm_st F (cons_O (hO1 v (List.mem_of_getElem? hv)) (tail_O hOs))))
    · cases hok
  | putfield ix =>
    simp only [step] at h
    repeat' split at h
    all_goals first
      | (cases h; done)
      | skip
    rename_i v rr tt _ ci fs hAtr hci
    obtain ⟨hci, hlt, hchk⟩ := hci
    subst hci
    simp only [okEB] at hok
    split at hok
    · rename_i C T N hcl2
      simp only [Bool.and_eq_true, decide_eq_true_eq] at hok
      obtain ⟨⟨⟨⟨o1, o2⟩, o3⟩, o4⟩, o5⟩ := hok
      split at o4
      · rename_i ty hty
        obtain ⟨ty0, c1, c2, -, -, -⟩ := cls_facts _ _ _ _ hcl2
        obtain ⟨z1, z2⟩ := chk_ok ad hchk o4
        have hlt2 := Gd_obj hk.2.1 hAtr (vwCl_lt hcl2)
        have he := ws_obj (tc := tc) hk hAtr (vwCl_lt hcl2)
        have hO1 := hk.1 rr
        rw [hAtr] at hO1
        have key : ∀ (H1 : Heap) (locs1 : List Loc), va_P D vwCl ((wsO tc ad hp).set rr (ad rr, .inr (ci, (fs.map (rn ad)).set cc (rn ad v)))) H1 → va_D (fun q => b0 ≤ q) ((wsO tc ad hp).set rr (ad rr, .inr (ci, (fs.map (rn ad)).set cc (rn ad v)))) → va_S (fun q => b0 ≤ q) s.heap H1 locs1 → W p l e R s m args below meth c H1 locs1 cells slots Q (F0 m (pc + 3) ls (tt.map (rn ad))) := by
          intro H1 locs1 hP1 hD1 hS1
          rw [← List.map_set] at hP1 hD1
          exact ih h (Frm_set F hlt2 (fun w hw => (List.mem_or_eq_of_mem_set hw).elim (hO1 w) (fun e => by rw [e]; exact hOs _ List.mem_cons_self)) (fun a z => by cases z) hP1 hD1 hS1 (tail_O (tail_O hOs)))
        cases hfin0 : (T cc).2.2.2 with
        | false => exact va_put (D := D) (cl := vwCl) (ref := C) (C := C) hx hb hts (cls_words _ _ _ _ hcl2).1 ty0 c1 c2 hown hK hP hDd hSs rr he hcl2 cc o1 (hts _ (gW_TB o3 rfl)) (fun x q => by rw [← o2]; exact q) hfin0 hty z1 z2 (by rw [List.length_map]; exact hlt) (okD_at hd 2 rfl) key
        | true =>
          rw [hfin0] at o5
          simp only [Bool.not_true, Bool.false_or, Bool.and_eq_true, decide_eq_true_eq] at o5
          exact va_putF (D := D) (cl := vwCl) (ref := C) (C := C) hx hb hts (cls_words _ _ _ _ hcl2).1 ty0 c1 c2 hown hK hP hDd hSs rr he hcl2 cc o1 (hts _ (gW_TB o3 rfl)) (fun x q => by rw [← o2]; exact q) hfin0 (hini o5.1) (by rw [o2]; exact o5.2) hty z1 z2 (by rw [List.length_map]; exact hlt) (okD_at hd 2 rfl) key
      · cases o4
    · cases hok
  | iaload =>
    simp only [step] at h
    repeat' split at h
    all_goals first
      | (cases h; done)
      | (rename_i hAtr hin
         exact va_iald (D := D) (cl := vwCl) hx hb hK hP _ 0 (ws_arr hk hAtr (by decide)) rfl (inB_vp hin) (okD_at hd 0 rfl) (ih h (Frm_st F (cons_O (vO_int _ _) (tail_O (tail_O hOs))))))
      | (rename_i hAtr hin
         obtain ⟨z1, z2, z3⟩ := Gd_scr hk.2.1 hk.2.2 hAtr
         subst z1; subst z2; subst z3
         have hsb := hk.2.1.2
         subst hsb
         exact va_sld hx hb hEv.2.1 (Nat.lt_of_lt_of_le hEv.2.2.2.2.2 hEv.2.2.2.2.1) (Nat.not_le.mpr hEv.2.2.2.2.2) hSs (inB_vp hin) (okD_at hd 0 rfl) (ih h (Frm_st F (cons_O (vO_int _ _) (tail_O (tail_O hOs))))))
  | laload =>
    simp only [step] at h
    repeat' split at h
    all_goals first
      | (cases h; done)
      | (rename_i hAtr hin
         exact va_lald (D := D) (cl := vwCl) hx hb hK hP _ 1 (ws_arl hk hAtr (by decide)) rfl (inB_vp hin) (okD_at hd 0 rfl) (ih h (Frm_st F (cons_O (vO_long _ _) (tail_O (tail_O hOs))))))
  | baload =>
    simp only [step] at h
    repeat' split at h
    all_goals first
      | (cases h; done)
      | (rename_i hAtr hin
         exact va_bald (D := D) (cl := vwCl) hx hb hK hP _ 2 (ws_arr hk hAtr (by decide)) rfl (inB_vp hin) (okD_at hd 0 rfl) (ih h (Frm_st F (cons_O (vO_int _ _) (tail_O (tail_O hOs))))))
      | (rename_i hAtr hin
         exact va_zald (D := D) (cl := vwCl) hx hb hK hP _ 3 (ws_arr hk hAtr (by decide)) rfl (inB_vp hin) (okD_at hd 0 rfl) (ih h (Frm_st F (cons_O (vO_int _ _) (tail_O (tail_O hOs))))))
  | aaload =>
    simp only [step] at h
    repeat' split at h
    all_goals first
      | (cases h; done)
      | skip
    rename_i jj rr tt _ n f hAtr hin
    have hO1 := hk.1 rr
    rw [hAtr] at hO1
    refine va_aldq (D := D) (cl := vwCl) hx hb hK hP rr 4 (ws_arq hk hAtr (by decide)) rfl (inB_vp hin) (okD_at hd 0 rfl) ?_
    rw [map_rf]
    refine ih h (Frm_st F (cons_O (fun q hq => ?_) (tail_O (tail_O hOs))))
    cases hfj : f jj.toNatClampNeg with
    | none => rw [hfj] at hq; cases hq
    | some q0 => rw [hfj] at hq; cases hq; exact hO1 _ _ hfj
  | iastore =>
    simp only [step] at h
    repeat' split at h
    all_goals first
      | (cases h; done)
      | (rename_i hAtr hin
         exact va_iast (D := D) (cl := vwCl) hx hb hK hP hDd hSs _ 0 (ws_arr hk hAtr (by decide)) rfl (inB_vp hin) (okD_at hd 0 rfl) (fun H1 locs1 hP1 hD1 hS1 => ih h (Frm_set F (Gd_arr hk.2.1 hAtr (by decide)) trivial (fun a z => by cases z) hP1 hD1 hS1 (tail_O (tail_O (tail_O hOs))))))
  | lastore =>
    simp only [step] at h
    repeat' split at h
    all_goals first
      | (cases h; done)
      | (rename_i hAtr hin
         exact va_last (D := D) (cl := vwCl) hx hb hK hP hDd hSs _ 1 (ws_arl hk hAtr (by decide)) rfl (inB_vp hin) (okD_at hd 0 rfl) (fun H1 locs1 hP1 hD1 hS1 => ih h (Frm_set F (Gd_arr hk.2.1 hAtr (by decide)) trivial (fun a z => by cases z) hP1 hD1 hS1 (tail_O (tail_O (tail_O hOs))))))
  | bastore =>
    simp only [step] at h
    repeat' split at h
    all_goals first
      | (cases h; done)
      | (rename_i hAtr hin
         exact va_bast (D := D) (cl := vwCl) hx hb hK hP hDd hSs _ 2 (ws_arr hk hAtr (by decide)) rfl (inB_vp hin) (okD_at hd 0 rfl) (fun H1 locs1 hP1 hD1 hS1 => ih h (Frm_set F (Gd_arr hk.2.1 hAtr (by decide)) trivial (fun a z => by cases z) hP1 hD1 hS1 (tail_O (tail_O (tail_O hOs))))))
      | (rename_i hAtr hin
         exact va_zast (D := D) (cl := vwCl) hx hb hK hP hDd hSs _ 3 (ws_arr hk hAtr (by decide)) rfl (inB_vp hin) (okD_at hd 0 rfl) (fun H1 locs1 hP1 hD1 hS1 => ih h (Frm_set F (Gd_arr hk.2.1 hAtr (by decide)) trivial (fun a z => by cases z) hP1 hD1 hS1 (tail_O (tail_O (tail_O hOs))))))
  | aastore =>
    simp only [step] at h
    repeat' split at h
    all_goals first
      | (cases h; done)
      | skip
    rename_i qq jj rr tt _ n f hAtr _ ci vs hAtq hin
    obtain ⟨hci, hin⟩ := hin
    subst hci
    have hO1 := hk.1 rr
    rw [hAtr] at hO1
    have key : ∀ (H1 : Heap) (locs1 : List Loc), va_P D vwCl ((wsO tc ad hp).set rr (ad rr, .inl (tc 4, n, .inr (.inr (.inr (.inr (va_up (fun j => (f j).map ad) jj.toNatClampNeg (some (ad qq))))))))) H1 → va_D (fun q => b0 ≤ q) ((wsO tc ad hp).set rr (ad rr, .inl (tc 4, n, .inr (.inr (.inr (.inr (va_up (fun j => (f j).map ad) jj.toNatClampNeg (some (ad qq))))))))) → va_S (fun q => b0 ≤ q) s.heap H1 locs1 → W p l e R s m args below meth c H1 locs1 cells slots Q (F0 m (pc + 1) ls (tt.map (rn ad))) := by
      intro H1 locs1 hP1 hD1 hS1
      have e1 : va_up (fun j => (f j).map ad) jj.toNatClampNeg (some (ad qq)) = (fun j => (va_up f jj.toNatClampNeg (some qq) j).map ad) := by
        funext j
        simp only [va_up]
        split <;> rfl
      rw [e1] at hP1 hD1
      refine ih h (Frm_set F (Gd_arr hk.2.1 hAtr (by decide)) ?_ (fun a z => by cases z) hP1 hD1 hS1 (tail_O (tail_O (tail_O hOs))))
      show ∀ j q, va_up f jj.toNatClampNeg (some qq) j = some q → q < hp.1 ∨ SCR ≤ q
      intro j q hq
      simp only [va_up] at hq
      split at hq
      · cases hq; exact hOs (.ref qq) List.mem_cons_self _ rfl
      · exact hO1 _ _ hq
    exact va_astq (D := D) (cl := vwCl) (r := (RX6, TX6, 15)) hx hb hK hP hDd hSs rr 4 qq 5 (ws_arq hk hAtr (by decide)) rfl (ws_obj hk hAtq (by decide)) rfl (inB_vp hin) (okD_at hd 0 rfl) key
  | arraylength =>
    simp only [step] at h
    repeat' split at h
    all_goals first
      | (cases h; done)
      | (rename_i hAtr
         exact va_alen (D := D) (cl := vwCl) hx hb hK hP _ 0 (ws_arr hk hAtr (by decide)) rfl rfl (okD_at hd 0 rfl) (ih h (Frm_st F (cons_O (vO_int _ _) (tail_O hOs)))))
      | (rename_i hAtr
         obtain ⟨z1, z2, z3⟩ := Gd_scr hk.2.1 hk.2.2 hAtr
         subst z1; subst z2; subst z3
         have hsb := hk.2.1.2
         subst hsb
         exact va_slen hx hb hEv.2.1 (Nat.lt_of_lt_of_le hEv.2.2.2.2.2 hEv.2.2.2.2.1) (Nat.not_le.mpr hEv.2.2.2.2.2) hSs (okD_at hd 0 rfl) (ih h (Frm_st F (cons_O (vO_int _ _) (tail_O hOs)))))
  | newarray at0 =>
    simp only [step] at h
    repeat' split at h
    all_goals first
      | (cases h; done)
      | skip
    · obtain ⟨hn1, hn2⟩ := ‹¬ (_ : Int32) < 0 ∧ _ ≤ 100000›
      have hmn := run_mono _ _ _ _ _ _ _ _ _ h
      obtain ⟨z1, z2, z3⟩ := hmn
      simp only [hC, hSl, hNew] at z1 z2 z3 hcc hss
      obtain ⟨z4, z5, z6⟩ := hB
      simp only [hC, hSl] at z4 z5 z6
      have hn3 : hp.1 < SCR := by simp only [SCR]; omega
      refine va_newa (D := D) (cl := vwCl) (atype := .int) (ty := .int) (N' := Int32.toNatClampNeg _) hx hb (hts _ tb_arr_int) rfl hK hP hDd hSs hA (a0 := (_, .inl (fun _ => 0))) (fun _ => rfl) hn1 rfl (Nat.le_trans (Nat.mul_le_mul_right _ hn2) (by decide)) (by omega) (by omega) (okD_at hd 1 rfl) (fun q cA H1 hK1 hP1 hD1 hS1 => ?_)
      have hcA : cA = tc 0 := by
        have q1 : s.vm.findClass _ = some cA := (hK1.2 5 (cA, .int) rfl).2
        have q2 : s.vm.findClass _ = some (tc 0) := (hK.2 0 (tc 0, .int) rfl).2
        rw [q1] at q2
        exact Option.some.inj q2
      subst hcA
      have hw : rn (adN ad hp.1 q) (.ref hp.1) = .ref q := by simp [rn, adN]
      have hrest := rn_tail (ad := ad) (q := q) (tail_O hOs) hn3
      have := ih h (Frm_new F hn3 trivial (fun a z => by cases z) hP1 hD1 hS1 (cons_O (fun q hq => by cases hq; exact Or.inl (Nat.lt_succ_self _)) (fun v hv => vO_mono (tail_O hOs v hv) (Nat.le_succ _))))
      rw [List.map_cons, hw, hrest] at this
      exact this
    · obtain ⟨hn1, hn2⟩ := ‹¬ (_ : Int32) < 0 ∧ _ ≤ 100000›
      have hmn := run_mono _ _ _ _ _ _ _ _ _ h
      obtain ⟨z1, z2, z3⟩ := hmn
      simp only [hC, hSl, hNew] at z1 z2 z3 hcc hss
      obtain ⟨z4, z5, z6⟩ := hB
      simp only [hC, hSl] at z4 z5 z6
      have hn3 : hp.1 < SCR := by simp only [SCR]; omega
      refine va_newa (D := D) (cl := vwCl) (atype := .long) (ty := .long) (N' := Int32.toNatClampNeg _) hx hb (hts _ tb_arr_long) rfl hK hP hDd hSs hA (a0 := (_, .inr (.inl (fun _ => 0)))) (fun _ => rfl) hn1 rfl (Nat.le_trans (Nat.mul_le_mul_right _ hn2) (by decide)) (by omega) (by omega) (okD_at hd 1 rfl) (fun q cA H1 hK1 hP1 hD1 hS1 => ?_)
      have hcA : cA = tc 1 := by
        have q1 : s.vm.findClass _ = some cA := (hK1.2 5 (cA, .long) rfl).2
        have q2 : s.vm.findClass _ = some (tc 1) := (hK.2 1 (tc 1, .long) rfl).2
        rw [q1] at q2
        exact Option.some.inj q2
      subst hcA
      have hw : rn (adN ad hp.1 q) (.ref hp.1) = .ref q := by simp [rn, adN]
      have hrest := rn_tail (ad := ad) (q := q) (tail_O hOs) hn3
      have := ih h (Frm_new F hn3 trivial (fun a z => by cases z) hP1 hD1 hS1 (cons_O (fun q hq => by cases hq; exact Or.inl (Nat.lt_succ_self _)) (fun v hv => vO_mono (tail_O hOs v hv) (Nat.le_succ _))))
      rw [List.map_cons, hw, hrest] at this
      exact this
    · obtain ⟨hn1, hn2⟩ := ‹¬ (_ : Int32) < 0 ∧ _ ≤ 100000›
      have hmn := run_mono _ _ _ _ _ _ _ _ _ h
      obtain ⟨z1, z2, z3⟩ := hmn
      simp only [hC, hSl, hNew] at z1 z2 z3 hcc hss
      obtain ⟨z4, z5, z6⟩ := hB
      simp only [hC, hSl] at z4 z5 z6
      have hn3 : hp.1 < SCR := by simp only [SCR]; omega
      refine va_newa (D := D) (cl := vwCl) (atype := .byte) (ty := .byte) (N' := Int32.toNatClampNeg _) hx hb (hts _ tb_arr_byte) rfl hK hP hDd hSs hA (a0 := (_, .inl (fun _ => 0))) (fun _ => rfl) hn1 rfl (Nat.le_trans (Nat.mul_le_mul_right _ hn2) (by decide)) (by omega) (by omega) (okD_at hd 1 rfl) (fun q cA H1 hK1 hP1 hD1 hS1 => ?_)
      have hcA : cA = tc 2 := by
        have q1 : s.vm.findClass _ = some cA := (hK1.2 5 (cA, .byte) rfl).2
        have q2 : s.vm.findClass _ = some (tc 2) := (hK.2 2 (tc 2, .byte) rfl).2
        rw [q1] at q2
        exact Option.some.inj q2
      subst hcA
      have hw : rn (adN ad hp.1 q) (.ref hp.1) = .ref q := by simp [rn, adN]
      have hrest := rn_tail (ad := ad) (q := q) (tail_O hOs) hn3
      have := ih h (Frm_new F hn3 trivial (fun a z => by cases z) hP1 hD1 hS1 (cons_O (fun q hq => by cases hq; exact Or.inl (Nat.lt_succ_self _)) (fun v hv => vO_mono (tail_O hOs v hv) (Nat.le_succ _))))
      rw [List.map_cons, hw, hrest] at this
      exact this
    · obtain ⟨hn1, hn2⟩ := ‹¬ (_ : Int32) < 0 ∧ _ ≤ 100000›
      have hmn := run_mono _ _ _ _ _ _ _ _ _ h
      obtain ⟨z1, z2, z3⟩ := hmn
      simp only [hC, hSl, hNew] at z1 z2 z3 hcc hss
      obtain ⟨z4, z5, z6⟩ := hB
      simp only [hC, hSl] at z4 z5 z6
      have hn3 : hp.1 < SCR := by simp only [SCR]; omega
      refine va_newa (D := D) (cl := vwCl) (atype := .boolean) (ty := .boolean) (N' := Int32.toNatClampNeg _) hx hb (hts _ tb_arr_boolean) rfl hK hP hDd hSs hA (a0 := (_, .inl (fun _ => 0))) (fun _ => rfl) hn1 rfl (Nat.le_trans (Nat.mul_le_mul_right _ hn2) (by decide)) (by omega) (by omega) (okD_at hd 1 rfl) (fun q cA H1 hK1 hP1 hD1 hS1 => ?_)
      have hcA : cA = tc 3 := by
        have q1 : s.vm.findClass _ = some cA := (hK1.2 5 (cA, .boolean) rfl).2
        have q2 : s.vm.findClass _ = some (tc 3) := (hK.2 3 (tc 3, .boolean) rfl).2
        rw [q1] at q2
        exact Option.some.inj q2
      subst hcA
      have hw : rn (adN ad hp.1 q) (.ref hp.1) = .ref q := by simp [rn, adN]
      have hrest := rn_tail (ad := ad) (q := q) (tail_O hOs) hn3
      have := ih h (Frm_new F hn3 trivial (fun a z => by cases z) hP1 hD1 hS1 (cons_O (fun q hq => by cases hq; exact Or.inl (Nat.lt_succ_self _)) (fun v hv => vO_mono (tail_O hOs v hv) (Nat.le_succ _))))
      rw [List.map_cons, hw, hrest] at this
      exact this
  | anewarray ix =>
    simp only [step] at h
    simp only [okEB] at hok
    repeat' split at h
    all_goals first
      | (cases h; done)
      | skip
    obtain ⟨hn1, hn2⟩ := ‹¬ (_ : Int32) < 0 ∧ _ ≤ 100000›
    have hmn := run_mono _ _ _ _ _ _ _ _ _ h
    obtain ⟨z1, z2, z3⟩ := hmn
    simp only [hC, hSl, hNew] at z1 z2 z3 hcc hss
    obtain ⟨z4, z5, z6⟩ := hB
    simp only [hC, hSl] at z4 z5 z6
    have hn3 : hp.1 < SCR := by simp only [SCR]; omega
    refine va_newq (D := D) (cl := vwCl) hx hb hown (hts _ (gW_TB hok rfl)) hNw.2 hK hP hDd hSs hA hn1 rfl (Nat.le_trans (Nat.mul_le_mul_right _ hn2) (by decide)) (by omega) (by omega) (okD_at hd 2 rfl) (fun q cA H1 hK1 hP1 hD1 hS1 => ?_)
    have hcA : cA = tc 4 := by
      obtain ⟨-, -, -, -, -, q1⟩ := (hK1.2 5 (cA, .object "BlendYard$State") rfl).2
      obtain ⟨-, -, -, -, -, q2⟩ := (hK.2 4 (tc 4, .object "BlendYard$State") rfl).2
      rw [q1] at q2
      exact Option.some.inj q2
    subst hcA
    have hw : rn (adN ad hp.1 q) (.ref hp.1) = .ref q := by simp [rn, adN]
    have hrest := rn_tail (ad := ad) (q := q) (tail_O hOs) hn3
    have := ih h (Frm_new F hn3 (fun j q hq => by cases hq) (fun a z => by cases z) hP1 hD1 hS1 (cons_O (fun q hq => by cases hq; exact Or.inl (Nat.lt_succ_self _)) (fun v hv => vO_mono (tail_O hOs v hv) (Nat.le_succ _))))
    rw [List.map_cons, hw, hrest] at this
    exact this
  | new ix =>
    simp only [step] at h
    split at h
    · simp only [okEB] at hok
      split at hok
      · rename_i C T N hcl2
        simp only [Bool.and_eq_true, decide_eq_true_eq] at hok
        obtain ⟨rfl, o2⟩ := hok
        obtain ⟨ty0, c1, c2, c3, c4, c5⟩ := cls_facts _ _ _ _ hcl2
        obtain ⟨w1, w2, w3⟩ := cls_words _ _ _ _ hcl2
        have hmn := run_mono _ _ _ _ _ _ _ _ _ h
        obtain ⟨z1, z2, z3⟩ := hmn
        simp only [hC, hSl, hNew] at z1 z2 z3 hcc hss
        obtain ⟨z4, z5, z6⟩ := hB
        simp only [hC, hSl] at z4 z5 z6
        have hn3 : hp.1 < SCR := by simp only [SCR]; omega
        refine va_new (D := D) (cl := vwCl) hx hb hts w1 ty0 c1 hown (hts _ (gW_TB o2 rfl)) (hts _ w2) (hts _ w3) hK hP hDd hSs hA hcl2 c3 (by omega) (by omega) (okD_at hd 2 rfl) (fun q H1 hP1 hD1 hS1 => ?_)
        have hw : rn (adN ad hp.1 q) (.ref hp.1) = .ref q := by simp [rn, adN]
        have hrest := rn_tail (ad := ad) (q := q) hOs hn3
        have e1 : rE tc ad (.inr (b, (CI b).1)) = .inr (b, (CI b).1) := by simp only [rE, norefs_map c5]
        rw [← e1] at hP1 hD1
        have := ih h (Frm_new F hn3 (fun v hv => norefs_O c5 v hv) (fun a z => by cases z) hP1 hD1 hS1 (cons_O (fun q hq => by cases hq; exact Or.inl (Nat.lt_succ_self _)) (fun v hv => vO_mono (hOs v hv) (Nat.le_succ _))))
        rw [List.map_cons, hw, hrest] at this
        exact this
      · cases hok
    · split at h
      · rename_i hcs
        cases h
        exact hfin _ _ _ _ _ _ _ _ _ _ F ⟨rfl, hcs, _, _, _, _, _, hf⟩
      · cases h
    · cases h
  | ireturn =>
    simp only [step] at h
    repeat' split at h
    all_goals first
      | (cases h; done)
      | skip
    cases h
    exact hfin _ _ _ _ _ _ _ _ _ _ F ⟨rfl, ‹rvOK _ _ = true›, rfl, okD_at hd 0 rfl⟩
  | lreturn =>
    simp only [step] at h
    repeat' split at h
    all_goals first
      | (cases h; done)
      | skip
    cases h
    exact hfin _ _ _ _ _ _ _ _ _ _ F ⟨rfl, ‹rvOK _ _ = true›, rfl, okD_at hd 0 rfl⟩
  | return_ =>
    simp only [step] at h
    repeat' split at h
    all_goals first
      | (cases h; done)
      | skip
    cases h
    exact hfin _ _ _ _ _ _ _ _ _ _ F ⟨rfl, ‹rvOK _ _ = true›, rfl, okD_at hd 0 rfl⟩
  | invokespecial ix =>
    simp only [step] at h
    repeat' split at h
    all_goals first
      | (cases h; done)
      | skip
    · have hcs := ‹cs _ ≤ 8›
      simp only [okEB] at hok
      exact W.objInit (g := F0 m pc ls _) hx hb hown (hts _ (gW_TB hok rfl)) (hts _ tb_oi_i) (hts _ tb_oi_c) rfl hsz.symm rfl (okD_at hd 2 rfl) (by omega) (oi_room hcs hR.2) (ih h (Frm_st F (tail_O hOs)))
    · have hcs := ‹cs _ ≤ 8›
      have hlen := ‹cc ≤ List.length _›
      have hdrop := ‹List.drop cc _ = _›
      have hrun := ‹run n _ b 0 _ [] hp = some (some _, _)›
      simp only [okEB, Bool.and_eq_true, decide_eq_true_eq] at hok
      obtain ⟨⟨⟨⟨⟨o1, o2⟩, o3⟩, o4⟩, o5⟩, o6⟩ := hok
      have hle1 := run_mono _ _ _ _ _ _ _ _ _ hrun
      have hle2 := run_mono _ _ _ _ _ _ _ _ _ h
      have hdO := drop_O hOs cc
      rw [hdrop] at hdO
      have hmet := hcl n (Nat.lt_succ_self n) _ _ _ _ _ _ ad o3 ‹Nat.ble _ _ = true› hrun (Nat.le_trans hle2.2.1 hB.1) (cons_O (hdO _ List.mem_cons_self) (take_O hOs cc))
      exact sim_I C (hM b o3) F hlen hdrop hcs (gW_TB o1 rfl) o2 o4 o5 o6 hd hmet (by omega) (by obtain ⟨_, y1, y2⟩ := hle1; obtain ⟨_, y3, y4⟩ := hle2; omega) (fun ad' t2 locs1 q1 q2 q3 q4 => back (tail_O hdO) h hle1 q1 q2 q3 q4)
    · have hcs := ‹cs _ ≤ 8›
      have hlen := ‹cc ≤ List.length _›
      have hdrop := ‹List.drop cc _ = _›
      have hrun := ‹run n _ b 0 _ [] hp = some (some _, _)›
      simp only [okEB, Bool.and_eq_true, decide_eq_true_eq] at hok
      obtain ⟨⟨⟨⟨⟨o1, o2⟩, o3⟩, o4⟩, o5⟩, o6⟩ := hok
      have hle1 := run_mono _ _ _ _ _ _ _ _ _ hrun
      have hle2 := run_mono _ _ _ _ _ _ _ _ _ h
      have hdO := drop_O hOs cc
      rw [hdrop] at hdO
      have hmet := hcl n (Nat.lt_succ_self n) _ _ _ _ _ _ ad o3 ‹Nat.ble _ _ = true› hrun (Nat.le_trans hle2.2.1 hB.1) (cons_O (hdO _ List.mem_cons_self) (take_O hOs cc))
      exact sim_N C (hM b o3) F hlen hdrop hcs (gW_in o1) o2 o4 o5 o6 hd hmet (by omega) (by obtain ⟨_, y1, y2⟩ := hle1; obtain ⟨_, y3, y4⟩ := hle2; omega) (fun ad' t2 locs1 q1 q2 q3 q4 => back (tail_O hdO) h hle1 q1 q2 q3 q4)
  | invokevirtual ix =>
    simp only [step] at h
    repeat' split at h
    all_goals first
      | (cases h; done)
      | skip
    obtain ⟨hci, hcs⟩ := ‹_ = MCi b ∧ cs _ ≤ 8›
    subst hci
    have hlen := ‹cc ≤ List.length _›
    have hdrop := ‹List.drop cc _ = _›
    have hrun := ‹run n _ b 0 _ [] hp = some (some _, _)›
    simp only [okEB, Bool.and_eq_true, decide_eq_true_eq] at hok
    obtain ⟨⟨⟨⟨o1, o2⟩, o3⟩, o4⟩, o5⟩ := hok
    have hle1 := run_mono _ _ _ _ _ _ _ _ _ hrun
    have hle2 := run_mono _ _ _ _ _ _ _ _ _ h
    have hdO := drop_O hOs cc
    rw [hdrop] at hdO
    have hmet := hcl n (Nat.lt_succ_self n) _ _ _ _ _ _ ad o3 ‹Nat.ble _ _ = true› hrun (Nat.le_trans hle2.2.1 hB.1) (cons_O (hdO _ List.mem_cons_self) (take_O hOs cc))
    exact sim_V C (hM b o3) F hlen hdrop hcs ‹hAt hp _ = Sum.inr _› (gW_TB o1 rfl) o2 o4 o5 hd hmet (by omega) (by obtain ⟨_, y1, y2⟩ := hle1; obtain ⟨_, y3, y4⟩ := hle2; omega) (fun ad' t2 locs1 q1 q2 q3 q4 => back (tail_O hdO) h hle1 q1 q2 q3 q4)
  | invokestatic ix =>
    simp only [step] at h
    split at h
    · repeat' split at h
      all_goals first
        | (cases h; done)
        | skip
      obtain ⟨hlen, hcs⟩ := ‹cc ≤ List.length _ ∧ cs _ ≤ 8›
      have hrun := ‹run n _ b 0 _ [] hp = some (some _, _)›
      simp only [okEB, Bool.and_eq_true, decide_eq_true_eq] at hok
      obtain ⟨⟨⟨o1, o2⟩, o3⟩, o4⟩ := hok
      have hle1 := run_mono _ _ _ _ _ _ _ _ _ hrun
      have hle2 := run_mono _ _ _ _ _ _ _ _ _ h
      have hmet := hcl n (Nat.lt_succ_self n) _ _ _ _ _ _ ad o3 ‹Nat.ble _ _ = true› hrun (Nat.le_trans hle2.2.1 hB.1) (take_O hOs cc)
      exact sim_S C (hM b o3) F hlen hcs (gW_TB o1 rfl) o2 o4 hd hmet (by omega) (by obtain ⟨_, y1, y2⟩ := hle1; obtain ⟨_, y3, y4⟩ := hle2; omega) (fun ad' t2 locs1 q1 q2 q3 q4 => back (drop_O hOs cc) h hle1 q1 q2 q3 q4)
    · split at h
      · split at h
        · have hcs := ‹cs _ ≤ 8›
          simp only [okEB] at hok
          exact va_mmax hx hb hsz hown (hts _ (gW_TB hok rfl)) (hts _ tb_s10) (hts _ tb_imath) (hts _ tb_c10) (by omega) (by rw [rn_cs]; omega) hbc.1 hbc.2 (okD_at hd 2 rfl) (ih h (Frm_st F (cons_O (vO_int _ _) (tail_O (tail_O hOs)))))
        · cases h
      · cases h
    · split at h
      · split at h
        · have hcs := ‹cs _ ≤ 8›
          simp only [okEB] at hok
          exact va_mmin hx hb hsz hown (hts _ (gW_TB hok rfl)) (hts _ tb_s11) (hts _ tb_imath) (hts _ tb_c11) (by omega) (by rw [rn_cs]; omega) hbc.1 hbc.2 (okD_at hd 2 rfl) (ih h (Frm_st F (cons_O (vO_int _ _) (tail_O (tail_O hOs)))))
        · cases h
      · cases h
    · split at h
      · split at h
        · have hcs := ‹cs _ ≤ 8›
          simp only [okEB] at hok
          exact va_mabs hx hb hsz hown (hts _ (gW_TB hok rfl)) (hts _ tb_s12) (hts _ tb_imath) (hts _ tb_c12) (by omega) (by rw [rn_cs]; omega) hbc.1 hbc.2 (okD_at hd 2 rfl) (ih h (Frm_st F (cons_O (vO_int _ _) (tail_O hOs))))
        · cases h
      · cases h
    · split at h
      · split at h
        · have hcs := ‹cs _ ≤ 8›
          simp only [okEB] at hok
          exact va_mabs_long hx hb hsz hown (hts _ (gW_TB hok rfl)) (hts _ tb_s13) (hts _ tb_imath) (hts _ tb_c13) (by omega) (by rw [rn_cs]; omega) hbc.1 hbc.2 (okD_at hd 2 rfl) (ih h (Frm_st F (cons_O (vO_long _ _) (tail_O hOs))))
        · cases h
      · cases h
    · split at h
      · split at h
        · have hcs := ‹cs _ ≤ 8›
          simp only [okEB] at hok
          exact va_mmax_long hx hb hsz hown (hts _ (gW_TB hok rfl)) (hts _ tb_s14) (hts _ tb_imath) (hts _ tb_c14) (by omega) (by rw [rn_cs]; omega) hbc.1 hbc.2 (okD_at hd 2 rfl) (ih h (Frm_st F (cons_O (vO_long _ _) (tail_O (tail_O hOs)))))
        · cases h
      · cases h
    · repeat' split at h
      all_goals first
        | (cases h; done)
        | skip
      rename_i n1 dp r1 sp r0 t _ n0' f hA0 _ n1' g hA1 hcond
      obtain ⟨hcs, c1, c2, c3, c4, c5⟩ := hcond
      simp only [okEB] at hok
      exact va_copyi (D := D) (cl := vwCl) hx hb hsz hown (hts _ (gW_TB hok rfl)) (hts _ tb_n15) (hts _ tb_s15) (hts _ tb_i15) hK hP hDd hSs r0 r1 0 0 (ws_arr hk hA0 (by decide)) (ws_arr hk hA1 (by decide)) rfl rfl rfl c1 c2 c3 c4 c5 (fun _ _ => rfl) (by omega) (by rw [rn_cs, show nativeFrameWords "java/lang/System" "arraycopy" 5 = 7 by decide +kernel]; omega) (okD_at hd 2 rfl) (fun H1 locs1 hP1 hD1 hS1 => ih h (Frm_set F (Gd_arr hk.2.1 hA1 (by decide)) trivial (fun a z => by cases z) hP1 hD1 hS1 (tail_O (tail_O (tail_O (tail_O (tail_O hOs)))))))
    · repeat' split at h
      all_goals first
        | (cases h; done)
        | skip
      · simp only [okEB, decide_eq_true_eq] at hok
        have hcs := ‹cs _ ≤ 8›
        have hAx := ‹hAt hp _ = Sum.inr (7, _)›
        have hrun := ‹run n _ b 0 _ [] hp = some (some _, _)›
        have hAo := ‹hAt _ _ = Sum.inl (1, _, _)›
        have hle2 := run_mono _ _ _ _ _ _ _ _ _ h
        refine h19 hok n pc ix len a b cc _ _ _ _ _ _ _ _ _ _ _ ad H locs cells slots ls rfl (fun n' hn => hcl n' (by omega)) hf hd hcs hAx ‹Nat.ble _ _ = true› hrun (hLe_tr (hLe_set _ _ _) hle2) F 0 _ ⟨_, _, hAo, ‹inB 0 _ = true›, rfl, rfl⟩ (fun ad' H1 locs1 cells1 slots1 F1 => ?_)
        exact ih h F1
      · simp only [okEB, decide_eq_true_eq] at hok
        have hcs := ‹cs _ ≤ 8›
        have hAx := ‹hAt hp _ = Sum.inr (7, _)›
        have hrun := ‹run n _ b 0 _ [] hp = some (none, _)›
        have hle2 := run_mono _ _ _ _ _ _ _ _ _ h
        refine h19 hok n pc ix len a b cc _ _ _ _ _ _ _ _ _ _ _ ad H locs cells slots ls rfl (fun n' hn => hcl n' (by omega)) hf hd hcs hAx ‹Nat.ble _ _ = true› hrun hle2 F 1 _ ⟨rfl, rfl⟩ (fun ad' H1 locs1 cells1 slots1 F1 => ?_)
        exact ih h F1
    · cases h
  | _ => simp [step] at h
end SIM
end
section
theorem enF_len : ∀ vs : List Value, (lg_sl vs).length = (enF vs).length
  | [] => rfl
  | v :: vs => by
    have h := enF_len vs
    have e : lg_sl (v :: vs) = (if v.category = 2 then [Slot.val v, .second] else [.val v]) ++ lg_sl vs := by simp [lg_sl]
    rw [e, List.length_append, h]
    cases v <;> simp [enF, Value.category] <;> omega
theorem enF_map (ad : Nat → Nat) : ∀ vs : List Value, (enF (vs.map (rn ad))).length = (enF vs).length
  | [] => rfl
  | v :: vs => by
    have h := enF_map ad vs
    cases v <;> simp [enF, rn, h]
theorem enF_args (ad : Nat → Nat) : ∀ (vs : List Value) (i0 i : Nat) (v : Value), (enF vs)[i]? = some v → v ≠ jk → (i0 + i, rn ad v) ∈ lv_args i0 (vs.map (rn ad))
  | [], i0, i, v, h, _ => by simp [enF] at h
  | w :: vs, i0, i, v, h, hv => by
    have two : ∀ (u : Value), u.category = 2 → enF (w :: vs) = w :: jk :: enF vs → w = u → (i0 + i, rn ad v) ∈ lv_args i0 ((w :: vs).map (rn ad)) := by
      intro u hu he hwu
      rw [he] at h
      simp only [List.map_cons, lv_args]
      rw [if_pos (by rw [rn_cat, hwu]; exact hu)]
      match i, h with
      | 0, h => cases h; exact List.mem_cons_self
      | 1, h => cases h; exact absurd rfl hv
      | i + 2, h =>
        have h' : (enF vs)[i]? = some v := by simpa using h
        have q := enF_args ad vs (i0 + 2) i v h' hv
        rw [show i0 + 2 + i = i0 + (i + 2) by omega] at q
        exact List.mem_cons_of_mem _ q
    have one : ¬ w.category = 2 → enF (w :: vs) = w :: enF vs → (i0 + i, rn ad v) ∈ lv_args i0 ((w :: vs).map (rn ad)) := by
      intro hu he
      rw [he] at h
      simp only [List.map_cons, lv_args]
      rw [if_neg (by rw [rn_cat]; exact hu)]
      match i, h with
      | 0, h => cases h; exact List.mem_cons_self
      | i + 1, h =>
        have h' : (enF vs)[i]? = some v := by simpa using h
        have q := enF_args ad vs (i0 + 1) i v h' hv
        rw [show i0 + 1 + i = i0 + (i + 1) by omega] at q
        exact List.mem_cons_of_mem _ q
    cases w with
    | long x => exact two (.long x) rfl rfl rfl
    | double x => exact two (.double x) rfl rfl rfl
    | int x => exact one (by simp [Value.category]) rfl
    | float x => exact one (by simp [Value.category]) rfl
    | null => exact one (by simp [Value.category]) rfl
    | ref x => exact one (by simp [Value.category]) rfl
    | retAddr x => exact one (by simp [Value.category]) rfl
theorem enP_len : ∀ (l : List Value) (n : Nat), l.length ≤ n → (enP l n).length = n
  | [], 0, _ => rfl
  | [], n + 1, _ => by simp only [enP, List.length_cons]; rw [enP_len [] n (Nat.zero_le _)]
  | v :: vs, 0, h => by simp at h
  | v :: vs, n + 1, h => by
    simp only [enP, List.length_cons]
    rw [enP_len vs n (by simpa using h)]
theorem enP_get : ∀ (l : List Value) (n i : Nat) (v : Value), (enP l n)[i]? = some v → v ≠ jk → l[i]? = some v
  | [], 0, i, v, h, _ => by simp [enP] at h
  | [], n + 1, 0, v, h, hv => by simp only [enP] at h; cases h; exact absurd rfl hv
  | [], n + 1, i + 1, v, h, hv => by
    have h' : (enP [] n)[i]? = some v := by simpa [enP] using h
    have := enP_get [] n i v h' hv
    simp at this
  | w :: vs, 0, i, v, h, _ => by simpa [enP] using h
  | w :: vs, n + 1, 0, v, h, _ => by simpa [enP] using h
  | w :: vs, n + 1, i + 1, v, h, hv => by
    have h' : (enP vs n)[i]? = some v := by simpa [enP] using h
    have := enP_get vs n i v h' hv
    simpa using this
theorem enF_O {n : Nat} : ∀ {vs : List Value}, (∀ v ∈ vs, vO n v) → ∀ v ∈ enF vs, vO n v
  | [], _, v, hv => by simp [enF] at hv
  | w :: vs, h, v, hv => by
    have ih := enF_O (vs := vs) (fun v hv => h v (List.mem_cons_of_mem _ hv))
    have hw := h w List.mem_cons_self
    cases w with
    | long x =>
      simp only [enF, List.mem_cons] at hv
      rcases hv with rfl | rfl | hv
      · exact hw
      · exact vO_jk n
      · exact ih v hv
    | double x =>
      simp only [enF, List.mem_cons] at hv
      rcases hv with rfl | rfl | hv
      · exact hw
      · exact vO_jk n
      · exact ih v hv
    | _ =>
      simp only [enF, List.mem_cons] at hv
      rcases hv with rfl | hv
      · exact hw
      · exact ih v hv
theorem enP_O {n : Nat} : ∀ {l : List Value} (m : Nat), (∀ v ∈ l, vO n v) → ∀ v ∈ enP l m, vO n v
  | [], 0, _, v, hv => by simp [enP] at hv
  | [], m + 1, h, v, hv => by
    simp only [enP, List.mem_cons] at hv
    rcases hv with rfl | hv
    · exact vO_jk n
    · exact enP_O m h v hv
  | w :: l, 0, h, v, hv => by simp only [enP] at hv; exact h v hv
  | w :: l, m + 1, h, v, hv => by
    simp only [enP, List.mem_cons] at hv
    rcases hv with rfl | hv
    · exact h _ List.mem_cons_self
    · exact enP_O m (fun v hv => h v (List.mem_cons_of_mem _ hv)) v hv
theorem LR_entry (ad : Nat → Nat) (as : List Value) (n : Nat) (h : (enF as).length ≤ n) : LR ((lg_sl (as.map (rn ad)) ++ List.replicate (n - (lg_sl (as.map (rn ad))).length) Slot.unset).toArray) n ad (enL as n) := by
  have hl := lv_entry (as.map (rn ad)) (n := n) (by rw [enF_len, enF_map]; exact h)
  refine ⟨enP_len _ _ h, hl.1, hl.2.1, fun i v hi hv => ?_⟩
  have h1 := enF_args ad as 0 i v (enP_get _ _ _ _ hi hv) hv
  rw [Nat.zero_add] at h1
  exact hl.2.2 _ h1
def hEok (k : Nat) : Prop := ∀ pc i len a b cc dd, fe pc (MC k) = some (i, len, a, b, cc, dd) → okD k pc i ∧ okEB k (pc, i, len, a, b, cc, dd) = true
theorem rv_narrow {ret : Option FieldType} {x : Int32} (h : rvOK ret (some (.int x)) = true) : ∃ ty, ret = some ty ∧ narrow ty (.int x) = .int x := by
  cases ret with
  | none => simp [rvOK] at h
  | some ty =>
    refine ⟨ty, rfl, ?_⟩
    cases ty with
    | int => rfl
    | boolean =>
      simp only [rvOK, Bool.or_eq_true, beq_iff_eq] at h
      rcases h with rfl | rfl
      · show narrow .boolean (.int 0) = .int 0; decide
      · show narrow .boolean (.int 1) = .int 1; decide
    | _ => simp [rvOK] at h
theorem rv_long {ret : Option FieldType} {x : Int64} (h : rvOK ret (some (.long x)) = true) : ret = some .long := by
  cases ret with
  | none => simp [rvOK] at h
  | some ty => cases ty <;> simp [rvOK] at h <;> rfl
theorem rv_none {ret : Option FieldType} (h : rvOK ret none = true) : ret = none := by
  cases ret with
  | none => rfl
  | some ty => cases ty <;> simp [rvOK] at h
theorem vals_noref_i (x : Int32) : ∀ w ∈ (some (Value.int x)).toList, ∀ q : Nat, w ≠ .ref q := by
  intro w hw q
  simp only [Option.toList_some, List.mem_singleton] at hw
  rw [hw]; intro z; cases z
theorem vals_noref_l (x : Int64) : ∀ w ∈ (some (Value.long x)).toList, ∀ q : Nat, w ≠ .ref q := by
  intro w hw q
  simp only [Option.toList_some, List.mem_singleton] at hw
  rw [hw]; intro z; cases z
theorem vals_noref_n : ∀ w ∈ (none : Option Value).toList, ∀ q : Nat, w ≠ .ref q := by
  intro w hw; simp at hw
section FIN
variable {p : Program} {l : Launch} {e : Env} {R : Room} {s : State} {m : MethodId} {args : Array Value} {below : List Frame} {meth : Method} {c : Code}
variable {D : va_G} {tc : Nat → ClassId} {b0 sb L : Nat} {xs : Nat → Int32} {k n0 : Nat} {ad0 : Nat → Nat} {c0 s0 : Nat} {hp' : Hp} {v : Option Value}
theorem fin_MQ (C : Cxf p s m args meth c D tc b0 sb L xs k) (hr : meth.sig.returnType = MR k) (hlocks : meth.locks = false) {ad : Nat → Nat} {H : Heap} {locs : List Loc} {cells slots : Nat} {ls : Array Slot} {lm st : List Value} {hp : Hp} {pc mc ms : Nat}
    (F : Frm s D tc b0 sb L xs k n0 ad0 c0 s0 ad hp H locs cells slots ls lm st) (h : FinC k (some v) hp' pc st hp) (hm : mc + c0 = hC hp') (hs : ms + s0 = hSl hp') :
    W p l e R s m args below meth c H locs cells slots (MQ below (QcO D tc b0 sb L xs ad0 n0 v hp') args s mc ms (fun q => b0 ≤ q)) (F0 m pc ls (st.map (rn ad))) := by
  obtain ⟨hx, hb, hml, hown, hts, hini, hK, hEv, hNw⟩ := id C
  have key : ∀ {v : Option Value}, hp = hp' → (∀ w ∈ v.toList, ∀ q : Nat, w ≠ .ref q) → ∀ t : State, t.heap = H → s.WarmedH t.vm → QcO D tc b0 sb L xs ad0 n0 v hp' args s (.returned v) t := by
    intro v hpe hn t ht hW
    subst hpe
    exact ⟨⟨ad, rfl, F.2.2.2.2.2.2.2.2.2.1, Frm_wd F hK hEv hNw ht hW, hn⟩, F.2.2.1.F ht⟩
  have hc : c0 + cells = hC hp := F.2.2.2.2.2.2.2.1
  have hs' : s0 + slots = hSl hp := F.2.2.2.2.2.2.2.2.1
  cases v with
  | none =>
    obtain ⟨rfl, h1, rfl, h2⟩ := h
    obtain rfl : mc = cells := by omega
    obtain rfl : ms = slots := by omega
    exact W.vret hx hb (hr.trans (rv_none h1)) (key rfl vals_noref_n) F.2.2.1.2.2 h2 hlocks
  | some w =>
    cases w with
    | int x =>
      obtain ⟨rfl, h1, rfl, h2⟩ := h
      obtain rfl : mc = cells := by omega
      obtain rfl : ms = slots := by omega
      obtain ⟨ty, h3, h4⟩ := rv_narrow h1
      exact W.zret hx hb (hr.trans h3) h4 (key rfl (vals_noref_i x)) F.2.2.1.2.2 h2 hlocks
    | long x =>
      obtain ⟨rfl, h1, rfl, h2⟩ := h
      obtain rfl : mc = cells := by omega
      obtain rfl : ms = slots := by omega
      exact W.lret hx hb (hr.trans (rv_long h1)) (key rfl (vals_noref_l x)) F.2.2.1.2.2 h2 hlocks
    | _ => exact h.elim
end FIN
theorem callOK (l : Launch) (D : va_G) (tc : Nat → ClassId) (b0 sb L : Nat) (xs : Nat → Int32) (hM : ∀ j, j < 240 → okMX j) (hE : ∀ j, j < 240 → hEok j) : ∀ n, CallOK l D tc b0 sb L xs n := by
  intro n
  induction n using Nat.strongRecOn with
  | _ n ih =>
  intro d j as hp v hp' ad hj hlen hr hB hO1
  obtain ⟨m1, m2, m3, m4, m5, m6, m7⟩ := okM_all (hM j hj)
  refine Met.ofW (cc := MB j) (maxL := ML j) (ret := MR j) m3 rfl ?_
  intro p e s m args below meth c s₁ B hml hv
  obtain ⟨rfl, hw⟩ := hv
  have hts := atoms_spec (ws := wsU j) B.pre
  have hown : s.vm.findClass (MO j) = some m.cls := findClass_of_methodNamed B.named
  have hin : meth.name = (MY j).name := (name_of_methodNamed B.named B.method).1
  have hmono := run_mono _ _ _ _ _ _ _ _ _ hr
  obtain ⟨z1, z2, z3⟩ := hmono
  have C : Cxf p s m (as.map (rn ad)).toArray meth c D tc b0 sb L xs j := ⟨B.exec, B.bytes, hml, hown, fun w hw => hts w (List.mem_cons_of_mem _ hw), fun h => hin.trans h, hw.2.1, hw.2.2.2.1, hw.2.2.2.2.1⟩
  rw [lg_entry_eq]
  have hO2 : ∀ v ∈ enL as (ML j), vO hp.1 v := enP_O _ (enF_O hO1)
  have F : Frm s D tc b0 sb L xs j hp.1 ad (hC hp) (hSl hp) ad hp s.heap [] 0 0 _ (enL as (ML j)) [] := ⟨hw.1, hw.2.2.1, va_S.rf, LR_entry ad as (ML j) (Nat.le_of_ble_eq_true hlen), hw.2.2.2.2.2, hO2, fun v hv => by simp at hv, rfl, rfl, ag_rf _ _, Nat.le_refl _⟩
  exact sim C (hE j hj) hM (d := d) ⟨Nat.le_refl _, Nat.le_refl _⟩ ⟨hB, by simp only [headSpec, rmO]; omega, by simp only [headSpec, rmO]; omega⟩ (fun ad1 H locs cells slots ls lm st hp1 pc F1 hf => fin_MQ C B.returns B.notSynchronized F1 hf (by omega) (by omega)) (fun z => by omega) n ih 0 _ _ _ hr _ _ _ _ _ _ F
end
section
theorem chunk {P : Nat → Bool} {a n k : Nat} (h : (List.range n).all (fun j => P (a + j)) = true) (h1 : a ≤ k) (h2 : k < a + n) : P k = true := by
  have h3 := List.all_eq_true.mp h (k - a) (List.mem_range.mpr (by omega))
  rwa [show a + (k - a) = k by omega] at h3
theorem chunk0 {P : Nat → Bool} {n k : Nat} (h : (List.range n).all P = true) (h2 : k < n) : P k = true := List.all_eq_true.mp h k (List.mem_range.mpr h2)
theorem all_split {α : Type} {p : α → Bool} {l : List α} (n : Nat) (h1 : (l.take n).all p = true) (h2 : (l.drop n).all p = true) : l.all p = true := by
  rw [← List.take_append_drop n l, List.all_append, h1, h2]; rfl
theorem hM_all : ∀ j, j < 240 → okMX j := fun j h => ⟨cw_all j h, by
  rcases Nat.lt_or_ge j 120 with q | q
  · exact chunk0 okM_0 q
  · exact chunk okM_1 q (by omega)⟩
theorem wE_all : ∀ j, j < 240 → (MC j).all (okEB j) = true := fun j h => by
  rcases Nat.lt_or_ge j 40 with q0 | q0
  · exact chunk (P := fun j => (MC j).all (okEB j)) (a := 0) okE_0 (by omega) (by omega)
  rcases Nat.lt_or_ge j 80 with q40 | q40
  · exact chunk (P := fun j => (MC j).all (okEB j)) (a := 40) okE_1 (by omega) (by omega)
  rcases Nat.lt_or_ge j 120 with q80 | q80
  · exact chunk (P := fun j => (MC j).all (okEB j)) (a := 80) okE_2 (by omega) (by omega)
  rcases Nat.lt_or_ge j 160 with q120 | q120
  · exact chunk (P := fun j => (MC j).all (okEB j)) (a := 120) okE_3 (by omega) (by omega)
  rcases Nat.lt_or_ge j 200 with q160 | q160
  · exact chunk (P := fun j => (MC j).all (okEB j)) (a := 160) okE_4 (by omega) (by omega)
  exact chunk (P := fun j => (MC j).all (okEB j)) (a := 200) okE_5 (by omega) (by omega)
theorem wD_all : ∀ j, j < 240 → (MC j).all (okDB j) = true := fun j h => by
  rcases Nat.lt_or_ge j 8 with q0 | q0
  · exact chunk (P := fun j => (MC j).all (okDB j)) (a := 0) okD_0 (by omega) (by omega)
  rcases Nat.lt_or_ge j 16 with q8 | q8
  · exact chunk (P := fun j => (MC j).all (okDB j)) (a := 8) okD_1 (by omega) (by omega)
  rcases Nat.lt_or_ge j 24 with q16 | q16
  · exact chunk (P := fun j => (MC j).all (okDB j)) (a := 16) okD_2 (by omega) (by omega)
  rcases Nat.lt_or_ge j 32 with q24 | q24
  · exact chunk (P := fun j => (MC j).all (okDB j)) (a := 24) okD_3 (by omega) (by omega)
  rcases Nat.lt_or_ge j 40 with q32 | q32
  · exact chunk (P := fun j => (MC j).all (okDB j)) (a := 32) okD_4 (by omega) (by omega)
  rcases Nat.lt_or_ge j 48 with q40 | q40
  · exact chunk (P := fun j => (MC j).all (okDB j)) (a := 40) okD_5 (by omega) (by omega)
  rcases Nat.lt_or_ge j 56 with q48 | q48
  · exact chunk (P := fun j => (MC j).all (okDB j)) (a := 48) okD_6 (by omega) (by omega)
  rcases Nat.lt_or_ge j 64 with q56 | q56
  · exact chunk (P := fun j => (MC j).all (okDB j)) (a := 56) okD_7 (by omega) (by omega)
  rcases Nat.lt_or_ge j 72 with q64 | q64
  · exact chunk (P := fun j => (MC j).all (okDB j)) (a := 64) okD_8 (by omega) (by omega)
  rcases Nat.lt_or_ge j 80 with q72 | q72
  · exact chunk (P := fun j => (MC j).all (okDB j)) (a := 72) okD_9 (by omega) (by omega)
  rcases Nat.lt_or_ge j 88 with q80 | q80
  · exact chunk (P := fun j => (MC j).all (okDB j)) (a := 80) okD_10 (by omega) (by omega)
  rcases Nat.lt_or_ge j 96 with q88 | q88
  · exact chunk (P := fun j => (MC j).all (okDB j)) (a := 88) okD_11 (by omega) (by omega)
  rcases Nat.lt_or_ge j 104 with q96 | q96
  · exact chunk (P := fun j => (MC j).all (okDB j)) (a := 96) okD_12 (by omega) (by omega)
  rcases Nat.lt_or_ge j 112 with q104 | q104
  · exact chunk (P := fun j => (MC j).all (okDB j)) (a := 104) okD_13 (by omega) (by omega)
  rcases Nat.lt_or_ge j 120 with q112 | q112
  · exact chunk (P := fun j => (MC j).all (okDB j)) (a := 112) okD_14 (by omega) (by omega)
  rcases Nat.lt_or_ge j 128 with q120 | q120
  · exact chunk (P := fun j => (MC j).all (okDB j)) (a := 120) okD_15 (by omega) (by omega)
  rcases Nat.lt_or_ge j 136 with q128 | q128
  · exact chunk (P := fun j => (MC j).all (okDB j)) (a := 128) okD_16 (by omega) (by omega)
  rcases Nat.lt_or_ge j 144 with q136 | q136
  · exact chunk (P := fun j => (MC j).all (okDB j)) (a := 136) okD_17 (by omega) (by omega)
  rcases Nat.lt_or_ge j 152 with q144 | q144
  · exact chunk (P := fun j => (MC j).all (okDB j)) (a := 144) okD_18 (by omega) (by omega)
  rcases Nat.lt_or_ge j 160 with q152 | q152
  · exact chunk (P := fun j => (MC j).all (okDB j)) (a := 152) okD_19 (by omega) (by omega)
  rcases Nat.lt_or_ge j 168 with q160 | q160
  · exact chunk (P := fun j => (MC j).all (okDB j)) (a := 160) okD_20 (by omega) (by omega)
  rcases Nat.lt_or_ge j 176 with q168 | q168
  · exact chunk (P := fun j => (MC j).all (okDB j)) (a := 168) okD_21 (by omega) (by omega)
  rcases Nat.lt_or_ge j 184 with q176 | q176
  · exact chunk (P := fun j => (MC j).all (okDB j)) (a := 176) okD_22 (by omega) (by omega)
  rcases Nat.lt_or_ge j 192 with q184 | q184
  · exact chunk (P := fun j => (MC j).all (okDB j)) (a := 184) okD_23 (by omega) (by omega)
  rcases Nat.lt_or_ge j 200 with q192 | q192
  · exact chunk (P := fun j => (MC j).all (okDB j)) (a := 192) okD_24 (by omega) (by omega)
  rcases Nat.lt_or_ge j 208 with q200 | q200
  · exact chunk (P := fun j => (MC j).all (okDB j)) (a := 200) okD_25 (by omega) (by omega)
  rcases Nat.lt_or_ge j 216 with q208 | q208
  · exact chunk (P := fun j => (MC j).all (okDB j)) (a := 208) okD_26 (by omega) (by omega)
  rcases Nat.lt_or_ge j 224 with q216 | q216
  · exact chunk (P := fun j => (MC j).all (okDB j)) (a := 216) okD_27 (by omega) (by omega)
  rcases Nat.lt_or_ge j 232 with q224 | q224
  · exact chunk (P := fun j => (MC j).all (okDB j)) (a := 224) okD_28 (by omega) (by omega)
  exact chunk (P := fun j => (MC j).all (okDB j)) (a := 232) okD_29 (by omega) (by omega)
theorem wD_law : (MC 240).all (okDB 240) = true := by
  refine all_split 120 okDL_0 ?_
  refine all_split 120 (by exact okDL_1) ?_
  refine all_split 120 (by rw [List.drop_drop]; exact okDL_2) ?_
  refine all_split 120 (by rw [List.drop_drop, List.drop_drop]; exact okDL_3) ?_
  refine all_split 120 (by rw [List.drop_drop, List.drop_drop, List.drop_drop]; exact okDL_4) ?_
  refine all_split 120 (by rw [List.drop_drop, List.drop_drop, List.drop_drop, List.drop_drop]; exact okDL_5) ?_
  refine all_split 120 (by rw [List.drop_drop, List.drop_drop, List.drop_drop, List.drop_drop, List.drop_drop]; exact okDL_6) ?_
  refine all_split 120 (by rw [List.drop_drop, List.drop_drop, List.drop_drop, List.drop_drop, List.drop_drop, List.drop_drop]; exact okDL_7) ?_
  refine all_split 120 (by rw [List.drop_drop, List.drop_drop, List.drop_drop, List.drop_drop, List.drop_drop, List.drop_drop, List.drop_drop]; exact okDL_8) ?_
  refine all_split 120 (by rw [List.drop_drop, List.drop_drop, List.drop_drop, List.drop_drop, List.drop_drop, List.drop_drop, List.drop_drop, List.drop_drop]; exact okDL_9) ?_
  rw [List.drop_drop, List.drop_drop, List.drop_drop, List.drop_drop, List.drop_drop, List.drop_drop, List.drop_drop, List.drop_drop, List.drop_drop]
  have h : ((MC 240).drop 1200) = [] := by decide +kernel
  rw [show (120 + 120 + 120 + 120 + 120 + 120 + 120 + 120 + 120 + 120) = 1200 from rfl, h]
  rfl
theorem okEk {k : Nat} (h1 : (MC k).all (okEB k) = true) (h2 : (MC k).all (okDB k) = true) : hEok k := by
  intro pc i len a b cc dd h
  have hm := fe_in h
  have q1 := List.all_eq_true.mp h1 _ hm
  have q2 := List.all_eq_true.mp h2 _ hm
  refine ⟨?_, q1⟩
  simp only [okDB, Bool.and_eq_true, decide_eq_true_eq, Bool.or_eq_true] at q2
  exact ⟨len, q2.1, q2.2.imp Nat.eq_of_beq_eq_true Nat.eq_of_beq_eq_true⟩
theorem hE_all : ∀ j, j < 240 → hEok j := fun j h => okEk (wE_all j h) (wD_all j h)
theorem hE_law : hEok 240 := okEk okE_6 wD_law
end
section
/-! lot() and ship() of the law: what throws is caught there -/
abbrev NSEE : String := "java/util/NoSuchElementException"
theorem tb_nl : Cond.classLink RX8 144 NSEE ∈ TB := gW_TB (i := 1094) (by decide +kernel) rfl
theorem tb_nlL : Cond.classLink RL 13 NSEE ∈ TB := gW_TB (i := 1089) (by decide +kernel) rfl
theorem tb_ni : Cond.initialized NSEE ∈ TB := gW_TB (i := 114) (by decide +kernel) rfl
theorem tb_nc : Cond.castable NSEE NSEE ∈ lw_tbl := gW_in (i := 1096) (by decide +kernel)
theorem tb_Li : Cond.initialized RL ∈ TB := gW_TB (i := 96) (by decide +kernel) rfl
theorem tb_Ls_lot : Cond.static yL_lot ∈ TB := gW_TB (i := 1087) (by decide +kernel) rfl
theorem tb_Ls_ship : Cond.static yL_ship ∈ TB := gW_TB (i := 1156) (by decide +kernel) rfl
set_option maxRecDepth 1000000 in
theorem tb_Lc_lot : Cond.codeWith yL_lot cL_lot 5 (some .int) [(0, 10, 13, 13)] ∈ TB := List.mem_filter.mpr ⟨List.mem_of_getElem? (i := 1088) (by rfl), rfl⟩
set_option maxRecDepth 1000000 in
theorem tb_Lc_ship : Cond.codeWith yL_ship cL_ship 5 (some .int) [(0, 10, 13, 13)] ∈ TB := List.mem_filter.mpr ⟨List.mem_of_getElem? (i := 1157) (by rfl), rfl⟩
theorem tb_Lm_lot : Cond.methodLink RL 36 yL_lot ∈ TB := gW_TB (i := 1086) (by decide +kernel) rfl
theorem tb_Lm_ship : Cond.methodLink RL 46 yL_ship ∈ TB := gW_TB (i := 1155) (by decide +kernel) rfl
theorem tb_Lv_lot : Cond.methodLink RL 7 (MY 79) ∈ TB := gW_TB (i := 1090) (by decide +kernel) rfl
theorem tb_Lv_ship : Cond.methodLink RL 15 (MY 80) ∈ TB := gW_TB (i := 1158) (by decide +kernel) rfl
set_option maxRecDepth 1000000 in
theorem at0_in : ∀ w ∈ vx_at0 RX8 146 NSEE ["java/lang/RuntimeException", "java/lang/Exception"], w ∈ lw_tbl ∧ (goodWord w = true ∨ isN w = true) ∧ vx_ot w = true := by
  have h : (vx_at0 RX8 146 NSEE ["java/lang/RuntimeException", "java/lang/Exception"]).all (fun w => decide (w ∈ lw_tbl) && (goodWord w || isN w) && vx_ot w) = true := by decide +kernel
  intro w hw
  have h1 := List.all_eq_true.mp h w hw
  simp only [Bool.and_eq_true, Bool.or_eq_true, decide_eq_true_eq] at h1
  exact ⟨h1.1.1, h1.1.2, h1.2⟩
theorem dTh_lot : decode (MB 79) 20 = .ok (.new 144, 3) ∧ decode (MB 79) (20 + 3) = .ok (.dup, 1) ∧ decode (MB 79) (20 + 4) = .ok (.invokespecial 146, 3) ∧ decode (MB 79) (20 + 7) = .ok (.athrow, 1) := by decide +kernel
theorem dTh_ship : decode (MB 80) 21 = .ok (.new 144, 3) ∧ decode (MB 80) (21 + 3) = .ok (.dup, 1) ∧ decode (MB 80) (21 + 4) = .ok (.invokespecial 146, 3) ∧ decode (MB 80) (21 + 7) = .ok (.athrow, 1) := by decide +kernel
theorem th_lot : (MC 79).all (fun e => !(Nat.beq e.2.2.2.2.2.2 99) || Nat.beq e.1 20) = true := by decide +kernel
theorem th_ship : (MC 80).all (fun e => !(Nat.beq e.2.2.2.2.2.2 99) || Nat.beq e.1 21) = true := by decide +kernel
theorem th_law : (MC 240).all (fun e => !(Nat.beq e.2.2.2.2.2.2 19) || (decide (e.2.1 = .invokestatic 36) && Nat.beq e.2.2.2.2.1 79) || (decide (e.2.1 = .invokestatic 46) && Nat.beq e.2.2.2.2.1 80)) = true := by decide +kernel
def isLS (b : Nat) : Prop := b = 79 ∨ b = 80
theorem isLS_lt {b : Nat} (h : isLS b) : b < 240 := by
  rcases h with rfl | rfl <;> decide
theorem isLS_cls {b : Nat} (h : isLS b) : MO b = RX8 ∧ MCi b = 7 ∧ nP b = some 2 ∧ (MY b).name ≠ "<init>" ∧ MR b = some .int := by
  rcases h with rfl | rfl <;> decide +kernel
/-- where it throws -/
theorem isLS_th {b pc ix len a bb c : Nat} (h : isLS b) (hf : fe pc (MC b) = some (.new ix, len, a, bb, c, 99)) : decode (MB b) pc = .ok (.new 144, 3) ∧ decode (MB b) (pc + 3) = .ok (.dup, 1) ∧ decode (MB b) (pc + 4) = .ok (.invokespecial 146, 3) ∧ decode (MB b) (pc + 7) = .ok (.athrow, 1) := by
  have hm := fe_in hf
  rcases h with rfl | rfl
  · have h1 := List.all_eq_true.mp th_lot _ hm
    have h2 : pc = 20 := Nat.eq_of_beq_eq_true (by simpa using h1)
    rw [h2]; exact dTh_lot
  · have h1 := List.all_eq_true.mp th_ship _ hm
    have h2 : pc = 21 := Nat.eq_of_beq_eq_true (by simpa using h1)
    rw [h2]; exact dTh_ship
def QcT (D : va_G) (tc : Nat → ClassId) (b0 sb L : Nat) (xs : Nat → Int32) (ad : Nat → Nat) (n0 : Nat) (rv : Option (Option Value)) (h2 : Hp) : Array Value → State → Outcome → State → Prop := fun a st oc t => ∃ v, rv = some v ∧ QcO D tc b0 sb L xs ad n0 v h2 a st oc t
def XcT (D : va_G) (tc : Nat → ClassId) (b0 sb L : Nat) (xs : Nat → Int32) (ad : Nat → Nat) (n0 : Nat) (rv : Option (Option Value)) (h2 : Hp) : String → State → State → Prop := fun E st t =>
  E = NSEE ∧ rv = none ∧ (∃ ad' : Nat → Nat, ag n0 ad ad' ∧ va_P D vwCl (wsO tc ad' h2) t.heap ∧ va_D (fun q => b0 ≤ q) (wsO tc ad' h2) ∧ Hok L xs sb ad' h2) ∧ va_F (fun q => b0 ≤ q) st t
theorem W_mono {p : Program} {l : Launch} {e : Env} {R : Room} {s : State} {m : MethodId} {args : Array Value} {below : List Frame} {meth : Method} {c : Code} {H : Heap} {locs : List Loc} {cells slots : Nat} {Q Q' : State → Prop} {g : JFrame} (h : ∀ t, Q t → Q' t) (k : W p l e R s m args below meth c H locs cells slots Q g) : W p l e R s m args below meth c H locs cells slots Q' g := by
  intro T hT X
  obtain ⟨t, a, b⟩ := k T hT X
  exact ⟨t, a, h t b⟩
set_option maxHeartbeats 2000000 in
theorem lotX (l : Launch) (hls : l.stackTraces = false) (D : va_G) (tc : Nat → ClassId) (b0 sb L : Nat) (xs : Nat → Int32) {n d b : Nat} {as : List Value} {hp h2 : Hp} {rv : Option (Option Value)} {ad : Nat → Nat} (hb0 : isLS b) (hcl : ∀ n', CallOK l D tc b0 sb L xs n') (hlen : Nat.ble (enF as).length (ML b) = true) (hr : run n d b 0 (enL as (ML b)) [] hp = some (rv, h2)) (hB : hC h2 ≤ 700000) (hO1 : ∀ v ∈ as, vO hp.1 v) :
    vx_Met l (MY b) (wsU b) (rmO d (hC h2 - hC hp) (hSl h2 - hSl hp)) (va_Pc (as.map (rn ad)) (Wd D tc b0 sb L xs ad hp)) (QcT D tc b0 sb L xs ad hp.1 rv h2) (XcT D tc b0 sb L xs ad hp.1 rv h2) (hC h2 - hC hp) (hSl h2 - hSl hp) (fun q => b0 ≤ q) := by
  have hj := isLS_lt hb0
  obtain ⟨m1, m2, m3, m4, m5, m6, m7⟩ := okM_all (hM_all b hj)
  refine vx_ofW (cc := MB b) (maxL := ML b) (ret := MR b) m3 rfl ?_
  intro p e s m args below meth c s₁ B hml hnox hv
  obtain ⟨rfl, hw⟩ := hv
  have hts := atoms_spec (ws := wsU b) B.pre
  have hown : s.vm.findClass (MO b) = some m.cls := findClass_of_methodNamed B.named
  have hin : meth.name = (MY b).name := (name_of_methodNamed B.named B.method).1
  have hmono := run_mono _ _ _ _ _ _ _ _ _ hr
  obtain ⟨z1, z2, z3⟩ := hmono
  have hts2 : ∀ w ∈ TB, w.before (as.map (rn ad)).toArray s = true := fun w hw => hts w (List.mem_cons_of_mem _ hw)
  have C : Cxf p s m (as.map (rn ad)).toArray meth c D tc b0 sb L xs b := ⟨B.exec, B.bytes, hml, hown, hts2, fun h => hin.trans h, hw.2.1, hw.2.2.2.1, hw.2.2.2.2.1⟩
  rw [lg_entry_eq]
  have hO2 : ∀ v ∈ enL as (ML b), vO hp.1 v := enP_O _ (enF_O hO1)
  have F : Frm s D tc b0 sb L xs b hp.1 ad (hC hp) (hSl hp) ad hp s.heap [] 0 0 _ (enL as (ML b)) [] := ⟨hw.1, hw.2.2.1, va_S.rf, LR_entry ad as (ML b) (Nat.le_of_ble_eq_true hlen), hw.2.2.2.2.2, hO2, fun v hv => by simp at hv, rfl, rfl, ag_rf _ _, Nat.le_refl _⟩
  refine sim C (hE_all b hj) hM_all (d := d) ⟨Nat.le_refl _, Nat.le_refl _⟩ ⟨hB, by simp only [headSpec, rmO]; omega, by simp only [headSpec, rmO]; omega⟩ (fun ad1 H locs cells slots ls lm st hp1 pc F1 hf => ?_) (fun z => by omega) n (fun n' _ => hcl n') 0 _ _ _ hr _ _ _ _ _ _ F
  cases rv with
  | some v =>
    refine vx_ret (W_mono ?_ (fin_MQ (mc := hC h2 - hC hp) (ms := hSl h2 - hSl hp) C B.returns B.notSynchronized F1 hf (by omega) (by omega)))
    rintro t ⟨o, q1, q2, q3, q4⟩
    exact ⟨o, q1, q2, ⟨v, rfl, q3⟩, q4⟩
  | none =>
    obtain ⟨rfl, hcs, ix, len, a, bb, c', hfe⟩ := hf
    obtain ⟨d0, d3, d4, d7⟩ := isLS_th hb0 hfe
    obtain ⟨k1, k2, k3, k4, k5⟩ := isLS_cls hb0
    have hc1 : hC hp + cells = hC hp1 := F1.2.2.2.2.2.2.2.1
    have hs1 : hSl hp + slots = hSl hp1 := F1.2.2.2.2.2.2.2.2.1
    have e1 : hC (hX hp1) = hC hp1 + 1 := by simp only [hC, hX]; omega
    have e2 : hSl (hX hp1) = hSl hp1 + 6 := rfl
    rw [k1] at hown
    refine vx_throw0 (own := RX8) (cls := NSEE) (names := ["java/lang/RuntimeException", "java/lang/Exception"]) (ik := 144) (ic := 146) (A := fun q => b0 ≤ q) B.exec B.bytes hls hown (by decide +kernel) (by decide +kernel) (hts2 _ tb_nl) (hts2 _ tb_ni) ?_ ?_ hw.2.2.2.1.2.2.1 hw.2.2.2.1.2.2.2.1 F1.2.2.1 (by rw [hml]; exact F1.2.2.2.1.2.1) d0 d3 d4 d7 (fun x hx => (hnox x hx).elim) ?_ ?_ ?_ ?_ B.notSynchronized ?_ F1.2.2.1.2.2 ?_ ?_
    · intro w hw'
      obtain ⟨a1, a2, -⟩ := at0_in w hw'
      rcases a2 with a2 | a2
      · exact hts2 _ (List.mem_filter.mpr ⟨a1, a2⟩)
      · refine va_Nw.use ?_ (hw.2.2.2.2.1.1 w a1 a2)
        cases w <;> first | rfl | (simp [isN] at a2)
    · intro w hw'
      rcases List.mem_cons.mp hw' with rfl | hw'
      · rfl
      · rcases List.mem_cons.mp hw' with rfl | hw'
        · rfl
        · exact (at0_in w hw').2.2
    · simp only [headSpec, rmO, List.length_cons, List.length_nil]; omega
    · rw [rn_cs]; simp only [headSpec, rmO, List.length_cons, List.length_nil]; omega
    · simp only [headSpec, rmO]; omega
    · simp only [headSpec, rmO]; omega
    · intro t hvm hsz hk
      refine ⟨rfl, rfl, ⟨ad1, F1.2.2.2.2.2.2.2.2.2.1, ?_, ?_, ?_⟩, ⟨Nat.le_trans F1.2.2.1.1 hsz, fun q h1 h2 => ?_⟩⟩
      · exact F1.1.kept (fun kq x hx => hk x.1 ((F1.1 kq x hx).lt))
      · exact F1.2.1
      · exact F1.2.2.2.2.1
      · rw [hk q (Nat.lt_of_lt_of_le h1 F1.2.2.1.1)]
        exact F1.2.2.1.2.1 q h1 h2
    · omega
    · omega
section VC
variable {p : Program} {l : Launch} {e : Env} {R : Room} {s : State} {m : MethodId} {args : Array Value} {below : List Frame} {meth : Method} {c : Code} {H : Heap} {locs : List Loc} {cells slots mc ms : Nat} {Q : State → Prop} {pc : Nat} {ls : Array Slot} {rest st0 : List Value} {a : Array Value} {H0 : Heap}
theorem my_vcall {D : va_G} {tc : Nat → ClassId} {b0 sb L n0 : Nat} {xs : Nat → Int32} {ad : Nat → Nat} {rv : Option (Option Value)} {h2 : Hp} (hr : vx_Run p l e R s m args below meth c H locs cells slots mc ms (F0 m pc ls st0) rest (QcT D tc b0 sb L xs ad n0 rv h2 a) (XcT D tc b0 sb L xs ad n0 rv h2) (fun q => b0 ≤ q)) (hS : va_S (fun q => b0 ≤ q) H0 H locs)
    (kx : rv = none → ∀ (ad' : Nat → Nat) (ce : Cell) (q9 : Addr) (H1 : Heap) (locs1 : List Loc), ag n0 ad ad' → va_P D vwCl (wsO tc ad' h2) H1 → va_D (fun q => b0 ≤ q) (wsO tc ad' h2) → Hok L xs sb ad' h2 → va_S (fun q => b0 ≤ q) H0 H1 locs1 → H1[q9]? = some ce → ce.vm = .none → s.vm.findClass NSEE = some ce.cls → vx_W p l e R s m args below meth c H1 locs1 (cells + mc) (slots + ms) Q (F0 m pc ls rest) q9)
    (kk : ∀ v, rv = some v → ∀ (ad' : Nat → Nat) (t : State) (locs1 : List Loc), s.vm.Alike t.vm → ag n0 ad ad' → Wd D tc b0 sb L xs ad' h2 t → va_S (fun q => b0 ≤ q) H0 t.heap locs1 → W p l e R s m args below meth c t.heap locs1 (cells + mc) (slots + ms) Q (F0 m (pc + 3) ls (v.toList ++ rest))) : W p l e R s m args below meth c H locs cells slots Q (F0 m pc ls st0) := by
  intro T hT X
  rcases hr T hT X with ⟨v', st₀, t, T', L1, h0, X', hL, e1, e2, ⟨v, hrv, ⟨ad', hv, hag, hw, hnr⟩, hF⟩, st⟩ | ⟨q, st₀, t, T', L1, E, ce, h0, X', hL, e1, e2, ⟨rfl, hrv, ⟨ad', hag, hP, hD, hk⟩, hF⟩, hce, hcv, hcl, st⟩
  · cases hv
    obtain ⟨k1, k2, k3⟩ := vx_keep h0 e1 hS (fun _ _ z => z) (fun _ z => z) hL hF
    rw [e1] at k3
    obtain ⟨t2, a1, b1⟩ := kk _ hrv ad' t (locs ++ L1) (by rw [← e2]; exact X'.warmed.alike) hag hw k3 T' e1 X'
    exact ⟨t2, st t2 a1, b1⟩
  · obtain ⟨k1, k2, k3⟩ := vx_keep h0 e1 hS (fun _ _ z => z) (fun _ z => z) hL hF
    rw [e1] at k3
    obtain ⟨t2, a1, b1⟩ := kx hrv ad' ce q t.heap (locs ++ L1) hag hP hD hk k3 hce hcv hcl T' e1 X'
    exact ⟨t2, st.trans a1, b1⟩
end VC
def wsLL (y : MethodName) (cL : ByteArray) : List Cond := .codeWith y cL 5 (some .int) [(0, 10, 13, 13)] :: TB
set_option maxHeartbeats 2000000 in
theorem lawLS (l : Launch) (hls : l.stackTraces = false) (D : va_G) (tc : Nat → ClassId) (b0 sb L : Nat) (xs : Nat → Int32) {y : MethodName} {cL : ByteArray} {iv n d b o x : Nat} {p0 p1 : Int32} {fs : List Value} {hp h2 h3 : Hp} {rv : Option (Option Value)} {ad : Nat → Nat} {z : Int32} (hb0 : isLS b) (hcl : ∀ n', CallOK l D tc b0 sb L xs n')
    (hy : y.cls = RL) (hyp : plainName y.cls = true) (hiv : Cond.methodLink RL iv (MY b) ∈ TB) (hcw : Cond.codeWith y cL 5 (some .int) [(0, 10, 13, 13)] ∈ TB)
    (d0 : decode cL 0 = .ok (.aload_n 3, 1)) (d1 : decode cL 1 = .ok (.iconst 0, 1)) (d2 : decode cL 2 = .ok (.aload_n 0, 1)) (d3 : decode cL 3 = .ok (.iload_n 1, 1)) (d4 : decode cL 4 = .ok (.iload_n 2, 1)) (d5 : decode cL 5 = .ok (.invokevirtual iv, 3)) (d8 : decode cL 8 = .ok (.i2l, 1)) (d9 : decode cL 9 = .ok (.lastore, 1)) (d10 : decode cL 10 = .ok (.goto 7, 3)) (d13 : decode cL 13 = .ok (.astore 4, 2)) (d15 : decode cL 15 = .ok (.iconst 1, 1)) (d16 : decode cL 16 = .ok (.ireturn, 1)) (d17 : decode cL 17 = .ok (.iconst 0, 1)) (d18 : decode cL 18 = .ok (.ireturn, 1))
    (hx0 : hAt hp x = .inr (7, fs)) (hox : x < hp.1 ∧ (o < hp.1 ∨ SCR ≤ o)) (hlen : Nat.ble (enF [.ref x, .int p0, .int p1]).length (ML b) = true) (hr : run n d b 0 (enL [.ref x, .int p0, .int p1] (ML b)) [] hp = some (rv, h2)) (hB : hC h2 ≤ 700000)
    (hz : zC rv h2 o z h3) :
    vx_Met l y (wsLL y cL) (rmO (d + 1) (hC h2 - hC hp) (hSl h2 - hSl hp)) (va_Pc ([.ref x, .int p0, .int p1, .ref o].map (rn ad)) (Wd D tc b0 sb L xs ad hp)) (QcO D tc b0 sb L xs ad hp.1 (some (.int z)) h3) (fun _ _ _ => False) (hC h2 - hC hp) (hSl h2 - hSl hp) (fun q => b0 ≤ q) := by
  have hj := isLS_lt hb0
  obtain ⟨k1, k2, k3, k4, k5⟩ := isLS_cls hb0
  obtain ⟨m1, m2, m3, m4, m5, m6, m7⟩ := okM_all (hM_all b hj)
  obtain ⟨m8, m9, m10⟩ := m7 (by rw [k2]; decide)
  refine vx_ofWH (cc := cL) (maxL := 5) (ret := some .int) hyp rfl ?_
  intro p e s m args below meth c s₁ B hml hv
  obtain ⟨rfl, hw⟩ := hv
  have hts := atoms_spec (ws := wsLL y cL) B.pre
  have hown : s.vm.findClass y.cls = some m.cls := findClass_of_methodNamed B.named
  rw [hy] at hown
  have hts2 : ∀ w ∈ TB, w.before ([.ref x, .int p0, .int p1, .ref o].map (rn ad)).toArray s = true := fun w hw => hts w (List.mem_cons_of_mem _ hw)
  have htab := vx_table (x := y) B (hts _ List.mem_cons_self)
  have hx := B.exec
  have hb := B.bytes
  have hle := run_mono _ _ _ _ _ _ _ _ _ hr
  obtain ⟨z1, z2, z3⟩ := id hle
  obtain ⟨hP, hK, hD, hE, hN, hk⟩ := id hw
  have hS : va_S (fun q => b0 ≤ q) s.heap s.heap [] := va_S.rf
  have hl := lv_entry ([.ref x, .int p0, .int p1, .ref o].map (rn ad)) (n := 5) (Nat.le_of_ble_eq_true rfl)
  rw [lg_entry_eq]
  generalize (lg_sl ([.ref x, .int p0, .int p1, .ref o].map (rn ad)) ++ List.replicate (5 - (lg_sl ([.ref x, .int p0, .int p1, .ref o].map (rn ad))).length) Slot.unset).toArray = ls at hl ⊢
  have hl : lv_has ls 5 [(0, .ref (ad x)), (1, .int p0), (2, .int p1), (3, .ref (ad o))] := hl
  refine lv_aload_n hx hb d0 rfl (lv_at hl 3 rfl) ?_
  refine lv_iconst (v := 0) hx hb d1 (by decide) ?_
  refine lv_aload_n hx hb d2 rfl (lv_at hl 0 rfl) ?_
  refine lv_iload_n hx hb d3 rfl (lv_at hl 1 rfl) ?_
  refine lv_iload_n hx hb d4 rfl (lv_at hl 2 rfl) ?_
  have hrec := va_recv (ci := 7) (q := (RX8, TX8, 14)) hK hP rfl (ws_obj (tc := tc) hk hx0 (by decide))
  have hmet := lotX (l := l) hls D tc b0 sb L xs (ad := ad) hb0 hcl hlen hr hB (fun v hv => by
    simp only [List.mem_cons, List.not_mem_nil, or_false] at hv
    rcases hv with rfl | rfl | rfl
    · exact fun q hq => by cases hq; exact Or.inl hox.1
    · exact vO_int _ _
    · exact vO_int _ _)
  have hCB : CallB (headSpec (wsLL y cL) (rmO (d + 1) (hC h2 - hC hp) (hSl h2 - hSl hp))).room s ([.ref x, .int p0, .int p1, .ref o].map (rn ad)).toArray RL iv (MY b) (MB b) (ML b) (MR b) (wsU b) (rmO d (hC h2 - hC hp) (hSl h2 - hSl hp)) (hC h2 - hC hp) (hSl h2 - hSl hp) 2 :=
    callB_of 2 hts2 (wsU_good (hM_all b hj)) rfl rfl rfl (hts2 _ m2) (hts2 _ hiv) ⟨m4.1, m4.2, k3⟩ ⟨by simp only [rmO, headSpec]; omega, by simp only [rmO, headSpec]; omega⟩
  refine my_vcall (vx_runV (As := [.int p0, .int p1]) (rest := [.int 0, .ref (ad o)]) (C := RX8) (b := ad x) (g := F0 m 5 ls _) ⟨hx, hb, hml, hown, hts2⟩ hmet ⟨hCB, hts2 _ m8, by have := hts2 _ (m9 k4); rw [k1] at this; exact this⟩ ⟨wd_blind _ _, hrec, fun U hU hW => ⟨rfl, ?_⟩⟩ rfl rfl hl.1 rfl (lv_room (m := m) (pc := 5) (ls := ls) (Nat.le_of_ble_eq_true rfl)) d5 ⟨by simp only [rmO, headSpec]; omega, by simp only [rmO, headSpec]; omega⟩) hS ?_ ?_
  · refine ⟨by rw [hU]; exact hP, va_K.moved hW.alike hK, hD, ?_, Nw_warm hW hN, hk⟩
    rw [hU]
    exact Ev_moved hW.alike hE
  · intro hrv ad' ce q9 H1 locs1 hag hP1 hD1 hk1 hS1 hce hcv hcl9
    subst hrv
    obtain ⟨rfl, rfl⟩ := hz
    refine vx_catch (own := RL) (name := NSEE) (E := NSEE) hown [] ⟨0, 10, 13, 13⟩ [] (by rw [htab]; rfl) (fun z hz => by cases hz) (by decide) (by decide) (hts2 _ tb_nlL) (va_Nw.use rfl (hN.1 _ tb_nc rfl)) hce hcv hcl9 ?_
    refine lv_astore (lv' := [(4, .ref q9), (0, .ref (ad x)), (1, .int p0), (2, .int p1), (3, .ref (ad o))]) hx hb d13 hl (by decide) rfl (fun ls hl => ?_)
    refine lv_iconst (v := 1) hx hb d15 (by decide) ?_
    refine W.widen (k := hC h3 - hC hp) (n := hSl h3 - hSl hp) (by omega) (by omega) ?_
    refine vx_ret (W.iret hx hb B.returns (fun t ht hW => ?_) hS1.2.2 d16 B.notSynchronized)
    exact ⟨⟨ad', rfl, hag, ⟨by rw [ht]; exact hP1, va_K.moved hW.alike hK, hD1, by rw [ht]; exact Ev_moved hW.alike (Ev_kept hE hS1), Nw_warm hW hN, hk1⟩, vals_noref_i _⟩, hS1.F ht⟩
  · intro v hrv ad' t locs1 hvm hag hw2 hS1
    subst hrv
    cases v with
    | none => exact hz.elim
    | some w =>
      cases w with
      | int w =>
        obtain ⟨nn, f, e1, e2, rfl, rfl⟩ := hz
        have ho2 : o < h2.1 := Gd_arr hw2.2.2.2.2.2.2.1 e1 (by decide)
        have hao : ad' o = ad o := hag o hox.2
        refine lv_i2l hx hb d8 rfl ?_
        rw [← hao]
        refine va_last (D := D) (cl := vwCl) hx hb hK hw2.1 hw2.2.2.1 hS1 o 1 (ws_arl hw2.2.2.2.2.2 e1 (by decide)) rfl (inB_vp e2) d9 (fun H1 locs2 hP2 hD2 hS2 => ?_)
        refine lv_goto (tgt := 17) hx hb d10 (by decide) ?_
        refine lv_iconst (v := 0) hx hb d17 (by decide) ?_
        refine W.widen (k := hC h2 - hC hp) (n := hSl h2 - hSl hp) (by omega) (by omega) ?_
        refine vx_ret (W.iret hx hb B.returns (fun t2 ht hW => ?_) hS2.2.2 d18 B.notSynchronized)
        have hk3 : Hok L xs sb ad' (hSet h2 o (.inl (1, nn, .inr (.inl (vp_updL f 0 w.toInt64))))) := Hok_set hw2.2.2.2.2.2 ho2 trivial (fun a z => by cases z)
        refine ⟨⟨ad', rfl, hag, ⟨?_, va_K.moved hW.alike hK, ?_, by rw [ht]; exact Ev_moved hW.alike (Ev_kept hE hS2), Nw_warm hW hN, hk3⟩, vals_noref_i _⟩, hS2.F ht⟩
        · rw [ht, ws_set ho2]; exact hP2
        · rw [ws_set ho2]; exact hD2
      | _ => exact hz.elim
section R19
variable {p : Program} {l : Launch} {e : Env} {R : Room} {s : State} {m : MethodId} {args : Array Value} {below : List Frame} {meth : Method} {c : Code} {Q : State → Prop}
variable {D : va_G} {tc : Nat → ClassId} {b0 sb L : Nat} {xs : Nat → Int32} {n0 : Nat} {ad0 : Nat → Nat} {c0 s0 d : Nat} {hp' : Hp}
set_option maxHeartbeats 2000000 in
theorem rule19 (hls : l.stackTraces = false) (hcl : ∀ n', CallOK l D tc b0 sb L xs n') (C : Cxf p s m args meth c D tc b0 sb L xs 240) (hR : d + 20 ≤ R.frames ∧ 64 * d + 1000 ≤ R.locals) (hB : hC hp' ≤ 700000 ∧ hC hp' ≤ c0 + R.cells ∧ hSl hp' ≤ s0 + R.slots) :
    Rule19 p l e R s m args below meth c Q D tc b0 sb L xs 240 n0 ad0 c0 s0 d hp' := by
  intro n pc ix len a b cc o x p0 p1 t fs lm hp h2 d' rv ad H locs cells slots ls hd _ hfe hdk hcs hx0 hlen hr hle F z h3 hz kk
  subst hd
  obtain ⟨hx, hb, hml, hown, hts, hini, hK, hEv, hNw⟩ := id C
  have hle1 := run_mono _ _ _ _ _ _ _ _ _ hr
  obtain ⟨z1, z2, z3⟩ := id hle1
  obtain ⟨z4, z5, z6⟩ := id hle
  have hcc : c0 + cells = hC hp := F.2.2.2.2.2.2.2.1
  have hss : s0 + slots = hSl hp := F.2.2.2.2.2.2.2.2.1
  have hk := F.2.2.2.2.1
  have hOs := F.2.2.2.2.2.2.1
  have hdec : decode cL_law pc = .ok (.invokestatic ix, 3) := okD_at hdk 2 rfl
  have hox : x < hp.1 := Gd_obj hk.2.1 hx0 (by decide)
  have hcsr : ((t.map (rn ad)).map fun v => v.category).sum ≤ 8 := by rw [rn_cs]; exact hcs
  have ht : ∀ v ∈ t, vO hp.1 v := tail_O (tail_O (tail_O (tail_O hOs)))
  have hgood : ∀ {y : MethodName} {cL : ByteArray}, Cond.codeWith y cL 5 (some .int) [(0, 10, 13, 13)] ∈ TB → Cond.methodLink RL ix y ∈ TB → Cond.static y ∈ TB → y.cls = RL → GoodIn TB (va_wsS RL ix y (wsLL y cL)) := by
    intro y cL q1 q2 q3 q4 w hw
    simp only [va_wsS, wsLL, List.cons_append, List.nil_append, List.mem_cons] at hw
    have hm : w ∈ TB := by
      rcases hw with rfl | rfl | rfl | rfl | hw
      · exact q2
      · exact q3
      · rw [q4]; exact tb_Li
      · exact q1
      · exact hw
    exact ⟨hm, good_of_word (List.mem_filter.mp hm).2⟩
  -- the value and the heap behind it
  have hle3 : hLe h2 h3 ∧ hC h3 = hC h2 ∧ hSl h3 = hSl h2 := by
    cases rv with
    | none => obtain ⟨-, rfl⟩ := hz; exact ⟨hLe_rf _, rfl, rfl⟩
    | some v => cases v with
      | none => exact hz.elim
      | some w => cases w with
        | int w => obtain ⟨nn, f, e1, e2, -, rfl⟩ := hz; exact ⟨hLe_set _ _ _, rfl, rfl⟩
        | _ => exact hz.elim
  obtain ⟨hle3, hc3, hs3⟩ := hle3
  have main : ∀ {y : MethodName} {cL : ByteArray}, Cond.codeWith y cL 5 (some .int) [(0, 10, 13, 13)] ∈ TB → Cond.methodLink RL ix y ∈ TB → Cond.static y ∈ TB → y.cls = RL → (parseMethodDescriptor y.desc).map (fun d => d.parameters.length) = some 4 →
      vx_Met l y (wsLL y cL) (rmO (d' + 1) (hC h2 - hC hp) (hSl h2 - hSl hp)) (va_Pc ([.ref x, .int p0, .int p1, .ref o].map (rn ad)) (Wd D tc b0 sb L xs ad hp)) (QcO D tc b0 sb L xs ad hp.1 (some (.int z)) h3) (fun _ _ _ => False) (hC h2 - hC hp) (hSl h2 - hSl hp) (fun q => b0 ≤ q) →
      W p l e R s m args below meth c H locs cells slots Q (F0 m pc ls ((.ref o :: .int p1 :: .int p0 :: .ref x :: t).map (rn ad))) := by
    intro y cL q1 q2 q3 q4 q5 hmet
    have hrun := vx_runSX (R := R) (below := below) (p := p) (e := e) (H := H) (locs := locs) (cells := cells) (slots := slots) (meth := meth) (index := ix) (rest := t.map (rn ad)) (As := [.ref (ad x), .int p0, .int p1, .ref (ad o)]) (g := F0 m pc ls ((.ref o :: .int p1 :: .int p0 :: .ref x :: t).map (rn ad))) ⟨hx, hb, hml, hown, hts⟩ hmet
      (vx_cwSW 4 hts (hgood q1 q2 q3 q4) rfl rfl rfl ⟨by rw [q4]; decide +kernel, by rw [q4]; decide +kernel, q5⟩ ⟨by simp only [rmO]; omega, by simp only [rmO]; omega⟩) ⟨wd_blind _ _, fun U hU hW => ⟨rfl, Frm_wd F hK hEv hNw hU hW⟩⟩ rfl rfl F.2.2.2.1.2.1 rfl (lv_room (m := m) (pc := pc) (ls := ls) hcsr) hdec ⟨by omega, by omega⟩
    intro T hT X
    rcases hrun T hT X with ⟨v', st₀, t2, T', L1, h0, X', hL, e1, e2, ⟨⟨ad', hv, hag, hw, hnr⟩, hF⟩, st⟩ | ⟨q, st₀, t2, T', L1, E, ce, h0, X', hL, e1, e2, hxc, -⟩
    · cases hv
      obtain ⟨k1, k2, k3⟩ := vx_keep h0 e1 F.2.2.1 (fun _ _ z => z) (fun _ z => z) hL hF
      have hle4 : hLe hp h3 := hLe_tr hle1 hle3
      rw [e1] at k3
      have F3 := Frm_back (st' := .int z :: t) F hle4 hag hw k3 (cons_O (vO_int _ _) (fun w hw => vO_mono (ht w hw) hle4.1))
      rw [hc3, hs3] at F3
      have h9 := kk ad' t2.heap (locs ++ L1) _ _ F3
      rw [List.map_cons, List.map_congr_left (g := rn ad) (fun w hw => rn_ag hag (ht w hw))] at h9
      obtain ⟨t3, a1, b1⟩ := h9 T' e1 X'
      exact ⟨t3, st t3 a1, b1⟩
    · exact hxc.elim
  have hm := List.all_eq_true.mp th_law _ (fe_in hfe)
  simp only [Bool.or_eq_true, Bool.and_eq_true, decide_eq_true_eq] at hm
  have hlaw : (ix = 36 ∧ b = 79) ∨ (ix = 46 ∧ b = 80) := by
    rcases hm with (hm | hm) | hm
    · simp at hm
    · exact Or.inl ⟨by have := hm.1; cases this; rfl, Nat.eq_of_beq_eq_true hm.2⟩
    · exact Or.inr ⟨by have := hm.1; cases this; rfl, Nat.eq_of_beq_eq_true hm.2⟩
  have hb0 : isLS b := hlaw.imp (fun h => h.2) (fun h => h.2)
  have hB2 : hC h2 ≤ 700000 := Nat.le_trans z5 hB.1
  have ho := hOs _ List.mem_cons_self o rfl
  rcases hlaw with ⟨rfl, rfl⟩ | ⟨rfl, rfl⟩
  · exact main tb_Lc_lot tb_Lm_lot tb_Ls_lot rfl (by decide +kernel) (lawLS l hls D tc b0 sb L xs (Or.inl rfl) hcl rfl (by decide +kernel) tb_Lv_lot tb_Lc_lot (by decide +kernel) (by decide +kernel) (by decide +kernel) (by decide +kernel) (by decide +kernel) (by decide +kernel) (by decide +kernel) (by decide +kernel) (by decide +kernel) (by decide +kernel) (by decide +kernel) (by decide +kernel) (by decide +kernel) (by decide +kernel) hx0 ⟨hox, ho⟩ hlen hr hB2 hz)
  · exact main tb_Lc_ship tb_Lm_ship tb_Ls_ship rfl (by decide +kernel) (lawLS l hls D tc b0 sb L xs (Or.inr rfl) hcl rfl (by decide +kernel) tb_Lv_ship tb_Lc_ship (by decide +kernel) (by decide +kernel) (by decide +kernel) (by decide +kernel) (by decide +kernel) (by decide +kernel) (by decide +kernel) (by decide +kernel) (by decide +kernel) (by decide +kernel) (by decide +kernel) (by decide +kernel) (by decide +kernel) (by decide +kernel) hx0 ⟨hox, ho⟩ hlen hr hB2 hz)
end R19
end
section
/-! THE CLAIM OUT OF ONE WALK OF THE LAW'S BODY. Your part is whole_start (and what it stands on); all else here is the same for every law, but numbers. -/
def R_law : String := "BlendYardLaw"
def lw_P (b : Addr) (xs : List Int32) (args : Array Value) (s : State) : Prop := args = #[.ref b] ∧ s.IntsAt b xs ∧ xs.length ≤ 7 ∧ (Jvm.Cond.and given_1 narrow_1).before args s = true
def lw_Q (_ : Array Value) (s : State) (o : Outcome) (t : State) : Prop := o = .returned (some (.int 1)) ∧ Framed s o t [] 600002 7302232
def lw_Z (below : List Frame) (a : Array Value) (s : State) : State → Prop := fun t => ∃ o, t.status = .running ∧ Ended t below o ∧ lw_Q a s o t
/-- the law's own end, with 1 on the stack, nothing written that was there before, its room as the claim has it -/
theorem lw_ret {p : Program} {l : Launch} {e : Env} {s : State} {m : MethodId} {below : List Frame} {meth : Method} {c : Code} {b : Nat} (hx : p.tables.exec = Jvm.exec) (hb : c.code = code) (hr : meth.sig.returnType = ret) (hlocks : meth.locks = false) {pc : Nat} {H : Heap} {ls : Array Slot} (hdg : decode code pc = .ok (.ireturn, 1)) : W p l e room_1 s m #[Value.ref b] below meth c H [] 600002 7302232 (lw_Z below #[Value.ref b] s) (F0 m pc ls [.int 1]) := by
  intro T hT X
  obtain ⟨fs, hret, hrun, hended, hW, hframe⟩ := X.leave (v := some (.int 1)) (hlocks := hlocks) (fun h => by rw [hr] at h; cases h)
  have hmeth' : T.vm.method? m = some meth := X.method'
  refine ⟨T.setFrames fs, ?_, .returned (some (.int 1)), hrun, hended, rfl, ⟨_, rfl⟩, hW, hframe⟩
  jvm_step X.here [X.here.top, hx, hb, hdg, hmeth', hr, ret, narrow_b1]
  (try refine ⟨rfl, ?_⟩); (try refine ⟨rfl, ?_⟩)
  first | (intro acts; rw [hret _ acts rfl rfl rfl]) | rw [hret _ _ rfl rfl rfl]
  exact Steps.refl _
/-- what holds at the law's entry: the machine, the code, the tables' words (any of lw_tbl by 'hts w (by decide +kernel)'), the script of L ints xs at the cell b, what the Statement gives of the start (any of its parts by flat_of_before) -/
def lw_At (p : Program) (s : State) (m : MethodId) (meth : Method) (c : Code) (b L : Nat) (xs : Nat → Int32) : Prop :=
  p.tables.exec = Jvm.exec ∧ c.code = code ∧ meth.sig.returnType = ret ∧ c.maxLocals = 7 ∧ s.vm.findClass R_law = some m.cls ∧ (∀ w ∈ lw_tbl, w.before #[Value.ref b] s = true) ∧ va_X b L xs s s.heap ∧ b < s.heap.size ∧ meth.locks = false ∧ (Jvm.Cond.and given_1 narrow_1).before #[Value.ref b] s = true
/-- the heap with which the law begins -/
def hp0 (L : Nat) (xs : Nat → Int32) : Hp := (0, 0, 0, fun q => if q = SCR then .inl (7, L, .inl xs) else hDum)
def ad0 (b : Nat) : Nat → Nat := fun q => if q = SCR then b else 0
set_option maxRecDepth 100000 in
theorem tb_st : ∀ q ∈ STB, Cond.laysStatic "BlendYardModel" q.1 "I" ∈ lw_tbl := by
  have h : STB.all (fun q => decide (Cond.laysStatic "BlendYardModel" q.1 "I" ∈ lw_tbl)) = true := by decide +kernel
  exact fun q hq => of_decide_eq_true (List.all_eq_true.mp h q hq)
set_option maxRecDepth 100000 in
theorem fl_st : ∀ q ∈ STB, Cond.eq (.static "BlendYardModel" q.1 "I") (.int q.2) ∈ flatC (Jvm.Cond.and given_1 narrow_1) := by
  have h : STB.all (fun q => decide (Cond.eq (.static "BlendYardModel" q.1 "I") (.int q.2) ∈ flatC (Jvm.Cond.and given_1 narrow_1))) = true := by decide +kernel
  exact fun q hq => of_decide_eq_true (List.all_eq_true.mp h q hq)
set_option maxRecDepth 100000 in
theorem tb_thr : Cond.laysStatic Bundle.tN "UNASSIGNED_STACK" Bundle.steD ∈ lw_tbl ∧ Cond.laysStatic Bundle.tN "SUPPRESSED_SENTINEL" Bundle.listD ∈ lw_tbl ∧ Cond.initialized Bundle.tN ∈ lw_tbl ∧ Cond.arrayOver (.object "BlendYard$State") ∈ lw_tbl ∧ Cond.initialized "BlendYardModel" ∈ lw_tbl := by decide +kernel
set_option maxRecDepth 100000 in
theorem fl_thr : Cond.isRef (.static Bundle.tN "UNASSIGNED_STACK" Bundle.steD) ∈ flatC (Jvm.Cond.and given_1 narrow_1) ∧ Cond.isRef (.static Bundle.tN "SUPPRESSED_SENTINEL" Bundle.listD) ∈ flatC (Jvm.Cond.and given_1 narrow_1) := by decide +kernel
theorem arr_at {s : State} {args : Array Value} {ty : FieldType} (h : (Cond.arrayClass ty).before args s = true) (h2 : ∀ C, ty ≠ .object C) : ∃ c : ClassId, ArrOfT s c ty ∧ va_RA s c ty := by
  obtain ⟨c, k, comp, h3, h4, h5⟩ := Cond.arrayClass_spec h
  refine ⟨c, fun n z => ⟨fun k h => (by cases h), k, h4, comp, h5⟩, ?_⟩
  cases ty with
  | object C => exact absurd rfl (h2 C)
  | _ => exact h3
theorem arr_atO {s : State} {args : Array Value} {C : String} (h : (Cond.arrayOver (.object C)).before args s = true) : ∃ c : ClassId, ArrOfT s c (.object C) ∧ va_RA s c (.object C) := by
  obtain ⟨comp, c, k, h1, h2, h3, h4, h5⟩ := Cond.arrayOver_spec h
  exact ⟨c, fun n z => ⟨fun k h => (by cases h), k, h3, comp, h4⟩, k, comp, h3, h4, h1, h5⟩
theorem hO_0 (L : Nat) (xs : Nat → Int32) : hO (hp0 L xs) := by
  intro r
  show eO 0 (if r = SCR then .inl (7, L, .inl xs) else hDum)
  split
  · trivial
  · intro v hv; simp at hv
theorem Gd_0 (L : Nat) (xs : Nat → Int32) (b : Nat) : Gd L xs b (ad0 b) (hp0 L xs) := by
  refine ⟨fun q _ => ?_, by simp [ad0]⟩
  show (if q = SCR then _ else hDum) = hDum ∨ (q = SCR ∧ (if q = SCR then _ else hDum) = _)
  by_cases h : q = SCR
  · right; exact ⟨h, by rw [if_pos h]⟩
  · left; rw [if_neg h]
set_option maxHeartbeats 2000000 in
theorem start_of {p : Program} {e : Env} {s : State} {m : MethodId} {below : List Frame} {meth : Method} {c : Code} (l : Launch) (hflags : l.flags = flags0) {b L : Nat} {xs : Nat → Int32} (C0 : lw_At p s m meth c b L xs) {n d : Nat} {hp' : Hp} (hd : d ≤ 60)
    (hr : run n d 240 0 (enL [.ref SCR] 7) [] (hp0 L xs) = some (some (some (.int 1)), hp')) (hB1 : hC hp' ≤ 600000) (hB2 : hSl hp' ≤ 7200000) :
    W p l e room_1 s m #[Value.ref b] below meth c s.heap [] 0 0 (lw_Z below #[Value.ref b] s) (entryFrame m ([Value.ref b] : List Value).toArray 7) := by
  obtain ⟨hx, hb, hrt, hml, hown, hts, hX, hbl, hlocks, hgv⟩ := C0
  have hs := flat_of_before _ hgv
  have hls : l.stackTraces = false := by rw [Launch.stackTraces, hflags]; decide +kernel
  have htB : ∀ w ∈ TB, w.before #[Value.ref b] s = true := fun w hw => hts w (List.mem_filter.mp hw).1
  have hcls : ∀ k : Nat, ∃ y : ClassId × (Nat → Nat), ∀ q : vw_C, vwCl[k]? = some q → u_Kn s q.1 q.2.1 q.2.2 y.1 y.2 := by
    intro k
    cases hq : vwCl[k]? with
    | none => exact ⟨(0, fun _ => 0), fun q h => by cases h⟩
    | some q =>
      obtain ⟨C, T, N⟩ := q
      obtain ⟨w1, w2, w3⟩ := cls_words k C T N hq
      obtain ⟨c1, i1, h1⟩ := u_known (C := C) (T := T) (N := N) htB w1 (htB _ w2)
      exact ⟨(c1, i1), fun q h => by cases h; exact h1⟩
  obtain ⟨a0, a01, a02⟩ := arr_at (htB _ tb_arr_int) (fun C z => by cases z)
  obtain ⟨a1, a11, a12⟩ := arr_at (htB _ tb_arr_long) (fun C z => by cases z)
  obtain ⟨a2, a21, a22⟩ := arr_at (htB _ tb_arr_byte) (fun C z => by cases z)
  obtain ⟨a3, a31, a32⟩ := arr_at (htB _ tb_arr_boolean) (fun C z => by cases z)
  obtain ⟨t1, t2, t3, t4, t5⟩ := tb_thr
  obtain ⟨a4, a41, a42⟩ := arr_atO (hts _ t4)
  obtain ⟨D, hD⟩ : ∃ D : va_G, ∀ (k : Nat) (q : vw_C), vwCl[k]? = some q → u_Kn s q.1 q.2.1 q.2.2 (D.1 k) (D.2 k) := ⟨(fun k => (Classical.choose (hcls k)).1, fun k => (Classical.choose (hcls k)).2), fun k q h => Classical.choose_spec (hcls k) q h⟩
  obtain ⟨tc, htc⟩ : ∃ tc : Nat → ClassId, tc 0 = a0 ∧ tc 1 = a1 ∧ tc 2 = a2 ∧ tc 3 = a3 ∧ tc 4 = a4 := ⟨fun k => if k = 0 then a0 else if k = 1 then a1 else if k = 2 then a2 else if k = 3 then a3 else a4, rfl, rfl, rfl, rfl, rfl⟩
  obtain ⟨rfl, rfl, rfl, rfl, rfl⟩ := htc
  have hK : va_K D vwCl (tysL tc) s := by
    refine ⟨hD, fun k q h => ?_⟩
    match k, h with
    | 0, h => cases h; exact ⟨a01, a02⟩
    | 1, h => cases h; exact ⟨a11, a12⟩
    | 2, h => cases h; exact ⟨a21, a22⟩
    | 3, h => cases h; exact ⟨a31, a32⟩
    | 4, h => cases h; exact ⟨a41, a42⟩
    | k + 5, h => simp [tysL] at h
  have hA : ∀ a : Nat, a < s.heap.size → ¬ s.heap.size ≤ a := fun a h => by omega
  have hE : Ev s.heap.size b L xs s s.heap := by
    refine ⟨fun q hq => va_Zof (hts _ (tb_st q hq)) (hts _ t5) (va_eqi (hs _ (fl_st q hq))) hA, hX, vx_Zqof (hts _ t1) (hts _ t3) (hs _ fl_thr.1) hA, vx_Zqof (hts _ t2) (hts _ t3) (hs _ fl_thr.2) hA, Nat.le_refl _, hbl⟩
  have hN : Nw s := by
    refine ⟨fun w hw hi => va_Nw.of (A := #[Value.ref b]) ?_ (hts w hw), hts _ t4⟩
    cases w <;> first | rfl | (simp [isN] at hi)
  have hcl := callOK l D tc s.heap.size b L xs hM_all hE_all
  have C : Cxf p s m #[Value.ref b] meth c D tc s.heap.size b L xs 240 := ⟨hx, hb, hml, hown, htB, fun z => absurd z (by decide +kernel), hK, hE, hN⟩
  have hmono := run_mono _ _ _ _ _ _ _ _ _ hr
  have has : ([Value.ref SCR].map (rn (ad0 b))) = [Value.ref b] := by simp [rn, ad0]
  have hO2 : ∀ v ∈ enL [Value.ref SCR] 7, vO (hp0 L xs).1 v := enP_O _ (enF_O (fun v hv => by
    simp only [List.mem_cons, List.not_mem_nil, or_false] at hv
    rw [hv]
    intro q hq
    cases hq
    exact Or.inr (Nat.le_refl _)))
  have hLR := LR_entry (ad0 b) [.ref SCR] 7 (by decide)
  rw [has] at hLR
  rw [lg_entry_eq]
  have F : Frm s D tc s.heap.size b L xs 240 0 (ad0 b) 0 0 (ad0 b) (hp0 L xs) s.heap [] 0 0 _ (enL [.ref SCR] 7) [] := ⟨fun k q h => by simp [wsO, hp0] at h, ⟨fun i j p q h => by simp [wsO, hp0] at h, fun k q h => by simp [wsO, hp0] at h⟩, va_S.rf, hLR, ⟨hO_0 L xs, Gd_0 L xs b, fun q h => absurd h (Nat.not_lt_zero q)⟩, hO2, fun v hv => by simp at hv, rfl, rfl, ag_rf _ _, Nat.le_refl _⟩
  refine sim C hE_law hM_all (d := d) (c0 := 0) (s0 := 0) (n0 := 0) (ad0 := ad0 b) ⟨by simp only [room_1]; omega, by simp only [room_1]; omega⟩ ⟨by omega, by simp only [room_1]; omega, by simp only [room_1]; omega⟩ (fun ad1 H locs cells slots ls lm st hp1 pc F1 hf => ?_) (fun _ => rule19 hls hcl C ⟨by simp only [room_1]; omega, by simp only [room_1]; omega⟩ ⟨by omega, by simp only [room_1]; omega, by simp only [room_1]; omega⟩) n (fun n' _ => hcl n') 0 _ _ _ hr _ _ _ _ _ _ F
  obtain ⟨rfl, -, rfl, hdec⟩ := hf
  have hc1 : 0 + cells = hC hp1 := F1.2.2.2.2.2.2.2.1
  have hs1 : 0 + slots = hSl hp1 := F1.2.2.2.2.2.2.2.2.1
  refine va_forget F1.2.2.1.2.2 (W.widen (k := 600002) (n := 7302232) (by omega) (by omega) ?_)
  exact lw_ret hx hb hrt hlocks hdec
end
section
set_option maxHeartbeats 8000000 in
theorem step_map {R R' : Type} (ρ : R → R' → Prop) {fl : R} {fl' : R'} {e : Instr × Nat × Nat × Nat × Nat × Nat} {pc : Nat} {ls st : List Value} {hp : Hp} {K : Nat → List Value → List Value → Hp → R} {K' : Nat → List Value → List Value → Hp → R'} {rt : Option Value → Hp → R} {rt' : Option Value → Hp → R'} {th : Hp → R} {th' : Hp → R'} {cl : Nat → List Value → Hp → (Option Value → Hp → R) → (Hp → R) → R} {cl' : Nat → List Value → Hp → (Option Value → Hp → R') → (Hp → R') → R'}
    (h1 : ρ fl fl') (h2 : ∀ pc ls st hp, ρ (K pc ls st hp) (K' pc ls st hp)) (h3 : ∀ v hp, ρ (rt v hp) (rt' v hp)) (h4 : ∀ hp, ρ (th hp) (th' hp)) (h5 : ∀ j as hp kr kr' kt kt', (∀ v h, ρ (kr v h) (kr' v h)) → (∀ h, ρ (kt h) (kt' h)) → ρ (cl j as hp kr kt) (cl' j as hp kr' kt')) :
    ρ (step fl e pc ls st hp K rt th cl) (step fl' e pc ls st hp K' rt' th' cl') := by
  obtain ⟨i, len, a, b, c, d⟩ := e
  cases i <;> simp only [step] <;> (first | exact h1 | exact h2 _ _ _ _ | skip)
  all_goals (repeat' split)
  all_goals first
    | exact h1
    | exact h2 _ _ _ _
    | exact h3 _ _
    | exact h4 _
    | exact h5 _ _ _ _ _ _ _ (fun v h => h2 _ _ _ _) (fun h => h1)
    | skip
  refine h5 _ _ _ _ _ _ _ (fun v h => ?_) (fun h => h2 _ _ _ _)
  repeat' split
  all_goals first
    | exact h1
    | exact h2 _ _ _ _
/-- the calls of run, by themselves -/
def runC (n d : Nat) (j : Nat) (as : List Value) (hp' : Hp) (kr : Option Value → Hp → Option (Option (Option Value) × Hp)) (kt : Hp → Option (Option (Option Value) × Hp)) : Option (Option (Option Value) × Hp) := match d with
  | 0 => none
  | d' + 1 => match Nat.ble (enF as).length (ML j) with
    | false => none
    | true => match run n d' j 0 (enL as (ML j)) [] hp' with
      | none => none
      | some (some v, h2) => kr v h2
      | some (none, h2) => kt h2
def runR (k : Nat) (v : Option Value) (hp' : Hp) : Option (Option (Option Value) × Hp) := match rvOK (MR k) v with
  | true => some (some v, hp')
  | false => none
theorem run_succ (n d k pc : Nat) (ls st : List Value) (hp : Hp) : run (n + 1) d k pc ls st hp = match fe pc (MC k) with
    | none => none
    | some e => step none e pc ls st hp (run n d k) (runR k) (fun hp' => some (none, hp')) (runC n d) := rfl
theorem run_le : ∀ (n d k pc : Nat) (ls st : List Value) (hp : Hp) (x : Option (Option Value) × Hp), run n d k pc ls st hp = some x → ∀ n' d', n ≤ n' → d ≤ d' → run n' d' k pc ls st hp = some x := by
  intro n
  induction n with
  | zero => intro d k pc ls st hp x h; simp [run] at h
  | succ n ih =>
    intro d k pc ls st hp x h n' d' hn hd
    obtain ⟨m, rfl⟩ : ∃ m, n' = m + 1 := ⟨n' - 1, by omega⟩
    rw [run_succ] at h ⊢
    cases hf : fe pc (MC k) with
    | none => simp [hf] at h
    | some e =>
      simp only [hf] at h ⊢
      have key := step_map (R := Option (Option (Option Value) × Hp)) (R' := Option (Option (Option Value) × Hp)) (fun a b => ∀ y, a = some y → b = some y) (fl := none) (fl' := none) (e := e) (pc := pc) (ls := ls) (st := st) (hp := hp) (K := run n d k) (K' := run m d' k) (rt := runR k) (rt' := runR k) (th := fun hp' => some (none, hp')) (th' := fun hp' => some (none, hp')) (cl := runC n d) (cl' := runC m d')
        (fun y h => h) (fun pc ls st hp y h => ih _ _ _ _ _ _ _ h _ _ (by omega) hd) (fun v hp y h => h) (fun hp y h => h) (fun j as hp kr kr' kt kt' q1 q2 y h => by
          unfold runC at h ⊢
          cases d with
          | zero => cases h
          | succ d0 =>
            obtain ⟨d1, rfl⟩ : ∃ d1, d' = d1 + 1 := ⟨d' - 1, by omega⟩
            simp only at h ⊢
            cases hb : Nat.ble (enF as).length (ML j) with
            | false => simp [hb] at h
            | true =>
              simp only [hb] at h ⊢
              cases hr : run n d0 j 0 (enL as (ML j)) [] hp with
              | none => simp [hr] at h
              | some w =>
                rw [ih _ _ _ _ _ _ _ hr m d1 (by omega) (by omega)]
                obtain ⟨rv, h2⟩ := w
                cases rv with
                | none => simp only [hr] at h; exact q2 _ _ h
                | some v => simp only [hr] at h; exact q1 _ _ _ h)
      exact key x h
/-- a call, and what follows: to be shown of it -/
def wpC (D j : Nat) (as : List Value) (hp : Hp) (kr : Option Value → Hp → Prop) (kt : Hp → Prop) : Prop := ∃ d, D = d + 1 ∧ Nat.ble (enF as).length (ML j) = true ∧ Wp j 0 (enL as (ML j)) [] hp (fun r h2 => match r with
  | some v => kr v h2
  | none => kt h2) d
theorem Wp_step {k pc : Nat} {ls st : List Value} {hp : Hp} {Q : Option (Option Value) → Hp → Prop} {D : Nat} {e : Instr × Nat × Nat × Nat × Nat × Nat} (hf : fe pc (MC k) = some e)
    (h : step False e pc ls st hp (fun pc ls st hp => Wp k pc ls st hp Q D) (fun v hp => rvOK (MR k) v = true ∧ Q (some v) hp) (fun hp => Q none hp) (wpC D)) : Wp k pc ls st hp Q D := by
  have key := step_map (R := Prop) (R' := Nat → Option (Option (Option Value) × Hp)) (fun P f => P → ∃ n r hp', (∀ m, n ≤ m → f m = some (r, hp')) ∧ Q r hp') (fl := False) (fl' := fun _ => none) (e := e) (pc := pc) (ls := ls) (st := st) (hp := hp)
    (K := fun pc ls st hp => Wp k pc ls st hp Q D) (K' := fun pc ls st hp m => run m D k pc ls st hp) (rt := fun v hp => rvOK (MR k) v = true ∧ Q (some v) hp) (rt' := fun v hp _ => runR k v hp) (th := fun hp => Q none hp) (th' := fun hp _ => some (none, hp)) (cl := wpC D) (cl' := fun j as hp kr kt m => runC m D j as hp (fun v h => kr v h m) (fun h => kt h m))
    (fun h => h.elim) (fun pc ls st hp ⟨n, r, hp', h1, h2⟩ => ⟨n, r, hp', fun m hm => run_le _ _ _ _ _ _ _ _ h1 _ _ hm (Nat.le_refl _), h2⟩)
    (fun v hp ⟨h1, h2⟩ => ⟨0, some v, hp, fun m _ => by simp [runR, h1], h2⟩) (fun hp h => ⟨0, none, hp, fun _ _ => rfl, h⟩)
    (fun j as hp kr kr' kt kt' q1 q2 ⟨d, hd, hb, n, r, h2, hr, hq⟩ => by
      subst hd
      cases r with
      | none =>
        obtain ⟨n1, r1, hp1, w1, w2⟩ := q2 h2 hq
        refine ⟨max n n1, r1, hp1, fun m hm => ?_, w2⟩
        simp only [runC, hb]
        rw [run_le _ _ _ _ _ _ _ _ hr m d (by omega) (Nat.le_refl _)]
        exact w1 m (by omega)
      | some v =>
        obtain ⟨n1, r1, hp1, w1, w2⟩ := q1 v h2 hq
        refine ⟨max n n1, r1, hp1, fun m hm => ?_, w2⟩
        simp only [runC, hb]
        rw [run_le _ _ _ _ _ _ _ _ hr m d (by omega) (Nat.le_refl _)]
        exact w1 m (by omega)) h
  obtain ⟨n, r, hp', h1, h2⟩ := key
  have key2 := step_map (R := Nat → Option (Option (Option Value) × Hp)) (R' := Option (Option (Option Value) × Hp)) (fun f o => f n = o) (fl := fun _ => none) (fl' := none) (e := e) (pc := pc) (ls := ls) (st := st) (hp := hp)
    (K := fun pc ls st hp m => run m D k pc ls st hp) (K' := run n D k) (rt := fun v hp _ => runR k v hp) (rt' := runR k) (th := fun hp _ => some (none, hp)) (th' := fun hp => some (none, hp)) (cl := fun j as hp kr kt m => runC m D j as hp (fun v h => kr v h m) (fun h => kt h m)) (cl' := runC n D)
    rfl (fun _ _ _ _ => rfl) (fun _ _ => rfl) (fun _ => rfl) (fun j as hp kr kr' kt kt' q1 q2 => by
      have e1 : (fun v h => kr v h n) = kr' := by funext v h; exact q1 v h
      have e2 : (fun h => kt h n) = kt' := by funext h; exact q2 h
      show runC n D j as hp (fun v h => kr v h n) (fun h => kt h n) = _
      rw [e1, e2])
  refine ⟨n + 1, r, hp', ?_, h2⟩
  rw [run_succ, hf]
  simp only
  rw [← key2]
  exact h1 n (Nat.le_refl _)
theorem Wp_mono {k pc : Nat} {ls st : List Value} {hp : Hp} {Q Q' : Option (Option Value) → Hp → Prop} {D D' : Nat} (h : Wp k pc ls st hp Q D) (hd : D ≤ D') (hq : ∀ r hp', Q r hp' → Q' r hp') : Wp k pc ls st hp Q' D' := by
  obtain ⟨n, r, hp', h1, h2⟩ := h
  exact ⟨n, r, hp', run_le _ _ _ _ _ _ _ _ h1 _ _ (Nat.le_refl _) hd, hq _ _ h2⟩
/-- straight on, until a place of the list -/
def seg : Nat → List Nat → Nat → Nat → List Value → List Value → Hp → (Option (Option Value) → Hp → Prop) → Nat → Prop
  | 0, _, k, pc, ls, st, hp, Q, D => Wp k pc ls st hp Q D
  | n + 1, stops, k, pc, ls, st, hp, Q, D => match fe pc (MC k) with
    | none => False
    | some e => step False e pc ls st hp (fun pc' ls' st' hp' => match stops.contains pc' with
      | true => Wp k pc' ls' st' hp' Q D
      | false => seg n stops k pc' ls' st' hp' Q D) (fun v hp => rvOK (MR k) v = true ∧ Q (some v) hp) (fun hp => Q none hp) (wpC D)
theorem Wp_seg : ∀ (n : Nat) (stops : List Nat) {k pc : Nat} {ls st : List Value} {hp : Hp} {Q : Option (Option Value) → Hp → Prop} {D : Nat}, seg n stops k pc ls st hp Q D → Wp k pc ls st hp Q D := by
  intro n stops
  induction n with
  | zero => intro k pc ls st hp Q D h; exact h
  | succ n ih =>
    intro k pc ls st hp Q D h
    simp only [seg] at h
    cases hf : fe pc (MC k) with
    | none => simp [hf] at h
    | some e =>
      simp only [hf] at h
      refine Wp_step hf ?_
      refine step_map (fun (P P' : Prop) => P → P') (fun z => z) (fun pc' ls' st' hp' z => ?_) (fun _ _ z => z) (fun _ z => z) (fun j as hp kr kr' kt kt' q1 q2 ⟨d, hd, hb, z⟩ => ⟨d, hd, hb, Wp_mono z (Nat.le_refl _) (fun r h2 w => ?_)⟩) h
      · cases hc : stops.contains pc' with
        | true => simp only [hc] at z; exact z
        | false => simp only [hc] at z; exact ih z
      · cases r with
        | none => exact q2 _ w
        | some v => exact q1 _ _ w
end
section
theorem qlit1 : Int32.ofInt 3 = 3 := rfl
theorem qlit2 : (Int8.ofInt 100).toInt32 = 100 := rfl
theorem qlit3 : (Int16.ofInt 600).toInt32 = 600 := rfl
theorem qlit4 : Int32.ofInt (-1) = -1 := rfl
theorem qlit5 : (Int64.ofNat 18446744073709551615) = -1 := rfl
/-- what the heap holds, as rows ask it -/
def hF (hp : Hp) (r b c : Nat) (v : Value) : Prop := ∃ fs, hAt hp r = .inr (b, fs) ∧ fs[c]? = some v
def hB (hp : Hp) (r b c : Nat) : Prop := ∃ fs, hAt hp r = .inr (b, fs) ∧ c < fs.length
def hOb (hp : Hp) (r b : Nat) : Prop := ∃ fs, hAt hp r = .inr (b, fs)
def hPut (hp : Hp) (r c : Nat) (v : Value) : Hp := match hAt hp r with
  | .inr (b, fs) => hSet hp r (.inr (b, fs.set c v))
  | .inl _ => hp
def rdI (hp : Hp) (r : Nat) (j x : Int32) : Prop := ∃ t n f, (t = 0 ∨ t = 7) ∧ hAt hp r = .inl (t, n, .inl f) ∧ inB j n = true ∧ x = f j.toNatClampNeg
def rdB (hp : Hp) (r : Nat) (j x : Int32) : Prop := ∃ t n f, (t = 2 ∨ t = 3) ∧ hAt hp r = .inl (t, n, .inl f) ∧ inB j n = true ∧ x = f j.toNatClampNeg
def rdL (hp : Hp) (r : Nat) (j : Int32) (x : Int64) : Prop := ∃ n f, hAt hp r = .inl (1, n, .inr (.inl f)) ∧ inB j n = true ∧ x = f j.toNatClampNeg
def rdQ (hp : Hp) (r : Nat) (j : Int32) (x : Option Nat) : Prop := ∃ n f, hAt hp r = .inl (4, n, .inr (.inr (.inr (.inr f)))) ∧ inB j n = true ∧ x = f j.toNatClampNeg
def wrI (hp : Hp) (r : Nat) (j : Int32) : Prop := ∃ n f, hAt hp r = .inl (0, n, .inl f) ∧ inB j n = true
def wrB (hp : Hp) (r : Nat) (j : Int32) : Prop := ∃ t n f, (t = 2 ∨ t = 3) ∧ hAt hp r = .inl (t, n, .inl f) ∧ inB j n = true
def wrL (hp : Hp) (r : Nat) (j : Int32) : Prop := ∃ n f, hAt hp r = .inl (1, n, .inr (.inl f)) ∧ inB j n = true
def wrQ (hp : Hp) (r : Nat) (j : Int32) (q : Nat) : Prop := (∃ n f, hAt hp r = .inl (4, n, .inr (.inr (.inr (.inr f)))) ∧ inB j n = true) ∧ hOb hp q 5
def stI (hp : Hp) (r : Nat) (j x : Int32) : Hp := match hAt hp r with
  | .inl (t, n, .inl f) => hSet hp r (.inl (t, n, .inl (upd f j.toNatClampNeg x)))
  | _ => hp
def stB (hp : Hp) (r : Nat) (j x : Int32) : Hp := match hAt hp r with
  | .inl (2, n, .inl f) => hSet hp r (.inl (2, n, .inl (upd f j.toNatClampNeg (vp_nar .byte x))))
  | .inl (3, n, .inl f) => hSet hp r (.inl (3, n, .inl (upd f j.toNatClampNeg (vp_nar .boolean x))))
  | _ => hp
def stLg (hp : Hp) (r : Nat) (j : Int32) (x : Int64) : Hp := match hAt hp r with
  | .inl (1, n, .inr (.inl f)) => hSet hp r (.inl (1, n, .inr (.inl (vp_updL f j.toNatClampNeg x))))
  | _ => hp
def stQ (hp : Hp) (r : Nat) (j : Int32) (q : Nat) : Hp := match hAt hp r with
  | .inl (4, n, .inr (.inr (.inr (.inr f)))) => hSet hp r (.inl (4, n, .inr (.inr (.inr (.inr (va_up f j.toNatClampNeg (some q)))))))
  | _ => hp
def lnI (hp : Hp) (r n : Nat) : Prop := ∃ t f, (t = 0 ∨ t = 7) ∧ hAt hp r = .inl (t, n, .inl f)
def cpI (hp : Hp) (r0 : Nat) (sp : Int32) (r1 : Nat) (dp n : Int32) : Prop := ∃ n0 n1 f g, hAt hp r0 = .inl (0, n0, .inl f) ∧ hAt hp r1 = .inl (0, n1, .inl g) ∧ ¬ sp < 0 ∧ ¬ dp < 0 ∧ ¬ n < 0 ∧ sp.toNatClampNeg + n.toNatClampNeg ≤ n0 ∧ dp.toNatClampNeg + n.toNatClampNeg ≤ n1
def cpS (hp : Hp) (r0 : Nat) (sp : Int32) (r1 : Nat) (dp n : Int32) : Hp := match hAt hp r0, hAt hp r1 with
  | .inl (_, _, .inl f), .inl (t, n1, .inl g) => hSet hp r1 (.inl (t, n1, .inl (va_cpy f g sp.toNatClampNeg dp.toNatClampNeg n.toNatClampNeg)))
  | _, _ => hp
def wpI (D j : Nat) (as : List Value) (hp : Hp) (k : Int32 → Hp → Prop) : Prop := wpC D j as hp (fun v h => ∃ x, v = some (.int x) ∧ k x h) (fun _ => False)
def wpL (D j : Nat) (as : List Value) (hp : Hp) (k : Int64 → Hp → Prop) : Prop := wpC D j as hp (fun v h => ∃ x, v = some (.long x) ∧ k x h) (fun _ => False)
def wpV (D j : Nat) (as : List Value) (hp : Hp) (k : Hp → Prop) : Prop := wpC D j as hp (fun v h => v = none ∧ k h) (fun _ => False)
def br (c : Prop) (A B : Prop) : Prop := (c → A) ∧ (¬ c → B)
def callP (D b : Nat) (as : List Value) (hp : Hp) (K : List Value → Hp → Prop) : Prop := match MR b with
  | none => wpV D b as hp (fun h => K [] h)
  | some .long => wpL D b as hp (fun x h => K [.long x] h)
  | _ => wpI D b as hp (fun x h => K [.int x] h)
def stp (D : Nat) (e : Instr × Nat × Nat × Nat × Nat × Nat) (pc : Nat) (ls st : List Value) (hp : Hp) (K : Nat → List Value → List Value → Hp → Prop) (rt : Option Value → Hp → Prop) (th : Hp → Prop) : Prop :=
  match e with
  | (i, len, a, b, c, d) =>
  match i with
  | .getfield _ => match d, st with
    | 1, .ref r :: t => ∃ x : Int64, hF hp r b c (.long x) ∧ K (pc + 3) ls (.long x :: t) hp
    | 3, .ref r :: t => ∃ q : Nat, hF hp r b c (.ref q) ∧ K (pc + 3) ls (.ref q :: t) hp
    | _, .ref r :: t => ∃ x : Int32, hF hp r b c (.int x) ∧ K (pc + 3) ls (.int x :: t) hp
    | _, _ => False
  | .putfield _ => match st with
    | v :: .ref r :: t => hB hp r b c ∧ match chk d v with
      | true => K (pc + 3) ls t (hPut hp r c v)
      | false => False
    | _ => False
  | .iaload => match st with
    | .int j :: .ref r :: t => ∃ x, rdI hp r j x ∧ K (pc + 1) ls (.int x :: t) hp
    | _ => False
  | .baload => match st with
    | .int j :: .ref r :: t => ∃ x, rdB hp r j x ∧ K (pc + 1) ls (.int x :: t) hp
    | _ => False
  | .laload => match st with
    | .int j :: .ref r :: t => ∃ x, rdL hp r j x ∧ K (pc + 1) ls (.long x :: t) hp
    | _ => False
  | .aaload => match st with
    | .int j :: .ref r :: t => ∃ x, rdQ hp r j x ∧ (x = none → K (pc + 1) ls (.null :: t) hp) ∧ ∀ q, x = some q → K (pc + 1) ls (.ref q :: t) hp
    | _ => False
  | .iastore => match st with
    | .int x :: .int j :: .ref r :: t => wrI hp r j ∧ K (pc + 1) ls t (stI hp r j x)
    | _ => False
  | .bastore => match st with
    | .int x :: .int j :: .ref r :: t => wrB hp r j ∧ K (pc + 1) ls t (stB hp r j x)
    | _ => False
  | .lastore => match st with
    | .long x :: .int j :: .ref r :: t => wrL hp r j ∧ K (pc + 1) ls t (stLg hp r j x)
    | _ => False
  | .aastore => match st with
    | .ref q :: .int j :: .ref r :: t => wrQ hp r j q ∧ K (pc + 1) ls t (stQ hp r j q)
    | _ => False
  | .arraylength => match st with
    | .ref r :: t => ∃ n, lnI hp r n ∧ K (pc + 1) ls (.int (Int32.ofNat n) :: t) hp
    | _ => False
  | .newarray at0 => match st with
    | .int n :: t => (¬ n < 0 ∧ n.toNatClampNeg ≤ 100000) ∧ match at0 with
      | .int => ∀ (r : Nat) (h' : Hp), r = hp.1 → h' = hNew hp n.toNatClampNeg (.inl (0, n.toNatClampNeg, .inl (fun _ => 0))) → K (pc + 2) ls (.ref r :: t) h'
      | .long => ∀ (r : Nat) (h' : Hp), r = hp.1 → h' = hNew hp n.toNatClampNeg (.inl (1, n.toNatClampNeg, .inr (.inl (fun _ => 0)))) → K (pc + 2) ls (.ref r :: t) h'
      | .byte => ∀ (r : Nat) (h' : Hp), r = hp.1 → h' = hNew hp n.toNatClampNeg (.inl (2, n.toNatClampNeg, .inl (fun _ => 0))) → K (pc + 2) ls (.ref r :: t) h'
      | .boolean => ∀ (r : Nat) (h' : Hp), r = hp.1 → h' = hNew hp n.toNatClampNeg (.inl (3, n.toNatClampNeg, .inl (fun _ => 0))) → K (pc + 2) ls (.ref r :: t) h'
      | _ => False
    | _ => False
  | .anewarray _ => match st with
    | .int n :: t => (¬ n < 0 ∧ n.toNatClampNeg ≤ 100000) ∧ ∀ (r : Nat) (h' : Hp), r = hp.1 → h' = hNew hp n.toNatClampNeg (.inl (4, n.toNatClampNeg, .inr (.inr (.inr (.inr (fun _ => none)))))) → K (pc + 3) ls (.ref r :: t) h'
    | _ => False
  | .new _ => match d with
    | 0 => ∀ (r : Nat) (h' : Hp), r = hp.1 → h' = hNew hp c (.inr (b, (CI b).1)) → K (pc + 3) ls (.ref r :: st) h'
    | 99 => match Nat.ble (cs st) 8 with
      | true => th (hX hp)
      | false => False
    | _ => False
  | .ifCond cd _ => match st with
    | .int x :: r => match cd with
      | .eq => br (x = 0) (K a ls r hp) (K (pc + 3) ls r hp)
      | .ne => br (x = 0) (K (pc + 3) ls r hp) (K a ls r hp)
      | .lt => br (x < 0) (K a ls r hp) (K (pc + 3) ls r hp)
      | .ge => br (0 ≤ x) (K a ls r hp) (K (pc + 3) ls r hp)
      | .gt => br (0 < x) (K a ls r hp) (K (pc + 3) ls r hp)
      | .le => br (x ≤ 0) (K a ls r hp) (K (pc + 3) ls r hp)
    | _ => False
  | .if_icmp cd _ => match st with
    | .int y :: .int x :: r => match cd with
      | .eq => br (x = y) (K a ls r hp) (K (pc + 3) ls r hp)
      | .ne => br (x = y) (K (pc + 3) ls r hp) (K a ls r hp)
      | .lt => br (x < y) (K a ls r hp) (K (pc + 3) ls r hp)
      | .ge => br (y ≤ x) (K a ls r hp) (K (pc + 3) ls r hp)
      | .gt => br (y < x) (K a ls r hp) (K (pc + 3) ls r hp)
      | .le => br (x ≤ y) (K a ls r hp) (K (pc + 3) ls r hp)
    | _ => False
  | .idiv => match st with
    | .int y :: .int x :: r => ¬ y = 0 ∧ K (pc + 1) ls (.int (x / y) :: r) hp
    | _ => False
  | .irem => match st with
    | .int y :: .int x :: r => ¬ y = 0 ∧ K (pc + 1) ls (.int (x - x / y * y) :: r) hp
    | _ => False
  | .ldiv => match st with
    | .long y :: .long x :: r => ¬ y = 0 ∧ K (pc + 1) ls (.long (x / y) :: r) hp
    | _ => False
  | .lrem => match st with
    | .long y :: .long x :: r => ¬ y = 0 ∧ K (pc + 1) ls (.long (x - x / y * y) :: r) hp
    | _ => False
  | .tableswitch _ lo hi offs => match st with
    | .int x :: r => br (x.toInt < lo ∨ hi < x.toInt) (K a ls r hp) (∃ off, offs[(x.toInt - lo).toNat]? = some off ∧ K ((pc : Int) + off).toNat ls r hp)
    | _ => False
  | .invokevirtual _ => match d with
    | 0 => match Nat.ble c st.length, st.drop c with
      | true, .ref r :: t => match Nat.ble (cs t) 8 with
        | true => hOb hp r (MCi b) ∧ callP D b (.ref r :: (st.take c).reverse) hp (fun v h => K (pc + 3) ls (v ++ t) h)
        | false => False
      | _, _ => False
    | _ => False
  | .invokespecial _ => match d with
    | 16 => (match st with
      | .ref _ :: t => (match Nat.ble (cs t) 8 with
        | true => K (pc + 3) ls t hp
        | false => False)
      | _ => False)
    | 2 => (match Nat.ble c st.length, st.drop c with
      | true, .ref r :: t => (match Nat.ble (cs t) 8 with
        | true => callP D b (.ref r :: (st.take c).reverse) hp (fun v h => K (pc + 3) ls (v ++ t) h)
        | false => False)
      | _, _ => False)
    | 3 => (match Nat.ble c st.length, st.drop c with
      | true, .ref r :: t => (match Nat.ble (cs t) 8 with
        | true => callP D b (.ref r :: (st.take c).reverse) hp (fun v h => K (pc + 3) ls (v ++ t) h)
        | false => False)
      | _, _ => False)
    | _ => False
  | .invokestatic _ => match d with
    | 1 => (match Nat.ble c st.length, Nat.ble (cs (st.drop c)) 8 with
      | true, true => callP D b (st.take c).reverse hp (fun v h => K (pc + 3) ls (v ++ st.drop c) h)
      | _, _ => False)
    | 10 => (match st with
      | .int y :: .int x :: t => (match Nat.ble (cs t) 8 with
        | true => K (pc + 3) ls (.int (if x < y then y else x) :: t) hp
        | false => False)
      | _ => False)
    | 11 => (match st with
      | .int y :: .int x :: t => (match Nat.ble (cs t) 8 with
        | true => K (pc + 3) ls (.int (if y < x then y else x) :: t) hp
        | false => False)
      | _ => False)
    | 12 => (match st with
      | .int x :: t => (match Nat.ble (cs t) 8 with
        | true => K (pc + 3) ls (.int (if 0 ≤ x then x else 0 - x) :: t) hp
        | false => False)
      | _ => False)
    | 13 => (match st with
      | .long x :: t => (match Nat.ble (cs t) 8 with
        | true => K (pc + 3) ls (.long (if 0 < x then x else -x) :: t) hp
        | false => False)
      | _ => False)
    | 14 => (match st with
      | .long y :: .long x :: t => (match Nat.ble (cs t) 8 with
        | true => K (pc + 3) ls (.long (if y < x then x else y) :: t) hp
        | false => False)
      | _ => False)
    | 15 => (match st with
      | .int n :: .int dp :: .ref r1 :: .int sp :: .ref r0 :: t => (match Nat.ble (cs t) 8 with
        | true => cpI hp r0 sp r1 dp n ∧ K (pc + 3) ls t (cpS hp r0 sp r1 dp n)
        | false => False)
      | _ => False)
    | 19 => (match st with
      | .ref o :: .int p1 :: .int p0 :: .ref x :: t => (match Nat.ble (cs t) 8 with
        | true => hOb hp x 7 ∧ wpC D b [.ref x, .int p0, .int p1] hp (fun v h => ∃ w, v = some (.int w) ∧ wrL h o 0 ∧ K (pc + 3) ls (.int 0 :: t) (stLg h o 0 w.toInt64)) (fun h => K (pc + 3) ls (.int 1 :: t) h)
        | false => False)
      | _ => False)
    | _ => False
  | _ => step False (i, len, a, b, c, d) pc ls st hp K rt th (fun _ _ _ _ _ => False)
theorem wpC_mono {D j : Nat} {as : List Value} {hp : Hp} {kr kr' : Option Value → Hp → Prop} {kt kt' : Hp → Prop} (h : wpC D j as hp kr kt) (h1 : ∀ v h, kr v h → kr' v h) (h2 : ∀ h, kt h → kt' h) : wpC D j as hp kr' kt' := by
  obtain ⟨d, hd, hb, h⟩ := h
  refine ⟨d, hd, hb, Wp_mono h (Nat.le_refl _) (fun r h2' w => ?_)⟩
  cases r with
  | none => exact h2 _ w
  | some v => exact h1 _ _ w
theorem callP_C {D b : Nat} {as : List Value} {hp : Hp} {K : List Value → Hp → Prop} (h : callP D b as hp K) : wpC D b as hp (fun v h => K v.toList h) (fun _ => False) := by
  unfold callP at h
  split at h
  · exact wpC_mono h (fun v h q => by rw [q.1]; exact q.2) (fun _ q => q)
  · exact wpC_mono h (fun v h ⟨x, q1, q2⟩ => by rw [q1]; exact q2) (fun _ q => q)
  · exact wpC_mono h (fun v h ⟨x, q1, q2⟩ => by rw [q1]; exact q2) (fun _ q => q)
theorem br_if {c : Prop} [Decidable c] {A B : Prop} (h : br c A B) : if c then A else B := by
  by_cases q : c
  · rw [if_pos q]; exact h.1 q
  · rw [if_neg q]; exact h.2 q
set_option maxHeartbeats 4000000 in
theorem stp_step {D : Nat} {e : Instr × Nat × Nat × Nat × Nat × Nat} {pc : Nat} {ls st : List Value} {hp : Hp} {K : Nat → List Value → List Value → Hp → Prop} {rt : Option Value → Hp → Prop} {th : Hp → Prop} (h : stp D e pc ls st hp K rt th) : step False e pc ls st hp K rt th (wpC D) := by
  have base : ∀ {e : Instr × Nat × Nat × Nat × Nat × Nat}, step False e pc ls st hp K rt th (fun _ _ _ _ _ => False) → step False e pc ls st hp K rt th (wpC D) := fun h => step_map (fun P P' => P → P') (fun z => z) (fun _ _ _ _ z => z) (fun _ _ z => z) (fun _ z => z) (fun _ _ _ _ _ _ _ _ _ z => z.elim) h
  obtain ⟨i, len, a, b, c, d⟩ := e
  cases i with
  | getfield ix =>
    simp only [stp] at h
    simp only [step]
    split at h
    · obtain ⟨x, ⟨fs, h1, h2⟩, h3⟩ := h
      simp only [h1, if_pos, h2]; exact h3
    · obtain ⟨x, ⟨fs, h1, h2⟩, h3⟩ := h
      simp only [h1, if_pos, h2]; exact h3
    · obtain ⟨x, ⟨fs, h1, h2⟩, h3⟩ := h
      simp only [h1, if_pos, h2]; exact h3
    · exact h.elim
  | putfield ix =>
    simp only [stp] at h
    simp only [step]
    split at h
    · obtain ⟨⟨fs, h1, h2⟩, h3⟩ := h
      split at h3
      · rename_i hc
        simp only [hPut, h1] at h3
        simp only [h1, h2, hc, true_and, and_true, if_true]
        exact h3
      · exact h3.elim
    · exact h.elim
  | iaload =>
    simp only [stp] at h
    simp only [step]
    split at h
    · obtain ⟨x, ⟨t, n, f, h0 | h0, h1, h2, h3⟩, h4⟩ := h
      · subst h0; subst h3
        simp only [h1, h2, if_true]; exact h4
      · subst h0; subst h3
        simp only [h1, h2, if_true]; exact h4
    · exact h.elim
  | baload =>
    simp only [stp] at h
    simp only [step]
    split at h
    · obtain ⟨x, ⟨t, n, f, h0 | h0, h1, h2, h3⟩, h4⟩ := h
      · subst h0; subst h3
        simp only [h1, h2, if_true]; exact h4
      · subst h0; subst h3
        simp only [h1, h2, if_true]; exact h4
    · exact h.elim
  | laload =>
    simp only [stp] at h
    simp only [step]
    split at h
    · obtain ⟨x, ⟨n, f, h1, h2, h3⟩, h4⟩ := h
      subst h3
      simp only [h1, h2, if_true]; exact h4
    · exact h.elim
  | aaload =>
    simp only [stp] at h
    simp only [step]
    split at h
    · obtain ⟨x, ⟨n, f, h1, h2, h3⟩, h4, h5⟩ := h
      subst h3
      simp only [h1, h2, if_true]
      cases hq : f (Int32.toNatClampNeg _) with
      | none => exact h4 hq
      | some q => exact h5 q hq
    · exact h.elim
  | iastore =>
    simp only [stp] at h
    simp only [step]
    split at h
    · obtain ⟨⟨n, f, h1, h2⟩, h4⟩ := h
      simp only [stI, h1] at h4
      simp only [h1, h2, if_true]; exact h4
    · exact h.elim
  | bastore =>
    simp only [stp] at h
    simp only [step]
    split at h
    · obtain ⟨⟨t, n, f, h0 | h0, h1, h2⟩, h4⟩ := h
      · subst h0
        simp only [stB, h1] at h4
        simp only [h1, h2, if_true]; exact h4
      · subst h0
        simp only [stB, h1] at h4
        simp only [h1, h2, if_true]; exact h4
    · exact h.elim
  | lastore =>
    simp only [stp] at h
    simp only [step]
    split at h
    · obtain ⟨⟨n, f, h1, h2⟩, h4⟩ := h
      simp only [stLg, h1] at h4
      simp only [h1, h2, if_true]; exact h4
    · exact h.elim
  | aastore =>
    simp only [stp] at h
    simp only [step]
    split at h
    · obtain ⟨⟨⟨n, f, h1, h2⟩, fs, h3⟩, h4⟩ := h
      simp only [stQ, h1] at h4
      simp only [h1, h2, h3, true_and, if_true]; exact h4
    · exact h.elim
  | arraylength =>
    simp only [stp] at h
    simp only [step]
    split at h
    · obtain ⟨n, ⟨t, f, h0 | h0, h1⟩, h4⟩ := h
      · subst h0
        simp only [h1]; exact h4
      · subst h0
        simp only [h1]; exact h4
    · exact h.elim
  | newarray at0 =>
    simp only [stp] at h
    simp only [step]
    split at h
    · obtain ⟨h1, h2⟩ := h
      dsimp only; rw [if_pos h1]
      cases at0 <;> first
        | exact h2 _ _ rfl rfl
        | exact h2.elim
    · exact h.elim
  | anewarray ix =>
    simp only [stp] at h
    simp only [step]
    split at h
    · obtain ⟨h1, h2⟩ := h
      dsimp only; rw [if_pos h1]
      exact h2 _ _ rfl rfl
    · exact h.elim
  | new ix =>
    simp only [stp] at h
    simp only [step]
    split at h
    · exact h _ _ rfl rfl
    · split at h
      · rename_i h3
        have h7 := Nat.le_of_ble_eq_true h3
        simp only [h7, if_true]; exact h
      · exact h.elim
    · exact h.elim
  | ifCond cd off =>
    simp only [stp] at h
    simp only [step]
    split at h
    · cases cd <;> exact br_if h
    · exact h.elim
  | if_icmp cd off =>
    simp only [stp] at h
    simp only [step]
    split at h
    · cases cd <;> exact br_if h
    · exact h.elim
  | idiv =>
    simp only [stp] at h
    simp only [step]
    split at h
    · dsimp only; rw [if_pos h.1]; exact h.2
    · exact h.elim
  | irem =>
    simp only [stp] at h
    simp only [step]
    split at h
    · dsimp only; rw [if_pos h.1]; exact h.2
    · exact h.elim
  | ldiv =>
    simp only [stp] at h
    simp only [step]
    split at h
    · dsimp only; rw [if_pos h.1]; exact h.2
    · exact h.elim
  | lrem =>
    simp only [stp] at h
    simp only [step]
    split at h
    · dsimp only; rw [if_pos h.1]; exact h.2
    · exact h.elim
  | tableswitch dflt lo hi offs =>
    simp only [stp] at h
    simp only [step]
    split at h
    · rename_i x r
      refine br_if ⟨h.1, fun q => ?_⟩
      obtain ⟨off, h1, h2⟩ := h.2 q
      simp only [h1]; exact h2
    · exact h.elim
  | invokevirtual ix =>
    simp only [stp] at h
    simp only [step]
    repeat' split at h
    all_goals first
      | (exact h.elim; done)
      | skip
    rename_i h1 h2 _ h3
    obtain ⟨⟨fs, h4⟩, h5⟩ := h
    have h6 := Nat.le_of_ble_eq_true h1
    have h7 := Nat.le_of_ble_eq_true h3
    simp only [h6, h2, h4, h7, if_true, and_self]
    exact callP_C h5
  | invokespecial ix =>
    simp only [stp] at h
    simp only [step]
    repeat' split at h
    all_goals first
      | (exact h.elim; done)
      | skip
    · rename_i h3
      have h7 := Nat.le_of_ble_eq_true h3
      simp only [h7, if_true]; exact h
    · rename_i h1 h2 _ h3
      have h6 := Nat.le_of_ble_eq_true h1
      have h7 := Nat.le_of_ble_eq_true h3
      simp only [h6, h2, h7, if_true]
      exact callP_C h
    · rename_i h1 h2 _ h3
      have h6 := Nat.le_of_ble_eq_true h1
      have h7 := Nat.le_of_ble_eq_true h3
      simp only [h6, h2, h7, if_true]
      exact callP_C h
  | invokestatic ix =>
    simp only [stp] at h
    simp only [step]
    split at h
    · split at h
      · rename_i h1 h3
        have h6 := Nat.le_of_ble_eq_true h1
        have h7 := Nat.le_of_ble_eq_true h3
        simp only [h6, h7, if_true, and_self]
        exact callP_C h
      · exact h.elim
    · split at h
      · split at h
        · rename_i h3
          have h7 := Nat.le_of_ble_eq_true h3
          simp only [h7, if_true]; exact h
        · exact h.elim
      · exact h.elim
    · split at h
      · split at h
        · rename_i h3
          have h7 := Nat.le_of_ble_eq_true h3
          simp only [h7, if_true]; exact h
        · exact h.elim
      · exact h.elim
    · split at h
      · split at h
        · rename_i h3
          have h7 := Nat.le_of_ble_eq_true h3
          simp only [h7, if_true]; exact h
        · exact h.elim
      · exact h.elim
    · split at h
      · split at h
        · rename_i h3
          have h7 := Nat.le_of_ble_eq_true h3
          simp only [h7, if_true]; exact h
        · exact h.elim
      · exact h.elim
    · split at h
      · split at h
        · rename_i h3
          have h7 := Nat.le_of_ble_eq_true h3
          simp only [h7, if_true]; exact h
        · exact h.elim
      · exact h.elim
    · split at h
      · split at h
        · rename_i h3
          obtain ⟨⟨n0, n1, f, g, q1, q2, q3⟩, h4⟩ := h
          simp only [cpS, q1, q2] at h4
          dsimp only; simp only [q1, q2]
          rw [if_pos ⟨Nat.le_of_ble_eq_true h3, q3⟩]; exact h4
        · exact h.elim
      · exact h.elim
    · split at h
      · split at h
        · rename_i h3
          obtain ⟨⟨fs, q1⟩, h4⟩ := h
          dsimp only; rw [if_pos (Nat.le_of_ble_eq_true h3)]; simp only [q1]
          skip
          refine wpC_mono h4 (fun v h ⟨w, e1, ⟨n, f, e2, e3⟩, e4⟩ => ?_) (fun _ z => z)
          subst e1
          simp only [stLg, e2] at e4
          simp only [e2, e3, if_true]; exact e4
        · exact h.elim
      · exact h.elim
    · exact h.elim
  | _ => exact base h
def sg : Nat → List Nat → Nat → Nat → List Value → List Value → Hp → (Option (Option Value) → Hp → Prop) → Nat → Prop
  | 0, _, k, pc, ls, st, hp, Q, D => Wp k pc ls st hp Q D
  | n + 1, stops, k, pc, ls, st, hp, Q, D => match fe pc (MC k) with
    | none => False
    | some e => stp D e pc ls st hp (fun pc' ls' st' hp' => match stops.contains pc' with
      | true => Wp k pc' ls' st' hp' Q D
      | false => sg n stops k pc' ls' st' hp' Q D) (fun v hp => rvOK (MR k) v = true ∧ Q (some v) hp) (fun hp => Q none hp)
theorem stp_mono {D : Nat} {e : Instr × Nat × Nat × Nat × Nat × Nat} {pc : Nat} {ls st : List Value} {hp : Hp} {K K' : Nat → List Value → List Value → Hp → Prop} {rt : Option Value → Hp → Prop} {th : Hp → Prop} (h : stp D e pc ls st hp K rt th) (hK : ∀ pc ls st hp, K pc ls st hp → K' pc ls st hp) : step False e pc ls st hp K' rt th (wpC D) := by
  have h1 := stp_step h
  exact step_map (fun P P' => P → P') (fun z => z) (fun pc ls st hp z => hK pc ls st hp z) (fun _ _ z => z) (fun _ z => z) (fun j as hp kr kr' kt kt' q1 q2 z => wpC_mono z q1 q2) h1
theorem Wp_sg : ∀ (n : Nat) (stops : List Nat) {k pc : Nat} {ls st : List Value} {hp : Hp} {Q : Option (Option Value) → Hp → Prop} {D : Nat}, sg n stops k pc ls st hp Q D → Wp k pc ls st hp Q D := by
  intro n stops
  induction n with
  | zero => intro k pc ls st hp Q D h; exact h
  | succ n ih =>
    intro k pc ls st hp Q D h
    simp only [sg] at h
    cases hf : fe pc (MC k) with
    | none => simp [hf] at h
    | some e =>
      simp only [hf] at h
      refine Wp_step hf (stp_mono h (fun pc' ls' st' hp' z => ?_))
      cases hc : stops.contains pc' with
      | true => simp only [hc] at z; exact z
      | false => simp only [hc] at z; exact ih z
end
section
theorem dummy19 : True := trivial
end
