-- ===== PART A: goes FIRST, ahead of the names: the tables' words, and 'selects' of the private methods out of them =====
/-- a private method of a class that the tables say can be made, by its rows of tables_1 -/
def lw_okq (q : MethodName × Nat) : Prop := (q.1.cls ≠ "java/lang/invoke/MethodHandle" ∧ q.1.cls ≠ "java/lang/invoke/VarHandle") ∧ Cond.instantiable q.1.cls q.2 ∈ tables_1 ∧ Cond.privateMethod q.1 ∈ tables_1 ∧ Cond.instanceMethod q.1 ∈ tables_1
theorem lw_p0 : lw_okq (⟨"StandStill", "fails", "(I)I"⟩, 10) := ⟨⟨by decide +kernel, by decide +kernel⟩, List.mem_of_getElem? (i := 18) (by decide +kernel), List.mem_of_getElem? (i := 285) (by decide +kernel), List.mem_of_getElem? (i := 286) (by decide +kernel)⟩
theorem lw_p1 : lw_okq (⟨"StandStill$Row", "leastAtZero", "()I"⟩, 10) := ⟨⟨by decide +kernel, by decide +kernel⟩, List.mem_of_getElem? (i := 117) (by decide +kernel), List.mem_of_getElem? (i := 396) (by decide +kernel), List.mem_of_getElem? (i := 397) (by decide +kernel)⟩
theorem lw_p2 : lw_okq (⟨"StandStill$Row", "stir", "(I)V"⟩, 10) := ⟨⟨by decide +kernel, by decide +kernel⟩, List.mem_of_getElem? (i := 117) (by decide +kernel), List.mem_of_getElem? (i := 401) (by decide +kernel), List.mem_of_getElem? (i := 402) (by decide +kernel)⟩
theorem lw_p3 : lw_okq (⟨"StandStill$Row", "lessen", "(II)V"⟩, 10) := ⟨⟨by decide +kernel, by decide +kernel⟩, List.mem_of_getElem? (i := 117) (by decide +kernel), List.mem_of_getElem? (i := 410) (by decide +kernel), List.mem_of_getElem? (i := 411) (by decide +kernel)⟩
theorem lw_p4 : lw_okq (⟨"StandStill$Law", "readEither", "(I)Z"⟩, 9) := ⟨⟨by decide +kernel, by decide +kernel⟩, List.mem_of_getElem? (i := 82) (by decide +kernel), List.mem_of_getElem? (i := 458) (by decide +kernel), List.mem_of_getElem? (i := 459) (by decide +kernel)⟩
theorem lw_p5 : lw_okq (⟨"StandStill$Law", "readBoth", "(I)Z"⟩, 9) := ⟨⟨by decide +kernel, by decide +kernel⟩, List.mem_of_getElem? (i := 82) (by decide +kernel), List.mem_of_getElem? (i := 462) (by decide +kernel), List.mem_of_getElem? (i := 463) (by decide +kernel)⟩
theorem lw_p6 : lw_okq (⟨"StandStill$Law", "readCompared", "(I)Z"⟩, 9) := ⟨⟨by decide +kernel, by decide +kernel⟩, List.mem_of_getElem? (i := 82) (by decide +kernel), List.mem_of_getElem? (i := 466) (by decide +kernel), List.mem_of_getElem? (i := 467) (by decide +kernel)⟩
theorem lw_p7 : lw_okq (⟨"StandStill$Law", "readSum", "(I)Z"⟩, 9) := ⟨⟨by decide +kernel, by decide +kernel⟩, List.mem_of_getElem? (i := 82) (by decide +kernel), List.mem_of_getElem? (i := 470) (by decide +kernel), List.mem_of_getElem? (i := 471) (by decide +kernel)⟩
theorem lw_p8 : lw_okq (⟨"StandStill$Law", "readProduct", "(I)Z"⟩, 9) := ⟨⟨by decide +kernel, by decide +kernel⟩, List.mem_of_getElem? (i := 82) (by decide +kernel), List.mem_of_getElem? (i := 474) (by decide +kernel), List.mem_of_getElem? (i := 475) (by decide +kernel)⟩
theorem lw_p9 : lw_okq (⟨"StandStill$Law", "readUnit", "(I)Z"⟩, 9) := ⟨⟨by decide +kernel, by decide +kernel⟩, List.mem_of_getElem? (i := 82) (by decide +kernel), List.mem_of_getElem? (i := 478) (by decide +kernel), List.mem_of_getElem? (i := 479) (by decide +kernel)⟩
theorem lw_p10 : lw_okq (⟨"StandStill$Law", "seesDigit", "()Z"⟩, 9) := ⟨⟨by decide +kernel, by decide +kernel⟩, List.mem_of_getElem? (i := 82) (by decide +kernel), List.mem_of_getElem? (i := 482) (by decide +kernel), List.mem_of_getElem? (i := 483) (by decide +kernel)⟩
theorem lw_p11 : lw_okq (⟨"StandStill$Law", "nextSign", "()I"⟩, 9) := ⟨⟨by decide +kernel, by decide +kernel⟩, List.mem_of_getElem? (i := 82) (by decide +kernel), List.mem_of_getElem? (i := 486) (by decide +kernel), List.mem_of_getElem? (i := 487) (by decide +kernel)⟩
theorem lw_p12 : lw_okq (⟨"StandStill$Law", "readNumber", "()V"⟩, 9) := ⟨⟨by decide +kernel, by decide +kernel⟩, List.mem_of_getElem? (i := 82) (by decide +kernel), List.mem_of_getElem? (i := 490) (by decide +kernel), List.mem_of_getElem? (i := 491) (by decide +kernel)⟩
theorem lw_p13 : lw_okq (⟨"StandStill$Law", "takeSign", "()I"⟩, 9) := ⟨⟨by decide +kernel, by decide +kernel⟩, List.mem_of_getElem? (i := 82) (by decide +kernel), List.mem_of_getElem? (i := 494) (by decide +kernel), List.mem_of_getElem? (i := 495) (by decide +kernel)⟩
theorem lw_p14 : lw_okq (⟨"StandStill$Law", "write", "(I)V"⟩, 9) := ⟨⟨by decide +kernel, by decide +kernel⟩, List.mem_of_getElem? (i := 82) (by decide +kernel), List.mem_of_getElem? (i := 498) (by decide +kernel), List.mem_of_getElem? (i := 499) (by decide +kernel)⟩
theorem lw_p15 : lw_okq (⟨"StandStill$Law", "sees", "(C)Z"⟩, 9) := ⟨⟨by decide +kernel, by decide +kernel⟩, List.mem_of_getElem? (i := 82) (by decide +kernel), List.mem_of_getElem? (i := 502) (by decide +kernel), List.mem_of_getElem? (i := 503) (by decide +kernel)⟩
def lw_privs_1 : List (MethodName × Nat) := [(⟨"StandStill", "fails", "(I)I"⟩, 10), (⟨"StandStill$Row", "leastAtZero", "()I"⟩, 10), (⟨"StandStill$Row", "stir", "(I)V"⟩, 10), (⟨"StandStill$Row", "lessen", "(II)V"⟩, 10), (⟨"StandStill$Law", "readEither", "(I)Z"⟩, 9), (⟨"StandStill$Law", "readBoth", "(I)Z"⟩, 9), (⟨"StandStill$Law", "readCompared", "(I)Z"⟩, 9), (⟨"StandStill$Law", "readSum", "(I)Z"⟩, 9), (⟨"StandStill$Law", "readProduct", "(I)Z"⟩, 9), (⟨"StandStill$Law", "readUnit", "(I)Z"⟩, 9), (⟨"StandStill$Law", "seesDigit", "()Z"⟩, 9), (⟨"StandStill$Law", "nextSign", "()I"⟩, 9), (⟨"StandStill$Law", "readNumber", "()V"⟩, 9), (⟨"StandStill$Law", "takeSign", "()I"⟩, 9), (⟨"StandStill$Law", "write", "(I)V"⟩, 9), (⟨"StandStill$Law", "sees", "(C)Z"⟩, 9)]
theorem lw_r1 : ∀ q ∈ lw_privs_1, lw_okq q := List.forall_mem_cons.mpr ⟨lw_p0, List.forall_mem_cons.mpr ⟨lw_p1, List.forall_mem_cons.mpr ⟨lw_p2, List.forall_mem_cons.mpr ⟨lw_p3, List.forall_mem_cons.mpr ⟨lw_p4, List.forall_mem_cons.mpr ⟨lw_p5, List.forall_mem_cons.mpr ⟨lw_p6, List.forall_mem_cons.mpr ⟨lw_p7, List.forall_mem_cons.mpr ⟨lw_p8, List.forall_mem_cons.mpr ⟨lw_p9, List.forall_mem_cons.mpr ⟨lw_p10, List.forall_mem_cons.mpr ⟨lw_p11, List.forall_mem_cons.mpr ⟨lw_p12, List.forall_mem_cons.mpr ⟨lw_p13, List.forall_mem_cons.mpr ⟨lw_p14, List.forall_mem_cons.mpr ⟨lw_p15, fun _ h => absurd h List.not_mem_nil⟩⟩⟩⟩⟩⟩⟩⟩⟩⟩⟩⟩⟩⟩⟩⟩
theorem lw_p16 : lw_okq (⟨"StandStill$Law", "readBracket", "(I)Z"⟩, 9) := ⟨⟨by decide +kernel, by decide +kernel⟩, List.mem_of_getElem? (i := 82) (by decide +kernel), List.mem_of_getElem? (i := 506) (by decide +kernel), List.mem_of_getElem? (i := 507) (by decide +kernel)⟩
theorem lw_p17 : lw_okq (⟨"StandStill", "lookAhead", "(I)V"⟩, 10) := ⟨⟨by decide +kernel, by decide +kernel⟩, List.mem_of_getElem? (i := 18) (by decide +kernel), List.mem_of_getElem? (i := 568) (by decide +kernel), List.mem_of_getElem? (i := 569) (by decide +kernel)⟩
theorem lw_p18 : lw_okq (⟨"StandStill", "bestRound", "(II)I"⟩, 10) := ⟨⟨by decide +kernel, by decide +kernel⟩, List.mem_of_getElem? (i := 18) (by decide +kernel), List.mem_of_getElem? (i := 613) (by decide +kernel), List.mem_of_getElem? (i := 614) (by decide +kernel)⟩
theorem lw_p19 : lw_okq (⟨"StandStill", "flyRow", "(II)V"⟩, 10) := ⟨⟨by decide +kernel, by decide +kernel⟩, List.mem_of_getElem? (i := 18) (by decide +kernel), List.mem_of_getElem? (i := 619) (by decide +kernel), List.mem_of_getElem? (i := 620) (by decide +kernel)⟩
theorem lw_p20 : lw_okq (⟨"StandStill", "isEmptiedBy", "(I)Z"⟩, 10) := ⟨⟨by decide +kernel, by decide +kernel⟩, List.mem_of_getElem? (i := 18) (by decide +kernel), List.mem_of_getElem? (i := 638) (by decide +kernel), List.mem_of_getElem? (i := 639) (by decide +kernel)⟩
theorem lw_p21 : lw_okq (⟨"StandStill", "isMissing", "(I)Z"⟩, 10) := ⟨⟨by decide +kernel, by decide +kernel⟩, List.mem_of_getElem? (i := 18) (by decide +kernel), List.mem_of_getElem? (i := 653) (by decide +kernel), List.mem_of_getElem? (i := 654) (by decide +kernel)⟩
theorem lw_p22 : lw_okq (⟨"StandStill", "stand", "(III)Z"⟩, 10) := ⟨⟨by decide +kernel, by decide +kernel⟩, List.mem_of_getElem? (i := 18) (by decide +kernel), List.mem_of_getElem? (i := 787) (by decide +kernel), List.mem_of_getElem? (i := 788) (by decide +kernel)⟩
theorem lw_p23 : lw_okq (⟨"StandStillModel", "lays1", "(III)V"⟩, 21) := ⟨⟨by decide +kernel, by decide +kernel⟩, List.mem_of_getElem? (i := 840) (by decide +kernel), List.mem_of_getElem? (i := 846) (by decide +kernel), List.mem_of_getElem? (i := 847) (by decide +kernel)⟩
theorem lw_p24 : lw_okq (⟨"StandStillModel", "error", "(I)I"⟩, 21) := ⟨⟨by decide +kernel, by decide +kernel⟩, List.mem_of_getElem? (i := 840) (by decide +kernel), List.mem_of_getElem? (i := 921) (by decide +kernel), List.mem_of_getElem? (i := 922) (by decide +kernel)⟩
theorem lw_p25 : lw_okq (⟨"StandStillModel", "whole", "()Z"⟩, 21) := ⟨⟨by decide +kernel, by decide +kernel⟩, List.mem_of_getElem? (i := 840) (by decide +kernel), List.mem_of_getElem? (i := 931) (by decide +kernel), List.mem_of_getElem? (i := 932) (by decide +kernel)⟩
theorem lw_p26 : lw_okq (⟨"StandStillModel", "both", "()Z"⟩, 21) := ⟨⟨by decide +kernel, by decide +kernel⟩, List.mem_of_getElem? (i := 840) (by decide +kernel), List.mem_of_getElem? (i := 935) (by decide +kernel), List.mem_of_getElem? (i := 936) (by decide +kernel)⟩
theorem lw_p27 : lw_okq (⟨"StandStillModel", "compared", "()Z"⟩, 21) := ⟨⟨by decide +kernel, by decide +kernel⟩, List.mem_of_getElem? (i := 840) (by decide +kernel), List.mem_of_getElem? (i := 939) (by decide +kernel), List.mem_of_getElem? (i := 940) (by decide +kernel)⟩
theorem lw_p28 : lw_okq (⟨"StandStillModel", "sum", "()Z"⟩, 21) := ⟨⟨by decide +kernel, by decide +kernel⟩, List.mem_of_getElem? (i := 840) (by decide +kernel), List.mem_of_getElem? (i := 943) (by decide +kernel), List.mem_of_getElem? (i := 944) (by decide +kernel)⟩
theorem lw_p29 : lw_okq (⟨"StandStillModel", "product", "()Z"⟩, 21) := ⟨⟨by decide +kernel, by decide +kernel⟩, List.mem_of_getElem? (i := 840) (by decide +kernel), List.mem_of_getElem? (i := 947) (by decide +kernel), List.mem_of_getElem? (i := 948) (by decide +kernel)⟩
theorem lw_p30 : lw_okq (⟨"StandStillModel", "one", "()Z"⟩, 21) := ⟨⟨by decide +kernel, by decide +kernel⟩, List.mem_of_getElem? (i := 840) (by decide +kernel), List.mem_of_getElem? (i := 951) (by decide +kernel), List.mem_of_getElem? (i := 952) (by decide +kernel)⟩
theorem lw_p31 : lw_okq (⟨"StandStillModel", "look", "()I"⟩, 21) := ⟨⟨by decide +kernel, by decide +kernel⟩, List.mem_of_getElem? (i := 840) (by decide +kernel), List.mem_of_getElem? (i := 955) (by decide +kernel), List.mem_of_getElem? (i := 956) (by decide +kernel)⟩
def lw_privs_2 : List (MethodName × Nat) := [(⟨"StandStill$Law", "readBracket", "(I)Z"⟩, 9), (⟨"StandStill", "lookAhead", "(I)V"⟩, 10), (⟨"StandStill", "bestRound", "(II)I"⟩, 10), (⟨"StandStill", "flyRow", "(II)V"⟩, 10), (⟨"StandStill", "isEmptiedBy", "(I)Z"⟩, 10), (⟨"StandStill", "isMissing", "(I)Z"⟩, 10), (⟨"StandStill", "stand", "(III)Z"⟩, 10), (⟨"StandStillModel", "lays1", "(III)V"⟩, 21), (⟨"StandStillModel", "error", "(I)I"⟩, 21), (⟨"StandStillModel", "whole", "()Z"⟩, 21), (⟨"StandStillModel", "both", "()Z"⟩, 21), (⟨"StandStillModel", "compared", "()Z"⟩, 21), (⟨"StandStillModel", "sum", "()Z"⟩, 21), (⟨"StandStillModel", "product", "()Z"⟩, 21), (⟨"StandStillModel", "one", "()Z"⟩, 21), (⟨"StandStillModel", "look", "()I"⟩, 21)]
theorem lw_r2 : ∀ q ∈ lw_privs_2, lw_okq q := List.forall_mem_cons.mpr ⟨lw_p16, List.forall_mem_cons.mpr ⟨lw_p17, List.forall_mem_cons.mpr ⟨lw_p18, List.forall_mem_cons.mpr ⟨lw_p19, List.forall_mem_cons.mpr ⟨lw_p20, List.forall_mem_cons.mpr ⟨lw_p21, List.forall_mem_cons.mpr ⟨lw_p22, List.forall_mem_cons.mpr ⟨lw_p23, List.forall_mem_cons.mpr ⟨lw_p24, List.forall_mem_cons.mpr ⟨lw_p25, List.forall_mem_cons.mpr ⟨lw_p26, List.forall_mem_cons.mpr ⟨lw_p27, List.forall_mem_cons.mpr ⟨lw_p28, List.forall_mem_cons.mpr ⟨lw_p29, List.forall_mem_cons.mpr ⟨lw_p30, List.forall_mem_cons.mpr ⟨lw_p31, fun _ h => absurd h List.not_mem_nil⟩⟩⟩⟩⟩⟩⟩⟩⟩⟩⟩⟩⟩⟩⟩⟩
theorem lw_p32 : lw_okq (⟨"StandStillModel", "isName", "(I)Z"⟩, 21) := ⟨⟨by decide +kernel, by decide +kernel⟩, List.mem_of_getElem? (i := 840) (by decide +kernel), List.mem_of_getElem? (i := 959) (by decide +kernel), List.mem_of_getElem? (i := 960) (by decide +kernel)⟩
theorem lw_p33 : lw_okq (⟨"StandStillModel", "step1", "(II)V"⟩, 21) := ⟨⟨by decide +kernel, by decide +kernel⟩, List.mem_of_getElem? (i := 840) (by decide +kernel), List.mem_of_getElem? (i := 963) (by decide +kernel), List.mem_of_getElem? (i := 964) (by decide +kernel)⟩
theorem lw_p34 : lw_okq (⟨"StandStillModel", "opens", "()Z"⟩, 21) := ⟨⟨by decide +kernel, by decide +kernel⟩, List.mem_of_getElem? (i := 840) (by decide +kernel), List.mem_of_getElem? (i := 967) (by decide +kernel), List.mem_of_getElem? (i := 968) (by decide +kernel)⟩
theorem lw_p35 : lw_okq (⟨"StandStillModel", "hasText", "(I)Z"⟩, 21) := ⟨⟨by decide +kernel, by decide +kernel⟩, List.mem_of_getElem? (i := 840) (by decide +kernel), List.mem_of_getElem? (i := 975) (by decide +kernel), List.mem_of_getElem? (i := 976) (by decide +kernel)⟩
theorem lw_p36 : lw_okq (⟨"StandStillModel", "its", "(II)I"⟩, 21) := ⟨⟨by decide +kernel, by decide +kernel⟩, List.mem_of_getElem? (i := 840) (by decide +kernel), List.mem_of_getElem? (i := 986) (by decide +kernel), List.mem_of_getElem? (i := 987) (by decide +kernel)⟩
theorem lw_p37 : lw_okq (⟨"StandStillModel", "spends", "(I)I"⟩, 21) := ⟨⟨by decide +kernel, by decide +kernel⟩, List.mem_of_getElem? (i := 840) (by decide +kernel), List.mem_of_getElem? (i := 994) (by decide +kernel), List.mem_of_getElem? (i := 995) (by decide +kernel)⟩
theorem lw_p38 : lw_okq (⟨"StandStillModel", "spendsTold", "(I)I"⟩, 21) := ⟨⟨by decide +kernel, by decide +kernel⟩, List.mem_of_getElem? (i := 840) (by decide +kernel), List.mem_of_getElem? (i := 998) (by decide +kernel), List.mem_of_getElem? (i := 999) (by decide +kernel)⟩
theorem lw_p39 : lw_okq (⟨"StandStillModel", "worked", "(I)I"⟩, 21) := ⟨⟨by decide +kernel, by decide +kernel⟩, List.mem_of_getElem? (i := 840) (by decide +kernel), List.mem_of_getElem? (i := 1002) (by decide +kernel), List.mem_of_getElem? (i := 1003) (by decide +kernel)⟩
theorem lw_p40 : lw_okq (⟨"StandStillModel", "bite", "(I)I"⟩, 21) := ⟨⟨by decide +kernel, by decide +kernel⟩, List.mem_of_getElem? (i := 840) (by decide +kernel), List.mem_of_getElem? (i := 1012) (by decide +kernel), List.mem_of_getElem? (i := 1013) (by decide +kernel)⟩
theorem lw_p41 : lw_okq (⟨"StandStillModel", "stands", "(I)Z"⟩, 21) := ⟨⟨by decide +kernel, by decide +kernel⟩, List.mem_of_getElem? (i := 840) (by decide +kernel), List.mem_of_getElem? (i := 1027) (by decide +kernel), List.mem_of_getElem? (i := 1028) (by decide +kernel)⟩
theorem lw_p42 : lw_okq (⟨"StandStillModel", "settle", "()I"⟩, 21) := ⟨⟨by decide +kernel, by decide +kernel⟩, List.mem_of_getElem? (i := 840) (by decide +kernel), List.mem_of_getElem? (i := 1031) (by decide +kernel), List.mem_of_getElem? (i := 1032) (by decide +kernel)⟩
theorem lw_p43 : lw_okq (⟨"StandStillModel", "stirs", "(I)V"⟩, 21) := ⟨⟨by decide +kernel, by decide +kernel⟩, List.mem_of_getElem? (i := 840) (by decide +kernel), List.mem_of_getElem? (i := 1035) (by decide +kernel), List.mem_of_getElem? (i := 1036) (by decide +kernel)⟩
theorem lw_p44 : lw_okq (⟨"StandStillModel", "shaken", "(II)I"⟩, 21) := ⟨⟨by decide +kernel, by decide +kernel⟩, List.mem_of_getElem? (i := 840) (by decide +kernel), List.mem_of_getElem? (i := 1039) (by decide +kernel), List.mem_of_getElem? (i := 1040) (by decide +kernel)⟩
theorem lw_p45 : lw_okq (⟨"StandStillModel", "loses", "(II)V"⟩, 21) := ⟨⟨by decide +kernel, by decide +kernel⟩, List.mem_of_getElem? (i := 840) (by decide +kernel), List.mem_of_getElem? (i := 1043) (by decide +kernel), List.mem_of_getElem? (i := 1044) (by decide +kernel)⟩
theorem lw_p46 : lw_okq (⟨"StandStillModel", "swaps", "(II)V"⟩, 21) := ⟨⟨by decide +kernel, by decide +kernel⟩, List.mem_of_getElem? (i := 840) (by decide +kernel), List.mem_of_getElem? (i := 1051) (by decide +kernel), List.mem_of_getElem? (i := 1052) (by decide +kernel)⟩
theorem lw_p47 : lw_okq (⟨"StandStillModel", "change1", "(II)I"⟩, 21) := ⟨⟨by decide +kernel, by decide +kernel⟩, List.mem_of_getElem? (i := 840) (by decide +kernel), List.mem_of_getElem? (i := 1063) (by decide +kernel), List.mem_of_getElem? (i := 1064) (by decide +kernel)⟩
def lw_privs_3 : List (MethodName × Nat) := [(⟨"StandStillModel", "isName", "(I)Z"⟩, 21), (⟨"StandStillModel", "step1", "(II)V"⟩, 21), (⟨"StandStillModel", "opens", "()Z"⟩, 21), (⟨"StandStillModel", "hasText", "(I)Z"⟩, 21), (⟨"StandStillModel", "its", "(II)I"⟩, 21), (⟨"StandStillModel", "spends", "(I)I"⟩, 21), (⟨"StandStillModel", "spendsTold", "(I)I"⟩, 21), (⟨"StandStillModel", "worked", "(I)I"⟩, 21), (⟨"StandStillModel", "bite", "(I)I"⟩, 21), (⟨"StandStillModel", "stands", "(I)Z"⟩, 21), (⟨"StandStillModel", "settle", "()I"⟩, 21), (⟨"StandStillModel", "stirs", "(I)V"⟩, 21), (⟨"StandStillModel", "shaken", "(II)I"⟩, 21), (⟨"StandStillModel", "loses", "(II)V"⟩, 21), (⟨"StandStillModel", "swaps", "(II)V"⟩, 21), (⟨"StandStillModel", "change1", "(II)I"⟩, 21)]
theorem lw_r3 : ∀ q ∈ lw_privs_3, lw_okq q := List.forall_mem_cons.mpr ⟨lw_p32, List.forall_mem_cons.mpr ⟨lw_p33, List.forall_mem_cons.mpr ⟨lw_p34, List.forall_mem_cons.mpr ⟨lw_p35, List.forall_mem_cons.mpr ⟨lw_p36, List.forall_mem_cons.mpr ⟨lw_p37, List.forall_mem_cons.mpr ⟨lw_p38, List.forall_mem_cons.mpr ⟨lw_p39, List.forall_mem_cons.mpr ⟨lw_p40, List.forall_mem_cons.mpr ⟨lw_p41, List.forall_mem_cons.mpr ⟨lw_p42, List.forall_mem_cons.mpr ⟨lw_p43, List.forall_mem_cons.mpr ⟨lw_p44, List.forall_mem_cons.mpr ⟨lw_p45, List.forall_mem_cons.mpr ⟨lw_p46, List.forall_mem_cons.mpr ⟨lw_p47, fun _ h => absurd h List.not_mem_nil⟩⟩⟩⟩⟩⟩⟩⟩⟩⟩⟩⟩⟩⟩⟩⟩
theorem lw_p48 : lw_okq (⟨"StandStillModel", "standsAt", "(I)I"⟩, 21) := ⟨⟨by decide +kernel, by decide +kernel⟩, List.mem_of_getElem? (i := 840) (by decide +kernel), List.mem_of_getElem? (i := 1071) (by decide +kernel), List.mem_of_getElem? (i := 1072) (by decide +kernel)⟩
theorem lw_p49 : lw_okq (⟨"StandStillModel", "go", "(I)I"⟩, 21) := ⟨⟨by decide +kernel, by decide +kernel⟩, List.mem_of_getElem? (i := 840) (by decide +kernel), List.mem_of_getElem? (i := 1079) (by decide +kernel), List.mem_of_getElem? (i := 1080) (by decide +kernel)⟩
theorem lw_p50 : lw_okq (⟨"StandStillModel", "minute", "()I"⟩, 21) := ⟨⟨by decide +kernel, by decide +kernel⟩, List.mem_of_getElem? (i := 840) (by decide +kernel), List.mem_of_getElem? (i := 1083) (by decide +kernel), List.mem_of_getElem? (i := 1084) (by decide +kernel)⟩
theorem lw_p51 : lw_okq (⟨"StandStillModel", "flyAt", "(I)I"⟩, 21) := ⟨⟨by decide +kernel, by decide +kernel⟩, List.mem_of_getElem? (i := 840) (by decide +kernel), List.mem_of_getElem? (i := 1091) (by decide +kernel), List.mem_of_getElem? (i := 1092) (by decide +kernel)⟩
theorem lw_p52 : lw_okq (⟨"StandStillModel", "pokes", "(I)I"⟩, 21) := ⟨⟨by decide +kernel, by decide +kernel⟩, List.mem_of_getElem? (i := 840) (by decide +kernel), List.mem_of_getElem? (i := 1099) (by decide +kernel), List.mem_of_getElem? (i := 1100) (by decide +kernel)⟩
theorem lw_p53 : lw_okq (⟨"StandStillModel", "draw", "()I"⟩, 21) := ⟨⟨by decide +kernel, by decide +kernel⟩, List.mem_of_getElem? (i := 840) (by decide +kernel), List.mem_of_getElem? (i := 1107) (by decide +kernel), List.mem_of_getElem? (i := 1108) (by decide +kernel)⟩
theorem lw_p54 : lw_okq (⟨"StandStillModel", "layDown", "(I)V"⟩, 21) := ⟨⟨by decide +kernel, by decide +kernel⟩, List.mem_of_getElem? (i := 840) (by decide +kernel), List.mem_of_getElem? (i := 1120) (by decide +kernel), List.mem_of_getElem? (i := 1121) (by decide +kernel)⟩
theorem lw_p55 : lw_okq (⟨"StandStillModel", "layBack", "(I)V"⟩, 21) := ⟨⟨by decide +kernel, by decide +kernel⟩, List.mem_of_getElem? (i := 840) (by decide +kernel), List.mem_of_getElem? (i := 1124) (by decide +kernel), List.mem_of_getElem? (i := 1125) (by decide +kernel)⟩
theorem lw_p56 : lw_okq (⟨"StandStillModel", "howMany", "()I"⟩, 21) := ⟨⟨by decide +kernel, by decide +kernel⟩, List.mem_of_getElem? (i := 840) (by decide +kernel), List.mem_of_getElem? (i := 1132) (by decide +kernel), List.mem_of_getElem? (i := 1133) (by decide +kernel)⟩
theorem lw_p57 : lw_okq (⟨"StandStillModel", "lastAll", "()V"⟩, 21) := ⟨⟨by decide +kernel, by decide +kernel⟩, List.mem_of_getElem? (i := 840) (by decide +kernel), List.mem_of_getElem? (i := 1140) (by decide +kernel), List.mem_of_getElem? (i := 1141) (by decide +kernel)⟩
theorem lw_p58 : lw_okq (⟨"StandStillModel", "standSet", "()I"⟩, 21) := ⟨⟨by decide +kernel, by decide +kernel⟩, List.mem_of_getElem? (i := 840) (by decide +kernel), List.mem_of_getElem? (i := 1160) (by decide +kernel), List.mem_of_getElem? (i := 1161) (by decide +kernel)⟩
theorem lw_p59 : lw_okq (⟨"StandStillModel", "kindNow", "()I"⟩, 21) := ⟨⟨by decide +kernel, by decide +kernel⟩, List.mem_of_getElem? (i := 840) (by decide +kernel), List.mem_of_getElem? (i := 1185) (by decide +kernel), List.mem_of_getElem? (i := 1186) (by decide +kernel)⟩
theorem lw_p60 : lw_okq (⟨"StandStillModel", "holdsAs", "(II)I"⟩, 21) := ⟨⟨by decide +kernel, by decide +kernel⟩, List.mem_of_getElem? (i := 840) (by decide +kernel), List.mem_of_getElem? (i := 1189) (by decide +kernel), List.mem_of_getElem? (i := 1190) (by decide +kernel)⟩
theorem lw_p61 : lw_okq (⟨"StandStillModel", "begins", "(I)V"⟩, 21) := ⟨⟨by decide +kernel, by decide +kernel⟩, List.mem_of_getElem? (i := 840) (by decide +kernel), List.mem_of_getElem? (i := 1193) (by decide +kernel), List.mem_of_getElem? (i := 1194) (by decide +kernel)⟩
theorem lw_p62 : lw_okq (⟨"StandStillModel", "leansAs", "(II)I"⟩, 21) := ⟨⟨by decide +kernel, by decide +kernel⟩, List.mem_of_getElem? (i := 840) (by decide +kernel), List.mem_of_getElem? (i := 1200) (by decide +kernel), List.mem_of_getElem? (i := 1201) (by decide +kernel)⟩
theorem lw_p63 : lw_okq (⟨"StandStillModel", "mNow", "()I"⟩, 21) := ⟨⟨by decide +kernel, by decide +kernel⟩, List.mem_of_getElem? (i := 840) (by decide +kernel), List.mem_of_getElem? (i := 1204) (by decide +kernel), List.mem_of_getElem? (i := 1205) (by decide +kernel)⟩
def lw_privs_4 : List (MethodName × Nat) := [(⟨"StandStillModel", "standsAt", "(I)I"⟩, 21), (⟨"StandStillModel", "go", "(I)I"⟩, 21), (⟨"StandStillModel", "minute", "()I"⟩, 21), (⟨"StandStillModel", "flyAt", "(I)I"⟩, 21), (⟨"StandStillModel", "pokes", "(I)I"⟩, 21), (⟨"StandStillModel", "draw", "()I"⟩, 21), (⟨"StandStillModel", "layDown", "(I)V"⟩, 21), (⟨"StandStillModel", "layBack", "(I)V"⟩, 21), (⟨"StandStillModel", "howMany", "()I"⟩, 21), (⟨"StandStillModel", "lastAll", "()V"⟩, 21), (⟨"StandStillModel", "standSet", "()I"⟩, 21), (⟨"StandStillModel", "kindNow", "()I"⟩, 21), (⟨"StandStillModel", "holdsAs", "(II)I"⟩, 21), (⟨"StandStillModel", "begins", "(I)V"⟩, 21), (⟨"StandStillModel", "leansAs", "(II)I"⟩, 21), (⟨"StandStillModel", "mNow", "()I"⟩, 21)]
theorem lw_r4 : ∀ q ∈ lw_privs_4, lw_okq q := List.forall_mem_cons.mpr ⟨lw_p48, List.forall_mem_cons.mpr ⟨lw_p49, List.forall_mem_cons.mpr ⟨lw_p50, List.forall_mem_cons.mpr ⟨lw_p51, List.forall_mem_cons.mpr ⟨lw_p52, List.forall_mem_cons.mpr ⟨lw_p53, List.forall_mem_cons.mpr ⟨lw_p54, List.forall_mem_cons.mpr ⟨lw_p55, List.forall_mem_cons.mpr ⟨lw_p56, List.forall_mem_cons.mpr ⟨lw_p57, List.forall_mem_cons.mpr ⟨lw_p58, List.forall_mem_cons.mpr ⟨lw_p59, List.forall_mem_cons.mpr ⟨lw_p60, List.forall_mem_cons.mpr ⟨lw_p61, List.forall_mem_cons.mpr ⟨lw_p62, List.forall_mem_cons.mpr ⟨lw_p63, fun _ h => absurd h List.not_mem_nil⟩⟩⟩⟩⟩⟩⟩⟩⟩⟩⟩⟩⟩⟩⟩⟩
theorem lw_p64 : lw_okq (⟨"StandStillModel", "swaysAs", "(II)I"⟩, 21) := ⟨⟨by decide +kernel, by decide +kernel⟩, List.mem_of_getElem? (i := 840) (by decide +kernel), List.mem_of_getElem? (i := 1208) (by decide +kernel), List.mem_of_getElem? (i := 1209) (by decide +kernel)⟩
theorem lw_p65 : lw_okq (⟨"StandStillModel", "partsAs", "(II)I"⟩, 21) := ⟨⟨by decide +kernel, by decide +kernel⟩, List.mem_of_getElem? (i := 840) (by decide +kernel), List.mem_of_getElem? (i := 1212) (by decide +kernel), List.mem_of_getElem? (i := 1213) (by decide +kernel)⟩
theorem lw_p66 : lw_okq (⟨"StandStillModel", "lacks", "(I)I"⟩, 21) := ⟨⟨by decide +kernel, by decide +kernel⟩, List.mem_of_getElem? (i := 840) (by decide +kernel), List.mem_of_getElem? (i := 1236) (by decide +kernel), List.mem_of_getElem? (i := 1237) (by decide +kernel)⟩
def lw_privs_5 : List (MethodName × Nat) := [(⟨"StandStillModel", "swaysAs", "(II)I"⟩, 21), (⟨"StandStillModel", "partsAs", "(II)I"⟩, 21), (⟨"StandStillModel", "lacks", "(I)I"⟩, 21)]
theorem lw_r5 : ∀ q ∈ lw_privs_5, lw_okq q := List.forall_mem_cons.mpr ⟨lw_p64, List.forall_mem_cons.mpr ⟨lw_p65, List.forall_mem_cons.mpr ⟨lw_p66, fun _ h => absurd h List.not_mem_nil⟩⟩⟩
def lw_privs : List (MethodName × Nat) := lw_privs_1 ++ (lw_privs_2 ++ (lw_privs_3 ++ (lw_privs_4 ++ (lw_privs_5))))
def lw_tbl : List Cond := k2_sels lw_privs ++ tables_1
theorem lw_privs_ok : ∀ q ∈ lw_privs, lw_okq q := by
  show ∀ q ∈ lw_privs_1 ++ (lw_privs_2 ++ (lw_privs_3 ++ (lw_privs_4 ++ (lw_privs_5)))), lw_okq q
  exact List.forall_mem_append.mpr ⟨lw_r1, List.forall_mem_append.mpr ⟨lw_r2, List.forall_mem_append.mpr ⟨lw_r3, List.forall_mem_append.mpr ⟨lw_r4, lw_r5⟩⟩⟩⟩
def RX0 : String := "StandStill$Asleep"
def TX0 : u_T := fun k => match k with
  | _ => ("", "", "", false)
def tyX0 : Nat → FieldType := fun k => match k with
  | _ => .int
abbrev wsX00 : List Cond := u_ws RX0 TX0 0
theorem nmX0 : ∀ a, a < 0 → ∀ b, b < 0 → a ≠ b → (TX0 a).2.1 ≠ (TX0 b).2.1 := by decide +kernel
theorem tyX0_ok : ∀ k, k < 0 → parseFieldDescriptor (TX0 k).2.2.1 = some (tyX0 k) := by decide +kernel
abbrev cX0_init : ByteArray := prog_2_method_1_code
def yX0_init : MethodName := ⟨RX0, "<init>", "()V"⟩
abbrev cX0_spending : ByteArray := prog_2_method_2_code
def yX0_spending : MethodName := ⟨RX0, "spending", "(LStandStill$Row;I)I"⟩
abbrev cX0_biting : ByteArray := prog_2_method_3_code
def yX0_biting : MethodName := ⟨RX0, "biting", "(I)I"⟩
abbrev cX0_holds : ByteArray := prog_2_method_4_code
def yX0_holds : MethodName := ⟨RX0, "holds", "(LStandStill$Speaker;I)I"⟩
abbrev cX0_parts : ByteArray := prog_2_method_5_code
def yX0_parts : MethodName := ⟨RX0, "parts", "(LStandStill$Speaker;I)I"⟩
def RX1 : String := "StandStill$Law"
def TX1 : u_T := fun k => match k with
  | 0 => ("StandStill$Law", "own", "C", true)
  | 1 => ("StandStill$Law", "stack", "[I", true)
  | 2 => ("StandStill$Law", "code", "[I", false)
  | 3 => ("StandStill$Law", "length", "I", false)
  | 4 => ("StandStill$Law", "draft", "[I", false)
  | 5 => ("StandStill$Law", "drafted", "I", false)
  | 6 => ("StandStill$Law", "tape", "[B", false)
  | 7 => ("StandStill$Law", "size", "I", false)
  | _ => ("StandStill$Law", "place", "I", false)
def tyX1 : Nat → FieldType := fun k => match k with
  | 0 => .char
  | 1 => .array .int
  | 2 => .array .int
  | 3 => .int
  | 4 => .array .int
  | 5 => .int
  | 6 => .array .byte
  | 7 => .int
  | _ => .int
abbrev wsX10 : List Cond := u_ws RX1 TX1 9
theorem nmX1 : ∀ a, a < 9 → ∀ b, b < 9 → a ≠ b → (TX1 a).2.1 ≠ (TX1 b).2.1 := by decide +kernel
theorem tyX1_ok : ∀ k, k < 9 → parseFieldDescriptor (TX1 k).2.2.1 = some (tyX1 k) := by decide +kernel
abbrev cX1_init : ByteArray := prog_3_method_1_code
def yX1_init : MethodName := ⟨RX1, "<init>", "(C)V"⟩
abbrev cX1_copyFrom : ByteArray := prog_3_method_2_code
def yX1_copyFrom : MethodName := ⟨RX1, "copyFrom", "(LStandStill$Law;)V"⟩
abbrev cX1_isMissing : ByteArray := prog_3_method_3_code
def yX1_isMissing : MethodName := ⟨RX1, "isMissing", "()Z"⟩
abbrev cX1_forget : ByteArray := prog_3_method_4_code
def yX1_forget : MethodName := ⟨RX1, "forget", "()V"⟩
abbrev cX1_gives : ByteArray := prog_3_method_5_code
def yX1_gives : MethodName := ⟨RX1, "gives", "(III)I"⟩
abbrev cX1_joined : ByteArray := prog_3_method_6_code
def yX1_joined : MethodName := ⟨RX1, "joined", "(III)I"⟩
abbrev cX1_read : ByteArray := prog_3_method_7_code
def yX1_read : MethodName := ⟨RX1, "read", "([BI)I"⟩
abbrev cX1_readEither : ByteArray := prog_3_method_8_code
def yX1_readEither : MethodName := ⟨RX1, "readEither", "(I)Z"⟩
abbrev cX1_readBoth : ByteArray := prog_3_method_9_code
def yX1_readBoth : MethodName := ⟨RX1, "readBoth", "(I)Z"⟩
abbrev cX1_readCompared : ByteArray := prog_3_method_10_code
def yX1_readCompared : MethodName := ⟨RX1, "readCompared", "(I)Z"⟩
abbrev cX1_readSum : ByteArray := prog_3_method_11_code
def yX1_readSum : MethodName := ⟨RX1, "readSum", "(I)Z"⟩
abbrev cX1_readProduct : ByteArray := prog_3_method_12_code
def yX1_readProduct : MethodName := ⟨RX1, "readProduct", "(I)Z"⟩
abbrev cX1_readUnit : ByteArray := prog_3_method_13_code
def yX1_readUnit : MethodName := ⟨RX1, "readUnit", "(I)Z"⟩
abbrev cX1_readBracket : ByteArray := prog_3_method_14_code
def yX1_readBracket : MethodName := ⟨RX1, "readBracket", "(I)Z"⟩
abbrev cX1_readNumber : ByteArray := prog_3_method_15_code
def yX1_readNumber : MethodName := ⟨RX1, "readNumber", "()V"⟩
abbrev cX1_nextSign : ByteArray := prog_3_method_16_code
def yX1_nextSign : MethodName := ⟨RX1, "nextSign", "()I"⟩
abbrev cX1_takeSign : ByteArray := prog_3_method_17_code
def yX1_takeSign : MethodName := ⟨RX1, "takeSign", "()I"⟩
abbrev cX1_sees : ByteArray := prog_3_method_18_code
def yX1_sees : MethodName := ⟨RX1, "sees", "(C)Z"⟩
abbrev cX1_seesDigit : ByteArray := prog_3_method_19_code
def yX1_seesDigit : MethodName := ⟨RX1, "seesDigit", "()Z"⟩
abbrev cX1_write : ByteArray := prog_3_method_20_code
def yX1_write : MethodName := ⟨RX1, "write", "(I)V"⟩
def RX2 : String := "StandStill$Leaning"
def TX2 : u_T := fun k => match k with
  | _ => ("", "", "", false)
def tyX2 : Nat → FieldType := fun k => match k with
  | _ => .int
abbrev wsX20 : List Cond := u_ws RX2 TX2 0
theorem nmX2 : ∀ a, a < 0 → ∀ b, b < 0 → a ≠ b → (TX2 a).2.1 ≠ (TX2 b).2.1 := by decide +kernel
theorem tyX2_ok : ∀ k, k < 0 → parseFieldDescriptor (TX2 k).2.2.1 = some (tyX2 k) := by decide +kernel
abbrev cX2_init : ByteArray := prog_4_method_1_code
def yX2_init : MethodName := ⟨RX2, "<init>", "()V"⟩
abbrev cX2_spending : ByteArray := prog_4_method_2_code
def yX2_spending : MethodName := ⟨RX2, "spending", "(LStandStill$Row;I)I"⟩
abbrev cX2_leans : ByteArray := prog_4_method_3_code
def yX2_leans : MethodName := ⟨RX2, "leans", "(LStandStill$Speaker;I)I"⟩
def RX3 : String := "StandStill$Proud"
def TX3 : u_T := fun k => match k with
  | _ => ("", "", "", false)
def tyX3 : Nat → FieldType := fun k => match k with
  | _ => .int
abbrev wsX30 : List Cond := u_ws RX3 TX3 0
theorem nmX3 : ∀ a, a < 0 → ∀ b, b < 0 → a ≠ b → (TX3 a).2.1 ≠ (TX3 b).2.1 := by decide +kernel
theorem tyX3_ok : ∀ k, k < 0 → parseFieldDescriptor (TX3 k).2.2.1 = some (tyX3 k) := by decide +kernel
abbrev cX3_init : ByteArray := prog_5_method_1_code
def yX3_init : MethodName := ⟨RX3, "<init>", "()V"⟩
abbrev cX3_spending : ByteArray := prog_5_method_2_code
def yX3_spending : MethodName := ⟨RX3, "spending", "(LStandStill$Row;I)I"⟩
abbrev cX3_biting : ByteArray := prog_5_method_3_code
def yX3_biting : MethodName := ⟨RX3, "biting", "(I)I"⟩
abbrev cX3_holds : ByteArray := prog_5_method_4_code
def yX3_holds : MethodName := ⟨RX3, "holds", "(LStandStill$Speaker;I)I"⟩
abbrev cX3_sways : ByteArray := prog_5_method_5_code
def yX3_sways : MethodName := ⟨RX3, "sways", "(LStandStill$Speaker;I)I"⟩
def RX4 : String := "StandStill$Row"
def TX4 : u_T := fun k => match k with
  | 0 => ("StandStill$Row", "kind", "[I", true)
  | 1 => ("StandStill$Row", "m", "[I", true)
  | 2 => ("StandStill$Row", "post", "[I", true)
  | 3 => ("StandStill$Row", "left", "[I", true)
  | 4 => ("StandStill$Row", "out", "[I", true)
  | 5 => ("StandStill$Row", "sun", "I", false)
  | 6 => ("StandStill$Row", "minute", "I", false)
  | 7 => ("StandStill$Row", "spending", "LStandStill$Law;", true)
  | 8 => ("StandStill$Row", "shock", "LStandStill$Law;", true)
  | _ => ("StandStill$Row", "kinds", "[LStandStill$Stander;", true)
def tyX4 : Nat → FieldType := fun k => match k with
  | 0 => .array .int
  | 1 => .array .int
  | 2 => .array .int
  | 3 => .array .int
  | 4 => .array .int
  | 5 => .int
  | 6 => .int
  | 7 => .object "StandStill$Law"
  | 8 => .object "StandStill$Law"
  | _ => .array (.object "StandStill$Stander")
abbrev wsX40 : List Cond := u_ws RX4 TX4 10
theorem nmX4 : ∀ a, a < 10 → ∀ b, b < 10 → a ≠ b → (TX4 a).2.1 ≠ (TX4 b).2.1 := by decide +kernel
theorem tyX4_ok : ∀ k, k < 10 → parseFieldDescriptor (TX4 k).2.2.1 = some (tyX4 k) := by decide +kernel
abbrev cX4_init : ByteArray := prog_6_method_1_code
def yX4_init : MethodName := ⟨RX4, "<init>", "([LStandStill$Stander;LStandStill$Law;LStandStill$Law;)V"⟩
abbrev cX4_copyFrom : ByteArray := prog_6_method_2_code
def yX4_copyFrom : MethodName := ⟨RX4, "copyFrom", "(LStandStill$Row;)V"⟩
abbrev cX4_kindOf : ByteArray := prog_6_method_3_code
def yX4_kindOf : MethodName := ⟨RX4, "kindOf", "(I)LStandStill$Stander;"⟩
abbrev cX4_stands : ByteArray := prog_6_method_4_code
def yX4_stands : MethodName := ⟨RX4, "stands", "(I)Z"⟩
abbrev cX4_is : ByteArray := prog_6_method_5_code
def yX4_is : MethodName := ⟨RX4, "is", "(II)I"⟩
abbrev cX4_spends : ByteArray := prog_6_method_6_code
def yX4_spends : MethodName := ⟨RX4, "spends", "(I)I"⟩
abbrev cX4_bite : ByteArray := prog_6_method_7_code
def yX4_bite : MethodName := ⟨RX4, "bite", "(I)I"⟩
abbrev cX4_whoIsAt : ByteArray := prog_6_method_8_code
def yX4_whoIsAt : MethodName := ⟨RX4, "whoIsAt", "(I)I"⟩
abbrev cX4_bits : ByteArray := prog_6_method_9_code
def yX4_bits : MethodName := ⟨RX4, "bits", "()I"⟩
abbrev cX4_howMany : ByteArray := prog_6_method_10_code
def yX4_howMany : MethodName := ⟨RX4, "howMany", "()I"⟩
abbrev cX4_allPatience : ByteArray := prog_6_method_11_code
def yX4_allPatience : MethodName := ⟨RX4, "allPatience", "()I"⟩
abbrev cX4_changePosts : ByteArray := prog_6_method_12_code
def yX4_changePosts : MethodName := ⟨RX4, "changePosts", "(II)V"⟩
abbrev cX4_pass : ByteArray := prog_6_method_13_code
def yX4_pass : MethodName := ⟨RX4, "pass", "(I)I"⟩
abbrev cX4_passMinute : ByteArray := prog_6_method_14_code
def yX4_passMinute : MethodName := ⟨RX4, "passMinute", "()I"⟩
abbrev cX4_flyAt : ByteArray := prog_6_method_15_code
def yX4_flyAt : MethodName := ⟨RX4, "flyAt", "(I)I"⟩
abbrev cX4_pokeOne : ByteArray := prog_6_method_16_code
def yX4_pokeOne : MethodName := ⟨RX4, "pokeOne", "(I)I"⟩
abbrev cX4_lastsFor : ByteArray := prog_6_method_17_code
def yX4_lastsFor : MethodName := ⟨RX4, "lastsFor", "(I)I"⟩
abbrev cX4_settle : ByteArray := prog_6_method_18_code
def yX4_settle : MethodName := ⟨RX4, "settle", "()I"⟩
abbrev cX4_leastAtZero : ByteArray := prog_6_method_19_code
def yX4_leastAtZero : MethodName := ⟨RX4, "leastAtZero", "()I"⟩
abbrev cX4_stir : ByteArray := prog_6_method_20_code
def yX4_stir : MethodName := ⟨RX4, "stir", "(I)V"⟩
abbrev cX4_lessen : ByteArray := prog_6_method_21_code
def yX4_lessen : MethodName := ⟨RX4, "lessen", "(II)V"⟩
abbrev cX4_held : ByteArray := prog_6_method_22_code
def yX4_held : MethodName := ⟨RX4, "held", "(I)I"⟩
def RX5 : String := "StandStill$Scene"
def TX5 : u_T := fun k => match k with
  | 0 => ("StandStill$Scene", "spending", "LStandStill$Law;", true)
  | 1 => ("StandStill$Scene", "shock", "LStandStill$Law;", true)
  | 2 => ("StandStill$Scene", "row", "LStandStill$Row;", true)
  | 3 => ("StandStill$Scene", "tape", "[B", true)
  | 4 => ("StandStill$Scene", "waits", "[I", true)
  | 5 => ("StandStill$Scene", "fed", "I", false)
  | 6 => ("StandStill$Scene", "waiting", "I", false)
  | _ => ("StandStill$Scene", "z", "I", false)
def tyX5 : Nat → FieldType := fun k => match k with
  | 0 => .object "StandStill$Law"
  | 1 => .object "StandStill$Law"
  | 2 => .object "StandStill$Row"
  | 3 => .array .byte
  | 4 => .array .int
  | 5 => .int
  | 6 => .int
  | _ => .int
abbrev wsX50 : List Cond := u_ws RX5 TX5 8
theorem nmX5 : ∀ a, a < 8 → ∀ b, b < 8 → a ≠ b → (TX5 a).2.1 ≠ (TX5 b).2.1 := by decide +kernel
theorem tyX5_ok : ∀ k, k < 8 → parseFieldDescriptor (TX5 k).2.2.1 = some (tyX5 k) := by decide +kernel
abbrev cX5_init : ByteArray := prog_7_method_1_code
def yX5_init : MethodName := ⟨RX5, "<init>", "([LStandStill$Stander;)V"⟩
abbrev cX5_copyFrom : ByteArray := prog_7_method_2_code
def yX5_copyFrom : MethodName := ⟨RX5, "copyFrom", "(LStandStill$Scene;)V"⟩
abbrev cX5_lawOf : ByteArray := prog_7_method_3_code
def yX5_lawOf : MethodName := ⟨RX5, "lawOf", "(I)LStandStill$Law;"⟩
abbrev cX5_draw : ByteArray := prog_7_method_4_code
def yX5_draw : MethodName := ⟨RX5, "draw", "()I"⟩
def RX6 : String := "StandStill$Speaker"
def TX6 : u_T := fun k => match k with
  | 0 => ("StandStill$Speaker", "k", "I", false)
  | 1 => ("StandStill$Speaker", "m", "I", false)
  | 2 => ("StandStill$Speaker", "parted", "Z", false)
  | 3 => ("StandStill$Speaker", "traced", "I", false)
  | 4 => ("StandStill$Speaker", "trace", "[I", true)
  | 5 => ("StandStill$Speaker", "begun", "[I", true)
  | _ => ("StandStill$Speaker", "beginnings", "I", false)
def tyX6 : Nat → FieldType := fun k => match k with
  | 0 => .int
  | 1 => .int
  | 2 => .boolean
  | 3 => .int
  | 4 => .array .int
  | 5 => .array .int
  | _ => .int
abbrev wsX60 : List Cond := u_ws RX6 TX6 7
theorem nmX6 : ∀ a, a < 7 → ∀ b, b < 7 → a ≠ b → (TX6 a).2.1 ≠ (TX6 b).2.1 := by decide +kernel
theorem tyX6_ok : ∀ k, k < 7 → parseFieldDescriptor (TX6 k).2.2.1 = some (tyX6 k) := by decide +kernel
abbrev cX6_init : ByteArray := prog_8_method_1_code
def yX6_init : MethodName := ⟨RX6, "<init>", "()V"⟩
abbrev cX6_starts : ByteArray := prog_8_method_2_code
def yX6_starts : MethodName := ⟨RX6, "starts", "(II)V"⟩
abbrev cX6_begins : ByteArray := prog_8_method_3_code
def yX6_begins : MethodName := ⟨RX6, "begins", "(I)V"⟩
abbrev cX6_keep : ByteArray := prog_8_method_4_code
def yX6_keep : MethodName := ⟨RX6, "keep", "()V"⟩
def RX7 : String := "StandStill$Stander"
def TX7 : u_T := fun k => match k with
  | _ => ("", "", "", false)
def tyX7 : Nat → FieldType := fun k => match k with
  | _ => .int
abbrev wsX70 : List Cond := u_ws RX7 TX7 0
theorem nmX7 : ∀ a, a < 0 → ∀ b, b < 0 → a ≠ b → (TX7 a).2.1 ≠ (TX7 b).2.1 := by decide +kernel
theorem tyX7_ok : ∀ k, k < 0 → parseFieldDescriptor (TX7 k).2.2.1 = some (tyX7 k) := by decide +kernel
abbrev cX7_init : ByteArray := prog_9_method_1_code
def yX7_init : MethodName := ⟨RX7, "<init>", "()V"⟩
abbrev cX7_spending : ByteArray := prog_9_method_2_code
def yX7_spending : MethodName := ⟨RX7, "spending", "(LStandStill$Row;I)I"⟩
abbrev cX7_biting : ByteArray := prog_9_method_3_code
def yX7_biting : MethodName := ⟨RX7, "biting", "(I)I"⟩
abbrev cX7_holds : ByteArray := prog_9_method_4_code
def yX7_holds : MethodName := ⟨RX7, "holds", "(LStandStill$Speaker;I)I"⟩
abbrev cX7_leans : ByteArray := prog_9_method_5_code
def yX7_leans : MethodName := ⟨RX7, "leans", "(LStandStill$Speaker;I)I"⟩
abbrev cX7_sways : ByteArray := prog_9_method_6_code
def yX7_sways : MethodName := ⟨RX7, "sways", "(LStandStill$Speaker;I)I"⟩
abbrev cX7_parts : ByteArray := prog_9_method_7_code
def yX7_parts : MethodName := ⟨RX7, "parts", "(LStandStill$Speaker;I)I"⟩
def RX8 : String := "StandStill$Ticklish"
def TX8 : u_T := fun k => match k with
  | _ => ("", "", "", false)
def tyX8 : Nat → FieldType := fun k => match k with
  | _ => .int
abbrev wsX80 : List Cond := u_ws RX8 TX8 0
theorem nmX8 : ∀ a, a < 0 → ∀ b, b < 0 → a ≠ b → (TX8 a).2.1 ≠ (TX8 b).2.1 := by decide +kernel
theorem tyX8_ok : ∀ k, k < 0 → parseFieldDescriptor (TX8 k).2.2.1 = some (tyX8 k) := by decide +kernel
abbrev cX8_init : ByteArray := prog_10_method_1_code
def yX8_init : MethodName := ⟨RX8, "<init>", "()V"⟩
abbrev cX8_biting : ByteArray := prog_10_method_2_code
def yX8_biting : MethodName := ⟨RX8, "biting", "(I)I"⟩
abbrev cX8_sways : ByteArray := prog_10_method_3_code
def yX8_sways : MethodName := ⟨RX8, "sways", "(LStandStill$Speaker;I)I"⟩
def RX9 : String := "StandStill$Told"
def TX9 : u_T := fun k => match k with
  | _ => ("", "", "", false)
def tyX9 : Nat → FieldType := fun k => match k with
  | _ => .int
abbrev wsX90 : List Cond := u_ws RX9 TX9 0
theorem nmX9 : ∀ a, a < 0 → ∀ b, b < 0 → a ≠ b → (TX9 a).2.1 ≠ (TX9 b).2.1 := by decide +kernel
theorem tyX9_ok : ∀ k, k < 0 → parseFieldDescriptor (TX9 k).2.2.1 = some (tyX9 k) := by decide +kernel
abbrev cX9_init : ByteArray := prog_11_method_1_code
def yX9_init : MethodName := ⟨RX9, "<init>", "()V"⟩
abbrev cX9_spending : ByteArray := prog_11_method_2_code
def yX9_spending : MethodName := ⟨RX9, "spending", "(LStandStill$Row;I)I"⟩
abbrev cX9_holds : ByteArray := prog_11_method_3_code
def yX9_holds : MethodName := ⟨RX9, "holds", "(LStandStill$Speaker;I)I"⟩
abbrev cX9_leans : ByteArray := prog_11_method_4_code
def yX9_leans : MethodName := ⟨RX9, "leans", "(LStandStill$Speaker;I)I"⟩
def RX10 : String := "StandStill$Twin"
def TX10 : u_T := fun k => match k with
  | _ => ("", "", "", false)
def tyX10 : Nat → FieldType := fun k => match k with
  | _ => .int
abbrev wsX100 : List Cond := u_ws RX10 TX10 0
theorem nmX10 : ∀ a, a < 0 → ∀ b, b < 0 → a ≠ b → (TX10 a).2.1 ≠ (TX10 b).2.1 := by decide +kernel
theorem tyX10_ok : ∀ k, k < 0 → parseFieldDescriptor (TX10 k).2.2.1 = some (tyX10 k) := by decide +kernel
abbrev cX10_init : ByteArray := prog_12_method_1_code
def yX10_init : MethodName := ⟨RX10, "<init>", "()V"⟩
abbrev cX10_biting : ByteArray := prog_12_method_2_code
def yX10_biting : MethodName := ⟨RX10, "biting", "(I)I"⟩
abbrev cX10_leans : ByteArray := prog_12_method_3_code
def yX10_leans : MethodName := ⟨RX10, "leans", "(LStandStill$Speaker;I)I"⟩
def RX11 : String := "StandStill"
def TX11 : u_T := fun k => match k with
  | 0 => ("StandStill", "now", "LStandStill$Scene;", true)
  | 1 => ("StandStill", "kept", "LStandStill$Scene;", true)
  | 2 => ("StandStill", "ahead", "LStandStill$Row;", true)
  | 3 => ("StandStill", "steps", "[LStandStill$Row;", true)
  | 4 => ("StandStill", "speaker", "LStandStill$Speaker;", true)
  | 5 => ("StandStill", "sheets", "[[I", true)
  | 6 => ("StandStill", "bitsOf", "[I", true)
  | 7 => ("StandStill", "sizeOf", "[I", true)
  | 8 => ("StandStill", "errors", "[I", true)
  | _ => ("StandStill", "images", "I", false)
def tyX11 : Nat → FieldType := fun k => match k with
  | 0 => .object "StandStill$Scene"
  | 1 => .object "StandStill$Scene"
  | 2 => .object "StandStill$Row"
  | 3 => .array (.object "StandStill$Row")
  | 4 => .object "StandStill$Speaker"
  | 5 => .array (.array .int)
  | 6 => .array .int
  | 7 => .array .int
  | 8 => .array .int
  | _ => .int
abbrev wsX110 : List Cond := u_ws RX11 TX11 10
theorem nmX11 : ∀ a, a < 10 → ∀ b, b < 10 → a ≠ b → (TX11 a).2.1 ≠ (TX11 b).2.1 := by decide +kernel
theorem tyX11_ok : ∀ k, k < 10 → parseFieldDescriptor (TX11 k).2.2.1 = some (tyX11 k) := by decide +kernel
abbrev cX11_init : ByteArray := prog_1_method_1_code
def yX11_init : MethodName := ⟨RX11, "<init>", "()V"⟩
abbrev cX11_stander : ByteArray := prog_1_method_2_code
def yX11_stander : MethodName := ⟨RX11, "stander", "(II)I"⟩
abbrev cX11_standerIs : ByteArray := prog_1_method_3_code
def yX11_standerIs : MethodName := ⟨RX11, "standerIs", "(II)I"⟩
abbrev cX11_as : ByteArray := prog_1_method_4_code
def yX11_as : MethodName := ⟨RX11, "as", "(II)I"⟩
abbrev cX11_patience : ByteArray := prog_1_method_5_code
def yX11_patience : MethodName := ⟨RX11, "patience", "(II)I"⟩
abbrev cX11_swap : ByteArray := prog_1_method_6_code
def yX11_swap : MethodName := ⟨RX11, "swap", "(II)I"⟩
abbrev cX11_again : ByteArray := prog_1_method_7_code
def yX11_again : MethodName := ⟨RX11, "again", "(II)I"⟩
abbrev cX11_sun : ByteArray := prog_1_method_8_code
def yX11_sun : MethodName := ⟨RX11, "sun", "(I)I"⟩
abbrev cX11_at : ByteArray := prog_1_method_9_code
def yX11_at : MethodName := ⟨RX11, "at", "(I)I"⟩
abbrev cX11_feed : ByteArray := prog_1_method_10_code
def yX11_feed : MethodName := ⟨RX11, "feed", "(JI)I"⟩
abbrev cX11_text : ByteArray := prog_1_method_11_code
def yX11_text : MethodName := ⟨RX11, "text", "(I)I"⟩
abbrev cX11_untell : ByteArray := prog_1_method_12_code
def yX11_untell : MethodName := ⟨RX11, "untell", "(I)I"⟩
abbrev cX11_minutes : ByteArray := prog_1_method_13_code
def yX11_minutes : MethodName := ⟨RX11, "minutes", "(I)I"⟩
abbrev cX11_fly : ByteArray := prog_1_method_14_code
def yX11_fly : MethodName := ⟨RX11, "fly", "(I)I"⟩
abbrev cX11_poke : ByteArray := prog_1_method_15_code
def yX11_poke : MethodName := ⟨RX11, "poke", "(I)I"⟩
abbrev cX11_draws : ByteArray := prog_1_method_16_code
def yX11_draws : MethodName := ⟨RX11, "draws", "(I)I"⟩
abbrev cX11_seed : ByteArray := prog_1_method_17_code
def yX11_seed : MethodName := ⟨RX11, "seed", "(I)I"⟩
abbrev cX11_then : ByteArray := prog_1_method_18_code
def yX11_then : MethodName := ⟨RX11, "then", "(III)I"⟩
abbrev cX11_standing : ByteArray := prog_1_method_19_code
def yX11_standing : MethodName := ⟨RX11, "standing", "(I)I"⟩
abbrev cX11_lasts : ByteArray := prog_1_method_20_code
def yX11_lasts : MethodName := ⟨RX11, "lasts", "(I)I"⟩
abbrev cX11_lastOne : ByteArray := prog_1_method_21_code
def yX11_lastOne : MethodName := ⟨RX11, "lastOne", "()I"⟩
abbrev cX11_round : ByteArray := prog_1_method_22_code
def yX11_round : MethodName := ⟨RX11, "round", "(III)I"⟩
abbrev cX11_change : ByteArray := prog_1_method_23_code
def yX11_change : MethodName := ⟨RX11, "change", "(II)I"⟩
abbrev cX11_empties : ByteArray := prog_1_method_24_code
def yX11_empties : MethodName := ⟨RX11, "empties", "(I)I"⟩
abbrev cX11_whose : ByteArray := prog_1_method_25_code
def yX11_whose : MethodName := ⟨RX11, "whose", "(I)I"⟩
abbrev cX11_slate : ByteArray := prog_1_method_26_code
def yX11_slate : MethodName := ⟨RX11, "slate", "(II)J"⟩
abbrev cX11_voice : ByteArray := prog_1_method_27_code
def yX11_voice : MethodName := ⟨RX11, "voice", "(III)I"⟩
abbrev cX11_body : ByteArray := prog_1_method_28_code
def yX11_body : MethodName := ⟨RX11, "body", "(I)I"⟩
abbrev cX11_sheet : ByteArray := prog_1_method_29_code
def yX11_sheet : MethodName := ⟨RX11, "sheet", "(III)I"⟩
abbrev cX11_put : ByteArray := prog_1_method_30_code
def yX11_put : MethodName := ⟨RX11, "put", "(III)I"⟩
abbrev cX11_move : ByteArray := prog_1_method_31_code
def yX11_move : MethodName := ⟨RX11, "move", "(IIIII)I"⟩
abbrev cX11_flies : ByteArray := prog_1_method_32_code
def yX11_flies : MethodName := ⟨RX11, "flies", "(I)I"⟩
abbrev cX11_judge : ByteArray := prog_1_method_33_code
def yX11_judge : MethodName := ⟨RX11, "judge", "(I)I"⟩
abbrev cX11_image : ByteArray := prog_1_method_34_code
def yX11_image : MethodName := ⟨RX11, "image", "()I"⟩
abbrev cX11_restore : ByteArray := prog_1_method_35_code
def yX11_restore : MethodName := ⟨RX11, "restore", "()I"⟩
abbrev cX11_tell : ByteArray := prog_1_method_36_code
def yX11_tell : MethodName := ⟨RX11, "tell", "(I)I"⟩
abbrev cX11_check : ByteArray := prog_1_method_37_code
def yX11_check : MethodName := ⟨RX11, "check", "()I"⟩
abbrev cX11_count : ByteArray := prog_1_method_38_code
def yX11_count : MethodName := ⟨RX11, "count", "(I)I"⟩
abbrev cX11_told : ByteArray := prog_1_method_39_code
def yX11_told : MethodName := ⟨RX11, "told", "(I)I"⟩
abbrev cX11_fails : ByteArray := prog_1_method_40_code
def yX11_fails : MethodName := ⟨RX11, "fails", "(I)I"⟩
abbrev cX11_within : ByteArray := prog_1_method_41_code
def yX11_within : MethodName := ⟨RX11, "within", "(III)Z"⟩
abbrev cX11_isStander : ByteArray := prog_1_method_42_code
def yX11_isStander : MethodName := ⟨RX11, "isStander", "(I)Z"⟩
abbrev cX11_isPost : ByteArray := prog_1_method_43_code
def yX11_isPost : MethodName := ⟨RX11, "isPost", "(I)Z"⟩
abbrev cX11_isSheet : ByteArray := prog_1_method_44_code
def yX11_isSheet : MethodName := ⟨RX11, "isSheet", "(I)Z"⟩
abbrev cX11_isMissing : ByteArray := prog_1_method_45_code
def yX11_isMissing : MethodName := ⟨RX11, "isMissing", "(I)Z"⟩
abbrev cX11_isWidth : ByteArray := prog_1_method_46_code
def yX11_isWidth : MethodName := ⟨RX11, "isWidth", "(I)Z"⟩
abbrev cX11_lowestBits : ByteArray := prog_1_method_47_code
def yX11_lowestBits : MethodName := ⟨RX11, "lowestBits", "(II)I"⟩
abbrev cX11_stand : ByteArray := prog_1_method_48_code
def yX11_stand : MethodName := ⟨RX11, "stand", "(III)Z"⟩
abbrev cX11_isOf : ByteArray := prog_1_method_49_code
def yX11_isOf : MethodName := ⟨RX11, "isOf", "(LStandStill$Stander;I)Z"⟩
abbrev cX11_commonDivisor : ByteArray := prog_1_method_50_code
def yX11_commonDivisor : MethodName := ⟨RX11, "commonDivisor", "(JJ)J"⟩
abbrev cX11_lookAhead : ByteArray := prog_1_method_51_code
def yX11_lookAhead : MethodName := ⟨RX11, "lookAhead", "(I)V"⟩
abbrev cX11_isEmptiedBy : ByteArray := prog_1_method_52_code
def yX11_isEmptiedBy : MethodName := ⟨RX11, "isEmptiedBy", "(I)Z"⟩
abbrev cX11_bestRound : ByteArray := prog_1_method_53_code
def yX11_bestRound : MethodName := ⟨RX11, "bestRound", "(II)I"⟩
abbrev cX11_flyRow : ByteArray := prog_1_method_54_code
def yX11_flyRow : MethodName := ⟨RX11, "flyRow", "(II)V"⟩
abbrev cX11_figures : ByteArray := prog_1_method_55_code
def yX11_figures : MethodName := ⟨RX11, "figures", "(II)I"⟩
def RX12 : String := "StandStillModel"
def TX12 : u_T := fun k => match k with
  | 0 => ("StandStillModel", "s", "[I", true)
  | 1 => ("StandStillModel", "kept", "[I", true)
  | 2 => ("StandStillModel", "layers", "[I", true)
  | 3 => ("StandStillModel", "images", "I", false)
  | 4 => ("StandStillModel", "errors", "[I", true)
  | 5 => ("StandStillModel", "at", "I", false)
  | 6 => ("StandStillModel", "open", "I", false)
  | 7 => ("StandStillModel", "steps", "I", false)
  | 8 => ("StandStillModel", "use", "I", false)
  | 9 => ("StandStillModel", "step", "[I", true)
  | 10 => ("StandStillModel", "named", "[I", true)
  | 11 => ("StandStillModel", "pile", "[I", true)
  | 12 => ("StandStillModel", "until", "[I", true)
  | 13 => ("StandStillModel", "trace", "[I", true)
  | 14 => ("StandStillModel", "traced", "I", false)
  | 15 => ("StandStillModel", "speaks", "I", false)
  | 16 => ("StandStillModel", "isParted", "Z", false)
  | 17 => ("StandStillModel", "bits", "[I", true)
  | 18 => ("StandStillModel", "sizes", "[I", true)
  | 19 => ("StandStillModel", "number", "[I", true)
  | _ => ("StandStillModel", "aside", "[I", true)
def tyX12 : Nat → FieldType := fun k => match k with
  | 0 => .array .int
  | 1 => .array .int
  | 2 => .array .int
  | 3 => .int
  | 4 => .array .int
  | 5 => .int
  | 6 => .int
  | 7 => .int
  | 8 => .int
  | 9 => .array .int
  | 10 => .array .int
  | 11 => .array .int
  | 12 => .array .int
  | 13 => .array .int
  | 14 => .int
  | 15 => .int
  | 16 => .boolean
  | 17 => .array .int
  | 18 => .array .int
  | 19 => .array .int
  | _ => .array .int
abbrev wsX120 : List Cond := u_ws RX12 TX12 21
theorem nmX12 : ∀ a, a < 21 → ∀ b, b < 21 → a ≠ b → (TX12 a).2.1 ≠ (TX12 b).2.1 := by decide +kernel
theorem tyX12_ok : ∀ k, k < 21 → parseFieldDescriptor (TX12 k).2.2.1 = some (tyX12 k) := by decide +kernel
abbrev cX12_init : ByteArray := prog_14_method_1_code
def yX12_init : MethodName := ⟨RX12, "<init>", "()V"⟩
abbrev cX12_error : ByteArray := prog_14_method_2_code
def yX12_error : MethodName := ⟨RX12, "error", "(I)I"⟩
abbrev cX12_in : ByteArray := prog_14_method_3_code
def yX12_in : MethodName := ⟨RX12, "in", "(III)Z"⟩
abbrev cX12_held : ByteArray := prog_14_method_4_code
def yX12_held : MethodName := ⟨RX12, "held", "(III)I"⟩
abbrev cX12_carry : ByteArray := prog_14_method_5_code
def yX12_carry : MethodName := ⟨RX12, "carry", "([I[I)V"⟩
abbrev cX12_layDown : ByteArray := prog_14_method_6_code
def yX12_layDown : MethodName := ⟨RX12, "layDown", "(I)V"⟩
abbrev cX12_layBack : ByteArray := prog_14_method_7_code
def yX12_layBack : MethodName := ⟨RX12, "layBack", "(I)V"⟩
abbrev cX12_isOne : ByteArray := prog_14_method_8_code
def yX12_isOne : MethodName := ⟨RX12, "isOne", "(I)Z"⟩
abbrev cX12_its : ByteArray := prog_14_method_9_code
def yX12_its : MethodName := ⟨RX12, "its", "(II)I"⟩
abbrev cX12_lays1 : ByteArray := prog_14_method_10_code
def yX12_lays1 : MethodName := ⟨RX12, "lays1", "(III)V"⟩
abbrev cX12_change1 : ByteArray := prog_14_method_11_code
def yX12_change1 : MethodName := ⟨RX12, "change1", "(II)I"⟩
abbrev cX12_stands : ByteArray := prog_14_method_12_code
def yX12_stands : MethodName := ⟨RX12, "stands", "(I)Z"⟩
abbrev cX12_howMany : ByteArray := prog_14_method_13_code
def yX12_howMany : MethodName := ⟨RX12, "howMany", "()I"⟩
abbrev cX12_standsAt : ByteArray := prog_14_method_14_code
def yX12_standsAt : MethodName := ⟨RX12, "standsAt", "(I)I"⟩
abbrev cX12_feed : ByteArray := prog_14_method_15_code
def yX12_feed : MethodName := ⟨RX12, "feed", "(JI)I"⟩
abbrev cX12_look : ByteArray := prog_14_method_16_code
def yX12_look : MethodName := ⟨RX12, "look", "()I"⟩
abbrev cX12_isName : ByteArray := prog_14_method_17_code
def yX12_isName : MethodName := ⟨RX12, "isName", "(I)Z"⟩
abbrev cX12_step1 : ByteArray := prog_14_method_18_code
def yX12_step1 : MethodName := ⟨RX12, "step1", "(II)V"⟩
abbrev cX12_whole : ByteArray := prog_14_method_19_code
def yX12_whole : MethodName := ⟨RX12, "whole", "()Z"⟩
abbrev cX12_both : ByteArray := prog_14_method_20_code
def yX12_both : MethodName := ⟨RX12, "both", "()Z"⟩
abbrev cX12_compared : ByteArray := prog_14_method_21_code
def yX12_compared : MethodName := ⟨RX12, "compared", "()Z"⟩
abbrev cX12_sum : ByteArray := prog_14_method_22_code
def yX12_sum : MethodName := ⟨RX12, "sum", "()Z"⟩
abbrev cX12_product : ByteArray := prog_14_method_23_code
def yX12_product : MethodName := ⟨RX12, "product", "()Z"⟩
abbrev cX12_opens : ByteArray := prog_14_method_24_code
def yX12_opens : MethodName := ⟨RX12, "opens", "()Z"⟩
abbrev cX12_one : ByteArray := prog_14_method_25_code
def yX12_one : MethodName := ⟨RX12, "one", "()Z"⟩
abbrev cX12_hasText : ByteArray := prog_14_method_26_code
def yX12_hasText : MethodName := ⟨RX12, "hasText", "(I)Z"⟩
abbrev cX12_text : ByteArray := prog_14_method_27_code
def yX12_text : MethodName := ⟨RX12, "text", "(I)I"⟩
abbrev cX12_untell : ByteArray := prog_14_method_28_code
def yX12_untell : MethodName := ⟨RX12, "untell", "(I)I"⟩
abbrev cX12_joined : ByteArray := prog_14_method_29_code
def yX12_joined : MethodName := ⟨RX12, "joined", "(III)I"⟩
abbrev cX12_worked : ByteArray := prog_14_method_30_code
def yX12_worked : MethodName := ⟨RX12, "worked", "(I)I"⟩
abbrev cX12_spendsTold : ByteArray := prog_14_method_31_code
def yX12_spendsTold : MethodName := ⟨RX12, "spendsTold", "(I)I"⟩
abbrev cX12_spends : ByteArray := prog_14_method_32_code
def yX12_spends : MethodName := ⟨RX12, "spends", "(I)I"⟩
abbrev cX12_bite : ByteArray := prog_14_method_33_code
def yX12_bite : MethodName := ⟨RX12, "bite", "(I)I"⟩
abbrev cX12_shaken : ByteArray := prog_14_method_34_code
def yX12_shaken : MethodName := ⟨RX12, "shaken", "(II)I"⟩
abbrev cX12_loses : ByteArray := prog_14_method_35_code
def yX12_loses : MethodName := ⟨RX12, "loses", "(II)V"⟩
abbrev cX12_stirs : ByteArray := prog_14_method_36_code
def yX12_stirs : MethodName := ⟨RX12, "stirs", "(I)V"⟩
abbrev cX12_settle : ByteArray := prog_14_method_37_code
def yX12_settle : MethodName := ⟨RX12, "settle", "()I"⟩
abbrev cX12_minute : ByteArray := prog_14_method_38_code
def yX12_minute : MethodName := ⟨RX12, "minute", "()I"⟩
abbrev cX12_flyAt : ByteArray := prog_14_method_39_code
def yX12_flyAt : MethodName := ⟨RX12, "flyAt", "(I)I"⟩
abbrev cX12_pokes : ByteArray := prog_14_method_40_code
def yX12_pokes : MethodName := ⟨RX12, "pokes", "(I)I"⟩
abbrev cX12_go : ByteArray := prog_14_method_41_code
def yX12_go : MethodName := ⟨RX12, "go", "(I)I"⟩
abbrev cX12_stander : ByteArray := prog_14_method_42_code
def yX12_stander : MethodName := ⟨RX12, "stander", "(II)I"⟩
abbrev cX12_standerIs : ByteArray := prog_14_method_43_code
def yX12_standerIs : MethodName := ⟨RX12, "standerIs", "(II)I"⟩
abbrev cX12_isUnder : ByteArray := prog_14_method_44_code
def yX12_isUnder : MethodName := ⟨RX12, "isUnder", "(II)Z"⟩
abbrev cX12_as : ByteArray := prog_14_method_45_code
def yX12_as : MethodName := ⟨RX12, "as", "(II)I"⟩
abbrev cX12_patience : ByteArray := prog_14_method_46_code
def yX12_patience : MethodName := ⟨RX12, "patience", "(II)I"⟩
abbrev cX12_swaps : ByteArray := prog_14_method_47_code
def yX12_swaps : MethodName := ⟨RX12, "swaps", "(II)V"⟩
abbrev cX12_swap : ByteArray := prog_14_method_48_code
def yX12_swap : MethodName := ⟨RX12, "swap", "(II)I"⟩
abbrev cX12_again : ByteArray := prog_14_method_49_code
def yX12_again : MethodName := ⟨RX12, "again", "(II)I"⟩
abbrev cX12_sun : ByteArray := prog_14_method_50_code
def yX12_sun : MethodName := ⟨RX12, "sun", "(I)I"⟩
abbrev cX12_at : ByteArray := prog_14_method_51_code
def yX12_at : MethodName := ⟨RX12, "at", "(I)I"⟩
abbrev cX12_minutes : ByteArray := prog_14_method_52_code
def yX12_minutes : MethodName := ⟨RX12, "minutes", "(I)I"⟩
abbrev cX12_fly : ByteArray := prog_14_method_53_code
def yX12_fly : MethodName := ⟨RX12, "fly", "(I)I"⟩
abbrev cX12_poke : ByteArray := prog_14_method_54_code
def yX12_poke : MethodName := ⟨RX12, "poke", "(I)I"⟩
abbrev cX12_draw : ByteArray := prog_14_method_55_code
def yX12_draw : MethodName := ⟨RX12, "draw", "()I"⟩
abbrev cX12_draws : ByteArray := prog_14_method_56_code
def yX12_draws : MethodName := ⟨RX12, "draws", "(I)I"⟩
abbrev cX12_seed : ByteArray := prog_14_method_57_code
def yX12_seed : MethodName := ⟨RX12, "seed", "(I)I"⟩
abbrev cX12_then : ByteArray := prog_14_method_58_code
def yX12_then : MethodName := ⟨RX12, "then", "(III)I"⟩
abbrev cX12_standing : ByteArray := prog_14_method_59_code
def yX12_standing : MethodName := ⟨RX12, "standing", "(I)I"⟩
abbrev cX12_lastAll : ByteArray := prog_14_method_60_code
def yX12_lastAll : MethodName := ⟨RX12, "lastAll", "()V"⟩
abbrev cX12_lasts : ByteArray := prog_14_method_61_code
def yX12_lasts : MethodName := ⟨RX12, "lasts", "(I)I"⟩
abbrev cX12_lastOne : ByteArray := prog_14_method_62_code
def yX12_lastOne : MethodName := ⟨RX12, "lastOne", "()I"⟩
abbrev cX12_round : ByteArray := prog_14_method_63_code
def yX12_round : MethodName := ⟨RX12, "round", "(III)I"⟩
abbrev cX12_change : ByteArray := prog_14_method_64_code
def yX12_change : MethodName := ⟨RX12, "change", "(II)I"⟩
abbrev cX12_bitsOf : ByteArray := prog_14_method_65_code
def yX12_bitsOf : MethodName := ⟨RX12, "bitsOf", "(I)I"⟩
abbrev cX12_standSet : ByteArray := prog_14_method_66_code
def yX12_standSet : MethodName := ⟨RX12, "standSet", "()I"⟩
abbrev cX12_empties : ByteArray := prog_14_method_67_code
def yX12_empties : MethodName := ⟨RX12, "empties", "(I)I"⟩
abbrev cX12_whose : ByteArray := prog_14_method_68_code
def yX12_whose : MethodName := ⟨RX12, "whose", "(I)I"⟩
abbrev cX12_divisor : ByteArray := prog_14_method_69_code
def yX12_divisor : MethodName := ⟨RX12, "divisor", "(JJ)J"⟩
abbrev cX12_slate : ByteArray := prog_14_method_70_code
def yX12_slate : MethodName := ⟨RX12, "slate", "(II)J"⟩
abbrev cX12_begins : ByteArray := prog_14_method_71_code
def yX12_begins : MethodName := ⟨RX12, "begins", "(I)V"⟩
abbrev cX12_above : ByteArray := prog_14_method_72_code
def yX12_above : MethodName := ⟨RX12, "above", "(I)I"⟩
abbrev cX12_kindNow : ByteArray := prog_14_method_73_code
def yX12_kindNow : MethodName := ⟨RX12, "kindNow", "()I"⟩
abbrev cX12_mNow : ByteArray := prog_14_method_74_code
def yX12_mNow : MethodName := ⟨RX12, "mNow", "()I"⟩
abbrev cX12_holdsAs : ByteArray := prog_14_method_75_code
def yX12_holdsAs : MethodName := ⟨RX12, "holdsAs", "(II)I"⟩
abbrev cX12_leansAs : ByteArray := prog_14_method_76_code
def yX12_leansAs : MethodName := ⟨RX12, "leansAs", "(II)I"⟩
abbrev cX12_swaysAs : ByteArray := prog_14_method_77_code
def yX12_swaysAs : MethodName := ⟨RX12, "swaysAs", "(II)I"⟩
abbrev cX12_partsAs : ByteArray := prog_14_method_78_code
def yX12_partsAs : MethodName := ⟨RX12, "partsAs", "(II)I"⟩
abbrev cX12_voice : ByteArray := prog_14_method_79_code
def yX12_voice : MethodName := ⟨RX12, "voice", "(III)I"⟩
abbrev cX12_body : ByteArray := prog_14_method_80_code
def yX12_body : MethodName := ⟨RX12, "body", "(I)I"⟩
abbrev cX12_isSheet : ByteArray := prog_14_method_81_code
def yX12_isSheet : MethodName := ⟨RX12, "isSheet", "(I)Z"⟩
abbrev cX12_sheet : ByteArray := prog_14_method_82_code
def yX12_sheet : MethodName := ⟨RX12, "sheet", "(III)I"⟩
abbrev cX12_put : ByteArray := prog_14_method_83_code
def yX12_put : MethodName := ⟨RX12, "put", "(III)I"⟩
abbrev cX12_move : ByteArray := prog_14_method_84_code
def yX12_move : MethodName := ⟨RX12, "move", "(IIIII)I"⟩
abbrev cX12_lacks : ByteArray := prog_14_method_85_code
def yX12_lacks : MethodName := ⟨RX12, "lacks", "(I)I"⟩
abbrev cX12_flies : ByteArray := prog_14_method_86_code
def yX12_flies : MethodName := ⟨RX12, "flies", "(I)I"⟩
abbrev cX12_judge : ByteArray := prog_14_method_87_code
def yX12_judge : MethodName := ⟨RX12, "judge", "(I)I"⟩
abbrev cX12_image : ByteArray := prog_14_method_88_code
def yX12_image : MethodName := ⟨RX12, "image", "()I"⟩
abbrev cX12_restore : ByteArray := prog_14_method_89_code
def yX12_restore : MethodName := ⟨RX12, "restore", "()I"⟩
abbrev cX12_tell : ByteArray := prog_14_method_90_code
def yX12_tell : MethodName := ⟨RX12, "tell", "(I)I"⟩
abbrev cX12_check : ByteArray := prog_14_method_91_code
def yX12_check : MethodName := ⟨RX12, "check", "()I"⟩
abbrev cX12_count : ByteArray := prog_14_method_92_code
def yX12_count : MethodName := ⟨RX12, "count", "(I)I"⟩
abbrev cX12_told : ByteArray := prog_14_method_93_code
def yX12_told : MethodName := ⟨RX12, "told", "(I)I"⟩
def RJ6 : String := "java/lang/Integer"
def TJ6 : u_T := fun k => match k with
  | _ => ("", "", "", false)
def tyJ6 : Nat → FieldType := fun k => match k with
  | _ => .int
abbrev wsJ60 : List Cond := u_ws RJ6 TJ6 0
theorem nmJ6 : ∀ a, a < 0 → ∀ b, b < 0 → a ≠ b → (TJ6 a).2.1 ≠ (TJ6 b).2.1 := by decide +kernel
theorem tyJ6_ok : ∀ k, k < 0 → parseFieldDescriptor (TJ6 k).2.2.1 = some (tyJ6 k) := by decide +kernel
abbrev cJ6_bitCount_0f7a4 : ByteArray := prog_15_method_49_code
def yJ6_bitCount_0f7a4 : MethodName := ⟨RJ6, "bitCount", "(I)I"⟩
def RJ9 : String := "java/lang/Math"
def TJ9 : u_T := fun k => match k with
  | _ => ("", "", "", false)
def tyJ9 : Nat → FieldType := fun k => match k with
  | _ => .int
abbrev wsJ90 : List Cond := u_ws RJ9 TJ9 0
theorem nmJ9 : ∀ a, a < 0 → ∀ b, b < 0 → a ≠ b → (TJ9 a).2.1 ≠ (TJ9 b).2.1 := by decide +kernel
theorem tyJ9_ok : ∀ k, k < 0 → parseFieldDescriptor (TJ9 k).2.2.1 = some (tyJ9 k) := by decide +kernel
abbrev cJ9_abs_0f7a4 : ByteArray := prog_16_method_59_code
def yJ9_abs_0f7a4 : MethodName := ⟨RJ9, "abs", "(I)I"⟩
abbrev cJ9_max_7cf53 : ByteArray := prog_16_method_65_code
def yJ9_max_7cf53 : MethodName := ⟨RJ9, "max", "(II)I"⟩
abbrev cJ9_max_f86c9 : ByteArray := prog_16_method_66_code
def yJ9_max_f86c9 : MethodName := ⟨RJ9, "max", "(JJ)J"⟩
abbrev cJ9_min_7cf53 : ByteArray := prog_16_method_69_code
def yJ9_min_7cf53 : MethodName := ⟨RJ9, "min", "(II)I"⟩
def RJ10 : String := "java/lang/System"
def TJ10 : u_T := fun k => match k with
  | _ => ("", "", "", false)
def tyJ10 : Nat → FieldType := fun k => match k with
  | _ => .int
abbrev wsJ100 : List Cond := u_ws RJ10 TJ10 0
theorem nmJ10 : ∀ a, a < 0 → ∀ b, b < 0 → a ≠ b → (TJ10 a).2.1 ≠ (TJ10 b).2.1 := by decide +kernel
theorem tyJ10_ok : ∀ k, k < 0 → parseFieldDescriptor (TJ10 k).2.2.1 = some (tyJ10 k) := by decide +kernel
def RL : String := "StandStillLaw"
abbrev cL_law : ByteArray := code
def yL_law : MethodName := ⟨RL, "law", "([I)Z"⟩
abbrev vwCl : List vw_C := [(RX0, TX0, 0), (RX1, TX1, 9), (RX2, TX2, 0), (RX3, TX3, 0), (RX4, TX4, 10), (RX5, TX5, 8), (RX6, TX6, 7), (RX7, TX7, 0), (RX8, TX8, 0), (RX9, TX9, 0), (RX10, TX10, 0), (RX11, TX11, 10), (RX12, TX12, 21)]
def tbl : List Cond := lw_tbl.filter goodWord
theorem tbl_in (w : Cond) : GoodIn (w :: tbl) tbl := fun v hv => ⟨List.mem_cons_of_mem _ hv, good_of_word (List.mem_filter.mp hv).2⟩
theorem tbl_m {w : Cond} (i : Nat) (h : lw_tbl[i]? = some w) (g : goodWord w = true) : w ∈ tbl := List.mem_filter.mpr ⟨List.mem_of_getElem? h, g⟩
