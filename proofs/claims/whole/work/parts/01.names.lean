-- ===== PART A: goes FIRST, ahead of the names: the tables' words, and 'selects' of the private methods out of them =====
/-- a private method of a class that the tables say can be made, by its rows of tables_1 -/
def lw_okq (q : MethodName × Nat) : Prop := (q.1.cls ≠ "java/lang/invoke/MethodHandle" ∧ q.1.cls ≠ "java/lang/invoke/VarHandle") ∧ Cond.instantiable q.1.cls q.2 ∈ tables_1 ∧ Cond.privateMethod q.1 ∈ tables_1 ∧ Cond.instanceMethod q.1 ∈ tables_1
theorem lw_p0 : lw_okq (⟨"BabyRound$Day", "giveTo", "(LBabyRound$State;I)V"⟩, 1) := ⟨⟨by decide +kernel, by decide +kernel⟩, List.mem_of_getElem? (i := 188) (by decide +kernel), List.mem_of_getElem? (i := 436) (by decide +kernel), List.mem_of_getElem? (i := 437) (by decide +kernel)⟩
theorem lw_p1 : lw_okq (⟨"BabyRound$Reader", "addFour", "(I)V"⟩, 13) := ⟨⟨by decide +kernel, by decide +kernel⟩, List.mem_of_getElem? (i := 136) (by decide +kernel), List.mem_of_getElem? (i := 494) (by decide +kernel), List.mem_of_getElem? (i := 495) (by decide +kernel)⟩
theorem lw_p2 : lw_okq (⟨"BabyRound$Reader", "scan", "()V"⟩, 13) := ⟨⟨by decide +kernel, by decide +kernel⟩, List.mem_of_getElem? (i := 136) (by decide +kernel), List.mem_of_getElem? (i := 515) (by decide +kernel), List.mem_of_getElem? (i := 516) (by decide +kernel)⟩
theorem lw_p3 : lw_okq (⟨"BabyRound$Reader", "byteAt", "(I)C"⟩, 13) := ⟨⟨by decide +kernel, by decide +kernel⟩, List.mem_of_getElem? (i := 136) (by decide +kernel), List.mem_of_getElem? (i := 519) (by decide +kernel), List.mem_of_getElem? (i := 520) (by decide +kernel)⟩
theorem lw_p4 : lw_okq (⟨"BabyRound$Reader", "endOfRun", "(I)I"⟩, 13) := ⟨⟨by decide +kernel, by decide +kernel⟩, List.mem_of_getElem? (i := 136) (by decide +kernel), List.mem_of_getElem? (i := 526) (by decide +kernel), List.mem_of_getElem? (i := 527) (by decide +kernel)⟩
theorem lw_p5 : lw_okq (⟨"BabyRound$Reader", "addToken", "(II)V"⟩, 13) := ⟨⟨by decide +kernel, by decide +kernel⟩, List.mem_of_getElem? (i := 136) (by decide +kernel), List.mem_of_getElem? (i := 536) (by decide +kernel), List.mem_of_getElem? (i := 537) (by decide +kernel)⟩
theorem lw_p6 : lw_okq (⟨"BabyRound$Reader", "addWord", "(II)V"⟩, 13) := ⟨⟨by decide +kernel, by decide +kernel⟩, List.mem_of_getElem? (i := 136) (by decide +kernel), List.mem_of_getElem? (i := 540) (by decide +kernel), List.mem_of_getElem? (i := 541) (by decide +kernel)⟩
theorem lw_p7 : lw_okq (⟨"BabyRound$Reader", "addRow", "(IJI)V"⟩, 13) := ⟨⟨by decide +kernel, by decide +kernel⟩, List.mem_of_getElem? (i := 136) (by decide +kernel), List.mem_of_getElem? (i := 544) (by decide +kernel), List.mem_of_getElem? (i := 545) (by decide +kernel)⟩
theorem lw_p8 : lw_okq (⟨"BabyRound$Reader", "wordAt", "(II)I"⟩, 13) := ⟨⟨by decide +kernel, by decide +kernel⟩, List.mem_of_getElem? (i := 136) (by decide +kernel), List.mem_of_getElem? (i := 549) (by decide +kernel), List.mem_of_getElem? (i := 550) (by decide +kernel)⟩
theorem lw_p9 : lw_okq (⟨"BabyRound$Reader", "nameAt", "(II)J"⟩, 13) := ⟨⟨by decide +kernel, by decide +kernel⟩, List.mem_of_getElem? (i := 136) (by decide +kernel), List.mem_of_getElem? (i := 602) (by decide +kernel), List.mem_of_getElem? (i := 603) (by decide +kernel)⟩
theorem lw_p10 : lw_okq (⟨"BabyRound$Reader", "numberAt", "(II)I"⟩, 13) := ⟨⟨by decide +kernel, by decide +kernel⟩, List.mem_of_getElem? (i := 136) (by decide +kernel), List.mem_of_getElem? (i := 607) (by decide +kernel), List.mem_of_getElem? (i := 608) (by decide +kernel)⟩
theorem lw_p11 : lw_okq (⟨"BabyRound$Reader", "kind", "()I"⟩, 13) := ⟨⟨by decide +kernel, by decide +kernel⟩, List.mem_of_getElem? (i := 136) (by decide +kernel), List.mem_of_getElem? (i := 614) (by decide +kernel), List.mem_of_getElem? (i := 615) (by decide +kernel)⟩
theorem lw_p12 : lw_okq (⟨"BabyRound$Reader", "tellOne", "()Z"⟩, 13) := ⟨⟨by decide +kernel, by decide +kernel⟩, List.mem_of_getElem? (i := 136) (by decide +kernel), List.mem_of_getElem? (i := 619) (by decide +kernel), List.mem_of_getElem? (i := 620) (by decide +kernel)⟩
theorem lw_p13 : lw_okq (⟨"BabyRound$Reader", "tellAunt", "()Z"⟩, 13) := ⟨⟨by decide +kernel, by decide +kernel⟩, List.mem_of_getElem? (i := 136) (by decide +kernel), List.mem_of_getElem? (i := 623) (by decide +kernel), List.mem_of_getElem? (i := 624) (by decide +kernel)⟩
theorem lw_p14 : lw_okq (⟨"BabyRound$Reader", "fail", "(I)Z"⟩, 13) := ⟨⟨by decide +kernel, by decide +kernel⟩, List.mem_of_getElem? (i := 136) (by decide +kernel), List.mem_of_getElem? (i := 627) (by decide +kernel), List.mem_of_getElem? (i := 628) (by decide +kernel)⟩
theorem lw_p15 : lw_okq (⟨"BabyRound$Reader", "take", "()Z"⟩, 13) := ⟨⟨by decide +kernel, by decide +kernel⟩, List.mem_of_getElem? (i := 136) (by decide +kernel), List.mem_of_getElem? (i := 631) (by decide +kernel), List.mem_of_getElem? (i := 632) (by decide +kernel)⟩
def lw_privs_1 : List (MethodName × Nat) := [(⟨"BabyRound$Day", "giveTo", "(LBabyRound$State;I)V"⟩, 1), (⟨"BabyRound$Reader", "addFour", "(I)V"⟩, 13), (⟨"BabyRound$Reader", "scan", "()V"⟩, 13), (⟨"BabyRound$Reader", "byteAt", "(I)C"⟩, 13), (⟨"BabyRound$Reader", "endOfRun", "(I)I"⟩, 13), (⟨"BabyRound$Reader", "addToken", "(II)V"⟩, 13), (⟨"BabyRound$Reader", "addWord", "(II)V"⟩, 13), (⟨"BabyRound$Reader", "addRow", "(IJI)V"⟩, 13), (⟨"BabyRound$Reader", "wordAt", "(II)I"⟩, 13), (⟨"BabyRound$Reader", "nameAt", "(II)J"⟩, 13), (⟨"BabyRound$Reader", "numberAt", "(II)I"⟩, 13), (⟨"BabyRound$Reader", "kind", "()I"⟩, 13), (⟨"BabyRound$Reader", "tellOne", "()Z"⟩, 13), (⟨"BabyRound$Reader", "tellAunt", "()Z"⟩, 13), (⟨"BabyRound$Reader", "fail", "(I)Z"⟩, 13), (⟨"BabyRound$Reader", "take", "()Z"⟩, 13)]
theorem lw_r1 : ∀ q ∈ lw_privs_1, lw_okq q := List.forall_mem_cons.mpr ⟨lw_p0, List.forall_mem_cons.mpr ⟨lw_p1, List.forall_mem_cons.mpr ⟨lw_p2, List.forall_mem_cons.mpr ⟨lw_p3, List.forall_mem_cons.mpr ⟨lw_p4, List.forall_mem_cons.mpr ⟨lw_p5, List.forall_mem_cons.mpr ⟨lw_p6, List.forall_mem_cons.mpr ⟨lw_p7, List.forall_mem_cons.mpr ⟨lw_p8, List.forall_mem_cons.mpr ⟨lw_p9, List.forall_mem_cons.mpr ⟨lw_p10, List.forall_mem_cons.mpr ⟨lw_p11, List.forall_mem_cons.mpr ⟨lw_p12, List.forall_mem_cons.mpr ⟨lw_p13, List.forall_mem_cons.mpr ⟨lw_p14, List.forall_mem_cons.mpr ⟨lw_p15, fun _ h => absurd h List.not_mem_nil⟩⟩⟩⟩⟩⟩⟩⟩⟩⟩⟩⟩⟩⟩⟩⟩
theorem lw_p16 : lw_okq (⟨"BabyRound$Reader", "worth", "()J"⟩, 13) := ⟨⟨by decide +kernel, by decide +kernel⟩, List.mem_of_getElem? (i := 136) (by decide +kernel), List.mem_of_getElem? (i := 635) (by decide +kernel), List.mem_of_getElem? (i := 636) (by decide +kernel)⟩
theorem lw_p17 : lw_okq (⟨"BabyRound$Reader", "note", "(I)V"⟩, 13) := ⟨⟨by decide +kernel, by decide +kernel⟩, List.mem_of_getElem? (i := 136) (by decide +kernel), List.mem_of_getElem? (i := 643) (by decide +kernel), List.mem_of_getElem? (i := 644) (by decide +kernel)⟩
theorem lw_p18 : lw_okq (⟨"BabyRound$Reader", "take", "(I)Z"⟩, 13) := ⟨⟨by decide +kernel, by decide +kernel⟩, List.mem_of_getElem? (i := 136) (by decide +kernel), List.mem_of_getElem? (i := 647) (by decide +kernel), List.mem_of_getElem? (i := 648) (by decide +kernel)⟩
theorem lw_p19 : lw_okq (⟨"BabyRound$Reader", "takeNumbers", "(III)Z"⟩, 13) := ⟨⟨by decide +kernel, by decide +kernel⟩, List.mem_of_getElem? (i := 136) (by decide +kernel), List.mem_of_getElem? (i := 651) (by decide +kernel), List.mem_of_getElem? (i := 652) (by decide +kernel)⟩
theorem lw_p20 : lw_okq (⟨"BabyRound$Reader", "tellBaby", "()Z"⟩, 13) := ⟨⟨by decide +kernel, by decide +kernel⟩, List.mem_of_getElem? (i := 136) (by decide +kernel), List.mem_of_getElem? (i := 661) (by decide +kernel), List.mem_of_getElem? (i := 662) (by decide +kernel)⟩
theorem lw_p21 : lw_okq (⟨"BabyRound$Reader", "tellLaw", "(I)Z"⟩, 13) := ⟨⟨by decide +kernel, by decide +kernel⟩, List.mem_of_getElem? (i := 136) (by decide +kernel), List.mem_of_getElem? (i := 666) (by decide +kernel), List.mem_of_getElem? (i := 667) (by decide +kernel)⟩
theorem lw_p22 : lw_okq (⟨"BabyRound$Reader", "takePiece", "(I)Z"⟩, 13) := ⟨⟨by decide +kernel, by decide +kernel⟩, List.mem_of_getElem? (i := 136) (by decide +kernel), List.mem_of_getElem? (i := 671) (by decide +kernel), List.mem_of_getElem? (i := 672) (by decide +kernel)⟩
theorem lw_p23 : lw_okq (⟨"BabyRound$Reader", "addWaiting", "(I)V"⟩, 13) := ⟨⟨by decide +kernel, by decide +kernel⟩, List.mem_of_getElem? (i := 136) (by decide +kernel), List.mem_of_getElem? (i := 675) (by decide +kernel), List.mem_of_getElem? (i := 676) (by decide +kernel)⟩
theorem lw_p24 : lw_okq (⟨"BabyRound$Reader", "addUnit", "(I)Z"⟩, 13) := ⟨⟨by decide +kernel, by decide +kernel⟩, List.mem_of_getElem? (i := 136) (by decide +kernel), List.mem_of_getElem? (i := 679) (by decide +kernel), List.mem_of_getElem? (i := 680) (by decide +kernel)⟩
theorem lw_p25 : lw_okq (⟨"BabyRound$Reader", "endWaiting", "(I)V"⟩, 13) := ⟨⟨by decide +kernel, by decide +kernel⟩, List.mem_of_getElem? (i := 136) (by decide +kernel), List.mem_of_getElem? (i := 687) (by decide +kernel), List.mem_of_getElem? (i := 688) (by decide +kernel)⟩
theorem lw_p26 : lw_okq (⟨"BabyRound$Reader", "tellNumber", "(I)Z"⟩, 13) := ⟨⟨by decide +kernel, by decide +kernel⟩, List.mem_of_getElem? (i := 136) (by decide +kernel), List.mem_of_getElem? (i := 697) (by decide +kernel), List.mem_of_getElem? (i := 698) (by decide +kernel)⟩
theorem lw_p27 : lw_okq (⟨"BabyRound", "isAunt", "(I)Z"⟩, 14) := ⟨⟨by decide +kernel, by decide +kernel⟩, List.mem_of_getElem? (i := 17) (by decide +kernel), List.mem_of_getElem? (i := 731) (by decide +kernel), List.mem_of_getElem? (i := 732) (by decide +kernel)⟩
theorem lw_p28 : lw_okq (⟨"BabyRound$Laws", "value", "(ILBabyRound$State;)I"⟩, 8) := ⟨⟨by decide +kernel, by decide +kernel⟩, List.mem_of_getElem? (i := 31) (by decide +kernel), List.mem_of_getElem? (i := 752) (by decide +kernel), List.mem_of_getElem? (i := 753) (by decide +kernel)⟩
theorem lw_p29 : lw_okq (⟨"BabyRound$Laws", "join", "(III)I"⟩, 8) := ⟨⟨by decide +kernel, by decide +kernel⟩, List.mem_of_getElem? (i := 31) (by decide +kernel), List.mem_of_getElem? (i := 760) (by decide +kernel), List.mem_of_getElem? (i := 761) (by decide +kernel)⟩
theorem lw_p30 : lw_okq (⟨"BabyRound$Day", "stepAsleep", "(LBabyRound$State;)V"⟩, 1) := ⟨⟨by decide +kernel, by decide +kernel⟩, List.mem_of_getElem? (i := 188) (by decide +kernel), List.mem_of_getElem? (i := 799) (by decide +kernel), List.mem_of_getElem? (i := 800) (by decide +kernel)⟩
theorem lw_p31 : lw_okq (⟨"BabyRound$Day", "stepAwake", "(LBabyRound$State;)V"⟩, 1) := ⟨⟨by decide +kernel, by decide +kernel⟩, List.mem_of_getElem? (i := 188) (by decide +kernel), List.mem_of_getElem? (i := 809) (by decide +kernel), List.mem_of_getElem? (i := 810) (by decide +kernel)⟩
def lw_privs_2 : List (MethodName × Nat) := [(⟨"BabyRound$Reader", "worth", "()J"⟩, 13), (⟨"BabyRound$Reader", "note", "(I)V"⟩, 13), (⟨"BabyRound$Reader", "take", "(I)Z"⟩, 13), (⟨"BabyRound$Reader", "takeNumbers", "(III)Z"⟩, 13), (⟨"BabyRound$Reader", "tellBaby", "()Z"⟩, 13), (⟨"BabyRound$Reader", "tellLaw", "(I)Z"⟩, 13), (⟨"BabyRound$Reader", "takePiece", "(I)Z"⟩, 13), (⟨"BabyRound$Reader", "addWaiting", "(I)V"⟩, 13), (⟨"BabyRound$Reader", "addUnit", "(I)Z"⟩, 13), (⟨"BabyRound$Reader", "endWaiting", "(I)V"⟩, 13), (⟨"BabyRound$Reader", "tellNumber", "(I)Z"⟩, 13), (⟨"BabyRound", "isAunt", "(I)Z"⟩, 14), (⟨"BabyRound$Laws", "value", "(ILBabyRound$State;)I"⟩, 8), (⟨"BabyRound$Laws", "join", "(III)I"⟩, 8), (⟨"BabyRound$Day", "stepAsleep", "(LBabyRound$State;)V"⟩, 1), (⟨"BabyRound$Day", "stepAwake", "(LBabyRound$State;)V"⟩, 1)]
theorem lw_r2 : ∀ q ∈ lw_privs_2, lw_okq q := List.forall_mem_cons.mpr ⟨lw_p16, List.forall_mem_cons.mpr ⟨lw_p17, List.forall_mem_cons.mpr ⟨lw_p18, List.forall_mem_cons.mpr ⟨lw_p19, List.forall_mem_cons.mpr ⟨lw_p20, List.forall_mem_cons.mpr ⟨lw_p21, List.forall_mem_cons.mpr ⟨lw_p22, List.forall_mem_cons.mpr ⟨lw_p23, List.forall_mem_cons.mpr ⟨lw_p24, List.forall_mem_cons.mpr ⟨lw_p25, List.forall_mem_cons.mpr ⟨lw_p26, List.forall_mem_cons.mpr ⟨lw_p27, List.forall_mem_cons.mpr ⟨lw_p28, List.forall_mem_cons.mpr ⟨lw_p29, List.forall_mem_cons.mpr ⟨lw_p30, List.forall_mem_cons.mpr ⟨lw_p31, fun _ h => absurd h List.not_mem_nil⟩⟩⟩⟩⟩⟩⟩⟩⟩⟩⟩⟩⟩⟩⟩⟩
theorem lw_p32 : lw_okq (⟨"BabyRound$Day", "spit", "(LBabyRound$State;)V"⟩, 1) := ⟨⟨by decide +kernel, by decide +kernel⟩, List.mem_of_getElem? (i := 188) (by decide +kernel), List.mem_of_getElem? (i := 817) (by decide +kernel), List.mem_of_getElem? (i := 818) (by decide +kernel)⟩
theorem lw_p33 : lw_okq (⟨"BabyRound", "asleepOrAlone", "()Z"⟩, 14) := ⟨⟨by decide +kernel, by decide +kernel⟩, List.mem_of_getElem? (i := 17) (by decide +kernel), List.mem_of_getElem? (i := 838) (by decide +kernel), List.mem_of_getElem? (i := 839) (by decide +kernel)⟩
theorem lw_p34 : lw_okq (⟨"BabyRound$Orders", "begin", "(LBabyRound$State;)V"⟩, 12) := ⟨⟨by decide +kernel, by decide +kernel⟩, List.mem_of_getElem? (i := 333) (by decide +kernel), List.mem_of_getElem? (i := 905) (by decide +kernel), List.mem_of_getElem? (i := 906) (by decide +kernel)⟩
theorem lw_p35 : lw_okq (⟨"BabyRound$Orders", "row", "(I)LBabyRound$State;"⟩, 12) := ⟨⟨by decide +kernel, by decide +kernel⟩, List.mem_of_getElem? (i := 333) (by decide +kernel), List.mem_of_getElem? (i := 909) (by decide +kernel), List.mem_of_getElem? (i := 910) (by decide +kernel)⟩
theorem lw_p36 : lw_okq (⟨"BabyRound$Orders", "weigh", "()V"⟩, 12) := ⟨⟨by decide +kernel, by decide +kernel⟩, List.mem_of_getElem? (i := 333) (by decide +kernel), List.mem_of_getElem? (i := 922) (by decide +kernel), List.mem_of_getElem? (i := 923) (by decide +kernel)⟩
theorem lw_p37 : lw_okq (⟨"BabyRound$Orders", "share", "(II)I"⟩, 12) := ⟨⟨by decide +kernel, by decide +kernel⟩, List.mem_of_getElem? (i := 333) (by decide +kernel), List.mem_of_getElem? (i := 926) (by decide +kernel), List.mem_of_getElem? (i := 927) (by decide +kernel)⟩
theorem lw_p38 : lw_okq (⟨"BabyRound$Orders", "follow", "()I"⟩, 12) := ⟨⟨by decide +kernel, by decide +kernel⟩, List.mem_of_getElem? (i := 333) (by decide +kernel), List.mem_of_getElem? (i := 935) (by decide +kernel), List.mem_of_getElem? (i := 936) (by decide +kernel)⟩
theorem lw_p39 : lw_okq (⟨"BabyRound$Orders", "change", "(II)V"⟩, 12) := ⟨⟨by decide +kernel, by decide +kernel⟩, List.mem_of_getElem? (i := 333) (by decide +kernel), List.mem_of_getElem? (i := 939) (by decide +kernel), List.mem_of_getElem? (i := 940) (by decide +kernel)⟩
theorem lw_p40 : lw_okq (⟨"BabyRound", "grant", "(I)V"⟩, 14) := ⟨⟨by decide +kernel, by decide +kernel⟩, List.mem_of_getElem? (i := 17) (by decide +kernel), List.mem_of_getElem? (i := 959) (by decide +kernel), List.mem_of_getElem? (i := 960) (by decide +kernel)⟩
theorem lw_p41 : lw_okq (⟨"BabyRound", "criedInSight", "(II)I"⟩, 14) := ⟨⟨by decide +kernel, by decide +kernel⟩, List.mem_of_getElem? (i := 17) (by decide +kernel), List.mem_of_getElem? (i := 968) (by decide +kernel), List.mem_of_getElem? (i := 969) (by decide +kernel)⟩
theorem lw_p42 : lw_okq (⟨"BabyRound$Day", "fewest", "(LBabyRound$State;)I"⟩, 1) := ⟨⟨by decide +kernel, by decide +kernel⟩, List.mem_of_getElem? (i := 188) (by decide +kernel), List.mem_of_getElem? (i := 988) (by decide +kernel), List.mem_of_getElem? (i := 989) (by decide +kernel)⟩
theorem lw_p43 : lw_okq (⟨"BabyRound", "laughInSet", "(II)V"⟩, 14) := ⟨⟨by decide +kernel, by decide +kernel⟩, List.mem_of_getElem? (i := 17) (by decide +kernel), List.mem_of_getElem? (i := 1028) (by decide +kernel), List.mem_of_getElem? (i := 1029) (by decide +kernel)⟩
theorem lw_p44 : lw_okq (⟨"BabyRound", "isAtRest", "(I)Z"⟩, 14) := ⟨⟨by decide +kernel, by decide +kernel⟩, List.mem_of_getElem? (i := 17) (by decide +kernel), List.mem_of_getElem? (i := 1033) (by decide +kernel), List.mem_of_getElem? (i := 1034) (by decide +kernel)⟩
theorem lw_p45 : lw_okq (⟨"BabyRound", "criesAsTold", "(II)Z"⟩, 14) := ⟨⟨by decide +kernel, by decide +kernel⟩, List.mem_of_getElem? (i := 17) (by decide +kernel), List.mem_of_getElem? (i := 1064) (by decide +kernel), List.mem_of_getElem? (i := 1065) (by decide +kernel)⟩
theorem lw_p46 : lw_okq (⟨"BabyRoundModel", "plain", "(I)V"⟩, 73) := ⟨⟨by decide +kernel, by decide +kernel⟩, List.mem_of_getElem? (i := 1080) (by decide +kernel), List.mem_of_getElem? (i := 1086) (by decide +kernel), List.mem_of_getElem? (i := 1087) (by decide +kernel)⟩
theorem lw_p47 : lw_okq (⟨"BabyRoundModel", "begins", "()V"⟩, 73) := ⟨⟨by decide +kernel, by decide +kernel⟩, List.mem_of_getElem? (i := 1080) (by decide +kernel), List.mem_of_getElem? (i := 1097) (by decide +kernel), List.mem_of_getElem? (i := 1098) (by decide +kernel)⟩
def lw_privs_3 : List (MethodName × Nat) := [(⟨"BabyRound$Day", "spit", "(LBabyRound$State;)V"⟩, 1), (⟨"BabyRound", "asleepOrAlone", "()Z"⟩, 14), (⟨"BabyRound$Orders", "begin", "(LBabyRound$State;)V"⟩, 12), (⟨"BabyRound$Orders", "row", "(I)LBabyRound$State;"⟩, 12), (⟨"BabyRound$Orders", "weigh", "()V"⟩, 12), (⟨"BabyRound$Orders", "share", "(II)I"⟩, 12), (⟨"BabyRound$Orders", "follow", "()I"⟩, 12), (⟨"BabyRound$Orders", "change", "(II)V"⟩, 12), (⟨"BabyRound", "grant", "(I)V"⟩, 14), (⟨"BabyRound", "criedInSight", "(II)I"⟩, 14), (⟨"BabyRound$Day", "fewest", "(LBabyRound$State;)I"⟩, 1), (⟨"BabyRound", "laughInSet", "(II)V"⟩, 14), (⟨"BabyRound", "isAtRest", "(I)Z"⟩, 14), (⟨"BabyRound", "criesAsTold", "(II)Z"⟩, 14), (⟨"BabyRoundModel", "plain", "(I)V"⟩, 73), (⟨"BabyRoundModel", "begins", "()V"⟩, 73)]
theorem lw_r3 : ∀ q ∈ lw_privs_3, lw_okq q := List.forall_mem_cons.mpr ⟨lw_p32, List.forall_mem_cons.mpr ⟨lw_p33, List.forall_mem_cons.mpr ⟨lw_p34, List.forall_mem_cons.mpr ⟨lw_p35, List.forall_mem_cons.mpr ⟨lw_p36, List.forall_mem_cons.mpr ⟨lw_p37, List.forall_mem_cons.mpr ⟨lw_p38, List.forall_mem_cons.mpr ⟨lw_p39, List.forall_mem_cons.mpr ⟨lw_p40, List.forall_mem_cons.mpr ⟨lw_p41, List.forall_mem_cons.mpr ⟨lw_p42, List.forall_mem_cons.mpr ⟨lw_p43, List.forall_mem_cons.mpr ⟨lw_p44, List.forall_mem_cons.mpr ⟨lw_p45, List.forall_mem_cons.mpr ⟨lw_p46, List.forall_mem_cons.mpr ⟨lw_p47, fun _ h => absurd h List.not_mem_nil⟩⟩⟩⟩⟩⟩⟩⟩⟩⟩⟩⟩⟩⟩⟩⟩
theorem lw_p48 : lw_okq (⟨"BabyRoundModel", "plainly", "()V"⟩, 73) := ⟨⟨by decide +kernel, by decide +kernel⟩, List.mem_of_getElem? (i := 1080) (by decide +kernel), List.mem_of_getElem? (i := 1101) (by decide +kernel), List.mem_of_getElem? (i := 1102) (by decide +kernel)⟩
theorem lw_p49 : lw_okq (⟨"BabyRoundModel", "keepsRow", "()V"⟩, 73) := ⟨⟨by decide +kernel, by decide +kernel⟩, List.mem_of_getElem? (i := 1080) (by decide +kernel), List.mem_of_getElem? (i := 1105) (by decide +kernel), List.mem_of_getElem? (i := 1106) (by decide +kernel)⟩
theorem lw_p50 : lw_okq (⟨"BabyRoundModel", "put", "(I)V"⟩, 73) := ⟨⟨by decide +kernel, by decide +kernel⟩, List.mem_of_getElem? (i := 1080) (by decide +kernel), List.mem_of_getElem? (i := 1333) (by decide +kernel), List.mem_of_getElem? (i := 1334) (by decide +kernel)⟩
theorem lw_p51 : lw_okq (⟨"BabyRoundModel", "cut", "()V"⟩, 73) := ⟨⟨by decide +kernel, by decide +kernel⟩, List.mem_of_getElem? (i := 1080) (by decide +kernel), List.mem_of_getElem? (i := 1345) (by decide +kernel), List.mem_of_getElem? (i := 1346) (by decide +kernel)⟩
theorem lw_p52 : lw_okq (⟨"BabyRoundModel", "byteAt", "(I)I"⟩, 73) := ⟨⟨by decide +kernel, by decide +kernel⟩, List.mem_of_getElem? (i := 1080) (by decide +kernel), List.mem_of_getElem? (i := 1349) (by decide +kernel), List.mem_of_getElem? (i := 1350) (by decide +kernel)⟩
theorem lw_p53 : lw_okq (⟨"BabyRoundModel", "token", "(IIIJ)V"⟩, 73) := ⟨⟨by decide +kernel, by decide +kernel⟩, List.mem_of_getElem? (i := 1080) (by decide +kernel), List.mem_of_getElem? (i := 1353) (by decide +kernel), List.mem_of_getElem? (i := 1354) (by decide +kernel)⟩
theorem lw_p54 : lw_okq (⟨"BabyRoundModel", "sign", "(III)I"⟩, 73) := ⟨⟨by decide +kernel, by decide +kernel⟩, List.mem_of_getElem? (i := 1080) (by decide +kernel), List.mem_of_getElem? (i := 1363) (by decide +kernel), List.mem_of_getElem? (i := 1364) (by decide +kernel)⟩
theorem lw_p55 : lw_okq (⟨"BabyRoundModel", "is", "(I)Z"⟩, 73) := ⟨⟨by decide +kernel, by decide +kernel⟩, List.mem_of_getElem? (i := 1080) (by decide +kernel), List.mem_of_getElem? (i := 1367) (by decide +kernel), List.mem_of_getElem? (i := 1368) (by decide +kernel)⟩
theorem lw_p56 : lw_okq (⟨"BabyRoundModel", "tellOne", "()V"⟩, 73) := ⟨⟨by decide +kernel, by decide +kernel⟩, List.mem_of_getElem? (i := 1080) (by decide +kernel), List.mem_of_getElem? (i := 1371) (by decide +kernel), List.mem_of_getElem? (i := 1372) (by decide +kernel)⟩
theorem lw_p57 : lw_okq (⟨"BabyRoundModel", "goesOn", "()V"⟩, 73) := ⟨⟨by decide +kernel, by decide +kernel⟩, List.mem_of_getElem? (i := 1080) (by decide +kernel), List.mem_of_getElem? (i := 1375) (by decide +kernel), List.mem_of_getElem? (i := 1376) (by decide +kernel)⟩
theorem lw_p58 : lw_okq (⟨"BabyRoundModel", "fail", "(I)V"⟩, 73) := ⟨⟨by decide +kernel, by decide +kernel⟩, List.mem_of_getElem? (i := 1080) (by decide +kernel), List.mem_of_getElem? (i := 1379) (by decide +kernel), List.mem_of_getElem? (i := 1380) (by decide +kernel)⟩
theorem lw_p59 : lw_okq (⟨"BabyRoundModel", "bounded", "(II)I"⟩, 73) := ⟨⟨by decide +kernel, by decide +kernel⟩, List.mem_of_getElem? (i := 1080) (by decide +kernel), List.mem_of_getElem? (i := 1383) (by decide +kernel), List.mem_of_getElem? (i := 1384) (by decide +kernel)⟩
theorem lw_p60 : lw_okq (⟨"BabyRoundModel", "wrong", "(II)V"⟩, 73) := ⟨⟨by decide +kernel, by decide +kernel⟩, List.mem_of_getElem? (i := 1080) (by decide +kernel), List.mem_of_getElem? (i := 1387) (by decide +kernel), List.mem_of_getElem? (i := 1388) (by decide +kernel)⟩
theorem lw_p61 : lw_okq (⟨"BabyRoundModel", "must", "(I)V"⟩, 73) := ⟨⟨by decide +kernel, by decide +kernel⟩, List.mem_of_getElem? (i := 1080) (by decide +kernel), List.mem_of_getElem? (i := 1391) (by decide +kernel), List.mem_of_getElem? (i := 1392) (by decide +kernel)⟩
theorem lw_p62 : lw_okq (⟨"BabyRoundModel", "tellAunt", "()V"⟩, 73) := ⟨⟨by decide +kernel, by decide +kernel⟩, List.mem_of_getElem? (i := 1080) (by decide +kernel), List.mem_of_getElem? (i := 1395) (by decide +kernel), List.mem_of_getElem? (i := 1396) (by decide +kernel)⟩
theorem lw_p63 : lw_okq (⟨"BabyRoundModel", "tellLaw", "(I)V"⟩, 73) := ⟨⟨by decide +kernel, by decide +kernel⟩, List.mem_of_getElem? (i := 1080) (by decide +kernel), List.mem_of_getElem? (i := 1399) (by decide +kernel), List.mem_of_getElem? (i := 1400) (by decide +kernel)⟩
def lw_privs_4 : List (MethodName × Nat) := [(⟨"BabyRoundModel", "plainly", "()V"⟩, 73), (⟨"BabyRoundModel", "keepsRow", "()V"⟩, 73), (⟨"BabyRoundModel", "put", "(I)V"⟩, 73), (⟨"BabyRoundModel", "cut", "()V"⟩, 73), (⟨"BabyRoundModel", "byteAt", "(I)I"⟩, 73), (⟨"BabyRoundModel", "token", "(IIIJ)V"⟩, 73), (⟨"BabyRoundModel", "sign", "(III)I"⟩, 73), (⟨"BabyRoundModel", "is", "(I)Z"⟩, 73), (⟨"BabyRoundModel", "tellOne", "()V"⟩, 73), (⟨"BabyRoundModel", "goesOn", "()V"⟩, 73), (⟨"BabyRoundModel", "fail", "(I)V"⟩, 73), (⟨"BabyRoundModel", "bounded", "(II)I"⟩, 73), (⟨"BabyRoundModel", "wrong", "(II)V"⟩, 73), (⟨"BabyRoundModel", "must", "(I)V"⟩, 73), (⟨"BabyRoundModel", "tellAunt", "()V"⟩, 73), (⟨"BabyRoundModel", "tellLaw", "(I)V"⟩, 73)]
theorem lw_r4 : ∀ q ∈ lw_privs_4, lw_okq q := List.forall_mem_cons.mpr ⟨lw_p48, List.forall_mem_cons.mpr ⟨lw_p49, List.forall_mem_cons.mpr ⟨lw_p50, List.forall_mem_cons.mpr ⟨lw_p51, List.forall_mem_cons.mpr ⟨lw_p52, List.forall_mem_cons.mpr ⟨lw_p53, List.forall_mem_cons.mpr ⟨lw_p54, List.forall_mem_cons.mpr ⟨lw_p55, List.forall_mem_cons.mpr ⟨lw_p56, List.forall_mem_cons.mpr ⟨lw_p57, List.forall_mem_cons.mpr ⟨lw_p58, List.forall_mem_cons.mpr ⟨lw_p59, List.forall_mem_cons.mpr ⟨lw_p60, List.forall_mem_cons.mpr ⟨lw_p61, List.forall_mem_cons.mpr ⟨lw_p62, List.forall_mem_cons.mpr ⟨lw_p63, fun _ h => absurd h List.not_mem_nil⟩⟩⟩⟩⟩⟩⟩⟩⟩⟩⟩⟩⟩⟩⟩⟩
theorem lw_p64 : lw_okq (⟨"BabyRoundModel", "expression", "()V"⟩, 73) := ⟨⟨by decide +kernel, by decide +kernel⟩, List.mem_of_getElem? (i := 1080) (by decide +kernel), List.mem_of_getElem? (i := 1403) (by decide +kernel), List.mem_of_getElem? (i := 1404) (by decide +kernel)⟩
theorem lw_p65 : lw_okq (⟨"BabyRoundModel", "unit", "()V"⟩, 73) := ⟨⟨by decide +kernel, by decide +kernel⟩, List.mem_of_getElem? (i := 1080) (by decide +kernel), List.mem_of_getElem? (i := 1407) (by decide +kernel), List.mem_of_getElem? (i := 1408) (by decide +kernel)⟩
theorem lw_p66 : lw_okq (⟨"BabyRoundModel", "emit", "(II)V"⟩, 73) := ⟨⟨by decide +kernel, by decide +kernel⟩, List.mem_of_getElem? (i := 1080) (by decide +kernel), List.mem_of_getElem? (i := 1411) (by decide +kernel), List.mem_of_getElem? (i := 1412) (by decide +kernel)⟩
theorem lw_p67 : lw_okq (⟨"BabyRoundModel", "comesOut", "(Z)V"⟩, 73) := ⟨⟨by decide +kernel, by decide +kernel⟩, List.mem_of_getElem? (i := 1080) (by decide +kernel), List.mem_of_getElem? (i := 1415) (by decide +kernel), List.mem_of_getElem? (i := 1416) (by decide +kernel)⟩
theorem lw_p68 : lw_okq (⟨"BabyRoundModel", "term", "()V"⟩, 73) := ⟨⟨by decide +kernel, by decide +kernel⟩, List.mem_of_getElem? (i := 1080) (by decide +kernel), List.mem_of_getElem? (i := 1419) (by decide +kernel), List.mem_of_getElem? (i := 1420) (by decide +kernel)⟩
theorem lw_p69 : lw_okq (⟨"BabyRoundModel", "isAunt", "(I)Z"⟩, 73) := ⟨⟨by decide +kernel, by decide +kernel⟩, List.mem_of_getElem? (i := 1080) (by decide +kernel), List.mem_of_getElem? (i := 1438) (by decide +kernel), List.mem_of_getElem? (i := 1439) (by decide +kernel)⟩
theorem lw_p70 : lw_okq (⟨"BabyRoundModel", "copies", "()V"⟩, 73) := ⟨⟨by decide +kernel, by decide +kernel⟩, List.mem_of_getElem? (i := 1080) (by decide +kernel), List.mem_of_getElem? (i := 1446) (by decide +kernel), List.mem_of_getElem? (i := 1447) (by decide +kernel)⟩
theorem lw_p71 : lw_okq (⟨"BabyRoundModel", "lawNow", "(I)I"⟩, 73) := ⟨⟨by decide +kernel, by decide +kernel⟩, List.mem_of_getElem? (i := 1080) (by decide +kernel), List.mem_of_getElem? (i := 1450) (by decide +kernel), List.mem_of_getElem? (i := 1451) (by decide +kernel)⟩
theorem lw_p72 : lw_okq (⟨"BabyRoundModel", "tells", "(IIII)I"⟩, 73) := ⟨⟨by decide +kernel, by decide +kernel⟩, List.mem_of_getElem? (i := 1080) (by decide +kernel), List.mem_of_getElem? (i := 1454) (by decide +kernel), List.mem_of_getElem? (i := 1455) (by decide +kernel)⟩
theorem lw_p73 : lw_okq (⟨"BabyRoundModel", "termOf", "(II)I"⟩, 73) := ⟨⟨by decide +kernel, by decide +kernel⟩, List.mem_of_getElem? (i := 1080) (by decide +kernel), List.mem_of_getElem? (i := 1458) (by decide +kernel), List.mem_of_getElem? (i := 1459) (by decide +kernel)⟩
theorem lw_p74 : lw_okq (⟨"BabyRoundModel", "goes", "(I)V"⟩, 73) := ⟨⟨by decide +kernel, by decide +kernel⟩, List.mem_of_getElem? (i := 1080) (by decide +kernel), List.mem_of_getElem? (i := 1469) (by decide +kernel), List.mem_of_getElem? (i := 1470) (by decide +kernel)⟩
theorem lw_p75 : lw_okq (⟨"BabyRoundModel", "minuteGoes", "()V"⟩, 73) := ⟨⟨by decide +kernel, by decide +kernel⟩, List.mem_of_getElem? (i := 1080) (by decide +kernel), List.mem_of_getElem? (i := 1473) (by decide +kernel), List.mem_of_getElem? (i := 1474) (by decide +kernel)⟩
theorem lw_p76 : lw_okq (⟨"BabyRoundModel", "sleepMinute", "()V"⟩, 73) := ⟨⟨by decide +kernel, by decide +kernel⟩, List.mem_of_getElem? (i := 1080) (by decide +kernel), List.mem_of_getElem? (i := 1477) (by decide +kernel), List.mem_of_getElem? (i := 1478) (by decide +kernel)⟩
theorem lw_p77 : lw_okq (⟨"BabyRoundModel", "wakeMinute", "()V"⟩, 73) := ⟨⟨by decide +kernel, by decide +kernel⟩, List.mem_of_getElem? (i := 1080) (by decide +kernel), List.mem_of_getElem? (i := 1481) (by decide +kernel), List.mem_of_getElem? (i := 1482) (by decide +kernel)⟩
theorem lw_p78 : lw_okq (⟨"BabyRoundModel", "lotNow", "()I"⟩, 73) := ⟨⟨by decide +kernel, by decide +kernel⟩, List.mem_of_getElem? (i := 1080) (by decide +kernel), List.mem_of_getElem? (i := 1485) (by decide +kernel), List.mem_of_getElem? (i := 1486) (by decide +kernel)⟩
theorem lw_p79 : lw_okq (⟨"BabyRoundModel", "fallsAsleep", "()V"⟩, 73) := ⟨⟨by decide +kernel, by decide +kernel⟩, List.mem_of_getElem? (i := 1080) (by decide +kernel), List.mem_of_getElem? (i := 1493) (by decide +kernel), List.mem_of_getElem? (i := 1494) (by decide +kernel)⟩
def lw_privs_5 : List (MethodName × Nat) := [(⟨"BabyRoundModel", "expression", "()V"⟩, 73), (⟨"BabyRoundModel", "unit", "()V"⟩, 73), (⟨"BabyRoundModel", "emit", "(II)V"⟩, 73), (⟨"BabyRoundModel", "comesOut", "(Z)V"⟩, 73), (⟨"BabyRoundModel", "term", "()V"⟩, 73), (⟨"BabyRoundModel", "isAunt", "(I)Z"⟩, 73), (⟨"BabyRoundModel", "copies", "()V"⟩, 73), (⟨"BabyRoundModel", "lawNow", "(I)I"⟩, 73), (⟨"BabyRoundModel", "tells", "(IIII)I"⟩, 73), (⟨"BabyRoundModel", "termOf", "(II)I"⟩, 73), (⟨"BabyRoundModel", "goes", "(I)V"⟩, 73), (⟨"BabyRoundModel", "minuteGoes", "()V"⟩, 73), (⟨"BabyRoundModel", "sleepMinute", "()V"⟩, 73), (⟨"BabyRoundModel", "wakeMinute", "()V"⟩, 73), (⟨"BabyRoundModel", "lotNow", "()I"⟩, 73), (⟨"BabyRoundModel", "fallsAsleep", "()V"⟩, 73)]
theorem lw_r5 : ∀ q ∈ lw_privs_5, lw_okq q := List.forall_mem_cons.mpr ⟨lw_p64, List.forall_mem_cons.mpr ⟨lw_p65, List.forall_mem_cons.mpr ⟨lw_p66, List.forall_mem_cons.mpr ⟨lw_p67, List.forall_mem_cons.mpr ⟨lw_p68, List.forall_mem_cons.mpr ⟨lw_p69, List.forall_mem_cons.mpr ⟨lw_p70, List.forall_mem_cons.mpr ⟨lw_p71, List.forall_mem_cons.mpr ⟨lw_p72, List.forall_mem_cons.mpr ⟨lw_p73, List.forall_mem_cons.mpr ⟨lw_p74, List.forall_mem_cons.mpr ⟨lw_p75, List.forall_mem_cons.mpr ⟨lw_p76, List.forall_mem_cons.mpr ⟨lw_p77, List.forall_mem_cons.mpr ⟨lw_p78, List.forall_mem_cons.mpr ⟨lw_p79, fun _ h => absurd h List.not_mem_nil⟩⟩⟩⟩⟩⟩⟩⟩⟩⟩⟩⟩⟩⟩⟩⟩
theorem lw_p80 : lw_okq (⟨"BabyRoundModel", "keeps", "()V"⟩, 73) := ⟨⟨by decide +kernel, by decide +kernel⟩, List.mem_of_getElem? (i := 1080) (by decide +kernel), List.mem_of_getElem? (i := 1497) (by decide +kernel), List.mem_of_getElem? (i := 1498) (by decide +kernel)⟩
theorem lw_p81 : lw_okq (⟨"BabyRoundModel", "isAwake", "()Z"⟩, 73) := ⟨⟨by decide +kernel, by decide +kernel⟩, List.mem_of_getElem? (i := 1080) (by decide +kernel), List.mem_of_getElem? (i := 1505) (by decide +kernel), List.mem_of_getElem? (i := 1506) (by decide +kernel)⟩
theorem lw_p82 : lw_okq (⟨"BabyRoundModel", "hands", "(I)V"⟩, 73) := ⟨⟨by decide +kernel, by decide +kernel⟩, List.mem_of_getElem? (i := 1080) (by decide +kernel), List.mem_of_getElem? (i := 1509) (by decide +kernel), List.mem_of_getElem? (i := 1510) (by decide +kernel)⟩
theorem lw_p83 : lw_okq (⟨"BabyRoundModel", "feedsNow", "()V"⟩, 73) := ⟨⟨by decide +kernel, by decide +kernel⟩, List.mem_of_getElem? (i := 1080) (by decide +kernel), List.mem_of_getElem? (i := 1517) (by decide +kernel), List.mem_of_getElem? (i := 1518) (by decide +kernel)⟩
theorem lw_p84 : lw_okq (⟨"BabyRoundModel", "turns", "(IZ)Z"⟩, 73) := ⟨⟨by decide +kernel, by decide +kernel⟩, List.mem_of_getElem? (i := 1080) (by decide +kernel), List.mem_of_getElem? (i := 1529) (by decide +kernel), List.mem_of_getElem? (i := 1530) (by decide +kernel)⟩
theorem lw_p85 : lw_okq (⟨"BabyRoundModel", "cries", "(I)I"⟩, 73) := ⟨⟨by decide +kernel, by decide +kernel⟩, List.mem_of_getElem? (i := 1080) (by decide +kernel), List.mem_of_getElem? (i := 1545) (by decide +kernel), List.mem_of_getElem? (i := 1546) (by decide +kernel)⟩
theorem lw_p86 : lw_okq (⟨"BabyRoundModel", "fillsOrders", "(I)V"⟩, 73) := ⟨⟨by decide +kernel, by decide +kernel⟩, List.mem_of_getElem? (i := 1080) (by decide +kernel), List.mem_of_getElem? (i := 1560) (by decide +kernel), List.mem_of_getElem? (i := 1561) (by decide +kernel)⟩
theorem lw_p87 : lw_okq (⟨"BabyRoundModel", "firstOrder", "()V"⟩, 73) := ⟨⟨by decide +kernel, by decide +kernel⟩, List.mem_of_getElem? (i := 1080) (by decide +kernel), List.mem_of_getElem? (i := 1564) (by decide +kernel), List.mem_of_getElem? (i := 1565) (by decide +kernel)⟩
theorem lw_p88 : lw_okq (⟨"BabyRoundModel", "givesAll", "(I)V"⟩, 73) := ⟨⟨by decide +kernel, by decide +kernel⟩, List.mem_of_getElem? (i := 1080) (by decide +kernel), List.mem_of_getElem? (i := 1568) (by decide +kernel), List.mem_of_getElem? (i := 1569) (by decide +kernel)⟩
theorem lw_p89 : lw_okq (⟨"BabyRoundModel", "starts", "()V"⟩, 73) := ⟨⟨by decide +kernel, by decide +kernel⟩, List.mem_of_getElem? (i := 1080) (by decide +kernel), List.mem_of_getElem? (i := 1572) (by decide +kernel), List.mem_of_getElem? (i := 1573) (by decide +kernel)⟩
theorem lw_p90 : lw_okq (⟨"BabyRoundModel", "gives", "(II)V"⟩, 73) := ⟨⟨by decide +kernel, by decide +kernel⟩, List.mem_of_getElem? (i := 1080) (by decide +kernel), List.mem_of_getElem? (i := 1576) (by decide +kernel), List.mem_of_getElem? (i := 1577) (by decide +kernel)⟩
theorem lw_p91 : lw_okq (⟨"BabyRoundModel", "luckiest", "()I"⟩, 73) := ⟨⟨by decide +kernel, by decide +kernel⟩, List.mem_of_getElem? (i := 1080) (by decide +kernel), List.mem_of_getElem? (i := 1580) (by decide +kernel), List.mem_of_getElem? (i := 1581) (by decide +kernel)⟩
theorem lw_p92 : lw_okq (⟨"BabyRoundModel", "apartNow", "()I"⟩, 73) := ⟨⟨by decide +kernel, by decide +kernel⟩, List.mem_of_getElem? (i := 1080) (by decide +kernel), List.mem_of_getElem? (i := 1584) (by decide +kernel), List.mem_of_getElem? (i := 1585) (by decide +kernel)⟩
theorem lw_p93 : lw_okq (⟨"BabyRoundModel", "nextOrder", "()Z"⟩, 73) := ⟨⟨by decide +kernel, by decide +kernel⟩, List.mem_of_getElem? (i := 1080) (by decide +kernel), List.mem_of_getElem? (i := 1588) (by decide +kernel), List.mem_of_getElem? (i := 1589) (by decide +kernel)⟩
theorem lw_p94 : lw_okq (⟨"BabyRoundModel", "cryIf", "(II)I"⟩, 73) := ⟨⟨by decide +kernel, by decide +kernel⟩, List.mem_of_getElem? (i := 1080) (by decide +kernel), List.mem_of_getElem? (i := 1616) (by decide +kernel), List.mem_of_getElem? (i := 1617) (by decide +kernel)⟩
theorem lw_p95 : lw_okq (⟨"BabyRoundModel", "cryInSight", "(II)I"⟩, 73) := ⟨⟨by decide +kernel, by decide +kernel⟩, List.mem_of_getElem? (i := 1080) (by decide +kernel), List.mem_of_getElem? (i := 1625) (by decide +kernel), List.mem_of_getElem? (i := 1626) (by decide +kernel)⟩
def lw_privs_6 : List (MethodName × Nat) := [(⟨"BabyRoundModel", "keeps", "()V"⟩, 73), (⟨"BabyRoundModel", "isAwake", "()Z"⟩, 73), (⟨"BabyRoundModel", "hands", "(I)V"⟩, 73), (⟨"BabyRoundModel", "feedsNow", "()V"⟩, 73), (⟨"BabyRoundModel", "turns", "(IZ)Z"⟩, 73), (⟨"BabyRoundModel", "cries", "(I)I"⟩, 73), (⟨"BabyRoundModel", "fillsOrders", "(I)V"⟩, 73), (⟨"BabyRoundModel", "firstOrder", "()V"⟩, 73), (⟨"BabyRoundModel", "givesAll", "(I)V"⟩, 73), (⟨"BabyRoundModel", "starts", "()V"⟩, 73), (⟨"BabyRoundModel", "gives", "(II)V"⟩, 73), (⟨"BabyRoundModel", "luckiest", "()I"⟩, 73), (⟨"BabyRoundModel", "apartNow", "()I"⟩, 73), (⟨"BabyRoundModel", "nextOrder", "()Z"⟩, 73), (⟨"BabyRoundModel", "cryIf", "(II)I"⟩, 73), (⟨"BabyRoundModel", "cryInSight", "(II)I"⟩, 73)]
theorem lw_r6 : ∀ q ∈ lw_privs_6, lw_okq q := List.forall_mem_cons.mpr ⟨lw_p80, List.forall_mem_cons.mpr ⟨lw_p81, List.forall_mem_cons.mpr ⟨lw_p82, List.forall_mem_cons.mpr ⟨lw_p83, List.forall_mem_cons.mpr ⟨lw_p84, List.forall_mem_cons.mpr ⟨lw_p85, List.forall_mem_cons.mpr ⟨lw_p86, List.forall_mem_cons.mpr ⟨lw_p87, List.forall_mem_cons.mpr ⟨lw_p88, List.forall_mem_cons.mpr ⟨lw_p89, List.forall_mem_cons.mpr ⟨lw_p90, List.forall_mem_cons.mpr ⟨lw_p91, List.forall_mem_cons.mpr ⟨lw_p92, List.forall_mem_cons.mpr ⟨lw_p93, List.forall_mem_cons.mpr ⟨lw_p94, List.forall_mem_cons.mpr ⟨lw_p95, fun _ h => absurd h List.not_mem_nil⟩⟩⟩⟩⟩⟩⟩⟩⟩⟩⟩⟩⟩⟩⟩⟩
theorem lw_p96 : lw_okq (⟨"BabyRoundModel", "rounds", "(III)V"⟩, 73) := ⟨⟨by decide +kernel, by decide +kernel⟩, List.mem_of_getElem? (i := 1080) (by decide +kernel), List.mem_of_getElem? (i := 1641) (by decide +kernel), List.mem_of_getElem? (i := 1642) (by decide +kernel)⟩
theorem lw_p97 : lw_okq (⟨"BabyRoundModel", "fewestOther", "()I"⟩, 73) := ⟨⟨by decide +kernel, by decide +kernel⟩, List.mem_of_getElem? (i := 1080) (by decide +kernel), List.mem_of_getElem? (i := 1645) (by decide +kernel), List.mem_of_getElem? (i := 1646) (by decide +kernel)⟩
theorem lw_p98 : lw_okq (⟨"BabyRoundModel", "fillsRests", "(I)V"⟩, 73) := ⟨⟨by decide +kernel, by decide +kernel⟩, List.mem_of_getElem? (i := 1080) (by decide +kernel), List.mem_of_getElem? (i := 1673) (by decide +kernel), List.mem_of_getElem? (i := 1674) (by decide +kernel)⟩
theorem lw_p99 : lw_okq (⟨"BabyRoundModel", "isResting", "(I)Z"⟩, 73) := ⟨⟨by decide +kernel, by decide +kernel⟩, List.mem_of_getElem? (i := 1080) (by decide +kernel), List.mem_of_getElem? (i := 1677) (by decide +kernel), List.mem_of_getElem? (i := 1678) (by decide +kernel)⟩
theorem lw_p100 : lw_okq (⟨"BabyRoundModel", "isSo", "(II)Z"⟩, 73) := ⟨⟨by decide +kernel, by decide +kernel⟩, List.mem_of_getElem? (i := 1080) (by decide +kernel), List.mem_of_getElem? (i := 1704) (by decide +kernel), List.mem_of_getElem? (i := 1705) (by decide +kernel)⟩
def lw_privs_7 : List (MethodName × Nat) := [(⟨"BabyRoundModel", "rounds", "(III)V"⟩, 73), (⟨"BabyRoundModel", "fewestOther", "()I"⟩, 73), (⟨"BabyRoundModel", "fillsRests", "(I)V"⟩, 73), (⟨"BabyRoundModel", "isResting", "(I)Z"⟩, 73), (⟨"BabyRoundModel", "isSo", "(II)Z"⟩, 73)]
theorem lw_r7 : ∀ q ∈ lw_privs_7, lw_okq q := List.forall_mem_cons.mpr ⟨lw_p96, List.forall_mem_cons.mpr ⟨lw_p97, List.forall_mem_cons.mpr ⟨lw_p98, List.forall_mem_cons.mpr ⟨lw_p99, List.forall_mem_cons.mpr ⟨lw_p100, fun _ h => absurd h List.not_mem_nil⟩⟩⟩⟩⟩
def lw_privs : List (MethodName × Nat) := lw_privs_1 ++ (lw_privs_2 ++ (lw_privs_3 ++ (lw_privs_4 ++ (lw_privs_5 ++ (lw_privs_6 ++ (lw_privs_7))))))
def lw_tbl : List Cond := k2_sels lw_privs ++ tables_1
theorem lw_privs_ok : ∀ q ∈ lw_privs, lw_okq q := by
  show ∀ q ∈ lw_privs_1 ++ (lw_privs_2 ++ (lw_privs_3 ++ (lw_privs_4 ++ (lw_privs_5 ++ (lw_privs_6 ++ (lw_privs_7)))))), lw_okq q
  exact List.forall_mem_append.mpr ⟨lw_r1, List.forall_mem_append.mpr ⟨lw_r2, List.forall_mem_append.mpr ⟨lw_r3, List.forall_mem_append.mpr ⟨lw_r4, List.forall_mem_append.mpr ⟨lw_r5, List.forall_mem_append.mpr ⟨lw_r6, lw_r7⟩⟩⟩⟩⟩⟩
def RX0 : String := "BabyRound$Day"
def TX0 : u_T := fun k => match k with
  | _ => ("BabyRound$Day", "told", "LBabyRound$Told;", true)
def tyX0 : Nat → FieldType := fun k => match k with
  | _ => .object "BabyRound$Told"
abbrev wsX00 : List Cond := u_ws RX0 TX0 1
theorem nmX0 : ∀ a, a < 1 → ∀ b, b < 1 → a ≠ b → (TX0 a).2.1 ≠ (TX0 b).2.1 := by decide +kernel
theorem tyX0_ok : ∀ k, k < 1 → parseFieldDescriptor (TX0 k).2.2.1 = some (tyX0 k) := by decide +kernel
abbrev cX0_init : ByteArray := prog_2_method_1_code
def yX0_init : MethodName := ⟨RX0, "<init>", "(LBabyRound$Told;)V"⟩
abbrev cX0_begin : ByteArray := prog_2_method_2_code
def yX0_begin : MethodName := ⟨RX0, "begin", "(LBabyRound$State;)V"⟩
abbrev cX0_giveTo : ByteArray := prog_2_method_3_code
def yX0_giveTo : MethodName := ⟨RX0, "giveTo", "(LBabyRound$State;I)V"⟩
abbrev cX0_step : ByteArray := prog_2_method_4_code
def yX0_step : MethodName := ⟨RX0, "step", "(LBabyRound$State;)V"⟩
abbrev cX0_stepAsleep : ByteArray := prog_2_method_5_code
def yX0_stepAsleep : MethodName := ⟨RX0, "stepAsleep", "(LBabyRound$State;)V"⟩
abbrev cX0_stepAwake : ByteArray := prog_2_method_6_code
def yX0_stepAwake : MethodName := ⟨RX0, "stepAwake", "(LBabyRound$State;)V"⟩
abbrev cX0_spit : ByteArray := prog_2_method_7_code
def yX0_spit : MethodName := ⟨RX0, "spit", "(LBabyRound$State;)V"⟩
abbrev cX0_lot : ByteArray := prog_2_method_8_code
def yX0_lot : MethodName := ⟨RX0, "lot", "(III)I"⟩
abbrev cX0_fallAsleep : ByteArray := prog_2_method_9_code
def yX0_fallAsleep : MethodName := ⟨RX0, "fallAsleep", "(LBabyRound$State;)V"⟩
abbrev cX0_giveOver : ByteArray := prog_2_method_10_code
def yX0_giveOver : MethodName := ⟨RX0, "giveOver", "(LBabyRound$State;I)V"⟩
abbrev cX0_feedNow : ByteArray := prog_2_method_11_code
def yX0_feedNow : MethodName := ⟨RX0, "feedNow", "(LBabyRound$State;)V"⟩
abbrev cX0_goOn : ByteArray := prog_2_method_12_code
def yX0_goOn : MethodName := ⟨RX0, "goOn", "(LBabyRound$State;I)V"⟩
abbrev cX0_cried : ByteArray := prog_2_method_13_code
def yX0_cried : MethodName := ⟨RX0, "cried", "(LBabyRound$State;I)I"⟩
abbrev cX0_keep : ByteArray := prog_2_method_14_code
def yX0_keep : MethodName := ⟨RX0, "keep", "(LBabyRound$State;II)V"⟩
abbrev cX0_goByRule : ByteArray := prog_2_method_15_code
def yX0_goByRule : MethodName := ⟨RX0, "goByRule", "(LBabyRound$State;III)V"⟩
abbrev cX0_behind : ByteArray := prog_2_method_16_code
def yX0_behind : MethodName := ⟨RX0, "behind", "(I)I"⟩
abbrev cX0_fewest : ByteArray := prog_2_method_17_code
def yX0_fewest : MethodName := ⟨RX0, "fewest", "(LBabyRound$State;)I"⟩
def RX1 : String := "BabyRound$Laws"
def TX1 : u_T := fun k => match k with
  | 0 => ("BabyRound$Laws", "steps", "[I", true)
  | 1 => ("BabyRound$Laws", "stepCount", "I", false)
  | 2 => ("BabyRound$Laws", "pieces", "[I", true)
  | 3 => ("BabyRound$Laws", "pieceCount", "I", false)
  | 4 => ("BabyRound$Laws", "firstPiece", "[I", true)
  | 5 => ("BabyRound$Laws", "ifs", "[I", true)
  | 6 => ("BabyRound$Laws", "stack", "[I", true)
  | _ => ("BabyRound$Laws", "divided", "Z", false)
def tyX1 : Nat → FieldType := fun k => match k with
  | 0 => .array .int
  | 1 => .int
  | 2 => .array .int
  | 3 => .int
  | 4 => .array .int
  | 5 => .array .int
  | 6 => .array .int
  | _ => .boolean
abbrev wsX10 : List Cond := u_ws RX1 TX1 8
theorem nmX1 : ∀ a, a < 8 → ∀ b, b < 8 → a ≠ b → (TX1 a).2.1 ≠ (TX1 b).2.1 := by decide +kernel
theorem tyX1_ok : ∀ k, k < 8 → parseFieldDescriptor (TX1 k).2.2.1 = some (tyX1 k) := by decide +kernel
abbrev cX1_init : ByteArray := prog_3_method_1_code
def yX1_init : MethodName := ⟨RX1, "<init>", "()V"⟩
abbrev cX1_begin : ByteArray := prog_3_method_2_code
def yX1_begin : MethodName := ⟨RX1, "begin", "()V"⟩
abbrev cX1_beginLaw : ByteArray := prog_3_method_3_code
def yX1_beginLaw : MethodName := ⟨RX1, "beginLaw", "(I)V"⟩
abbrev cX1_addIf : ByteArray := prog_3_method_4_code
def yX1_addIf : MethodName := ⟨RX1, "addIf", "(I)V"⟩
abbrev cX1_addStep : ByteArray := prog_3_method_5_code
def yX1_addStep : MethodName := ⟨RX1, "addStep", "(I)V"⟩
abbrev cX1_endPiece : ByteArray := prog_3_method_6_code
def yX1_endPiece : MethodName := ⟨RX1, "endPiece", "()V"⟩
abbrev cX1_takeFrom : ByteArray := prog_3_method_7_code
def yX1_takeFrom : MethodName := ⟨RX1, "takeFrom", "(LBabyRound$Laws;)V"⟩
abbrev cX1_tells : ByteArray := prog_3_method_8_code
def yX1_tells : MethodName := ⟨RX1, "tells", "(ILBabyRound$State;)I"⟩
abbrev cX1_value : ByteArray := prog_3_method_9_code
def yX1_value : MethodName := ⟨RX1, "value", "(ILBabyRound$State;)I"⟩
abbrev cX1_join : ByteArray := prog_3_method_10_code
def yX1_join : MethodName := ⟨RX1, "join", "(III)I"⟩
def RX2 : String := "BabyRound$Least"
def TX2 : u_T := fun k => match k with
  | 0 => ("BabyRound$Least", "which", "I", false)
  | 1 => ("BabyRound$Least", "worth", "I", false)
  | _ => ("BabyRound$Least", "any", "Z", false)
def tyX2 : Nat → FieldType := fun k => match k with
  | 0 => .int
  | 1 => .int
  | _ => .boolean
abbrev wsX20 : List Cond := u_ws RX2 TX2 3
theorem nmX2 : ∀ a, a < 3 → ∀ b, b < 3 → a ≠ b → (TX2 a).2.1 ≠ (TX2 b).2.1 := by decide +kernel
theorem tyX2_ok : ∀ k, k < 3 → parseFieldDescriptor (TX2 k).2.2.1 = some (tyX2 k) := by decide +kernel
abbrev cX2_init : ByteArray := prog_4_method_1_code
def yX2_init : MethodName := ⟨RX2, "<init>", "()V"⟩
abbrev cX2_begin : ByteArray := prog_4_method_2_code
def yX2_begin : MethodName := ⟨RX2, "begin", "()V"⟩
abbrev cX2_offer : ByteArray := prog_4_method_3_code
def yX2_offer : MethodName := ⟨RX2, "offer", "(II)V"⟩
abbrev cX2_pick : ByteArray := prog_4_method_4_code
def yX2_pick : MethodName := ⟨RX2, "pick", "(I)I"⟩
def RX3 : String := "BabyRound$Orders"
def TX3 : u_T := fun k => match k with
  | 0 => ("BabyRound$Orders", "day", "LBabyRound$Day;", true)
  | 1 => ("BabyRound$Orders", "rows", "[LBabyRound$State;", true)
  | 2 => ("BabyRound$Orders", "sleepers", "[I", true)
  | 3 => ("BabyRound$Orders", "nowhere", "LBabyRound$State;", true)
  | 4 => ("BabyRound$Orders", "auntsInOrder", "[I", true)
  | 5 => ("BabyRound$Orders", "bestOrder", "[I", true)
  | 6 => ("BabyRound$Orders", "lucky", "[I", true)
  | 7 => ("BabyRound$Orders", "crying", "LBabyRound$Least;", true)
  | 8 => ("BabyRound$Orders", "apart", "LBabyRound$Least;", true)
  | 9 => ("BabyRound$Orders", "sitting", "I", false)
  | 10 => ("BabyRound$Orders", "searchedMinutes", "I", false)
  | _ => ("BabyRound$Orders", "searchedChange", "I", false)
def tyX3 : Nat → FieldType := fun k => match k with
  | 0 => .object "BabyRound$Day"
  | 1 => .array (.object "BabyRound$State")
  | 2 => .array .int
  | 3 => .object "BabyRound$State"
  | 4 => .array .int
  | 5 => .array .int
  | 6 => .array .int
  | 7 => .object "BabyRound$Least"
  | 8 => .object "BabyRound$Least"
  | 9 => .int
  | 10 => .int
  | _ => .int
abbrev wsX30 : List Cond := u_ws RX3 TX3 12
theorem nmX3 : ∀ a, a < 12 → ∀ b, b < 12 → a ≠ b → (TX3 a).2.1 ≠ (TX3 b).2.1 := by decide +kernel
theorem tyX3_ok : ∀ k, k < 12 → parseFieldDescriptor (TX3 k).2.2.1 = some (tyX3 k) := by decide +kernel
abbrev cX3_init : ByteArray := prog_5_method_1_code
def yX3_init : MethodName := ⟨RX3, "<init>", "(LBabyRound$Day;)V"⟩
abbrev cX3_row : ByteArray := prog_5_method_2_code
def yX3_row : MethodName := ⟨RX3, "row", "(I)LBabyRound$State;"⟩
abbrev cX3_search : ByteArray := prog_5_method_3_code
def yX3_search : MethodName := ⟨RX3, "search", "(LBabyRound$State;II)V"⟩
abbrev cX3_begin : ByteArray := prog_5_method_4_code
def yX3_begin : MethodName := ⟨RX3, "begin", "(LBabyRound$State;)V"⟩
abbrev cX3_share : ByteArray := prog_5_method_5_code
def yX3_share : MethodName := ⟨RX3, "share", "(II)I"⟩
abbrev cX3_weigh : ByteArray := prog_5_method_6_code
def yX3_weigh : MethodName := ⟨RX3, "weigh", "()V"⟩
abbrev cX3_follow : ByteArray := prog_5_method_7_code
def yX3_follow : MethodName := ⟨RX3, "follow", "()I"⟩
abbrev cX3_change : ByteArray := prog_5_method_8_code
def yX3_change : MethodName := ⟨RX3, "change", "(II)V"⟩
def RX4 : String := "BabyRound$Reader"
def TX4 : u_T := fun k => match k with
  | 0 => ("BabyRound$Reader", "tape", "[C", true)
  | 1 => ("BabyRound$Reader", "length", "I", false)
  | 2 => ("BabyRound$Reader", "kinds", "[I", true)
  | 3 => ("BabyRound$Reader", "worths", "[J", true)
  | 4 => ("BabyRound$Reader", "places", "[I", true)
  | 5 => ("BabyRound$Reader", "tokens", "I", false)
  | 6 => ("BabyRound$Reader", "here", "I", false)
  | 7 => ("BabyRound$Reader", "numbers", "[I", true)
  | 8 => ("BabyRound$Reader", "waiting", "[I", true)
  | 9 => ("BabyRound$Reader", "waitingCount", "I", false)
  | 10 => ("BabyRound$Reader", "fault", "I", false)
  | 11 => ("BabyRound$Reader", "faultPlace", "I", false)
  | _ => ("BabyRound$Reader", "told", "LBabyRound$Told;", true)
def tyX4 : Nat → FieldType := fun k => match k with
  | 0 => .array .char
  | 1 => .int
  | 2 => .array .int
  | 3 => .array .long
  | 4 => .array .int
  | 5 => .int
  | 6 => .int
  | 7 => .array .int
  | 8 => .array .int
  | 9 => .int
  | 10 => .int
  | 11 => .int
  | _ => .object "BabyRound$Told"
abbrev wsX40 : List Cond := u_ws RX4 TX4 13
theorem nmX4 : ∀ a, a < 13 → ∀ b, b < 13 → a ≠ b → (TX4 a).2.1 ≠ (TX4 b).2.1 := by decide +kernel
theorem tyX4_ok : ∀ k, k < 13 → parseFieldDescriptor (TX4 k).2.2.1 = some (tyX4 k) := by decide +kernel
abbrev cX4_init : ByteArray := prog_6_method_1_code
def yX4_init : MethodName := ⟨RX4, "<init>", "()V"⟩
abbrev cX4_addBytes : ByteArray := prog_6_method_2_code
def yX4_addBytes : MethodName := ⟨RX4, "addBytes", "(IIIII)I"⟩
abbrev cX4_addFour : ByteArray := prog_6_method_3_code
def yX4_addFour : MethodName := ⟨RX4, "addFour", "(I)V"⟩
abbrev cX4_dropBytes : ByteArray := prog_6_method_4_code
def yX4_dropBytes : MethodName := ⟨RX4, "dropBytes", "(I)I"⟩
abbrev cX4_byteAt : ByteArray := prog_6_method_5_code
def yX4_byteAt : MethodName := ⟨RX4, "byteAt", "(I)C"⟩
abbrev cX4_readTape : ByteArray := prog_6_method_6_code
def yX4_readTape : MethodName := ⟨RX4, "readTape", "()I"⟩
abbrev cX4_scan : ByteArray := prog_6_method_7_code
def yX4_scan : MethodName := ⟨RX4, "scan", "()V"⟩
abbrev cX4_isBlank : ByteArray := prog_6_method_8_code
def yX4_isBlank : MethodName := ⟨RX4, "isBlank", "(C)Z"⟩
abbrev cX4_isLetter : ByteArray := prog_6_method_9_code
def yX4_isLetter : MethodName := ⟨RX4, "isLetter", "(C)Z"⟩
abbrev cX4_isDigit : ByteArray := prog_6_method_10_code
def yX4_isDigit : MethodName := ⟨RX4, "isDigit", "(C)Z"⟩
abbrev cX4_isSign : ByteArray := prog_6_method_11_code
def yX4_isSign : MethodName := ⟨RX4, "isSign", "(I)Z"⟩
abbrev cX4_endOfRun : ByteArray := prog_6_method_12_code
def yX4_endOfRun : MethodName := ⟨RX4, "endOfRun", "(I)I"⟩
abbrev cX4_addToken : ByteArray := prog_6_method_13_code
def yX4_addToken : MethodName := ⟨RX4, "addToken", "(II)V"⟩
abbrev cX4_addWord : ByteArray := prog_6_method_14_code
def yX4_addWord : MethodName := ⟨RX4, "addWord", "(II)V"⟩
abbrev cX4_wordAt : ByteArray := prog_6_method_15_code
def yX4_wordAt : MethodName := ⟨RX4, "wordAt", "(II)I"⟩
abbrev cX4_nameAt : ByteArray := prog_6_method_16_code
def yX4_nameAt : MethodName := ⟨RX4, "nameAt", "(II)J"⟩
abbrev cX4_numberAt : ByteArray := prog_6_method_17_code
def yX4_numberAt : MethodName := ⟨RX4, "numberAt", "(II)I"⟩
abbrev cX4_addRow : ByteArray := prog_6_method_18_code
def yX4_addRow : MethodName := ⟨RX4, "addRow", "(IJI)V"⟩
abbrev cX4_kind : ByteArray := prog_6_method_19_code
def yX4_kind : MethodName := ⟨RX4, "kind", "()I"⟩
abbrev cX4_worth : ByteArray := prog_6_method_20_code
def yX4_worth : MethodName := ⟨RX4, "worth", "()J"⟩
abbrev cX4_fail : ByteArray := prog_6_method_21_code
def yX4_fail : MethodName := ⟨RX4, "fail", "(I)Z"⟩
abbrev cX4_note : ByteArray := prog_6_method_22_code
def yX4_note : MethodName := ⟨RX4, "note", "(I)V"⟩
abbrev cX4_take : ByteArray := prog_6_method_23_code
def yX4_take : MethodName := ⟨RX4, "take", "()Z"⟩
abbrev cX4_take_ : ByteArray := prog_6_method_24_code
def yX4_take_ : MethodName := ⟨RX4, "take", "(I)Z"⟩
abbrev cX4_takeNumbers : ByteArray := prog_6_method_25_code
def yX4_takeNumbers : MethodName := ⟨RX4, "takeNumbers", "(III)Z"⟩
abbrev cX4_tellOne : ByteArray := prog_6_method_26_code
def yX4_tellOne : MethodName := ⟨RX4, "tellOne", "()Z"⟩
abbrev cX4_tellBaby : ByteArray := prog_6_method_27_code
def yX4_tellBaby : MethodName := ⟨RX4, "tellBaby", "()Z"⟩
abbrev cX4_tellAunt : ByteArray := prog_6_method_28_code
def yX4_tellAunt : MethodName := ⟨RX4, "tellAunt", "()Z"⟩
abbrev cX4_tellNumber : ByteArray := prog_6_method_29_code
def yX4_tellNumber : MethodName := ⟨RX4, "tellNumber", "(I)Z"⟩
abbrev cX4_tellLaw : ByteArray := prog_6_method_30_code
def yX4_tellLaw : MethodName := ⟨RX4, "tellLaw", "(I)Z"⟩
abbrev cX4_takePiece : ByteArray := prog_6_method_31_code
def yX4_takePiece : MethodName := ⟨RX4, "takePiece", "(I)Z"⟩
abbrev cX4_addUnit : ByteArray := prog_6_method_32_code
def yX4_addUnit : MethodName := ⟨RX4, "addUnit", "(I)Z"⟩
abbrev cX4_rank : ByteArray := prog_6_method_33_code
def yX4_rank : MethodName := ⟨RX4, "rank", "(I)I"⟩
abbrev cX4_addWaiting : ByteArray := prog_6_method_34_code
def yX4_addWaiting : MethodName := ⟨RX4, "addWaiting", "(I)V"⟩
abbrev cX4_endWaiting : ByteArray := prog_6_method_35_code
def yX4_endWaiting : MethodName := ⟨RX4, "endWaiting", "(I)V"⟩
def RX5 : String := "BabyRound$State"
def TX5 : u_T := fun k => match k with
  | 0 => ("BabyRound$State", "hunger", "I", false)
  | 1 => ("BabyRound$State", "tired", "I", false)
  | 2 => ("BabyRound$State", "wonder", "I", false)
  | 3 => ("BabyRound$State", "wind", "I", false)
  | 4 => ("BabyRound$State", "held", "I", false)
  | 5 => ("BabyRound$State", "rock", "I", false)
  | 6 => ("BabyRound$State", "show", "I", false)
  | 7 => ("BabyRound$State", "beard", "I", false)
  | 8 => ("BabyRound$State", "seen", "I", false)
  | 9 => ("BabyRound$State", "who", "I", false)
  | 10 => ("BabyRound$State", "before", "I", false)
  | 11 => ("BabyRound$State", "earlier", "I", false)
  | 12 => ("BabyRound$State", "cry", "I", false)
  | 13 => ("BabyRound$State", "asleep", "I", false)
  | 14 => ("BabyRound$State", "cloth", "I", false)
  | 15 => ("BabyRound$State", "minute", "I", false)
  | 16 => ("BabyRound$State", "seed", "I", false)
  | 17 => ("BabyRound$State", "falls", "I", false)
  | 18 => ("BabyRound$State", "handed", "I", false)
  | 19 => ("BabyRound$State", "had", "I", false)
  | _ => ("BabyRound$State", "tally", "[I", true)
def tyX5 : Nat → FieldType := fun k => match k with
  | 0 => .int
  | 1 => .int
  | 2 => .int
  | 3 => .int
  | 4 => .int
  | 5 => .int
  | 6 => .int
  | 7 => .int
  | 8 => .int
  | 9 => .int
  | 10 => .int
  | 11 => .int
  | 12 => .int
  | 13 => .int
  | 14 => .int
  | 15 => .int
  | 16 => .int
  | 17 => .int
  | 18 => .int
  | 19 => .int
  | _ => .array .int
abbrev wsX50 : List Cond := u_ws RX5 TX5 21
theorem nmX5 : ∀ a, a < 21 → ∀ b, b < 21 → a ≠ b → (TX5 a).2.1 ≠ (TX5 b).2.1 := by decide +kernel
theorem tyX5_ok : ∀ k, k < 21 → parseFieldDescriptor (TX5 k).2.2.1 = some (tyX5 k) := by decide +kernel
abbrev cX5_init : ByteArray := prog_7_method_1_code
def yX5_init : MethodName := ⟨RX5, "<init>", "()V"⟩
abbrev cX5_takeFrom : ByteArray := prog_7_method_2_code
def yX5_takeFrom : MethodName := ⟨RX5, "takeFrom", "(LBabyRound$State;)V"⟩
abbrev cX5_look : ByteArray := prog_7_method_3_code
def yX5_look : MethodName := ⟨RX5, "look", "(I)I"⟩
abbrev cX5_tallyMore : ByteArray := prog_7_method_4_code
def yX5_tallyMore : MethodName := ⟨RX5, "tallyMore", "(II)V"⟩
abbrev cX5_tallied : ByteArray := prog_7_method_5_code
def yX5_tallied : MethodName := ⟨RX5, "tallied", "(II)I"⟩
abbrev cX5_allTallied : ByteArray := prog_7_method_6_code
def yX5_allTallied : MethodName := ⟨RX5, "allTallied", "(I)I"⟩
def RX6 : String := "BabyRound$Told"
def TX6 : u_T := fun k => match k with
  | 0 => ("BabyRound$Told", "hunger", "I", false)
  | 1 => ("BabyRound$Told", "tired", "I", false)
  | 2 => ("BabyRound$Told", "wonder", "I", false)
  | 3 => ("BabyRound$Told", "wind", "I", false)
  | 4 => ("BabyRound$Told", "fresh", "I", false)
  | 5 => ("BabyRound$Told", "feeds", "I", false)
  | 6 => ("BabyRound$Told", "seed", "I", false)
  | 7 => ("BabyRound$Told", "aunts", "I", false)
  | 8 => ("BabyRound$Told", "names", "[J", true)
  | 9 => ("BabyRound$Told", "rock", "[I", true)
  | 10 => ("BabyRound$Told", "show", "[I", true)
  | 11 => ("BabyRound$Told", "beard", "[I", true)
  | 12 => ("BabyRound$Told", "silk", "[I", true)
  | 13 => ("BabyRound$Told", "sits", "[I", true)
  | _ => ("BabyRound$Told", "laws", "LBabyRound$Laws;", true)
def tyX6 : Nat → FieldType := fun k => match k with
  | 0 => .int
  | 1 => .int
  | 2 => .int
  | 3 => .int
  | 4 => .int
  | 5 => .int
  | 6 => .int
  | 7 => .int
  | 8 => .array .long
  | 9 => .array .int
  | 10 => .array .int
  | 11 => .array .int
  | 12 => .array .int
  | 13 => .array .int
  | _ => .object "BabyRound$Laws"
abbrev wsX60 : List Cond := u_ws RX6 TX6 15
theorem nmX6 : ∀ a, a < 15 → ∀ b, b < 15 → a ≠ b → (TX6 a).2.1 ≠ (TX6 b).2.1 := by decide +kernel
theorem tyX6_ok : ∀ k, k < 15 → parseFieldDescriptor (TX6 k).2.2.1 = some (tyX6 k) := by decide +kernel
abbrev cX6_init : ByteArray := prog_8_method_1_code
def yX6_init : MethodName := ⟨RX6, "<init>", "()V"⟩
abbrev cX6_begin : ByteArray := prog_8_method_2_code
def yX6_begin : MethodName := ⟨RX6, "begin", "()V"⟩
abbrev cX6_tellBaby : ByteArray := prog_8_method_3_code
def yX6_tellBaby : MethodName := ⟨RX6, "tellBaby", "(IIII)V"⟩
abbrev cX6_tellAunt : ByteArray := prog_8_method_4_code
def yX6_tellAunt : MethodName := ⟨RX6, "tellAunt", "(J[IZ)V"⟩
abbrev cX6_knows : ByteArray := prog_8_method_5_code
def yX6_knows : MethodName := ⟨RX6, "knows", "(J)Z"⟩
abbrev cX6_takeFrom : ByteArray := prog_8_method_6_code
def yX6_takeFrom : MethodName := ⟨RX6, "takeFrom", "(LBabyRound$Told;)V"⟩
def RX7 : String := "BabyRound$Undoing"
def TX7 : u_T := fun k => match k with
  | 0 => ("BabyRound$Undoing", "rows", "[LBabyRound$State;", true)
  | 1 => ("BabyRound$Undoing", "size", "I", false)
  | 2 => ("BabyRound$Undoing", "behindLast", "I", false)
  | _ => ("BabyRound$Undoing", "changes", "I", false)
def tyX7 : Nat → FieldType := fun k => match k with
  | 0 => .array (.object "BabyRound$State")
  | 1 => .int
  | 2 => .int
  | _ => .int
abbrev wsX70 : List Cond := u_ws RX7 TX7 4
theorem nmX7 : ∀ a, a < 4 → ∀ b, b < 4 → a ≠ b → (TX7 a).2.1 ≠ (TX7 b).2.1 := by decide +kernel
theorem tyX7_ok : ∀ k, k < 4 → parseFieldDescriptor (TX7 k).2.2.1 = some (tyX7 k) := by decide +kernel
abbrev cX7_init : ByteArray := prog_9_method_1_code
def yX7_init : MethodName := ⟨RX7, "<init>", "()V"⟩
abbrev cX7_begin : ByteArray := prog_9_method_2_code
def yX7_begin : MethodName := ⟨RX7, "begin", "()V"⟩
abbrev cX7_note : ByteArray := prog_9_method_3_code
def yX7_note : MethodName := ⟨RX7, "note", "(LBabyRound$State;)V"⟩
abbrev cX7_giveBack : ByteArray := prog_9_method_4_code
def yX7_giveBack : MethodName := ⟨RX7, "giveBack", "(LBabyRound$State;)Z"⟩
def RX8 : String := "BabyRound"
def TX8 : u_T := fun k => match k with
  | 0 => ("BabyRound", "told", "LBabyRound$Told;", true)
  | 1 => ("BabyRound", "reader", "LBabyRound$Reader;", true)
  | 2 => ("BabyRound", "day", "LBabyRound$Day;", true)
  | 3 => ("BabyRound", "state", "LBabyRound$State;", true)
  | 4 => ("BabyRound", "would", "LBabyRound$State;", true)
  | 5 => ("BabyRound", "undoing", "LBabyRound$Undoing;", true)
  | 6 => ("BabyRound", "slots", "[LBabyRound$State;", true)
  | 7 => ("BabyRound", "slotHolds", "[I", true)
  | 8 => ("BabyRound", "orders", "LBabyRound$Orders;", true)
  | 9 => ("BabyRound", "least", "LBabyRound$Least;", true)
  | 10 => ("BabyRound", "laughs", "[I", true)
  | 11 => ("BabyRound", "toldMinutes", "[I", true)
  | 12 => ("BabyRound", "toldCries", "[I", true)
  | _ => ("BabyRound", "toldCount", "I", false)
def tyX8 : Nat → FieldType := fun k => match k with
  | 0 => .object "BabyRound$Told"
  | 1 => .object "BabyRound$Reader"
  | 2 => .object "BabyRound$Day"
  | 3 => .object "BabyRound$State"
  | 4 => .object "BabyRound$State"
  | 5 => .object "BabyRound$Undoing"
  | 6 => .array (.object "BabyRound$State")
  | 7 => .array .int
  | 8 => .object "BabyRound$Orders"
  | 9 => .object "BabyRound$Least"
  | 10 => .array .int
  | 11 => .array .int
  | 12 => .array .int
  | _ => .int
abbrev wsX80 : List Cond := u_ws RX8 TX8 14
theorem nmX8 : ∀ a, a < 14 → ∀ b, b < 14 → a ≠ b → (TX8 a).2.1 ≠ (TX8 b).2.1 := by decide +kernel
theorem tyX8_ok : ∀ k, k < 14 → parseFieldDescriptor (TX8 k).2.2.1 = some (tyX8 k) := by decide +kernel
abbrev cX8_at : ByteArray := prog_1_method_1_code
def yX8_at : MethodName := ⟨RX8, "at", "([II)I"⟩
abbrev cX8_put : ByteArray := prog_1_method_2_code
def yX8_put : MethodName := ⟨RX8, "put", "([III)V"⟩
abbrev cX8_copy : ByteArray := prog_1_method_3_code
def yX8_copy : MethodName := ⟨RX8, "copy", "([I[I)V"⟩
abbrev cX8_within : ByteArray := prog_1_method_4_code
def yX8_within : MethodName := ⟨RX8, "within", "(III)I"⟩
abbrev cX8_between : ByteArray := prog_1_method_5_code
def yX8_between : MethodName := ⟨RX8, "between", "(III)Z"⟩
abbrev cX8_init : ByteArray := prog_1_method_6_code
def yX8_init : MethodName := ⟨RX8, "<init>", "()V"⟩
abbrev cX8_feed : ByteArray := prog_1_method_7_code
def yX8_feed : MethodName := ⟨RX8, "feed", "(IIIII)I"⟩
abbrev cX8_back : ByteArray := prog_1_method_8_code
def yX8_back : MethodName := ⟨RX8, "back", "(I)I"⟩
abbrev cX8_read : ByteArray := prog_1_method_9_code
def yX8_read : MethodName := ⟨RX8, "read", "()I"⟩
abbrev cX8_place : ByteArray := prog_1_method_10_code
def yX8_place : MethodName := ⟨RX8, "place", "()I"⟩
abbrev cX8_now : ByteArray := prog_1_method_11_code
def yX8_now : MethodName := ⟨RX8, "now", "(I)I"⟩
abbrev cX8_isAunt : ByteArray := prog_1_method_12_code
def yX8_isAunt : MethodName := ⟨RX8, "isAunt", "(I)Z"⟩
abbrev cX8_asleepOrAlone : ByteArray := prog_1_method_13_code
def yX8_asleepOrAlone : MethodName := ⟨RX8, "asleepOrAlone", "()Z"⟩
abbrev cX8_aunt : ByteArray := prog_1_method_14_code
def yX8_aunt : MethodName := ⟨RX8, "aunt", "(II)I"⟩
abbrev cX8_law : ByteArray := prog_1_method_15_code
def yX8_law : MethodName := ⟨RX8, "law", "(I)I"⟩
abbrev cX8_minutes : ByteArray := prog_1_method_16_code
def yX8_minutes : MethodName := ⟨RX8, "minutes", "(I)I"⟩
abbrev cX8_hand : ByteArray := prog_1_method_17_code
def yX8_hand : MethodName := ⟨RX8, "hand", "(I)Z"⟩
abbrev cX8_nurse : ByteArray := prog_1_method_18_code
def yX8_nurse : MethodName := ⟨RX8, "nurse", "()Z"⟩
abbrev cX8_lay : ByteArray := prog_1_method_19_code
def yX8_lay : MethodName := ⟨RX8, "lay", "()Z"⟩
abbrev cX8_cloth : ByteArray := prog_1_method_20_code
def yX8_cloth : MethodName := ⟨RX8, "cloth", "(Z)Z"⟩
abbrev cX8_mother : ByteArray := prog_1_method_21_code
def yX8_mother : MethodName := ⟨RX8, "mother", "(Z)Z"⟩
abbrev cX8_undo : ByteArray := prog_1_method_22_code
def yX8_undo : MethodName := ⟨RX8, "undo", "()Z"⟩
abbrev cX8_crying : ByteArray := prog_1_method_23_code
def yX8_crying : MethodName := ⟨RX8, "crying", "(I)I"⟩
abbrev cX8_next : ByteArray := prog_1_method_24_code
def yX8_next : MethodName := ⟨RX8, "next", "(II)I"⟩
abbrev cX8_order : ByteArray := prog_1_method_25_code
def yX8_order : MethodName := ⟨RX8, "order", "(I)I"⟩
abbrev cX8_orderAt : ByteArray := prog_1_method_26_code
def yX8_orderAt : MethodName := ⟨RX8, "orderAt", "(II)I"⟩
abbrev cX8_sitters : ByteArray := prog_1_method_27_code
def yX8_sitters : MethodName := ⟨RX8, "sitters", "(I)I"⟩
abbrev cX8_luck : ByteArray := prog_1_method_28_code
def yX8_luck : MethodName := ⟨RX8, "luck", "(II)I"⟩
abbrev cX8_wants : ByteArray := prog_1_method_29_code
def yX8_wants : MethodName := ⟨RX8, "wants", "(II)I"⟩
abbrev cX8_grant : ByteArray := prog_1_method_30_code
def yX8_grant : MethodName := ⟨RX8, "grant", "(I)V"⟩
abbrev cX8_criedInSight : ByteArray := prog_1_method_31_code
def yX8_criedInSight : MethodName := ⟨RX8, "criedInSight", "(II)I"⟩
abbrev cX8_moment : ByteArray := prog_1_method_32_code
def yX8_moment : MethodName := ⟨RX8, "moment", "(I)I"⟩
abbrev cX8_beat : ByteArray := prog_1_method_33_code
def yX8_beat : MethodName := ⟨RX8, "beat", "(III)I"⟩
abbrev cX8_round : ByteArray := prog_1_method_34_code
def yX8_round : MethodName := ⟨RX8, "round", "(IIII)I"⟩
abbrev cX8_fairest : ByteArray := prog_1_method_35_code
def yX8_fairest : MethodName := ⟨RX8, "fairest", "(II)I"⟩
abbrev cX8_leftOut : ByteArray := prog_1_method_36_code
def yX8_leftOut : MethodName := ⟨RX8, "leftOut", "(II)I"⟩
abbrev cX8_bestRound : ByteArray := prog_1_method_37_code
def yX8_bestRound : MethodName := ⟨RX8, "bestRound", "(II)I"⟩
abbrev cX8_feedAt : ByteArray := prog_1_method_38_code
def yX8_feedAt : MethodName := ⟨RX8, "feedAt", "(II)I"⟩
abbrev cX8_inSight : ByteArray := prog_1_method_39_code
def yX8_inSight : MethodName := ⟨RX8, "inSight", "(II)I"⟩
abbrev cX8_peak : ByteArray := prog_1_method_40_code
def yX8_peak : MethodName := ⟨RX8, "peak", "(II)I"⟩
abbrev cX8_merry : ByteArray := prog_1_method_41_code
def yX8_merry : MethodName := ⟨RX8, "merry", "()I"⟩
abbrev cX8_rests : ByteArray := prog_1_method_42_code
def yX8_rests : MethodName := ⟨RX8, "rests", "(II)I"⟩
abbrev cX8_laughInSet : ByteArray := prog_1_method_43_code
def yX8_laughInSet : MethodName := ⟨RX8, "laughInSet", "(II)V"⟩
abbrev cX8_isAtRest : ByteArray := prog_1_method_44_code
def yX8_isAtRest : MethodName := ⟨RX8, "isAtRest", "(I)Z"⟩
abbrev cX8_silk : ByteArray := prog_1_method_45_code
def yX8_silk : MethodName := ⟨RX8, "silk", "(II)I"⟩
abbrev cX8_likes : ByteArray := prog_1_method_46_code
def yX8_likes : MethodName := ⟨RX8, "likes", "(IZ)I"⟩
abbrev cX8_commonDivisor : ByteArray := prog_1_method_47_code
def yX8_commonDivisor : MethodName := ⟨RX8, "commonDivisor", "(II)I"⟩
abbrev cX8_sleeps : ByteArray := prog_1_method_48_code
def yX8_sleeps : MethodName := ⟨RX8, "sleeps", "()I"⟩
abbrev cX8_tell : ByteArray := prog_1_method_49_code
def yX8_tell : MethodName := ⟨RX8, "tell", "(II)I"⟩
abbrev cX8_forget : ByteArray := prog_1_method_50_code
def yX8_forget : MethodName := ⟨RX8, "forget", "()I"⟩
abbrev cX8_fed : ByteArray := prog_1_method_51_code
def yX8_fed : MethodName := ⟨RX8, "fed", "(II)I"⟩
abbrev cX8_criesAsTold : ByteArray := prog_1_method_52_code
def yX8_criesAsTold : MethodName := ⟨RX8, "criesAsTold", "(II)Z"⟩
abbrev cX8_hold : ByteArray := prog_1_method_53_code
def yX8_hold : MethodName := ⟨RX8, "hold", "(I)Z"⟩
abbrev cX8_restore : ByteArray := prog_1_method_54_code
def yX8_restore : MethodName := ⟨RX8, "restore", "(I)Z"⟩
abbrev cX8_count : ByteArray := prog_1_method_55_code
def yX8_count : MethodName := ⟨RX8, "count", "(I)I"⟩
def RX9 : String := "BabyRoundModel"
def TX9 : u_T := fun k => match k with
  | 0 => ("BabyRoundModel", "thrown", "I", false)
  | 1 => ("BabyRoundModel", "tape", "[B", true)
  | 2 => ("BabyRoundModel", "taped", "I", false)
  | 3 => ("BabyRoundModel", "text", "[B", true)
  | 4 => ("BabyRoundModel", "size", "I", false)
  | 5 => ("BabyRoundModel", "tKind", "[I", true)
  | 6 => ("BabyRoundModel", "tPlace", "[I", true)
  | 7 => ("BabyRoundModel", "tValue", "[I", true)
  | 8 => ("BabyRoundModel", "tName", "[J", true)
  | 9 => ("BabyRoundModel", "keys", "[J", true)
  | 10 => ("BabyRoundModel", "tokens", "I", false)
  | 11 => ("BabyRoundModel", "t", "I", false)
  | 12 => ("BabyRoundModel", "open", "I", false)
  | 13 => ("BabyRoundModel", "fault", "I", false)
  | 14 => ("BabyRoundModel", "faultPlace", "I", false)
  | 15 => ("BabyRoundModel", "worst", "I", false)
  | 16 => ("BabyRoundModel", "worstPlace", "I", false)
  | 17 => ("BabyRoundModel", "place", "I", false)
  | 18 => ("BabyRoundModel", "live", "I", false)
  | 19 => ("BabyRoundModel", "side", "I", false)
  | 20 => ("BabyRoundModel", "names", "I", false)
  | 21 => ("BabyRoundModel", "nameOf", "[J", true)
  | 22 => ("BabyRoundModel", "babyTold", "[I", true)
  | 23 => ("BabyRoundModel", "aunts", "[I", true)
  | 24 => ("BabyRoundModel", "rockOf", "[I", true)
  | 25 => ("BabyRoundModel", "showOf", "[I", true)
  | 26 => ("BabyRoundModel", "beardOf", "[I", true)
  | 27 => ("BabyRoundModel", "silkOf", "[I", true)
  | 28 => ("BabyRoundModel", "sitsOf", "[Z", true)
  | 29 => ("BabyRoundModel", "fresh", "[I", true)
  | 30 => ("BabyRoundModel", "feeds", "[I", true)
  | 31 => ("BabyRoundModel", "seed", "[I", true)
  | 32 => ("BabyRoundModel", "lawFirst", "[I", true)
  | 33 => ("BabyRoundModel", "lawLast", "[I", true)
  | 34 => ("BabyRoundModel", "branches", "I", false)
  | 35 => ("BabyRoundModel", "hasTest", "[Z", true)
  | 36 => ("BabyRoundModel", "testFrom", "[I", true)
  | 37 => ("BabyRoundModel", "testMid", "[I", true)
  | 38 => ("BabyRoundModel", "testTo", "[I", true)
  | 39 => ("BabyRoundModel", "termTo", "[I", true)
  | 40 => ("BabyRoundModel", "codes", "I", false)
  | 41 => ("BabyRoundModel", "code", "[I", true)
  | 42 => ("BabyRoundModel", "codeInt", "[I", true)
  | 43 => ("BabyRoundModel", "waits", "[I", true)
  | 44 => ("BabyRoundModel", "waiting", "I", false)
  | 45 => ("BabyRoundModel", "variables", "[I", true)
  | 46 => ("BabyRoundModel", "pile", "[I", true)
  | 47 => ("BabyRoundModel", "isBroken", "Z", false)
  | 48 => ("BabyRoundModel", "now0", "[I", true)
  | 49 => ("BabyRoundModel", "row", "[I", true)
  | 50 => ("BabyRoundModel", "lots", "I", false)
  | 51 => ("BabyRoundModel", "rockWho", "I", false)
  | 52 => ("BabyRoundModel", "rockBy", "I", false)
  | 53 => ("BabyRoundModel", "change", "[I", true)
  | 54 => ("BabyRoundModel", "undos", "I", false)
  | 55 => ("BabyRoundModel", "history", "[I", true)
  | 56 => ("BabyRoundModel", "cryAll", "I", false)
  | 57 => ("BabyRoundModel", "sleeper", "I", false)
  | 58 => ("BabyRoundModel", "cryWith", "[I", true)
  | 59 => ("BabyRoundModel", "laughsWith", "[I", true)
  | 60 => ("BabyRoundModel", "perm", "[I", true)
  | 61 => ("BabyRoundModel", "leastCry", "I", false)
  | 62 => ("BabyRoundModel", "leastOrder", "[I", true)
  | 63 => ("BabyRoundModel", "sitting", "I", false)
  | 64 => ("BabyRoundModel", "lucky", "[I", true)
  | 65 => ("BabyRoundModel", "leastApart", "I", false)
  | 66 => ("BabyRoundModel", "fairFirst", "I", false)
  | 67 => ("BabyRoundModel", "laughsBy", "[I", true)
  | 68 => ("BabyRoundModel", "told", "I", false)
  | 69 => ("BabyRoundModel", "toldMinute", "[I", true)
  | 70 => ("BabyRoundModel", "toldCry", "[I", true)
  | 71 => ("BabyRoundModel", "isHeld", "[Z", true)
  | _ => ("BabyRoundModel", "held0", "[I", true)
def tyX9 : Nat → FieldType := fun k => match k with
  | 0 => .int
  | 1 => .array .byte
  | 2 => .int
  | 3 => .array .byte
  | 4 => .int
  | 5 => .array .int
  | 6 => .array .int
  | 7 => .array .int
  | 8 => .array .long
  | 9 => .array .long
  | 10 => .int
  | 11 => .int
  | 12 => .int
  | 13 => .int
  | 14 => .int
  | 15 => .int
  | 16 => .int
  | 17 => .int
  | 18 => .int
  | 19 => .int
  | 20 => .int
  | 21 => .array .long
  | 22 => .array .int
  | 23 => .array .int
  | 24 => .array .int
  | 25 => .array .int
  | 26 => .array .int
  | 27 => .array .int
  | 28 => .array .boolean
  | 29 => .array .int
  | 30 => .array .int
  | 31 => .array .int
  | 32 => .array .int
  | 33 => .array .int
  | 34 => .int
  | 35 => .array .boolean
  | 36 => .array .int
  | 37 => .array .int
  | 38 => .array .int
  | 39 => .array .int
  | 40 => .int
  | 41 => .array .int
  | 42 => .array .int
  | 43 => .array .int
  | 44 => .int
  | 45 => .array .int
  | 46 => .array .int
  | 47 => .boolean
  | 48 => .array .int
  | 49 => .array .int
  | 50 => .int
  | 51 => .int
  | 52 => .int
  | 53 => .array .int
  | 54 => .int
  | 55 => .array .int
  | 56 => .int
  | 57 => .int
  | 58 => .array .int
  | 59 => .array .int
  | 60 => .array .int
  | 61 => .int
  | 62 => .array .int
  | 63 => .int
  | 64 => .array .int
  | 65 => .int
  | 66 => .int
  | 67 => .array .int
  | 68 => .int
  | 69 => .array .int
  | 70 => .array .int
  | 71 => .array .boolean
  | _ => .array .int
abbrev wsX90 : List Cond := u_ws RX9 TX9 73
theorem nmX9 : ∀ a, a < 73 → ∀ b, b < 73 → a ≠ b → (TX9 a).2.1 ≠ (TX9 b).2.1 := by decide +kernel
theorem tyX9_ok : ∀ k, k < 73 → parseFieldDescriptor (TX9 k).2.2.1 = some (tyX9 k) := by decide +kernel
abbrev cX9_init : ByteArray := prog_11_method_2_code
def yX9_init : MethodName := ⟨RX9, "<init>", "()V"⟩
abbrev cX9_feed : ByteArray := prog_11_method_3_code
def yX9_feed : MethodName := ⟨RX9, "feed", "(IIIII)I"⟩
abbrev cX9_put : ByteArray := prog_11_method_4_code
def yX9_put : MethodName := ⟨RX9, "put", "(I)V"⟩
abbrev cX9_back : ByteArray := prog_11_method_5_code
def yX9_back : MethodName := ⟨RX9, "back", "(I)I"⟩
abbrev cX9_byteAt : ByteArray := prog_11_method_6_code
def yX9_byteAt : MethodName := ⟨RX9, "byteAt", "(I)I"⟩
abbrev cX9_isDigit : ByteArray := prog_11_method_7_code
def yX9_isDigit : MethodName := ⟨RX9, "isDigit", "(I)Z"⟩
abbrev cX9_isLetter : ByteArray := prog_11_method_8_code
def yX9_isLetter : MethodName := ⟨RX9, "isLetter", "(I)Z"⟩
abbrev cX9_appends : ByteArray := prog_11_method_9_code
def yX9_appends : MethodName := ⟨RX9, "appends", "(JI)J"⟩
abbrev cX9_word : ByteArray := prog_11_method_10_code
def yX9_word : MethodName := ⟨RX9, "word", "(IIIIIII)J"⟩
abbrev cX9_token : ByteArray := prog_11_method_11_code
def yX9_token : MethodName := ⟨RX9, "token", "(IIIJ)V"⟩
abbrev cX9_cut : ByteArray := prog_11_method_12_code
def yX9_cut : MethodName := ⟨RX9, "cut", "()V"⟩
abbrev cX9_sign : ByteArray := prog_11_method_13_code
def yX9_sign : MethodName := ⟨RX9, "sign", "(III)I"⟩
abbrev cX9_is : ByteArray := prog_11_method_14_code
def yX9_is : MethodName := ⟨RX9, "is", "(I)Z"⟩
abbrev cX9_fail : ByteArray := prog_11_method_15_code
def yX9_fail : MethodName := ⟨RX9, "fail", "(I)V"⟩
abbrev cX9_wrong : ByteArray := prog_11_method_16_code
def yX9_wrong : MethodName := ⟨RX9, "wrong", "(II)V"⟩
abbrev cX9_goesOn : ByteArray := prog_11_method_17_code
def yX9_goesOn : MethodName := ⟨RX9, "goesOn", "()V"⟩
abbrev cX9_must : ByteArray := prog_11_method_18_code
def yX9_must : MethodName := ⟨RX9, "must", "(I)V"⟩
abbrev cX9_plain : ByteArray := prog_11_method_19_code
def yX9_plain : MethodName := ⟨RX9, "plain", "(I)V"⟩
abbrev cX9_read : ByteArray := prog_11_method_20_code
def yX9_read : MethodName := ⟨RX9, "read", "()I"⟩
abbrev cX9_place : ByteArray := prog_11_method_21_code
def yX9_place : MethodName := ⟨RX9, "place", "()I"⟩
abbrev cX9_tellOne : ByteArray := prog_11_method_22_code
def yX9_tellOne : MethodName := ⟨RX9, "tellOne", "()V"⟩
abbrev cX9_bounded : ByteArray := prog_11_method_23_code
def yX9_bounded : MethodName := ⟨RX9, "bounded", "(II)I"⟩
abbrev cX9_tellAunt : ByteArray := prog_11_method_24_code
def yX9_tellAunt : MethodName := ⟨RX9, "tellAunt", "()V"⟩
abbrev cX9_tellLaw : ByteArray := prog_11_method_25_code
def yX9_tellLaw : MethodName := ⟨RX9, "tellLaw", "(I)V"⟩
abbrev cX9_term : ByteArray := prog_11_method_26_code
def yX9_term : MethodName := ⟨RX9, "term", "()V"⟩
abbrev cX9_emit : ByteArray := prog_11_method_27_code
def yX9_emit : MethodName := ⟨RX9, "emit", "(II)V"⟩
abbrev cX9_comesOut : ByteArray := prog_11_method_28_code
def yX9_comesOut : MethodName := ⟨RX9, "comesOut", "(Z)V"⟩
abbrev cX9_expression : ByteArray := prog_11_method_29_code
def yX9_expression : MethodName := ⟨RX9, "expression", "()V"⟩
abbrev cX9_unit : ByteArray := prog_11_method_30_code
def yX9_unit : MethodName := ⟨RX9, "unit", "()V"⟩
abbrev cX9_termOf : ByteArray := prog_11_method_31_code
def yX9_termOf : MethodName := ⟨RX9, "termOf", "(II)I"⟩
abbrev cX9_in : ByteArray := prog_11_method_32_code
def yX9_in : MethodName := ⟨RX9, "in", "(III)Z"⟩
abbrev cX9_plainly : ByteArray := prog_11_method_33_code
def yX9_plainly : MethodName := ⟨RX9, "plainly", "()V"⟩
abbrev cX9_begins : ByteArray := prog_11_method_34_code
def yX9_begins : MethodName := ⟨RX9, "begins", "()V"⟩
abbrev cX9_keepsRow : ByteArray := prog_11_method_35_code
def yX9_keepsRow : MethodName := ⟨RX9, "keepsRow", "()V"⟩
abbrev cX9_copies : ByteArray := prog_11_method_36_code
def yX9_copies : MethodName := ⟨RX9, "copies", "()V"⟩
abbrev cX9_mixed : ByteArray := prog_11_method_37_code
def yX9_mixed : MethodName := ⟨RX9, "mixed", "(II)I"⟩
abbrev cX9_lotNow : ByteArray := prog_11_method_38_code
def yX9_lotNow : MethodName := ⟨RX9, "lotNow", "()I"⟩
abbrev cX9_held : ByteArray := prog_11_method_39_code
def yX9_held : MethodName := ⟨RX9, "held", "(III)I"⟩
abbrev cX9_tells : ByteArray := prog_11_method_40_code
def yX9_tells : MethodName := ⟨RX9, "tells", "(IIII)I"⟩
abbrev cX9_lawNow : ByteArray := prog_11_method_41_code
def yX9_lawNow : MethodName := ⟨RX9, "lawNow", "(I)I"⟩
abbrev cX9_fallsAsleep : ByteArray := prog_11_method_42_code
def yX9_fallsAsleep : MethodName := ⟨RX9, "fallsAsleep", "()V"⟩
abbrev cX9_wakeMinute : ByteArray := prog_11_method_43_code
def yX9_wakeMinute : MethodName := ⟨RX9, "wakeMinute", "()V"⟩
abbrev cX9_sleepMinute : ByteArray := prog_11_method_44_code
def yX9_sleepMinute : MethodName := ⟨RX9, "sleepMinute", "()V"⟩
abbrev cX9_minuteGoes : ByteArray := prog_11_method_45_code
def yX9_minuteGoes : MethodName := ⟨RX9, "minuteGoes", "()V"⟩
abbrev cX9_goes : ByteArray := prog_11_method_46_code
def yX9_goes : MethodName := ⟨RX9, "goes", "(I)V"⟩
abbrev cX9_hands : ByteArray := prog_11_method_47_code
def yX9_hands : MethodName := ⟨RX9, "hands", "(I)V"⟩
abbrev cX9_isAunt : ByteArray := prog_11_method_48_code
def yX9_isAunt : MethodName := ⟨RX9, "isAunt", "(I)Z"⟩
abbrev cX9_isAwake : ByteArray := prog_11_method_49_code
def yX9_isAwake : MethodName := ⟨RX9, "isAwake", "()Z"⟩
abbrev cX9_cries : ByteArray := prog_11_method_50_code
def yX9_cries : MethodName := ⟨RX9, "cries", "(I)I"⟩
abbrev cX9_now : ByteArray := prog_11_method_51_code
def yX9_now : MethodName := ⟨RX9, "now", "(I)I"⟩
abbrev cX9_aunt : ByteArray := prog_11_method_52_code
def yX9_aunt : MethodName := ⟨RX9, "aunt", "(II)I"⟩
abbrev cX9_law : ByteArray := prog_11_method_53_code
def yX9_law : MethodName := ⟨RX9, "law", "(I)I"⟩
abbrev cX9_keeps : ByteArray := prog_11_method_54_code
def yX9_keeps : MethodName := ⟨RX9, "keeps", "()V"⟩
abbrev cX9_minutes : ByteArray := prog_11_method_55_code
def yX9_minutes : MethodName := ⟨RX9, "minutes", "(I)I"⟩
abbrev cX9_hand : ByteArray := prog_11_method_56_code
def yX9_hand : MethodName := ⟨RX9, "hand", "(I)Z"⟩
abbrev cX9_feedsNow : ByteArray := prog_11_method_57_code
def yX9_feedsNow : MethodName := ⟨RX9, "feedsNow", "()V"⟩
abbrev cX9_nurse : ByteArray := prog_11_method_58_code
def yX9_nurse : MethodName := ⟨RX9, "nurse", "()Z"⟩
abbrev cX9_lay : ByteArray := prog_11_method_59_code
def yX9_lay : MethodName := ⟨RX9, "lay", "()Z"⟩
abbrev cX9_turns : ByteArray := prog_11_method_60_code
def yX9_turns : MethodName := ⟨RX9, "turns", "(IZ)Z"⟩
abbrev cX9_cloth : ByteArray := prog_11_method_61_code
def yX9_cloth : MethodName := ⟨RX9, "cloth", "(Z)Z"⟩
abbrev cX9_mother : ByteArray := prog_11_method_62_code
def yX9_mother : MethodName := ⟨RX9, "mother", "(Z)Z"⟩
abbrev cX9_undo : ByteArray := prog_11_method_63_code
def yX9_undo : MethodName := ⟨RX9, "undo", "()Z"⟩
abbrev cX9_crying : ByteArray := prog_11_method_64_code
def yX9_crying : MethodName := ⟨RX9, "crying", "(I)I"⟩
abbrev cX9_next : ByteArray := prog_11_method_65_code
def yX9_next : MethodName := ⟨RX9, "next", "(II)I"⟩
abbrev cX9_gives : ByteArray := prog_11_method_66_code
def yX9_gives : MethodName := ⟨RX9, "gives", "(II)V"⟩
abbrev cX9_starts : ByteArray := prog_11_method_67_code
def yX9_starts : MethodName := ⟨RX9, "starts", "()V"⟩
abbrev cX9_firstOrder : ByteArray := prog_11_method_68_code
def yX9_firstOrder : MethodName := ⟨RX9, "firstOrder", "()V"⟩
abbrev cX9_nextOrder : ByteArray := prog_11_method_69_code
def yX9_nextOrder : MethodName := ⟨RX9, "nextOrder", "()Z"⟩
abbrev cX9_givesAll : ByteArray := prog_11_method_70_code
def yX9_givesAll : MethodName := ⟨RX9, "givesAll", "(I)V"⟩
abbrev cX9_apartNow : ByteArray := prog_11_method_71_code
def yX9_apartNow : MethodName := ⟨RX9, "apartNow", "()I"⟩
abbrev cX9_luckiest : ByteArray := prog_11_method_72_code
def yX9_luckiest : MethodName := ⟨RX9, "luckiest", "()I"⟩
abbrev cX9_fillsOrders : ByteArray := prog_11_method_73_code
def yX9_fillsOrders : MethodName := ⟨RX9, "fillsOrders", "(I)V"⟩
abbrev cX9_isShort : ByteArray := prog_11_method_74_code
def yX9_isShort : MethodName := ⟨RX9, "isShort", "(I)Z"⟩
abbrev cX9_order : ByteArray := prog_11_method_75_code
def yX9_order : MethodName := ⟨RX9, "order", "(I)I"⟩
abbrev cX9_orderAt : ByteArray := prog_11_method_76_code
def yX9_orderAt : MethodName := ⟨RX9, "orderAt", "(II)I"⟩
abbrev cX9_sitters : ByteArray := prog_11_method_77_code
def yX9_sitters : MethodName := ⟨RX9, "sitters", "(I)I"⟩
abbrev cX9_luck : ByteArray := prog_11_method_78_code
def yX9_luck : MethodName := ⟨RX9, "luck", "(II)I"⟩
abbrev cX9_fairest : ByteArray := prog_11_method_79_code
def yX9_fairest : MethodName := ⟨RX9, "fairest", "(II)I"⟩
abbrev cX9_leftOut : ByteArray := prog_11_method_80_code
def yX9_leftOut : MethodName := ⟨RX9, "leftOut", "(II)I"⟩
abbrev cX9_cryIf : ByteArray := prog_11_method_81_code
def yX9_cryIf : MethodName := ⟨RX9, "cryIf", "(II)I"⟩
abbrev cX9_wants : ByteArray := prog_11_method_82_code
def yX9_wants : MethodName := ⟨RX9, "wants", "(II)I"⟩
abbrev cX9_cryInSight : ByteArray := prog_11_method_83_code
def yX9_cryInSight : MethodName := ⟨RX9, "cryInSight", "(II)I"⟩
abbrev cX9_moment : ByteArray := prog_11_method_84_code
def yX9_moment : MethodName := ⟨RX9, "moment", "(I)I"⟩
abbrev cX9_inSight : ByteArray := prog_11_method_85_code
def yX9_inSight : MethodName := ⟨RX9, "inSight", "(II)I"⟩
abbrev cX9_beat : ByteArray := prog_11_method_86_code
def yX9_beat : MethodName := ⟨RX9, "beat", "(III)I"⟩
abbrev cX9_fewestOther : ByteArray := prog_11_method_87_code
def yX9_fewestOther : MethodName := ⟨RX9, "fewestOther", "()I"⟩
abbrev cX9_rounds : ByteArray := prog_11_method_88_code
def yX9_rounds : MethodName := ⟨RX9, "rounds", "(III)V"⟩
abbrev cX9_round : ByteArray := prog_11_method_89_code
def yX9_round : MethodName := ⟨RX9, "round", "(IIII)I"⟩
abbrev cX9_bestRound : ByteArray := prog_11_method_90_code
def yX9_bestRound : MethodName := ⟨RX9, "bestRound", "(II)I"⟩
abbrev cX9_feedAt : ByteArray := prog_11_method_91_code
def yX9_feedAt : MethodName := ⟨RX9, "feedAt", "(II)I"⟩
abbrev cX9_peak : ByteArray := prog_11_method_92_code
def yX9_peak : MethodName := ⟨RX9, "peak", "(II)I"⟩
abbrev cX9_merry : ByteArray := prog_11_method_93_code
def yX9_merry : MethodName := ⟨RX9, "merry", "()I"⟩
abbrev cX9_sleeps : ByteArray := prog_11_method_94_code
def yX9_sleeps : MethodName := ⟨RX9, "sleeps", "()I"⟩
abbrev cX9_fillsRests : ByteArray := prog_11_method_95_code
def yX9_fillsRests : MethodName := ⟨RX9, "fillsRests", "(I)V"⟩
abbrev cX9_isResting : ByteArray := prog_11_method_96_code
def yX9_isResting : MethodName := ⟨RX9, "isResting", "(I)Z"⟩
abbrev cX9_rests : ByteArray := prog_11_method_97_code
def yX9_rests : MethodName := ⟨RX9, "rests", "(II)I"⟩
abbrev cX9_silk : ByteArray := prog_11_method_98_code
def yX9_silk : MethodName := ⟨RX9, "silk", "(II)I"⟩
abbrev cX9_common : ByteArray := prog_11_method_99_code
def yX9_common : MethodName := ⟨RX9, "common", "(II)I"⟩
abbrev cX9_likes : ByteArray := prog_11_method_100_code
def yX9_likes : MethodName := ⟨RX9, "likes", "(IZ)I"⟩
abbrev cX9_tell : ByteArray := prog_11_method_101_code
def yX9_tell : MethodName := ⟨RX9, "tell", "(II)I"⟩
abbrev cX9_forget : ByteArray := prog_11_method_102_code
def yX9_forget : MethodName := ⟨RX9, "forget", "()I"⟩
abbrev cX9_isSo : ByteArray := prog_11_method_103_code
def yX9_isSo : MethodName := ⟨RX9, "isSo", "(II)Z"⟩
abbrev cX9_fed : ByteArray := prog_11_method_104_code
def yX9_fed : MethodName := ⟨RX9, "fed", "(II)I"⟩
abbrev cX9_hold : ByteArray := prog_11_method_105_code
def yX9_hold : MethodName := ⟨RX9, "hold", "(I)Z"⟩
abbrev cX9_restore : ByteArray := prog_11_method_106_code
def yX9_restore : MethodName := ⟨RX9, "restore", "(I)Z"⟩
abbrev cX9_count : ByteArray := prog_11_method_107_code
def yX9_count : MethodName := ⟨RX9, "count", "(I)I"⟩
def RJ9 : String := "java/lang/Math"
abbrev cJ9_max_7cf53 : ByteArray := prog_12_method_65_code
def yJ9_max_7cf53 : MethodName := ⟨RJ9, "max", "(II)I"⟩
abbrev cJ9_min_7cf53 : ByteArray := prog_12_method_69_code
def yJ9_min_7cf53 : MethodName := ⟨RJ9, "min", "(II)I"⟩
def RJ0 : String := "java/lang/String"
abbrev cJ0_length_8abf5 : ByteArray := prog_13_method_54_code
def yJ0_length_8abf5 : MethodName := ⟨RJ0, "length", "()I"⟩
abbrev cJ0_charAt_5068e : ByteArray := prog_13_method_56_code
def yJ0_charAt_5068e : MethodName := ⟨RJ0, "charAt", "(I)C"⟩
abbrev cJ0_coder_7d493 : ByteArray := prog_13_method_152_code
def yJ0_coder_7d493 : MethodName := ⟨RJ0, "coder", "()B"⟩
abbrev cJ0_isLatin1_aae02 : ByteArray := prog_13_method_154_code
def yJ0_isLatin1_aae02 : MethodName := ⟨RJ0, "isLatin1", "()Z"⟩
abbrev cJ0_checkIndex_df160 : ByteArray := prog_13_method_155_code
def yJ0_checkIndex_df160 : MethodName := ⟨RJ0, "checkIndex", "(II)V"⟩
def RJ1 : String := "java/lang/StringLatin1"
abbrev cJ1_charAt_3b067 : ByteArray := prog_14_method_2_code
def yJ1_charAt_3b067 : MethodName := ⟨RJ1, "charAt", "([BI)C"⟩
def RJ2 : String := "java/lang/StringUTF16"
abbrev cJ2_getChar_3b067 : ByteArray := prog_15_method_5_code
def yJ2_getChar_3b067 : MethodName := ⟨RJ2, "getChar", "([BI)C"⟩
abbrev cJ2_length_9d52b : ByteArray := prog_15_method_6_code
def yJ2_length_9d52b : MethodName := ⟨RJ2, "length", "([B)I"⟩
abbrev cJ2_charAt_3b067 : ByteArray := prog_15_method_83_code
def yJ2_charAt_3b067 : MethodName := ⟨RJ2, "charAt", "([BI)C"⟩
abbrev cJ2_checkIndex_2214a : ByteArray := prog_15_method_91_code
def yJ2_checkIndex_2214a : MethodName := ⟨RJ2, "checkIndex", "(I[B)V"⟩
def RJ3 : String := "jdk/internal/util/Preconditions"
abbrev cJ3_checkIndex_8e157 : ByteArray := prog_16_method_11_code
def yJ3_checkIndex_8e157 : MethodName := ⟨RJ3, "checkIndex", "(IILjava/util/function/BiFunction;)I"⟩
def RL : String := "BabyRoundLaw"
abbrev cL_law : ByteArray := code
def yL_law : MethodName := ⟨RL, "law", "([I)Z"⟩
abbrev vwCl : List vw_C := [(RX0, TX0, 1), (RX1, TX1, 8), (RX2, TX2, 3), (RX3, TX3, 12), (RX4, TX4, 13), (RX5, TX5, 21), (RX6, TX6, 15), (RX7, TX7, 4), (RX8, TX8, 14), (RX9, TX9, 73)]
