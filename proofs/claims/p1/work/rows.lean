section
-- ===== PART A: goes FIRST, ahead of the names: the tables' words, and 'selects' of the private methods out of them =====
/-- a private method of a class that the tables say can be made, by its rows of tables_1 -/
def lw_okq (q : MethodName × Nat) : Prop := (q.1.cls ≠ "java/lang/invoke/MethodHandle" ∧ q.1.cls ≠ "java/lang/invoke/VarHandle") ∧ Cond.instantiable q.1.cls q.2 ∈ tables_1 ∧ Cond.privateMethod q.1 ∈ tables_1 ∧ Cond.instanceMethod q.1 ∈ tables_1
theorem lw_p0 : lw_okq (⟨"NobodyChecks$Reader", "beginCase", "()V"⟩, 7) := ⟨⟨by decide +kernel, by decide +kernel⟩, List.mem_of_getElem? (i := 43) (by decide +kernel), List.mem_of_getElem? (i := 338) (by decide +kernel), List.mem_of_getElem? (i := 339) (by decide +kernel)⟩
theorem lw_p1 : lw_okq (⟨"NobodyChecks$Reader", "takes", "(I)Z"⟩, 7) := ⟨⟨by decide +kernel, by decide +kernel⟩, List.mem_of_getElem? (i := 43) (by decide +kernel), List.mem_of_getElem? (i := 342) (by decide +kernel), List.mem_of_getElem? (i := 343) (by decide +kernel)⟩
theorem lw_p2 : lw_okq (⟨"NobodyChecks$Reader", "takesOfWeight", "(I)Z"⟩, 7) := ⟨⟨by decide +kernel, by decide +kernel⟩, List.mem_of_getElem? (i := 43) (by decide +kernel), List.mem_of_getElem? (i := 346) (by decide +kernel), List.mem_of_getElem? (i := 347) (by decide +kernel)⟩
theorem lw_p3 : lw_okq (⟨"NobodyChecks$Reader", "takeDigit", "(I)V"⟩, 7) := ⟨⟨by decide +kernel, by decide +kernel⟩, List.mem_of_getElem? (i := 43) (by decide +kernel), List.mem_of_getElem? (i := 350) (by decide +kernel), List.mem_of_getElem? (i := 351) (by decide +kernel)⟩
theorem lw_p4 : lw_okq (⟨"NobodyChecks$Reader", "takesOfChance", "(I)Z"⟩, 7) := ⟨⟨by decide +kernel, by decide +kernel⟩, List.mem_of_getElem? (i := 43) (by decide +kernel), List.mem_of_getElem? (i := 354) (by decide +kernel), List.mem_of_getElem? (i := 355) (by decide +kernel)⟩
theorem lw_p5 : lw_okq (⟨"NobodyChecks$Reader", "endsWeight", "()Z"⟩, 7) := ⟨⟨by decide +kernel, by decide +kernel⟩, List.mem_of_getElem? (i := 43) (by decide +kernel), List.mem_of_getElem? (i := 358) (by decide +kernel), List.mem_of_getElem? (i := 359) (by decide +kernel)⟩
theorem lw_p6 : lw_okq (⟨"NobodyChecks$Reader", "beginChance", "()V"⟩, 7) := ⟨⟨by decide +kernel, by decide +kernel⟩, List.mem_of_getElem? (i := 43) (by decide +kernel), List.mem_of_getElem? (i := 362) (by decide +kernel), List.mem_of_getElem? (i := 363) (by decide +kernel)⟩
theorem lw_p7 : lw_okq (⟨"NobodyChecks$Reader", "endsChance", "()Z"⟩, 7) := ⟨⟨by decide +kernel, by decide +kernel⟩, List.mem_of_getElem? (i := 43) (by decide +kernel), List.mem_of_getElem? (i := 366) (by decide +kernel), List.mem_of_getElem? (i := 367) (by decide +kernel)⟩
theorem lw_p8 : lw_okq (⟨"NobodyChecks$Reader", "endsCase", "()Z"⟩, 7) := ⟨⟨by decide +kernel, by decide +kernel⟩, List.mem_of_getElem? (i := 43) (by decide +kernel), List.mem_of_getElem? (i := 370) (by decide +kernel), List.mem_of_getElem? (i := 371) (by decide +kernel)⟩
theorem lw_p9 : lw_okq (⟨"NobodyChecks$Reader", "mayEndCase", "()Z"⟩, 7) := ⟨⟨by decide +kernel, by decide +kernel⟩, List.mem_of_getElem? (i := 43) (by decide +kernel), List.mem_of_getElem? (i := 374) (by decide +kernel), List.mem_of_getElem? (i := 375) (by decide +kernel)⟩
theorem lw_p10 : lw_okq (⟨"NobodyChecks$Question", "likely", "(III)I"⟩, 7) := ⟨⟨by decide +kernel, by decide +kernel⟩, List.mem_of_getElem? (i := 77) (by decide +kernel), List.mem_of_getElem? (i := 399) (by decide +kernel), List.mem_of_getElem? (i := 400) (by decide +kernel)⟩
theorem lw_p11 : lw_okq (⟨"NobodyChecks", "forgetWorths", "()V"⟩, 9) := ⟨⟨by decide +kernel, by decide +kernel⟩, List.mem_of_getElem? (i := 17) (by decide +kernel), List.mem_of_getElem? (i := 403) (by decide +kernel), List.mem_of_getElem? (i := 404) (by decide +kernel)⟩
theorem lw_p12 : lw_okq (⟨"NobodyChecks", "payOf", "(I)LNobodyChecks$Pay;"⟩, 9) := ⟨⟨by decide +kernel, by decide +kernel⟩, List.mem_of_getElem? (i := 17) (by decide +kernel), List.mem_of_getElem? (i := 407) (by decide +kernel), List.mem_of_getElem? (i := 408) (by decide +kernel)⟩
theorem lw_p13 : lw_okq (⟨"NobodyChecks", "refusalOf", "(LNobodyChecks$Pay;III)I"⟩, 9) := ⟨⟨by decide +kernel, by decide +kernel⟩, List.mem_of_getElem? (i := 17) (by decide +kernel), List.mem_of_getElem? (i := 611) (by decide +kernel), List.mem_of_getElem? (i := 612) (by decide +kernel)⟩
theorem lw_p14 : lw_okq (⟨"NobodyChecks$Play", "isRested", "(II)Z"⟩, 10) := ⟨⟨by decide +kernel, by decide +kernel⟩, List.mem_of_getElem? (i := 124) (by decide +kernel), List.mem_of_getElem? (i := 623) (by decide +kernel), List.mem_of_getElem? (i := 624) (by decide +kernel)⟩
theorem lw_p15 : lw_okq (⟨"NobodyChecks$Play", "togetherAbove", "(I)J"⟩, 10) := ⟨⟨by decide +kernel, by decide +kernel⟩, List.mem_of_getElem? (i := 124) (by decide +kernel), List.mem_of_getElem? (i := 657) (by decide +kernel), List.mem_of_getElem? (i := 658) (by decide +kernel)⟩
def lw_privs_1 : List (MethodName × Nat) := [(⟨"NobodyChecks$Reader", "beginCase", "()V"⟩, 7), (⟨"NobodyChecks$Reader", "takes", "(I)Z"⟩, 7), (⟨"NobodyChecks$Reader", "takesOfWeight", "(I)Z"⟩, 7), (⟨"NobodyChecks$Reader", "takeDigit", "(I)V"⟩, 7), (⟨"NobodyChecks$Reader", "takesOfChance", "(I)Z"⟩, 7), (⟨"NobodyChecks$Reader", "endsWeight", "()Z"⟩, 7), (⟨"NobodyChecks$Reader", "beginChance", "()V"⟩, 7), (⟨"NobodyChecks$Reader", "endsChance", "()Z"⟩, 7), (⟨"NobodyChecks$Reader", "endsCase", "()Z"⟩, 7), (⟨"NobodyChecks$Reader", "mayEndCase", "()Z"⟩, 7), (⟨"NobodyChecks$Question", "likely", "(III)I"⟩, 7), (⟨"NobodyChecks", "forgetWorths", "()V"⟩, 9), (⟨"NobodyChecks", "payOf", "(I)LNobodyChecks$Pay;"⟩, 9), (⟨"NobodyChecks", "refusalOf", "(LNobodyChecks$Pay;III)I"⟩, 9), (⟨"NobodyChecks$Play", "isRested", "(II)Z"⟩, 10), (⟨"NobodyChecks$Play", "togetherAbove", "(I)J"⟩, 10)]
theorem lw_r1 : ∀ q ∈ lw_privs_1, lw_okq q := List.forall_mem_cons.mpr ⟨lw_p0, List.forall_mem_cons.mpr ⟨lw_p1, List.forall_mem_cons.mpr ⟨lw_p2, List.forall_mem_cons.mpr ⟨lw_p3, List.forall_mem_cons.mpr ⟨lw_p4, List.forall_mem_cons.mpr ⟨lw_p5, List.forall_mem_cons.mpr ⟨lw_p6, List.forall_mem_cons.mpr ⟨lw_p7, List.forall_mem_cons.mpr ⟨lw_p8, List.forall_mem_cons.mpr ⟨lw_p9, List.forall_mem_cons.mpr ⟨lw_p10, List.forall_mem_cons.mpr ⟨lw_p11, List.forall_mem_cons.mpr ⟨lw_p12, List.forall_mem_cons.mpr ⟨lw_p13, List.forall_mem_cons.mpr ⟨lw_p14, List.forall_mem_cons.mpr ⟨lw_p15, fun _ h => absurd h List.not_mem_nil⟩⟩⟩⟩⟩⟩⟩⟩⟩⟩⟩⟩⟩⟩⟩⟩
theorem lw_p16 : lw_okq (⟨"NobodyChecks$Play", "changedIn", "(II)I"⟩, 10) := ⟨⟨by decide +kernel, by decide +kernel⟩, List.mem_of_getElem? (i := 124) (by decide +kernel), List.mem_of_getElem? (i := 673) (by decide +kernel), List.mem_of_getElem? (i := 674) (by decide +kernel)⟩
theorem lw_p17 : lw_okq (⟨"NobodyChecks$Play", "allGain", "(III)Z"⟩, 10) := ⟨⟨by decide +kernel, by decide +kernel⟩, List.mem_of_getElem? (i := 124) (by decide +kernel), List.mem_of_getElem? (i := 677) (by decide +kernel), List.mem_of_getElem? (i := 678) (by decide +kernel)⟩
theorem lw_p18 : lw_okq (⟨"NobodyChecks$Play", "nextOf", "(I)I"⟩, 10) := ⟨⟨by decide +kernel, by decide +kernel⟩, List.mem_of_getElem? (i := 124) (by decide +kernel), List.mem_of_getElem? (i := 689) (by decide +kernel), List.mem_of_getElem? (i := 690) (by decide +kernel)⟩
theorem lw_p19 : lw_okq (⟨"NobodyChecks$Cheapest", "fillLeads", "(LNobodyChecks$Pay;[J[J)V"⟩, 12) := ⟨⟨by decide +kernel, by decide +kernel⟩, List.mem_of_getElem? (i := 167) (by decide +kernel), List.mem_of_getElem? (i := 714) (by decide +kernel), List.mem_of_getElem? (i := 715) (by decide +kernel)⟩
theorem lw_p20 : lw_okq (⟨"NobodyChecks$Cheapest", "fillNeeds", "(LNobodyChecks$Pay;)V"⟩, 12) := ⟨⟨by decide +kernel, by decide +kernel⟩, List.mem_of_getElem? (i := 167) (by decide +kernel), List.mem_of_getElem? (i := 719) (by decide +kernel), List.mem_of_getElem? (i := 720) (by decide +kernel)⟩
theorem lw_p21 : lw_okq (⟨"NobodyChecks$Cheapest", "triedRests", "(I)Z"⟩, 12) := ⟨⟨by decide +kernel, by decide +kernel⟩, List.mem_of_getElem? (i := 167) (by decide +kernel), List.mem_of_getElem? (i := 724) (by decide +kernel), List.mem_of_getElem? (i := 725) (by decide +kernel)⟩
theorem lw_p22 : lw_okq (⟨"NobodyChecks$Cheapest", "togetherByTruth", "(LNobodyChecks$Pay;)J"⟩, 12) := ⟨⟨by decide +kernel, by decide +kernel⟩, List.mem_of_getElem? (i := 167) (by decide +kernel), List.mem_of_getElem? (i := 740) (by decide +kernel), List.mem_of_getElem? (i := 741) (by decide +kernel)⟩
theorem lw_p23 : lw_okq (⟨"NobodyChecks$Cheapest", "keepIfCheaper", "()V"⟩, 12) := ⟨⟨by decide +kernel, by decide +kernel⟩, List.mem_of_getElem? (i := 167) (by decide +kernel), List.mem_of_getElem? (i := 744) (by decide +kernel), List.mem_of_getElem? (i := 745) (by decide +kernel)⟩
theorem lw_p24 : lw_okq (⟨"NobodyChecks$Cheapest", "countOn", "()V"⟩, 12) := ⟨⟨by decide +kernel, by decide +kernel⟩, List.mem_of_getElem? (i := 167) (by decide +kernel), List.mem_of_getElem? (i := 748) (by decide +kernel), List.mem_of_getElem? (i := 749) (by decide +kernel)⟩
theorem lw_p25 : lw_okq (⟨"NobodyChecks$Cheapest", "truthRests", "(LNobodyChecks$Pay;[J)I"⟩, 12) := ⟨⟨by decide +kernel, by decide +kernel⟩, List.mem_of_getElem? (i := 167) (by decide +kernel), List.mem_of_getElem? (i := 771) (by decide +kernel), List.mem_of_getElem? (i := 772) (by decide +kernel)⟩
theorem lw_p26 : lw_okq (⟨"NobodyChecks$Cheapest", "fillChangedMass", "(III)V"⟩, 12) := ⟨⟨by decide +kernel, by decide +kernel⟩, List.mem_of_getElem? (i := 167) (by decide +kernel), List.mem_of_getElem? (i := 776) (by decide +kernel), List.mem_of_getElem? (i := 777) (by decide +kernel)⟩
theorem lw_p27 : lw_okq (⟨"NobodyChecks$Rows", "bothAnswered", "(III)Z"⟩, 3) := ⟨⟨by decide +kernel, by decide +kernel⟩, List.mem_of_getElem? (i := 265) (by decide +kernel), List.mem_of_getElem? (i := 809) (by decide +kernel), List.mem_of_getElem? (i := 810) (by decide +kernel)⟩
theorem lw_p28 : lw_okq (⟨"NobodyChecks$Rows", "answerOf", "(II)I"⟩, 3) := ⟨⟨by decide +kernel, by decide +kernel⟩, List.mem_of_getElem? (i := 265) (by decide +kernel), List.mem_of_getElem? (i := 813) (by decide +kernel), List.mem_of_getElem? (i := 814) (by decide +kernel)⟩
theorem lw_p29 : lw_okq (⟨"NobodyChecks$Rows", "sameElsewhere", "(III)I"⟩, 3) := ⟨⟨by decide +kernel, by decide +kernel⟩, List.mem_of_getElem? (i := 265) (by decide +kernel), List.mem_of_getElem? (i := 826) (by decide +kernel), List.mem_of_getElem? (i := 827) (by decide +kernel)⟩
theorem lw_p30 : lw_okq (⟨"NobodyChecks$Rows", "guessOf", "(II)I"⟩, 3) := ⟨⟨by decide +kernel, by decide +kernel⟩, List.mem_of_getElem? (i := 265) (by decide +kernel), List.mem_of_getElem? (i := 846) (by decide +kernel), List.mem_of_getElem? (i := 847) (by decide +kernel)⟩
theorem lw_p31 : lw_okq (⟨"NobodyChecks", "withQuestion", "(J)J"⟩, 9) := ⟨⟨by decide +kernel, by decide +kernel⟩, List.mem_of_getElem? (i := 17) (by decide +kernel), List.mem_of_getElem? (i := 859) (by decide +kernel), List.mem_of_getElem? (i := 860) (by decide +kernel)⟩
def lw_privs_2 : List (MethodName × Nat) := [(⟨"NobodyChecks$Play", "changedIn", "(II)I"⟩, 10), (⟨"NobodyChecks$Play", "allGain", "(III)Z"⟩, 10), (⟨"NobodyChecks$Play", "nextOf", "(I)I"⟩, 10), (⟨"NobodyChecks$Cheapest", "fillLeads", "(LNobodyChecks$Pay;[J[J)V"⟩, 12), (⟨"NobodyChecks$Cheapest", "fillNeeds", "(LNobodyChecks$Pay;)V"⟩, 12), (⟨"NobodyChecks$Cheapest", "triedRests", "(I)Z"⟩, 12), (⟨"NobodyChecks$Cheapest", "togetherByTruth", "(LNobodyChecks$Pay;)J"⟩, 12), (⟨"NobodyChecks$Cheapest", "keepIfCheaper", "()V"⟩, 12), (⟨"NobodyChecks$Cheapest", "countOn", "()V"⟩, 12), (⟨"NobodyChecks$Cheapest", "truthRests", "(LNobodyChecks$Pay;[J)I"⟩, 12), (⟨"NobodyChecks$Cheapest", "fillChangedMass", "(III)V"⟩, 12), (⟨"NobodyChecks$Rows", "bothAnswered", "(III)Z"⟩, 3), (⟨"NobodyChecks$Rows", "answerOf", "(II)I"⟩, 3), (⟨"NobodyChecks$Rows", "sameElsewhere", "(III)I"⟩, 3), (⟨"NobodyChecks$Rows", "guessOf", "(II)I"⟩, 3), (⟨"NobodyChecks", "withQuestion", "(J)J"⟩, 9)]
theorem lw_r2 : ∀ q ∈ lw_privs_2, lw_okq q := List.forall_mem_cons.mpr ⟨lw_p16, List.forall_mem_cons.mpr ⟨lw_p17, List.forall_mem_cons.mpr ⟨lw_p18, List.forall_mem_cons.mpr ⟨lw_p19, List.forall_mem_cons.mpr ⟨lw_p20, List.forall_mem_cons.mpr ⟨lw_p21, List.forall_mem_cons.mpr ⟨lw_p22, List.forall_mem_cons.mpr ⟨lw_p23, List.forall_mem_cons.mpr ⟨lw_p24, List.forall_mem_cons.mpr ⟨lw_p25, List.forall_mem_cons.mpr ⟨lw_p26, List.forall_mem_cons.mpr ⟨lw_p27, List.forall_mem_cons.mpr ⟨lw_p28, List.forall_mem_cons.mpr ⟨lw_p29, List.forall_mem_cons.mpr ⟨lw_p30, List.forall_mem_cons.mpr ⟨lw_p31, fun _ h => absurd h List.not_mem_nil⟩⟩⟩⟩⟩⟩⟩⟩⟩⟩⟩⟩⟩⟩⟩⟩
theorem lw_p32 : lw_okq (⟨"NobodyChecks", "withPays", "(J)J"⟩, 9) := ⟨⟨by decide +kernel, by decide +kernel⟩, List.mem_of_getElem? (i := 17) (by decide +kernel), List.mem_of_getElem? (i := 867) (by decide +kernel), List.mem_of_getElem? (i := 868) (by decide +kernel)⟩
theorem lw_p33 : lw_okq (⟨"NobodyChecks", "withPay", "(JLNobodyChecks$Pay;)J"⟩, 9) := ⟨⟨by decide +kernel, by decide +kernel⟩, List.mem_of_getElem? (i := 17) (by decide +kernel), List.mem_of_getElem? (i := 871) (by decide +kernel), List.mem_of_getElem? (i := 872) (by decide +kernel)⟩
theorem lw_p34 : lw_okq (⟨"NobodyChecks", "withRows", "(J)J"⟩, 9) := ⟨⟨by decide +kernel, by decide +kernel⟩, List.mem_of_getElem? (i := 17) (by decide +kernel), List.mem_of_getElem? (i := 875) (by decide +kernel), List.mem_of_getElem? (i := 876) (by decide +kernel)⟩
theorem lw_p35 : lw_okq (⟨"NobodyChecksModel", "faultOf", "()I"⟩, 33) := ⟨⟨by decide +kernel, by decide +kernel⟩, List.mem_of_getElem? (i := 880) (by decide +kernel), List.mem_of_getElem? (i := 1000) (by decide +kernel), List.mem_of_getElem? (i := 1001) (by decide +kernel)⟩
theorem lw_p36 : lw_okq (⟨"NobodyChecksModel", "go", "(I)Z"⟩, 33) := ⟨⟨by decide +kernel, by decide +kernel⟩, List.mem_of_getElem? (i := 880) (by decide +kernel), List.mem_of_getElem? (i := 1004) (by decide +kernel), List.mem_of_getElem? (i := 1005) (by decide +kernel)⟩
theorem lw_p37 : lw_okq (⟨"NobodyChecksModel", "goChance", "(I)Z"⟩, 33) := ⟨⟨by decide +kernel, by decide +kernel⟩, List.mem_of_getElem? (i := 880) (by decide +kernel), List.mem_of_getElem? (i := 1013) (by decide +kernel), List.mem_of_getElem? (i := 1014) (by decide +kernel)⟩
theorem lw_p38 : lw_okq (⟨"NobodyChecksModel", "layLikely", "()V"⟩, 33) := ⟨⟨by decide +kernel, by decide +kernel⟩, List.mem_of_getElem? (i := 880) (by decide +kernel), List.mem_of_getElem? (i := 1021) (by decide +kernel), List.mem_of_getElem? (i := 1022) (by decide +kernel)⟩
theorem lw_p39 : lw_okq (⟨"NobodyChecksModel", "isPerson", "(I)Z"⟩, 33) := ⟨⟨by decide +kernel, by decide +kernel⟩, List.mem_of_getElem? (i := 880) (by decide +kernel), List.mem_of_getElem? (i := 1030) (by decide +kernel), List.mem_of_getElem? (i := 1031) (by decide +kernel)⟩
theorem lw_p40 : lw_okq (⟨"NobodyChecksModel", "isPay", "(I)Z"⟩, 33) := ⟨⟨by decide +kernel, by decide +kernel⟩, List.mem_of_getElem? (i := 880) (by decide +kernel), List.mem_of_getElem? (i := 1061) (by decide +kernel), List.mem_of_getElem? (i := 1062) (by decide +kernel)⟩
theorem lw_p41 : lw_okq (⟨"NobodyChecksModel", "takePay", "(I)V"⟩, 33) := ⟨⟨by decide +kernel, by decide +kernel⟩, List.mem_of_getElem? (i := 880) (by decide +kernel), List.mem_of_getElem? (i := 1074) (by decide +kernel), List.mem_of_getElem? (i := 1075) (by decide +kernel)⟩
theorem lw_p42 : lw_okq (⟨"NobodyChecksModel", "getsOf", "(II)I"⟩, 33) := ⟨⟨by decide +kernel, by decide +kernel⟩, List.mem_of_getElem? (i := 880) (by decide +kernel), List.mem_of_getElem? (i := 1078) (by decide +kernel), List.mem_of_getElem? (i := 1079) (by decide +kernel)⟩
theorem lw_p43 : lw_okq (⟨"NobodyChecksModel", "profiles", "()I"⟩, 33) := ⟨⟨by decide +kernel, by decide +kernel⟩, List.mem_of_getElem? (i := 880) (by decide +kernel), List.mem_of_getElem? (i := 1090) (by decide +kernel), List.mem_of_getElem? (i := 1091) (by decide +kernel)⟩
theorem lw_p44 : lw_okq (⟨"NobodyChecksModel", "worthOf", "(II)J"⟩, 33) := ⟨⟨by decide +kernel, by decide +kernel⟩, List.mem_of_getElem? (i := 880) (by decide +kernel), List.mem_of_getElem? (i := 1095) (by decide +kernel), List.mem_of_getElem? (i := 1096) (by decide +kernel)⟩
theorem lw_p45 : lw_okq (⟨"NobodyChecksModel", "refusal", "(IIZ)I"⟩, 33) := ⟨⟨by decide +kernel, by decide +kernel⟩, List.mem_of_getElem? (i := 880) (by decide +kernel), List.mem_of_getElem? (i := 1111) (by decide +kernel), List.mem_of_getElem? (i := 1112) (by decide +kernel)⟩
theorem lw_p46 : lw_okq (⟨"NobodyChecksModel", "layWorths", "(I)V"⟩, 33) := ⟨⟨by decide +kernel, by decide +kernel⟩, List.mem_of_getElem? (i := 880) (by decide +kernel), List.mem_of_getElem? (i := 1115) (by decide +kernel), List.mem_of_getElem? (i := 1116) (by decide +kernel)⟩
theorem lw_p47 : lw_okq (⟨"NobodyChecksModel", "firstOf", "(I)I"⟩, 33) := ⟨⟨by decide +kernel, by decide +kernel⟩, List.mem_of_getElem? (i := 880) (by decide +kernel), List.mem_of_getElem? (i := 1119) (by decide +kernel), List.mem_of_getElem? (i := 1120) (by decide +kernel)⟩
def lw_privs_3 : List (MethodName × Nat) := [(⟨"NobodyChecks", "withPays", "(J)J"⟩, 9), (⟨"NobodyChecks", "withPay", "(JLNobodyChecks$Pay;)J"⟩, 9), (⟨"NobodyChecks", "withRows", "(J)J"⟩, 9), (⟨"NobodyChecksModel", "faultOf", "()I"⟩, 33), (⟨"NobodyChecksModel", "go", "(I)Z"⟩, 33), (⟨"NobodyChecksModel", "goChance", "(I)Z"⟩, 33), (⟨"NobodyChecksModel", "layLikely", "()V"⟩, 33), (⟨"NobodyChecksModel", "isPerson", "(I)Z"⟩, 33), (⟨"NobodyChecksModel", "isPay", "(I)Z"⟩, 33), (⟨"NobodyChecksModel", "takePay", "(I)V"⟩, 33), (⟨"NobodyChecksModel", "getsOf", "(II)I"⟩, 33), (⟨"NobodyChecksModel", "profiles", "()I"⟩, 33), (⟨"NobodyChecksModel", "worthOf", "(II)J"⟩, 33), (⟨"NobodyChecksModel", "refusal", "(IIZ)I"⟩, 33), (⟨"NobodyChecksModel", "layWorths", "(I)V"⟩, 33), (⟨"NobodyChecksModel", "firstOf", "(I)I"⟩, 33)]
theorem lw_r3 : ∀ q ∈ lw_privs_3, lw_okq q := List.forall_mem_cons.mpr ⟨lw_p32, List.forall_mem_cons.mpr ⟨lw_p33, List.forall_mem_cons.mpr ⟨lw_p34, List.forall_mem_cons.mpr ⟨lw_p35, List.forall_mem_cons.mpr ⟨lw_p36, List.forall_mem_cons.mpr ⟨lw_p37, List.forall_mem_cons.mpr ⟨lw_p38, List.forall_mem_cons.mpr ⟨lw_p39, List.forall_mem_cons.mpr ⟨lw_p40, List.forall_mem_cons.mpr ⟨lw_p41, List.forall_mem_cons.mpr ⟨lw_p42, List.forall_mem_cons.mpr ⟨lw_p43, List.forall_mem_cons.mpr ⟨lw_p44, List.forall_mem_cons.mpr ⟨lw_p45, List.forall_mem_cons.mpr ⟨lw_p46, List.forall_mem_cons.mpr ⟨lw_p47, fun _ h => absurd h List.not_mem_nil⟩⟩⟩⟩⟩⟩⟩⟩⟩⟩⟩⟩⟩⟩⟩⟩
theorem lw_p48 : lw_okq (⟨"NobodyChecksModel", "gainOf", "(II)J"⟩, 33) := ⟨⟨by decide +kernel, by decide +kernel⟩, List.mem_of_getElem? (i := 880) (by decide +kernel), List.mem_of_getElem? (i := 1123) (by decide +kernel), List.mem_of_getElem? (i := 1124) (by decide +kernel)⟩
theorem lw_p49 : lw_okq (⟨"NobodyChecksModel", "bestWay", "(II)I"⟩, 33) := ⟨⟨by decide +kernel, by decide +kernel⟩, List.mem_of_getElem? (i := 880) (by decide +kernel), List.mem_of_getElem? (i := 1127) (by decide +kernel), List.mem_of_getElem? (i := 1128) (by decide +kernel)⟩
theorem lw_p50 : lw_okq (⟨"NobodyChecksModel", "allOf", "(II)I"⟩, 33) := ⟨⟨by decide +kernel, by decide +kernel⟩, List.mem_of_getElem? (i := 880) (by decide +kernel), List.mem_of_getElem? (i := 1144) (by decide +kernel), List.mem_of_getElem? (i := 1145) (by decide +kernel)⟩
theorem lw_p51 : lw_okq (⟨"NobodyChecksModel", "together", "(I)J"⟩, 33) := ⟨⟨by decide +kernel, by decide +kernel⟩, List.mem_of_getElem? (i := 880) (by decide +kernel), List.mem_of_getElem? (i := 1148) (by decide +kernel), List.mem_of_getElem? (i := 1149) (by decide +kernel)⟩
theorem lw_p52 : lw_okq (⟨"NobodyChecksModel", "gains", "(III)Z"⟩, 33) := ⟨⟨by decide +kernel, by decide +kernel⟩, List.mem_of_getElem? (i := 880) (by decide +kernel), List.mem_of_getElem? (i := 1156) (by decide +kernel), List.mem_of_getElem? (i := 1157) (by decide +kernel)⟩
theorem lw_p53 : lw_okq (⟨"NobodyChecksModel", "goOn", "(I)V"⟩, 33) := ⟨⟨by decide +kernel, by decide +kernel⟩, List.mem_of_getElem? (i := 880) (by decide +kernel), List.mem_of_getElem? (i := 1164) (by decide +kernel), List.mem_of_getElem? (i := 1165) (by decide +kernel)⟩
theorem lw_p54 : lw_okq (⟨"NobodyChecksModel", "truthRests", "()Z"⟩, 33) := ⟨⟨by decide +kernel, by decide +kernel⟩, List.mem_of_getElem? (i := 880) (by decide +kernel), List.mem_of_getElem? (i := 1176) (by decide +kernel), List.mem_of_getElem? (i := 1177) (by decide +kernel)⟩
theorem lw_p55 : lw_okq (⟨"NobodyChecksModel", "layOften", "()V"⟩, 33) := ⟨⟨by decide +kernel, by decide +kernel⟩, List.mem_of_getElem? (i := 880) (by decide +kernel), List.mem_of_getElem? (i := 1184) (by decide +kernel), List.mem_of_getElem? (i := 1185) (by decide +kernel)⟩
theorem lw_p56 : lw_okq (⟨"NobodyChecksModel", "tableRests", "(I)Z"⟩, 33) := ⟨⟨by decide +kernel, by decide +kernel⟩, List.mem_of_getElem? (i := 880) (by decide +kernel), List.mem_of_getElem? (i := 1188) (by decide +kernel), List.mem_of_getElem? (i := 1189) (by decide +kernel)⟩
theorem lw_p57 : lw_okq (⟨"NobodyChecksModel", "tableWorth", "(III)J"⟩, 33) := ⟨⟨by decide +kernel, by decide +kernel⟩, List.mem_of_getElem? (i := 880) (by decide +kernel), List.mem_of_getElem? (i := 1192) (by decide +kernel), List.mem_of_getElem? (i := 1193) (by decide +kernel)⟩
theorem lw_p58 : lw_okq (⟨"NobodyChecksModel", "bothAnswered", "(III)Z"⟩, 33) := ⟨⟨by decide +kernel, by decide +kernel⟩, List.mem_of_getElem? (i := 880) (by decide +kernel), List.mem_of_getElem? (i := 1216) (by decide +kernel), List.mem_of_getElem? (i := 1217) (by decide +kernel)⟩
theorem lw_p59 : lw_okq (⟨"NobodyChecksModel", "answerOf", "(II)I"⟩, 33) := ⟨⟨by decide +kernel, by decide +kernel⟩, List.mem_of_getElem? (i := 880) (by decide +kernel), List.mem_of_getElem? (i := 1220) (by decide +kernel), List.mem_of_getElem? (i := 1221) (by decide +kernel)⟩
theorem lw_p60 : lw_okq (⟨"NobodyChecksModel", "crowdOf", "(II)I"⟩, 33) := ⟨⟨by decide +kernel, by decide +kernel⟩, List.mem_of_getElem? (i := 880) (by decide +kernel), List.mem_of_getElem? (i := 1229) (by decide +kernel), List.mem_of_getElem? (i := 1230) (by decide +kernel)⟩
theorem lw_p61 : lw_okq (⟨"NobodyChecksModel", "countOf", "(I)I"⟩, 33) := ⟨⟨by decide +kernel, by decide +kernel⟩, List.mem_of_getElem? (i := 880) (by decide +kernel), List.mem_of_getElem? (i := 1237) (by decide +kernel), List.mem_of_getElem? (i := 1238) (by decide +kernel)⟩
theorem lw_p62 : lw_okq (⟨"NobodyChecksModel", "tell", "(J)V"⟩, 33) := ⟨⟨by decide +kernel, by decide +kernel⟩, List.mem_of_getElem? (i := 880) (by decide +kernel), List.mem_of_getElem? (i := 1246) (by decide +kernel), List.mem_of_getElem? (i := 1247) (by decide +kernel)⟩
theorem lw_p63 : lw_okq (⟨"NobodyChecksModel", "tellPay", "(I)V"⟩, 33) := ⟨⟨by decide +kernel, by decide +kernel⟩, List.mem_of_getElem? (i := 880) (by decide +kernel), List.mem_of_getElem? (i := 1251) (by decide +kernel), List.mem_of_getElem? (i := 1252) (by decide +kernel)⟩
def lw_privs_4 : List (MethodName × Nat) := [(⟨"NobodyChecksModel", "gainOf", "(II)J"⟩, 33), (⟨"NobodyChecksModel", "bestWay", "(II)I"⟩, 33), (⟨"NobodyChecksModel", "allOf", "(II)I"⟩, 33), (⟨"NobodyChecksModel", "together", "(I)J"⟩, 33), (⟨"NobodyChecksModel", "gains", "(III)Z"⟩, 33), (⟨"NobodyChecksModel", "goOn", "(I)V"⟩, 33), (⟨"NobodyChecksModel", "truthRests", "()Z"⟩, 33), (⟨"NobodyChecksModel", "layOften", "()V"⟩, 33), (⟨"NobodyChecksModel", "tableRests", "(I)Z"⟩, 33), (⟨"NobodyChecksModel", "tableWorth", "(III)J"⟩, 33), (⟨"NobodyChecksModel", "bothAnswered", "(III)Z"⟩, 33), (⟨"NobodyChecksModel", "answerOf", "(II)I"⟩, 33), (⟨"NobodyChecksModel", "crowdOf", "(II)I"⟩, 33), (⟨"NobodyChecksModel", "countOf", "(I)I"⟩, 33), (⟨"NobodyChecksModel", "tell", "(J)V"⟩, 33), (⟨"NobodyChecksModel", "tellPay", "(I)V"⟩, 33)]
theorem lw_r4 : ∀ q ∈ lw_privs_4, lw_okq q := List.forall_mem_cons.mpr ⟨lw_p48, List.forall_mem_cons.mpr ⟨lw_p49, List.forall_mem_cons.mpr ⟨lw_p50, List.forall_mem_cons.mpr ⟨lw_p51, List.forall_mem_cons.mpr ⟨lw_p52, List.forall_mem_cons.mpr ⟨lw_p53, List.forall_mem_cons.mpr ⟨lw_p54, List.forall_mem_cons.mpr ⟨lw_p55, List.forall_mem_cons.mpr ⟨lw_p56, List.forall_mem_cons.mpr ⟨lw_p57, List.forall_mem_cons.mpr ⟨lw_p58, List.forall_mem_cons.mpr ⟨lw_p59, List.forall_mem_cons.mpr ⟨lw_p60, List.forall_mem_cons.mpr ⟨lw_p61, List.forall_mem_cons.mpr ⟨lw_p62, List.forall_mem_cons.mpr ⟨lw_p63, fun _ h => absurd h List.not_mem_nil⟩⟩⟩⟩⟩⟩⟩⟩⟩⟩⟩⟩⟩⟩⟩⟩
def lw_privs : List (MethodName × Nat) := lw_privs_1 ++ (lw_privs_2 ++ (lw_privs_3 ++ (lw_privs_4)))
def lw_tbl : List Cond := k2_sels lw_privs ++ tables_1
theorem lw_privs_ok : ∀ q ∈ lw_privs, lw_okq q := by
  show ∀ q ∈ lw_privs_1 ++ (lw_privs_2 ++ (lw_privs_3 ++ (lw_privs_4))), lw_okq q
  exact List.forall_mem_append.mpr ⟨lw_r1, List.forall_mem_append.mpr ⟨lw_r2, List.forall_mem_append.mpr ⟨lw_r3, lw_r4⟩⟩⟩
end
section
/-! ===== BEGIN printed: names, fields, word lists, decode rows ===== -/
def RX0 : String := "NobodyChecks$Cheapest"
def TX0 : u_T := fun k => match k with
  | 0 => ("NobodyChecks$Cheapest", "asked", "LNobodyChecks$Question;", true)
  | 1 => ("NobodyChecks$Cheapest", "same", "LNobodyChecks$Same;", true)
  | 2 => ("NobodyChecks$Cheapest", "table", "LNobodyChecks$Table;", true)
  | 3 => ("NobodyChecks$Cheapest", "check", "LNobodyChecks$Check;", true)
  | 4 => ("NobodyChecks$Cheapest", "changedMass", "[J", true)
  | 5 => ("NobodyChecks$Cheapest", "leads", "[[J", true)
  | 6 => ("NobodyChecks$Cheapest", "needs", "[J", true)
  | 7 => ("NobodyChecks$Cheapest", "prices", "[J", true)
  | 8 => ("NobodyChecks$Cheapest", "tried", "[I", true)
  | 9 => ("NobodyChecks$Cheapest", "leastNumbers", "[I", true)
  | 10 => ("NobodyChecks$Cheapest", "tablesResting", "I", false)
  | _ => ("NobodyChecks$Cheapest", "leastPrice", "J", false)
def tyX0 : Nat → FieldType := fun k => match k with
  | 0 => .object "NobodyChecks$Question"
  | 1 => .object "NobodyChecks$Same"
  | 2 => .object "NobodyChecks$Table"
  | 3 => .object "NobodyChecks$Check"
  | 4 => .array .long
  | 5 => .array (.array .long)
  | 6 => .array .long
  | 7 => .array .long
  | 8 => .array .int
  | 9 => .array .int
  | 10 => .int
  | _ => .long
theorem nmX0 : ∀ a, a < 12 → ∀ b, b < 12 → a ≠ b → (TX0 a).2.1 ≠ (TX0 b).2.1 := by decide +kernel
theorem tyX0_ok : ∀ k, k < 12 → parseFieldDescriptor (TX0 k).2.2.1 = some (tyX0 k) := by decide +kernel
abbrev cX0_init : ByteArray := prog_2_method_1_code
def yX0_init : MethodName := ⟨RX0, "<init>", "(LNobodyChecks$Question;)V"⟩
abbrev cX0_seekSame : ByteArray := prog_2_method_2_code
def yX0_seekSame : MethodName := ⟨RX0, "seekSame", "()I"⟩
abbrev cX0_seekLook : ByteArray := prog_2_method_3_code
def yX0_seekLook : MethodName := ⟨RX0, "seekLook", "(LNobodyChecks$Pay;)I"⟩
abbrev cX0_seekTable : ByteArray := prog_2_method_4_code
def yX0_seekTable : MethodName := ⟨RX0, "seekTable", "()V"⟩
abbrev cX0_countMayBe : ByteArray := prog_2_method_5_code
def yX0_countMayBe : MethodName := ⟨RX0, "countMayBe", "(LNobodyChecks$Pay;I)I"⟩
abbrev cX0_fillChangedMass : ByteArray := prog_2_method_6_code
def yX0_fillChangedMass : MethodName := ⟨RX0, "fillChangedMass", "(III)V"⟩
abbrev cX0_truthRests : ByteArray := prog_2_method_7_code
def yX0_truthRests : MethodName := ⟨RX0, "truthRests", "(LNobodyChecks$Pay;[J)I"⟩
abbrev cX0_fillLeads : ByteArray := prog_2_method_8_code
def yX0_fillLeads : MethodName := ⟨RX0, "fillLeads", "(LNobodyChecks$Pay;[J[J)V"⟩
abbrev cX0_fillNeeds : ByteArray := prog_2_method_9_code
def yX0_fillNeeds : MethodName := ⟨RX0, "fillNeeds", "(LNobodyChecks$Pay;)V"⟩
abbrev cX0_triedRests : ByteArray := prog_2_method_10_code
def yX0_triedRests : MethodName := ⟨RX0, "triedRests", "(I)Z"⟩
abbrev cX0_togetherByTruth : ByteArray := prog_2_method_11_code
def yX0_togetherByTruth : MethodName := ⟨RX0, "togetherByTruth", "(LNobodyChecks$Pay;)J"⟩
abbrev cX0_keepIfCheaper : ByteArray := prog_2_method_12_code
def yX0_keepIfCheaper : MethodName := ⟨RX0, "keepIfCheaper", "()V"⟩
abbrev cX0_countOn : ByteArray := prog_2_method_13_code
def yX0_countOn : MethodName := ⟨RX0, "countOn", "()V"⟩
def RX1 : String := "NobodyChecks$Check"
def TX1 : u_T := fun k => match k with
  | 0 => ("NobodyChecks$Pay", "numbers", "[I", true)
  | 1 => ("NobodyChecks$Pay", "averages", "[J", false)
  | _ => ("NobodyChecks$Pay", "reckoned", "Z", false)
def tyX1 : Nat → FieldType := fun k => match k with
  | 0 => .array .int
  | 1 => .array .long
  | _ => .boolean
theorem nmX1 : ∀ a, a < 3 → ∀ b, b < 3 → a ≠ b → (TX1 a).2.1 ≠ (TX1 b).2.1 := by decide +kernel
theorem tyX1_ok : ∀ k, k < 3 → parseFieldDescriptor (TX1 k).2.2.1 = some (tyX1 k) := by decide +kernel
abbrev cX1_init : ByteArray := prog_3_method_1_code
def yX1_init : MethodName := ⟨RX1, "<init>", "()V"⟩
abbrev cX1_kind : ByteArray := prog_3_method_2_code
def yX1_kind : MethodName := ⟨RX1, "kind", "()I"⟩
abbrev cX1_unit : ByteArray := prog_3_method_3_code
def yX1_unit : MethodName := ⟨RX1, "unit", "()I"⟩
abbrev cX1_added : ByteArray := prog_3_method_4_code
def yX1_added : MethodName := ⟨RX1, "added", "(IZ)I"⟩
def RX2 : String := "NobodyChecks$Page"
def TX2 : u_T := fun k => match k with
  | 0 => ("NobodyChecks$Page", "codes", "[I", true)
  | _ => ("NobodyChecks$Page", "size", "I", false)
def tyX2 : Nat → FieldType := fun k => match k with
  | 0 => .array .int
  | _ => .int
theorem nmX2 : ∀ a, a < 2 → ∀ b, b < 2 → a ≠ b → (TX2 a).2.1 ≠ (TX2 b).2.1 := by decide +kernel
theorem tyX2_ok : ∀ k, k < 2 → parseFieldDescriptor (TX2 k).2.2.1 = some (tyX2 k) := by decide +kernel
abbrev cX2_init : ByteArray := prog_4_method_1_code
def yX2_init : MethodName := ⟨RX2, "<init>", "()V"⟩
abbrev cX2_toldBy : ByteArray := prog_4_method_2_code
def yX2_toldBy : MethodName := ⟨RX2, "toldBy", "(J)I"⟩
abbrev cX2_append : ByteArray := prog_4_method_3_code
def yX2_append : MethodName := ⟨RX2, "append", "(JI)V"⟩
abbrev cX2_codeAt : ByteArray := prog_4_method_4_code
def yX2_codeAt : MethodName := ⟨RX2, "codeAt", "(JI)I"⟩
def RX3 : String := "NobodyChecks$Pay"
def TX3 : u_T := fun k => match k with
  | 0 => ("NobodyChecks$Pay", "numbers", "[I", true)
  | 1 => ("NobodyChecks$Pay", "averages", "[J", false)
  | _ => ("NobodyChecks$Pay", "reckoned", "Z", false)
def tyX3 : Nat → FieldType := fun k => match k with
  | 0 => .array .int
  | 1 => .array .long
  | _ => .boolean
theorem nmX3 : ∀ a, a < 3 → ∀ b, b < 3 → a ≠ b → (TX3 a).2.1 ≠ (TX3 b).2.1 := by decide +kernel
theorem tyX3_ok : ∀ k, k < 3 → parseFieldDescriptor (TX3 k).2.2.1 = some (tyX3 k) := by decide +kernel
abbrev cX3_init : ByteArray := prog_5_method_1_code
def yX3_init : MethodName := ⟨RX3, "<init>", "()V"⟩
abbrev cX3_become : ByteArray := prog_5_method_2_code
def yX3_become : MethodName := ⟨RX3, "become", "(IIII)V"⟩
abbrev cX3_kind : ByteArray := prog_5_method_3_code
def yX3_kind : MethodName := ⟨RX3, "kind", "()I"⟩
abbrev cX3_amount : ByteArray := prog_5_method_4_code
def yX3_amount : MethodName := ⟨RX3, "amount", "(III)I"⟩
abbrev cX3_unit : ByteArray := prog_5_method_5_code
def yX3_unit : MethodName := ⟨RX3, "unit", "()I"⟩
abbrev cX3_added : ByteArray := prog_5_method_6_code
def yX3_added : MethodName := ⟨RX3, "added", "(IZ)I"⟩
def RX4 : String := "NobodyChecks$Play"
def TX4 : u_T := fun k => match k with
  | 0 => ("NobodyChecks$Play", "asked", "LNobodyChecks$Question;", true)
  | 1 => ("NobodyChecks$Play", "next", "[I", true)
  | 2 => ("NobodyChecks$Play", "seen", "[I", true)
  | 3 => ("NobodyChecks$Play", "averages", "[J", false)
  | 4 => ("NobodyChecks$Play", "below", "J", false)
  | 5 => ("NobodyChecks$Play", "groupSet", "I", false)
  | 6 => ("NobodyChecks$Play", "groupProfile", "I", false)
  | 7 => ("NobodyChecks$Play", "last", "I", false)
  | 8 => ("NobodyChecks$Play", "steps", "I", false)
  | _ => ("NobodyChecks$Play", "round", "I", false)
def tyX4 : Nat → FieldType := fun k => match k with
  | 0 => .object "NobodyChecks$Question"
  | 1 => .array .int
  | 2 => .array .int
  | 3 => .array .long
  | 4 => .long
  | 5 => .int
  | 6 => .int
  | 7 => .int
  | 8 => .int
  | _ => .int
theorem nmX4 : ∀ a, a < 10 → ∀ b, b < 10 → a ≠ b → (TX4 a).2.1 ≠ (TX4 b).2.1 := by decide +kernel
theorem tyX4_ok : ∀ k, k < 10 → parseFieldDescriptor (TX4 k).2.2.1 = some (tyX4 k) := by decide +kernel
abbrev cX4_init : ByteArray := prog_6_method_1_code
def yX4_init : MethodName := ⟨RX4, "<init>", "(LNobodyChecks$Question;)V"⟩
abbrev cX4_load : ByteArray := prog_6_method_2_code
def yX4_load : MethodName := ⟨RX4, "load", "(LNobodyChecks$Pay;)V"⟩
abbrev cX4_average : ByteArray := prog_6_method_3_code
def yX4_average : MethodName := ⟨RX4, "average", "(LNobodyChecks$Pay;LNobodyChecks$Question;[JII)J"⟩
abbrev cX4_above : ByteArray := prog_6_method_4_code
def yX4_above : MethodName := ⟨RX4, "above", "(II)J"⟩
abbrev cX4_bestWay : ByteArray := prog_6_method_5_code
def yX4_bestWay : MethodName := ⟨RX4, "bestWay", "(II)I"⟩
abbrev cX4_gainAbove : ByteArray := prog_6_method_6_code
def yX4_gainAbove : MethodName := ⟨RX4, "gainAbove", "(II)J"⟩
abbrev cX4_firstUnrested : ByteArray := prog_6_method_7_code
def yX4_firstUnrested : MethodName := ⟨RX4, "firstUnrested", "(I)I"⟩
abbrev cX4_isRested : ByteArray := prog_6_method_8_code
def yX4_isRested : MethodName := ⟨RX4, "isRested", "(II)Z"⟩
abbrev cX4_countRests : ByteArray := prog_6_method_9_code
def yX4_countRests : MethodName := ⟨RX4, "countRests", "()I"⟩
abbrev cX4_countRicher : ByteArray := prog_6_method_10_code
def yX4_countRicher : MethodName := ⟨RX4, "countRicher", "()I"⟩
abbrev cX4_restAt : ByteArray := prog_6_method_11_code
def yX4_restAt : MethodName := ⟨RX4, "restAt", "(I)I"⟩
abbrev cX4_seekGroup : ByteArray := prog_6_method_12_code
def yX4_seekGroup : MethodName := ⟨RX4, "seekGroup", "(I)V"⟩
abbrev cX4_travel : ByteArray := prog_6_method_13_code
def yX4_travel : MethodName := ⟨RX4, "travel", "(I)V"⟩
abbrev cX4_countDrawn : ByteArray := prog_6_method_14_code
def yX4_countDrawn : MethodName := ⟨RX4, "countDrawn", "()I"⟩
abbrev cX4_nextOf : ByteArray := prog_6_method_15_code
def yX4_nextOf : MethodName := ⟨RX4, "nextOf", "(I)I"⟩
abbrev cX4_togetherAbove : ByteArray := prog_6_method_16_code
def yX4_togetherAbove : MethodName := ⟨RX4, "togetherAbove", "(I)J"⟩
abbrev cX4_changedIn : ByteArray := prog_6_method_17_code
def yX4_changedIn : MethodName := ⟨RX4, "changedIn", "(II)I"⟩
abbrev cX4_allGain : ByteArray := prog_6_method_18_code
def yX4_allGain : MethodName := ⟨RX4, "allGain", "(III)Z"⟩
abbrev cX4_withWay : ByteArray := prog_6_method_19_code
def yX4_withWay : MethodName := ⟨RX4, "withWay", "(III)I"⟩
abbrev cX4_placeOf : ByteArray := prog_6_method_20_code
def yX4_placeOf : MethodName := ⟨RX4, "placeOf", "(II)I"⟩
def RX5 : String := "NobodyChecks$Question"
def TX5 : u_T := fun k => match k with
  | 0 => ("NobodyChecks$Question", "weights", "[I", true)
  | 1 => ("NobodyChecks$Question", "chances", "[[I", true)
  | 2 => ("NobodyChecks$Question", "costs", "[I", true)
  | 3 => ("NobodyChecks$Question", "mass", "[J", true)
  | 4 => ("NobodyChecks$Question", "cases", "I", false)
  | 5 => ("NobodyChecks$Question", "persons", "I", false)
  | _ => ("NobodyChecks$Question", "total", "J", false)
def tyX5 : Nat → FieldType := fun k => match k with
  | 0 => .array .int
  | 1 => .array (.array .int)
  | 2 => .array .int
  | 3 => .array .long
  | 4 => .int
  | 5 => .int
  | _ => .long
theorem nmX5 : ∀ a, a < 7 → ∀ b, b < 7 → a ≠ b → (TX5 a).2.1 ≠ (TX5 b).2.1 := by decide +kernel
theorem tyX5_ok : ∀ k, k < 7 → parseFieldDescriptor (TX5 k).2.2.1 = some (tyX5 k) := by decide +kernel
abbrev cX5_init : ByteArray := prog_7_method_1_code
def yX5_init : MethodName := ⟨RX5, "<init>", "()V"⟩
abbrev cX5_adopt : ByteArray := prog_7_method_2_code
def yX5_adopt : MethodName := ⟨RX5, "adopt", "(LNobodyChecks$Reader;)V"⟩
abbrev cX5_stands : ByteArray := prog_7_method_3_code
def yX5_stands : MethodName := ⟨RX5, "stands", "()Z"⟩
abbrev cX5_hasCase : ByteArray := prog_7_method_4_code
def yX5_hasCase : MethodName := ⟨RX5, "hasCase", "(I)Z"⟩
abbrev cX5_hasPerson : ByteArray := prog_7_method_5_code
def yX5_hasPerson : MethodName := ⟨RX5, "hasPerson", "(I)Z"⟩
abbrev cX5_hasProfile : ByteArray := prog_7_method_6_code
def yX5_hasProfile : MethodName := ⟨RX5, "hasProfile", "(I)Z"⟩
abbrev cX5_signLimit : ByteArray := prog_7_method_7_code
def yX5_signLimit : MethodName := ⟨RX5, "signLimit", "()I"⟩
abbrev cX5_profileLimit : ByteArray := prog_7_method_8_code
def yX5_profileLimit : MethodName := ⟨RX5, "profileLimit", "()I"⟩
abbrev cX5_fillMass : ByteArray := prog_7_method_9_code
def yX5_fillMass : MethodName := ⟨RX5, "fillMass", "([J)V"⟩
abbrev cX5_seenBelow : ByteArray := prog_7_method_10_code
def yX5_seenBelow : MethodName := ⟨RX5, "seenBelow", "(II)J"⟩
abbrev cX5_seenAbove : ByteArray := prog_7_method_11_code
def yX5_seenAbove : MethodName := ⟨RX5, "seenAbove", "(III)J"⟩
abbrev cX5_likely : ByteArray := prog_7_method_12_code
def yX5_likely : MethodName := ⟨RX5, "likely", "(III)I"⟩
def RX6 : String := "NobodyChecks$Rare"
def TX6 : u_T := fun k => match k with
  | 0 => ("NobodyChecks$Pay", "numbers", "[I", true)
  | 1 => ("NobodyChecks$Pay", "averages", "[J", false)
  | _ => ("NobodyChecks$Pay", "reckoned", "Z", false)
def tyX6 : Nat → FieldType := fun k => match k with
  | 0 => .array .int
  | 1 => .array .long
  | _ => .boolean
theorem nmX6 : ∀ a, a < 3 → ∀ b, b < 3 → a ≠ b → (TX6 a).2.1 ≠ (TX6 b).2.1 := by decide +kernel
theorem tyX6_ok : ∀ k, k < 3 → parseFieldDescriptor (TX6 k).2.2.1 = some (tyX6 k) := by decide +kernel
abbrev cX6_init : ByteArray := prog_8_method_1_code
def yX6_init : MethodName := ⟨RX6, "<init>", "()V"⟩
abbrev cX6_kind : ByteArray := prog_8_method_2_code
def yX6_kind : MethodName := ⟨RX6, "kind", "()I"⟩
abbrev cX6_amount : ByteArray := prog_8_method_3_code
def yX6_amount : MethodName := ⟨RX6, "amount", "(III)I"⟩
def RX7 : String := "NobodyChecks$Reader"
def TX7 : u_T := fun k => match k with
  | 0 => ("NobodyChecks$Reader", "weights", "[I", true)
  | 1 => ("NobodyChecks$Reader", "chances", "[[I", true)
  | 2 => ("NobodyChecks$Reader", "cases", "I", false)
  | 3 => ("NobodyChecks$Reader", "persons", "I", false)
  | 4 => ("NobodyChecks$Reader", "agreed", "I", false)
  | 5 => ("NobodyChecks$Reader", "digits", "I", false)
  | _ => ("NobodyChecks$Reader", "value", "I", false)
def tyX7 : Nat → FieldType := fun k => match k with
  | 0 => .array .int
  | 1 => .array (.array .int)
  | 2 => .int
  | 3 => .int
  | 4 => .int
  | 5 => .int
  | _ => .int
theorem nmX7 : ∀ a, a < 7 → ∀ b, b < 7 → a ≠ b → (TX7 a).2.1 ≠ (TX7 b).2.1 := by decide +kernel
theorem tyX7_ok : ∀ k, k < 7 → parseFieldDescriptor (TX7 k).2.2.1 = some (tyX7 k) := by decide +kernel
abbrev cX7_init : ByteArray := prog_9_method_1_code
def yX7_init : MethodName := ⟨RX7, "<init>", "()V"⟩
abbrev cX7_readUntilFault : ByteArray := prog_9_method_2_code
def yX7_readUntilFault : MethodName := ⟨RX7, "readUntilFault", "(LNobodyChecks$Page;)I"⟩
abbrev cX7_isWhole : ByteArray := prog_9_method_3_code
def yX7_isWhole : MethodName := ⟨RX7, "isWhole", "()Z"⟩
abbrev cX7_takes : ByteArray := prog_9_method_4_code
def yX7_takes : MethodName := ⟨RX7, "takes", "(I)Z"⟩
abbrev cX7_takesOfWeight : ByteArray := prog_9_method_5_code
def yX7_takesOfWeight : MethodName := ⟨RX7, "takesOfWeight", "(I)Z"⟩
abbrev cX7_takesOfChance : ByteArray := prog_9_method_6_code
def yX7_takesOfChance : MethodName := ⟨RX7, "takesOfChance", "(I)Z"⟩
abbrev cX7_takeDigit : ByteArray := prog_9_method_7_code
def yX7_takeDigit : MethodName := ⟨RX7, "takeDigit", "(I)V"⟩
abbrev cX7_endsWeight : ByteArray := prog_9_method_8_code
def yX7_endsWeight : MethodName := ⟨RX7, "endsWeight", "()Z"⟩
abbrev cX7_endsChance : ByteArray := prog_9_method_9_code
def yX7_endsChance : MethodName := ⟨RX7, "endsChance", "()Z"⟩
abbrev cX7_endsCase : ByteArray := prog_9_method_10_code
def yX7_endsCase : MethodName := ⟨RX7, "endsCase", "()Z"⟩
abbrev cX7_mayEndCase : ByteArray := prog_9_method_11_code
def yX7_mayEndCase : MethodName := ⟨RX7, "mayEndCase", "()Z"⟩
abbrev cX7_beginCase : ByteArray := prog_9_method_12_code
def yX7_beginCase : MethodName := ⟨RX7, "beginCase", "()V"⟩
abbrev cX7_beginChance : ByteArray := prog_9_method_13_code
def yX7_beginChance : MethodName := ⟨RX7, "beginChance", "()V"⟩
def RX8 : String := "NobodyChecks$Rows"
def TX8 : u_T := fun k => match k with
  | 0 => ("NobodyChecks$Rows", "answers", "[I", true)
  | 1 => ("NobodyChecks$Rows", "guesses", "[J", true)
  | _ => ("NobodyChecks$Rows", "size", "I", false)
def tyX8 : Nat → FieldType := fun k => match k with
  | 0 => .array .int
  | 1 => .array .long
  | _ => .int
theorem nmX8 : ∀ a, a < 3 → ∀ b, b < 3 → a ≠ b → (TX8 a).2.1 ≠ (TX8 b).2.1 := by decide +kernel
theorem tyX8_ok : ∀ k, k < 3 → parseFieldDescriptor (TX8 k).2.2.1 = some (tyX8 k) := by decide +kernel
abbrev cX8_init : ByteArray := prog_10_method_1_code
def yX8_init : MethodName := ⟨RX8, "<init>", "()V"⟩
abbrev cX8_answersLimit : ByteArray := prog_10_method_2_code
def yX8_answersLimit : MethodName := ⟨RX8, "answersLimit", "(I)I"⟩
abbrev cX8_guessesLimit : ByteArray := prog_10_method_3_code
def yX8_guessesLimit : MethodName := ⟨RX8, "guessesLimit", "(I)J"⟩
abbrev cX8_append : ByteArray := prog_10_method_4_code
def yX8_append : MethodName := ⟨RX8, "append", "(IJ)V"⟩
abbrev cX8_answeredByBoth : ByteArray := prog_10_method_5_code
def yX8_answeredByBoth : MethodName := ⟨RX8, "answeredByBoth", "(II)I"⟩
abbrev cX8_sameInOneRow : ByteArray := prog_10_method_6_code
def yX8_sameInOneRow : MethodName := ⟨RX8, "sameInOneRow", "(II)I"⟩
abbrev cX8_sameInTwoRows : ByteArray := prog_10_method_7_code
def yX8_sameInTwoRows : MethodName := ⟨RX8, "sameInTwoRows", "(II)I"⟩
abbrev cX8_says : ByteArray := prog_10_method_8_code
def yX8_says : MethodName := ⟨RX8, "says", "(II)I"⟩
abbrev cX8_surprisedAt : ByteArray := prog_10_method_9_code
def yX8_surprisedAt : MethodName := ⟨RX8, "surprisedAt", "(II)I"⟩
abbrev cX8_sideOf : ByteArray := prog_10_method_10_code
def yX8_sideOf : MethodName := ⟨RX8, "sideOf", "(II)I"⟩
abbrev cX8_sameElsewhere : ByteArray := prog_10_method_11_code
def yX8_sameElsewhere : MethodName := ⟨RX8, "sameElsewhere", "(III)I"⟩
abbrev cX8_bothAnswered : ByteArray := prog_10_method_12_code
def yX8_bothAnswered : MethodName := ⟨RX8, "bothAnswered", "(III)Z"⟩
abbrev cX8_answerOf : ByteArray := prog_10_method_13_code
def yX8_answerOf : MethodName := ⟨RX8, "answerOf", "(II)I"⟩
abbrev cX8_guessOf : ByteArray := prog_10_method_14_code
def yX8_guessOf : MethodName := ⟨RX8, "guessOf", "(II)I"⟩
def RX9 : String := "NobodyChecks$Same"
def TX9 : u_T := fun k => match k with
  | 0 => ("NobodyChecks$Pay", "numbers", "[I", true)
  | 1 => ("NobodyChecks$Pay", "averages", "[J", false)
  | _ => ("NobodyChecks$Pay", "reckoned", "Z", false)
def tyX9 : Nat → FieldType := fun k => match k with
  | 0 => .array .int
  | 1 => .array .long
  | _ => .boolean
theorem nmX9 : ∀ a, a < 3 → ∀ b, b < 3 → a ≠ b → (TX9 a).2.1 ≠ (TX9 b).2.1 := by decide +kernel
theorem tyX9_ok : ∀ k, k < 3 → parseFieldDescriptor (TX9 k).2.2.1 = some (tyX9 k) := by decide +kernel
abbrev cX9_init : ByteArray := prog_11_method_1_code
def yX9_init : MethodName := ⟨RX9, "<init>", "()V"⟩
abbrev cX9_kind : ByteArray := prog_11_method_2_code
def yX9_kind : MethodName := ⟨RX9, "kind", "()I"⟩
abbrev cX9_amount : ByteArray := prog_11_method_3_code
def yX9_amount : MethodName := ⟨RX9, "amount", "(III)I"⟩
def RX10 : String := "NobodyChecks$Table"
def TX10 : u_T := fun k => match k with
  | 0 => ("NobodyChecks$Pay", "numbers", "[I", true)
  | 1 => ("NobodyChecks$Pay", "averages", "[J", false)
  | _ => ("NobodyChecks$Pay", "reckoned", "Z", false)
def tyX10 : Nat → FieldType := fun k => match k with
  | 0 => .array .int
  | 1 => .array .long
  | _ => .boolean
theorem nmX10 : ∀ a, a < 3 → ∀ b, b < 3 → a ≠ b → (TX10 a).2.1 ≠ (TX10 b).2.1 := by decide +kernel
theorem tyX10_ok : ∀ k, k < 3 → parseFieldDescriptor (TX10 k).2.2.1 = some (tyX10 k) := by decide +kernel
abbrev cX10_init : ByteArray := prog_12_method_1_code
def yX10_init : MethodName := ⟨RX10, "<init>", "()V"⟩
abbrev cX10_kind : ByteArray := prog_12_method_2_code
def yX10_kind : MethodName := ⟨RX10, "kind", "()I"⟩
abbrev cX10_amount : ByteArray := prog_12_method_3_code
def yX10_amount : MethodName := ⟨RX10, "amount", "(III)I"⟩
def RX11 : String := "NobodyChecks"
def TX11 : u_T := fun k => match k with
  | 0 => ("NobodyChecks", "page", "LNobodyChecks$Page;", true)
  | 1 => ("NobodyChecks", "reader", "LNobodyChecks$Reader;", true)
  | 2 => ("NobodyChecks", "asked", "LNobodyChecks$Question;", true)
  | 3 => ("NobodyChecks", "pays", "[LNobodyChecks$Pay;", true)
  | 4 => ("NobodyChecks", "play", "LNobodyChecks$Play;", true)
  | 5 => ("NobodyChecks", "cheapest", "LNobodyChecks$Cheapest;", true)
  | 6 => ("NobodyChecks", "rows", "LNobodyChecks$Rows;", true)
  | 7 => ("NobodyChecks", "payCount", "I", false)
  | _ => ("NobodyChecks", "tablesDone", "I", false)
def tyX11 : Nat → FieldType := fun k => match k with
  | 0 => .object "NobodyChecks$Page"
  | 1 => .object "NobodyChecks$Reader"
  | 2 => .object "NobodyChecks$Question"
  | 3 => .array (.object "NobodyChecks$Pay")
  | 4 => .object "NobodyChecks$Play"
  | 5 => .object "NobodyChecks$Cheapest"
  | 6 => .object "NobodyChecks$Rows"
  | 7 => .int
  | _ => .int
theorem nmX11 : ∀ a, a < 9 → ∀ b, b < 9 → a ≠ b → (TX11 a).2.1 ≠ (TX11 b).2.1 := by decide +kernel
theorem tyX11_ok : ∀ k, k < 9 → parseFieldDescriptor (TX11 k).2.2.1 = some (tyX11 k) := by decide +kernel
abbrev cX11_init : ByteArray := prog_1_method_1_code
def yX11_init : MethodName := ⟨RX11, "<init>", "()V"⟩
abbrev cX11_letters : ByteArray := prog_1_method_2_code
def yX11_letters : MethodName := ⟨RX11, "letters", "(J)I"⟩
abbrev cX11_blank : ByteArray := prog_1_method_3_code
def yX11_blank : MethodName := ⟨RX11, "blank", "()I"⟩
abbrev cX11_fault : ByteArray := prog_1_method_4_code
def yX11_fault : MethodName := ⟨RX11, "fault", "()I"⟩
abbrev cX11_question : ByteArray := prog_1_method_5_code
def yX11_question : MethodName := ⟨RX11, "question", "()I"⟩
abbrev cX11_chance : ByteArray := prog_1_method_6_code
def yX11_chance : MethodName := ⟨RX11, "chance", "(II)I"⟩
abbrev cX11_cost : ByteArray := prog_1_method_7_code
def yX11_cost : MethodName := ⟨RX11, "cost", "(II)I"⟩
abbrev cX11_thinks : ByteArray := prog_1_method_8_code
def yX11_thinks : MethodName := ⟨RX11, "thinks", "(IIII)J"⟩
abbrev cX11_pay : ByteArray := prog_1_method_9_code
def yX11_pay : MethodName := ⟨RX11, "pay", "(IIIII)I"⟩
abbrev cX11_as : ByteArray := prog_1_method_10_code
def yX11_as : MethodName := ⟨RX11, "as", "(II)I"⟩
abbrev cX11_about : ByteArray := prog_1_method_11_code
def yX11_about : MethodName := ⟨RX11, "about", "(II)I"⟩
abbrev cX11_gets : ByteArray := prog_1_method_12_code
def yX11_gets : MethodName := ⟨RX11, "gets", "(III)I"⟩
abbrev cX11_worth : ByteArray := prog_1_method_13_code
def yX11_worth : MethodName := ⟨RX11, "worth", "(IIII)J"⟩
abbrev cX11_rests : ByteArray := prog_1_method_14_code
def yX11_rests : MethodName := ⟨RX11, "rests", "(III)I"⟩
abbrev cX11_gain : ByteArray := prog_1_method_15_code
def yX11_gain : MethodName := ⟨RX11, "gain", "(IIII)J"⟩
abbrev cX11_all : ByteArray := prog_1_method_16_code
def yX11_all : MethodName := ⟨RX11, "all", "(II)I"⟩
abbrev cX11_group : ByteArray := prog_1_method_17_code
def yX11_group : MethodName := ⟨RX11, "group", "(III)I"⟩
abbrev cX11_goes : ByteArray := prog_1_method_18_code
def yX11_goes : MethodName := ⟨RX11, "goes", "(III)I"⟩
abbrev cX11_drawn : ByteArray := prog_1_method_19_code
def yX11_drawn : MethodName := ⟨RX11, "drawn", "(I)I"⟩
abbrev cX11_leastSame : ByteArray := prog_1_method_20_code
def yX11_leastSame : MethodName := ⟨RX11, "leastSame", "()I"⟩
abbrev cX11_leastTable : ByteArray := prog_1_method_21_code
def yX11_leastTable : MethodName := ⟨RX11, "leastTable", "(I)I"⟩
abbrev cX11_leastLook : ByteArray := prog_1_method_22_code
def yX11_leastLook : MethodName := ⟨RX11, "leastLook", "(I)I"⟩
abbrev cX11_mayBe : ByteArray := prog_1_method_23_code
def yX11_mayBe : MethodName := ⟨RX11, "mayBe", "(II)I"⟩
abbrev cX11_row : ByteArray := prog_1_method_24_code
def yX11_row : MethodName := ⟨RX11, "row", "(IJ)I"⟩
abbrev cX11_alike : ByteArray := prog_1_method_25_code
def yX11_alike : MethodName := ⟨RX11, "alike", "(III)I"⟩
abbrev cX11_crowd : ByteArray := prog_1_method_26_code
def yX11_crowd : MethodName := ⟨RX11, "crowd", "(II)I"⟩
abbrev cX11_count : ByteArray := prog_1_method_27_code
def yX11_count : MethodName := ⟨RX11, "count", "(I)I"⟩
abbrev cX11_digest : ByteArray := prog_1_method_28_code
def yX11_digest : MethodName := ⟨RX11, "digest", "()J"⟩
abbrev cX11_withQuestion : ByteArray := prog_1_method_29_code
def yX11_withQuestion : MethodName := ⟨RX11, "withQuestion", "(J)J"⟩
abbrev cX11_withPays : ByteArray := prog_1_method_30_code
def yX11_withPays : MethodName := ⟨RX11, "withPays", "(J)J"⟩
abbrev cX11_withPay : ByteArray := prog_1_method_31_code
def yX11_withPay : MethodName := ⟨RX11, "withPay", "(JLNobodyChecks$Pay;)J"⟩
abbrev cX11_withRows : ByteArray := prog_1_method_32_code
def yX11_withRows : MethodName := ⟨RX11, "withRows", "(J)J"⟩
abbrev cX11_mixed : ByteArray := prog_1_method_33_code
def yX11_mixed : MethodName := ⟨RX11, "mixed", "(JJ)J"⟩
abbrev cX11_payOf : ByteArray := prog_1_method_34_code
def yX11_payOf : MethodName := ⟨RX11, "payOf", "(I)LNobodyChecks$Pay;"⟩
abbrev cX11_forgetWorths : ByteArray := prog_1_method_35_code
def yX11_forgetWorths : MethodName := ⟨RX11, "forgetWorths", "()V"⟩
abbrev cX11_refusalOf : ByteArray := prog_1_method_36_code
def yX11_refusalOf : MethodName := ⟨RX11, "refusalOf", "(LNobodyChecks$Pay;III)I"⟩
abbrev cX11_isWithin : ByteArray := prog_1_method_37_code
def yX11_isWithin : MethodName := ⟨RX11, "isWithin", "(III)Z"⟩
abbrev cX11_areNumbers : ByteArray := prog_1_method_38_code
def yX11_areNumbers : MethodName := ⟨RX11, "areNumbers", "(IIIII)Z"⟩
abbrev cX11_madeOf : ByteArray := prog_1_method_39_code
def yX11_madeOf : MethodName := ⟨RX11, "madeOf", "(I)LNobodyChecks$Pay;"⟩
abbrev cX11_isOf : ByteArray := prog_1_method_40_code
def yX11_isOf : MethodName := ⟨RX11, "isOf", "(LNobodyChecks$Pay;I)Z"⟩
abbrev cX11_inLowestTerms : ByteArray := prog_1_method_41_code
def yX11_inLowestTerms : MethodName := ⟨RX11, "inLowestTerms", "(JJI)J"⟩
abbrev cX11_greatestMeasure : ByteArray := prog_1_method_42_code
def yX11_greatestMeasure : MethodName := ⟨RX11, "greatestMeasure", "(JJ)J"⟩
def RX12 : String := "NobodyChecksModel"
def TX12 : u_T := fun k => match k with
  | 0 => ("NobodyChecksModel", "page", "[I", true)
  | 1 => ("NobodyChecksModel", "pageMany", "I", false)
  | 2 => ("NobodyChecksModel", "cases", "I", false)
  | 3 => ("NobodyChecksModel", "persons", "I", false)
  | 4 => ("NobodyChecksModel", "weights", "[I", true)
  | 5 => ("NobodyChecksModel", "chances", "[I", true)
  | 6 => ("NobodyChecksModel", "costs", "[I", true)
  | 7 => ("NobodyChecksModel", "state", "I", false)
  | 8 => ("NobodyChecksModel", "value", "I", false)
  | 9 => ("NobodyChecksModel", "digits", "I", false)
  | 10 => ("NobodyChecksModel", "readCases", "I", false)
  | 11 => ("NobodyChecksModel", "readPersons", "I", false)
  | 12 => ("NobodyChecksModel", "inCase", "I", false)
  | 13 => ("NobodyChecksModel", "readWeights", "[I", true)
  | 14 => ("NobodyChecksModel", "readChances", "[I", true)
  | 15 => ("NobodyChecksModel", "likely", "[J", true)
  | 16 => ("NobodyChecksModel", "all", "J", false)
  | 17 => ("NobodyChecksModel", "pays", "I", false)
  | 18 => ("NobodyChecksModel", "payKind", "[I", true)
  | 19 => ("NobodyChecksModel", "payNumbers", "[I", true)
  | 20 => ("NobodyChecksModel", "kind", "I", false)
  | 21 => ("NobodyChecksModel", "q", "[I", true)
  | 22 => ("NobodyChecksModel", "worths", "[J", true)
  | 23 => ("NobodyChecksModel", "isMet", "[Z", true)
  | 24 => ("NobodyChecksModel", "last", "I", false)
  | 25 => ("NobodyChecksModel", "steps", "I", false)
  | 26 => ("NobodyChecksModel", "isRound", "Z", false)
  | 27 => ("NobodyChecksModel", "tablesDone", "I", false)
  | 28 => ("NobodyChecksModel", "often", "[J", true)
  | 29 => ("NobodyChecksModel", "rows", "I", false)
  | 30 => ("NobodyChecksModel", "rowAnswers", "[I", true)
  | 31 => ("NobodyChecksModel", "rowGuesses", "[J", true)
  | _ => ("NobodyChecksModel", "hash", "J", false)
def tyX12 : Nat → FieldType := fun k => match k with
  | 0 => .array .int
  | 1 => .int
  | 2 => .int
  | 3 => .int
  | 4 => .array .int
  | 5 => .array .int
  | 6 => .array .int
  | 7 => .int
  | 8 => .int
  | 9 => .int
  | 10 => .int
  | 11 => .int
  | 12 => .int
  | 13 => .array .int
  | 14 => .array .int
  | 15 => .array .long
  | 16 => .long
  | 17 => .int
  | 18 => .array .int
  | 19 => .array .int
  | 20 => .int
  | 21 => .array .int
  | 22 => .array .long
  | 23 => .array .boolean
  | 24 => .int
  | 25 => .int
  | 26 => .boolean
  | 27 => .int
  | 28 => .array .long
  | 29 => .int
  | 30 => .array .int
  | 31 => .array .long
  | _ => .long
theorem nmX12 : ∀ a, a < 33 → ∀ b, b < 33 → a ≠ b → (TX12 a).2.1 ≠ (TX12 b).2.1 := by decide +kernel
theorem tyX12_ok : ∀ k, k < 33 → parseFieldDescriptor (TX12 k).2.2.1 = some (tyX12 k) := by decide +kernel
abbrev cX12_init : ByteArray := prog_14_method_1_code
def yX12_init : MethodName := ⟨RX12, "<init>", "()V"⟩
abbrev cX12_in : ByteArray := prog_14_method_2_code
def yX12_in : MethodName := ⟨RX12, "in", "(JJJ)Z"⟩
abbrev cX12_letters : ByteArray := prog_14_method_3_code
def yX12_letters : MethodName := ⟨RX12, "letters", "(J)I"⟩
abbrev cX12_blank : ByteArray := prog_14_method_4_code
def yX12_blank : MethodName := ⟨RX12, "blank", "()I"⟩
abbrev cX12_goChance : ByteArray := prog_14_method_5_code
def yX12_goChance : MethodName := ⟨RX12, "goChance", "(I)Z"⟩
abbrev cX12_go : ByteArray := prog_14_method_6_code
def yX12_go : MethodName := ⟨RX12, "go", "(I)Z"⟩
abbrev cX12_faultOf : ByteArray := prog_14_method_7_code
def yX12_faultOf : MethodName := ⟨RX12, "faultOf", "()I"⟩
abbrev cX12_fault : ByteArray := prog_14_method_8_code
def yX12_fault : MethodName := ⟨RX12, "fault", "()I"⟩
abbrev cX12_question : ByteArray := prog_14_method_9_code
def yX12_question : MethodName := ⟨RX12, "question", "()I"⟩
abbrev cX12_isPerson : ByteArray := prog_14_method_10_code
def yX12_isPerson : MethodName := ⟨RX12, "isPerson", "(I)Z"⟩
abbrev cX12_chance : ByteArray := prog_14_method_11_code
def yX12_chance : MethodName := ⟨RX12, "chance", "(II)I"⟩
abbrev cX12_cost : ByteArray := prog_14_method_12_code
def yX12_cost : MethodName := ⟨RX12, "cost", "(II)I"⟩
abbrev cX12_layLikely : ByteArray := prog_14_method_13_code
def yX12_layLikely : MethodName := ⟨RX12, "layLikely", "()V"⟩
abbrev cX12_common : ByteArray := prog_14_method_14_code
def yX12_common : MethodName := ⟨RX12, "common", "(JJ)J"⟩
abbrev cX12_part : ByteArray := prog_14_method_15_code
def yX12_part : MethodName := ⟨RX12, "part", "(JJI)J"⟩
abbrev cX12_thinks : ByteArray := prog_14_method_16_code
def yX12_thinks : MethodName := ⟨RX12, "thinks", "(IIII)J"⟩
abbrev cX12_pay : ByteArray := prog_14_method_17_code
def yX12_pay : MethodName := ⟨RX12, "pay", "(IIIII)I"⟩
abbrev cX12_isPay : ByteArray := prog_14_method_18_code
def yX12_isPay : MethodName := ⟨RX12, "isPay", "(I)Z"⟩
abbrev cX12_as : ByteArray := prog_14_method_19_code
def yX12_as : MethodName := ⟨RX12, "as", "(II)I"⟩
abbrev cX12_about : ByteArray := prog_14_method_20_code
def yX12_about : MethodName := ⟨RX12, "about", "(II)I"⟩
abbrev cX12_takePay : ByteArray := prog_14_method_21_code
def yX12_takePay : MethodName := ⟨RX12, "takePay", "(I)V"⟩
abbrev cX12_bitsOf : ByteArray := prog_14_method_22_code
def yX12_bitsOf : MethodName := ⟨RX12, "bitsOf", "(I)I"⟩
abbrev cX12_getsOf : ByteArray := prog_14_method_23_code
def yX12_getsOf : MethodName := ⟨RX12, "getsOf", "(II)I"⟩
abbrev cX12_gets : ByteArray := prog_14_method_24_code
def yX12_gets : MethodName := ⟨RX12, "gets", "(III)I"⟩
abbrev cX12_answer : ByteArray := prog_14_method_25_code
def yX12_answer : MethodName := ⟨RX12, "answer", "(II)I"⟩
abbrev cX12_wayOf : ByteArray := prog_14_method_26_code
def yX12_wayOf : MethodName := ⟨RX12, "wayOf", "(II)I"⟩
abbrev cX12_worthOf : ByteArray := prog_14_method_27_code
def yX12_worthOf : MethodName := ⟨RX12, "worthOf", "(II)J"⟩
abbrev cX12_profiles : ByteArray := prog_14_method_28_code
def yX12_profiles : MethodName := ⟨RX12, "profiles", "()I"⟩
abbrev cX12_worth : ByteArray := prog_14_method_29_code
def yX12_worth : MethodName := ⟨RX12, "worth", "(IIII)J"⟩
abbrev cX12_layWorths : ByteArray := prog_14_method_30_code
def yX12_layWorths : MethodName := ⟨RX12, "layWorths", "(I)V"⟩
abbrev cX12_with : ByteArray := prog_14_method_31_code
def yX12_with : MethodName := ⟨RX12, "with", "(III)I"⟩
abbrev cX12_bestWay : ByteArray := prog_14_method_32_code
def yX12_bestWay : MethodName := ⟨RX12, "bestWay", "(II)I"⟩
abbrev cX12_gainOf : ByteArray := prog_14_method_33_code
def yX12_gainOf : MethodName := ⟨RX12, "gainOf", "(II)J"⟩
abbrev cX12_firstOf : ByteArray := prog_14_method_34_code
def yX12_firstOf : MethodName := ⟨RX12, "firstOf", "(I)I"⟩
abbrev cX12_refusal : ByteArray := prog_14_method_35_code
def yX12_refusal : MethodName := ⟨RX12, "refusal", "(IIZ)I"⟩
abbrev cX12_rests : ByteArray := prog_14_method_36_code
def yX12_rests : MethodName := ⟨RX12, "rests", "(III)I"⟩
abbrev cX12_gain : ByteArray := prog_14_method_37_code
def yX12_gain : MethodName := ⟨RX12, "gain", "(IIII)J"⟩
abbrev cX12_together : ByteArray := prog_14_method_38_code
def yX12_together : MethodName := ⟨RX12, "together", "(I)J"⟩
abbrev cX12_allOf : ByteArray := prog_14_method_39_code
def yX12_allOf : MethodName := ⟨RX12, "allOf", "(II)I"⟩
abbrev cX12_all : ByteArray := prog_14_method_40_code
def yX12_all : MethodName := ⟨RX12, "all", "(II)I"⟩
abbrev cX12_gains : ByteArray := prog_14_method_41_code
def yX12_gains : MethodName := ⟨RX12, "gains", "(III)Z"⟩
abbrev cX12_group : ByteArray := prog_14_method_42_code
def yX12_group : MethodName := ⟨RX12, "group", "(III)I"⟩
abbrev cX12_goOn : ByteArray := prog_14_method_43_code
def yX12_goOn : MethodName := ⟨RX12, "goOn", "(I)V"⟩
abbrev cX12_goes : ByteArray := prog_14_method_44_code
def yX12_goes : MethodName := ⟨RX12, "goes", "(III)I"⟩
abbrev cX12_drawn : ByteArray := prog_14_method_45_code
def yX12_drawn : MethodName := ⟨RX12, "drawn", "(I)I"⟩
abbrev cX12_truthRests : ByteArray := prog_14_method_46_code
def yX12_truthRests : MethodName := ⟨RX12, "truthRests", "()Z"⟩
abbrev cX12_leastSame : ByteArray := prog_14_method_47_code
def yX12_leastSame : MethodName := ⟨RX12, "leastSame", "()I"⟩
abbrev cX12_layOften : ByteArray := prog_14_method_48_code
def yX12_layOften : MethodName := ⟨RX12, "layOften", "()V"⟩
abbrev cX12_tableWorth : ByteArray := prog_14_method_49_code
def yX12_tableWorth : MethodName := ⟨RX12, "tableWorth", "(III)J"⟩
abbrev cX12_tableRests : ByteArray := prog_14_method_50_code
def yX12_tableRests : MethodName := ⟨RX12, "tableRests", "(I)Z"⟩
abbrev cX12_leastTable : ByteArray := prog_14_method_51_code
def yX12_leastTable : MethodName := ⟨RX12, "leastTable", "(I)I"⟩
abbrev cX12_leastLook : ByteArray := prog_14_method_52_code
def yX12_leastLook : MethodName := ⟨RX12, "leastLook", "(I)I"⟩
abbrev cX12_mayBe : ByteArray := prog_14_method_53_code
def yX12_mayBe : MethodName := ⟨RX12, "mayBe", "(II)I"⟩
abbrev cX12_row : ByteArray := prog_14_method_54_code
def yX12_row : MethodName := ⟨RX12, "row", "(IJ)I"⟩
abbrev cX12_answerOf : ByteArray := prog_14_method_55_code
def yX12_answerOf : MethodName := ⟨RX12, "answerOf", "(II)I"⟩
abbrev cX12_bothAnswered : ByteArray := prog_14_method_56_code
def yX12_bothAnswered : MethodName := ⟨RX12, "bothAnswered", "(III)Z"⟩
abbrev cX12_alike : ByteArray := prog_14_method_57_code
def yX12_alike : MethodName := ⟨RX12, "alike", "(III)I"⟩
abbrev cX12_crowdOf : ByteArray := prog_14_method_58_code
def yX12_crowdOf : MethodName := ⟨RX12, "crowdOf", "(II)I"⟩
abbrev cX12_crowd : ByteArray := prog_14_method_59_code
def yX12_crowd : MethodName := ⟨RX12, "crowd", "(II)I"⟩
abbrev cX12_countOf : ByteArray := prog_14_method_60_code
def yX12_countOf : MethodName := ⟨RX12, "countOf", "(I)I"⟩
abbrev cX12_count : ByteArray := prog_14_method_61_code
def yX12_count : MethodName := ⟨RX12, "count", "(I)I"⟩
abbrev cX12_tell : ByteArray := prog_14_method_62_code
def yX12_tell : MethodName := ⟨RX12, "tell", "(J)V"⟩
abbrev cX12_tellPay : ByteArray := prog_14_method_63_code
def yX12_tellPay : MethodName := ⟨RX12, "tellPay", "(I)V"⟩
abbrev cX12_digest : ByteArray := prog_14_method_64_code
def yX12_digest : MethodName := ⟨RX12, "digest", "()J"⟩
def RJ6 : String := "java/lang/Integer"
def TJ6 : u_T := fun k => match k with
  | _ => ("", "", "", false)
def tyJ6 : Nat → FieldType := fun k => match k with
  | _ => .int
theorem nmJ6 : ∀ a, a < 0 → ∀ b, b < 0 → a ≠ b → (TJ6 a).2.1 ≠ (TJ6 b).2.1 := by decide +kernel
theorem tyJ6_ok : ∀ k, k < 0 → parseFieldDescriptor (TJ6 k).2.2.1 = some (tyJ6 k) := by decide +kernel
abbrev cJ6_bitCount_0f7a4 : ByteArray := prog_15_method_49_code
def yJ6_bitCount_0f7a4 : MethodName := ⟨RJ6, "bitCount", "(I)I"⟩
def RJ9 : String := "java/lang/Math"
def TJ9 : u_T := fun k => match k with
  | _ => ("", "", "", false)
def tyJ9 : Nat → FieldType := fun k => match k with
  | _ => .int
theorem nmJ9 : ∀ a, a < 0 → ∀ b, b < 0 → a ≠ b → (TJ9 a).2.1 ≠ (TJ9 b).2.1 := by decide +kernel
theorem tyJ9_ok : ∀ k, k < 0 → parseFieldDescriptor (TJ9 k).2.2.1 = some (tyJ9 k) := by decide +kernel
abbrev cJ9_abs_067f4 : ByteArray := prog_16_method_61_code
def yJ9_abs_067f4 : MethodName := ⟨RJ9, "abs", "(J)J"⟩
abbrev cJ9_max_7cf53 : ByteArray := prog_16_method_65_code
def yJ9_max_7cf53 : MethodName := ⟨RJ9, "max", "(II)I"⟩
abbrev cJ9_min_7cf53 : ByteArray := prog_16_method_69_code
def yJ9_min_7cf53 : MethodName := ⟨RJ9, "min", "(II)I"⟩
def RL : String := "NobodyChecksLaw"
abbrev cL_law : ByteArray := code
def yL_law : MethodName := ⟨RL, "law", "([I)Z"⟩
abbrev vwCl : List vw_C := [(RX0, TX0, 12), (RX1, TX1, 3), (RX2, TX2, 2), (RX3, TX3, 3), (RX4, TX4, 10), (RX5, TX5, 7), (RX6, TX6, 3), (RX7, TX7, 7), (RX8, TX8, 3), (RX9, TX9, 3), (RX10, TX10, 3), (RX11, TX11, 9), (RX12, TX12, 33)]
end
section
/-! the words of the tables that every method carries -/
def gw_tbl : List Cond := lw_tbl.filter goodWord
theorem gw_in {w : Cond} (h : w ∈ lw_tbl) (g : goodWord w = true) : w ∈ gw_tbl := List.mem_filter.mpr ⟨h, g⟩
theorem gw_lw {w : Cond} (h : w ∈ gw_tbl) : w ∈ lw_tbl := (List.mem_filter.mp h).1
theorem gw_all {ws : List Cond} (h : ∀ w ∈ ws, w ∈ lw_tbl) (g : ws.all goodWord = true) : ∀ w ∈ ws, w ∈ gw_tbl := fun w hw => gw_in (h w hw) (List.all_eq_true.mp g w hw)
theorem gw_good {ws : List Cond} (h : ∀ w ∈ ws, w ∈ gw_tbl) : GoodIn gw_tbl ws := fun w hw => ⟨h w hw, good_of_word (List.mem_filter.mp (h w hw)).2⟩
theorem gw_S {own : String} {idx : Nat} {y : MethodName} {cc : ByteArray} {n : Nat} {ret : Option FieldType} (h1 : Cond.methodLink own idx y ∈ gw_tbl) (h2 : Cond.static y ∈ gw_tbl) (h3 : Cond.initialized y.cls ∈ gw_tbl) (h4 : Cond.code y cc n ret ∈ gw_tbl) : GoodIn gw_tbl (va_wsS own idx y (Cond.code y cc n ret :: gw_tbl)) := gw_good (by
  intro w hw
  rcases List.mem_append.mp hw with h | h
  · simp only [List.mem_cons, List.not_mem_nil, or_false] at h
    rcases h with rfl | rfl | rfl <;> assumption
  · rcases List.mem_cons.mp h with rfl | h
    · exact h4
    · exact h)
theorem gw_V {own C : String} {idx : Nat} {y : MethodName} {cc : ByteArray} {n : Nat} {ret : Option FieldType} (h1 : Cond.methodLink own idx y ∈ gw_tbl) (h2 : Cond.instanceMethod y ∈ gw_tbl) (h5 : Cond.selects C y y ∈ gw_tbl) (h3 : Cond.initialized C ∈ gw_tbl) (h4 : Cond.code y cc n ret ∈ gw_tbl) : GoodIn gw_tbl (wsV own idx C y (Cond.code y cc n ret :: gw_tbl)) := gw_good (by
  intro w hw
  rcases List.mem_append.mp hw with h | h
  · simp only [List.mem_cons, List.not_mem_nil, or_false] at h
    rcases h with rfl | rfl | rfl | rfl <;> assumption
  · rcases List.mem_cons.mp h with rfl | h
    · exact h4
    · exact h)
theorem gw_U {own C owner : String} {idx : Nat} {x y : MethodName} {cc : ByteArray} {n : Nat} {ret : Option FieldType} (h1 : Cond.methodLink own idx x ∈ gw_tbl) (h6 : Cond.sameMethod x.cls owner x.name x.desc ∈ gw_tbl) (h5 : Cond.selects C x y ∈ gw_tbl) (h2 : Cond.instanceMethod y ∈ gw_tbl) (h3 : Cond.initialized y.cls ∈ gw_tbl) (h4 : Cond.code y cc n ret ∈ gw_tbl) : GoodIn gw_tbl (va_wsU own idx C owner x y (Cond.code y cc n ret :: gw_tbl)) := gw_good (by
  intro w hw
  rcases List.mem_append.mp hw with h | h
  · simp only [List.mem_cons, List.not_mem_nil, or_false] at h
    rcases h with rfl | rfl | rfl | rfl | rfl <;> assumption
  · rcases List.mem_cons.mp h with rfl | h
    · exact h4
    · exact h)
theorem gw_I {y : MethodName} {cc : ByteArray} {n : Nat} {ret : Option FieldType} (h4 : Cond.code y cc n ret ∈ gw_tbl) : GoodIn gw_tbl (Cond.code y cc n ret :: gw_tbl) := gw_good (fun w h => (List.mem_cons.mp h).elim (fun e => e ▸ h4) id)
/-! the starts of contracts -/
def pc_0 (av : List Value) : Array Value → State → Prop := va_Pc av (fun _ => True)
theorem pc_0_fb {av : List Value} : FrameBlind (pc_0 av) := fun _ _ _ _ q => ⟨q.1, trivial⟩
theorem pr_0 {s : State} {H : Heap} {As : List Value} : PreS s H (pc_0 As) As := ⟨pc_0_fb, fun _ _ _ => ⟨rfl, trivial⟩⟩
def pc_S (D : va_G) (tys : List (ClassId × FieldType)) (ws : va_W) (av : List Value) : Array Value → State → Prop := va_Pc av (fun U => va_P D vwCl ws U.heap ∧ va_K D vwCl tys U)
theorem pc_S_fb {D : va_G} {tys : List (ClassId × FieldType)} {ws : va_W} {av : List Value} : FrameBlind (pc_S D tys ws av) := fun a U g mk q => ⟨q.1, q.2.1, va_K.moved (u := U) (U := U.calling g mk a) (Vm.Alike.refl U.vm) q.2.2⟩
theorem pr_SS {s : State} {H : Heap} {D : va_G} {tys : List (ClassId × FieldType)} {ws : va_W} {As : List Value} (hK : va_K D vwCl tys s) (hP : va_P D vwCl ws H) : PreS s H (pc_S D tys ws As) As := ⟨pc_S_fb, fun U hU hW => ⟨rfl, by rw [hU]; exact hP, va_K.moved hW.alike hK⟩⟩
theorem pr_SV {s : State} {H : Heap} {D : va_G} {tys : List (ClassId × FieldType)} {ws : va_W} {As : List Value} {b : Addr} {fs : List Value} {q : vw_C} (ci q0 : Nat) (hK : va_K D vwCl tys s) (hP : va_P D vwCl ws H) (hc : vwCl[ci]? = some q) (he : ws[q0]? = some (b, .inr (ci, fs))) : PreV s H q.1 b (pc_S D tys ws (.ref b :: As)) As := ⟨pc_S_fb, va_recv hK hP hc he, fun U hU hW => ⟨rfl, by rw [hU]; exact hP, va_K.moved hW.alike hK⟩⟩
def pc_M (D : va_G) (tys : List (ClassId × FieldType)) (ws : va_W) (sz : Nat) (av : List Value) : Array Value → State → Prop := va_Pc av (fun U => U.heap.size = sz ∧ va_P D vwCl ws U.heap ∧ va_K D vwCl tys U ∧ va_D (fun _ => True) ws)
theorem pc_M_fb {D : va_G} {tys : List (ClassId × FieldType)} {ws : va_W} {sz : Nat} {av : List Value} : FrameBlind (pc_M D tys ws sz av) := fun a U g mk q => ⟨q.1, q.2.1, q.2.2.1, va_K.moved (u := U) (U := U.calling g mk a) (Vm.Alike.refl U.vm) q.2.2.2.1, q.2.2.2.2⟩
theorem pr_MS {s : State} {H : Heap} {D : va_G} {tys : List (ClassId × FieldType)} {ws : va_W} {As : List Value} {A : Nat → Prop} (hK : va_K D vwCl tys s) (hP : va_P D vwCl ws H) (hD : va_D A ws) : PreS s H (pc_M D tys ws H.size As) As := ⟨pc_M_fb, fun U hU hW => ⟨rfl, by rw [hU], by rw [hU]; exact hP, va_K.moved hW.alike hK, hD.weaken (fun _ _ _ _ => trivial)⟩⟩
theorem pr_MV {s : State} {H : Heap} {D : va_G} {tys : List (ClassId × FieldType)} {ws : va_W} {As : List Value} {A : Nat → Prop} {b : Addr} {fs : List Value} {q : vw_C} (ci q0 : Nat) (hK : va_K D vwCl tys s) (hP : va_P D vwCl ws H) (hD : va_D A ws) (hc : vwCl[ci]? = some q) (he : ws[q0]? = some (b, .inr (ci, fs))) : PreV s H q.1 b (pc_M D tys ws H.size (.ref b :: As)) As := ⟨pc_M_fb, va_recv hK hP hc he, fun U hU hW => ⟨rfl, by rw [hU], by rw [hU]; exact hP, va_K.moved hW.alike hK, hD.weaken (fun _ _ _ _ => trivial)⟩⟩
/-! the words that no list carries: private constructors of nest mates, classes of arrays of references -/
def va_AOA (ty : FieldType) (U : State) : Prop := (Cond.arrayOver (.array ty)).before #[] U = true
theorem va_AOA.use {ty : FieldType} {A : Array Value} {U : State} (h : va_AOA ty U) : (Cond.arrayOver (.array ty)).before A U = true := h
theorem va_AOA.of {ty : FieldType} {A : Array Value} {U : State} (h : (Cond.arrayOver (.array ty)).before A U = true) : va_AOA ty U := h
theorem va_AOA.moved {ty : FieldType} {u U : State} (hvm : u.vm.Alike U.vm) (h : va_AOA ty u) : va_AOA ty U := by
  have e : (Cond.arrayOver (.array ty)).before #[] (u.setVm U.vm) = true := (Cond.arrayOver_setVmC hvm (.array ty)).trans h
  exact e
def nw_qs : List (String × Nat × MethodName) := [(RX11, 9, yX2_init), (RX11, 18, yX7_init), (RX11, 25, yX5_init), (RX11, 54, yX8_init), (RX11, 336, yX9_init), (RX11, 339, yX10_init), (RX11, 342, yX6_init), (RX11, 345, yX1_init), (RX11, 346, yX3_init), (RX0, 13, yX9_init), (RX0, 20, yX10_init), (RX0, 27, yX1_init), (RX1, 3, yX9_init), (RX6, 3, yX10_init), (RX9, 3, yX3_init), (RX10, 3, yX3_init)]
def nw_cs : List String := [RX9, RX10, RX6, RX1]
def nw_C (U : State) : Prop := (∀ q ∈ nw_qs, va_Nw (.methodLinkNest q.1 q.2.1 q.2.2 RX11) U) ∧ va_AO RX3 U ∧ va_AOA .int U ∧ va_AOA .long U ∧ ∀ C ∈ nw_cs, va_Nw (.castable C RX3) U
theorem nw_C.same {u U : State} (h : u.vm = U.vm) (hZ : nw_C u) : nw_C U := ⟨fun q hq => va_Nw.same rfl h (hZ.1 q hq), va_AO.moved (by rw [h]; exact Vm.Alike.refl _) hZ.2.1, va_AOA.moved (by rw [h]; exact Vm.Alike.refl _) hZ.2.2.1, va_AOA.moved (by rw [h]; exact Vm.Alike.refl _) hZ.2.2.2.1, fun C hC => va_Nw.same rfl h (hZ.2.2.2.2 C hC)⟩
theorem nw_C.warm {s U : State} (hW : s.WarmedH U.vm) (hZ : nw_C s) : nw_C U := ⟨fun q hq => va_Nw.warmM hW (hZ.1 q hq), va_AO.moved hW.alike hZ.2.1, va_AOA.moved hW.alike hZ.2.2.1, va_AOA.moved hW.alike hZ.2.2.2.1, fun C hC => va_Nw.warmC hW (hZ.2.2.2.2 C hC)⟩
def pc_C (D : va_G) (tys : List (ClassId × FieldType)) (ws : va_W) (sz : Nat) (av : List Value) : Array Value → State → Prop := va_Pc av (fun U => U.heap.size = sz ∧ va_P D vwCl ws U.heap ∧ va_K D vwCl tys U ∧ va_D (fun _ => True) ws ∧ nw_C U)
theorem pc_C_fb {D : va_G} {tys : List (ClassId × FieldType)} {ws : va_W} {sz : Nat} {av : List Value} : FrameBlind (pc_C D tys ws sz av) := fun a U g mk q => ⟨q.1, q.2.1, q.2.2.1, va_K.moved (u := U) (U := U.calling g mk a) (Vm.Alike.refl U.vm) q.2.2.2.1, q.2.2.2.2.1, nw_C.same (u := U) rfl q.2.2.2.2.2⟩
theorem pr_C {s : State} {H : Heap} {D : va_G} {tys : List (ClassId × FieldType)} {ws : va_W} {As : List Value} {A : Nat → Prop} (hK : va_K D vwCl tys s) (hP : va_P D vwCl ws H) (hD : va_D A ws) (hN : nw_C s) : PreS s H (pc_C D tys ws H.size As) As := ⟨pc_C_fb, fun U hU hW => ⟨rfl, by rw [hU], by rw [hU]; exact hP, va_K.moved hW.alike hK, hD.weaken (fun _ _ _ _ => trivial), nw_C.warm hW hN⟩⟩
theorem pr_CV {s : State} {H : Heap} {D : va_G} {tys : List (ClassId × FieldType)} {ws : va_W} {As : List Value} {A : Nat → Prop} {b : Addr} {fs : List Value} {q : vw_C} (ci q0 : Nat) (hK : va_K D vwCl tys s) (hP : va_P D vwCl ws H) (hD : va_D A ws) (hN : nw_C s) (hc : vwCl[ci]? = some q) (he : ws[q0]? = some (b, .inr (ci, fs))) : PreV s H q.1 b (pc_C D tys ws H.size (.ref b :: As)) As := ⟨pc_C_fb, va_recv hK hP hc he, fun U hU hW => ⟨rfl, by rw [hU], by rw [hU]; exact hP, va_K.moved hW.alike hK, hD.weaken (fun _ _ _ _ => trivial), nw_C.warm hW hN⟩⟩
/-! numbers -/
theorem fa_lt (a b : Int32) : a < b ↔ a.toInt < b.toInt := Int32.lt_iff_toInt_lt
theorem fa_le (a b : Int32) : a ≤ b ↔ a.toInt ≤ b.toInt := Int32.le_iff_toInt_le
theorem fa_eq (a b : Int32) : a = b ↔ a.toInt = b.toInt := Int32.toInt_inj.symm
theorem fa_lt64 (a b : Int64) : a < b ↔ a.toInt < b.toInt := Int64.lt_iff_toInt_lt
theorem fa_le64 (a b : Int64) : a ≤ b ↔ a.toInt ≤ b.toInt := Int64.le_iff_toInt_le
theorem fa_eq64 (a b : Int64) : a = b ↔ a.toInt = b.toInt := Int64.toInt_inj.symm
theorem W_genQ {p : Program} {l : Launch} {e : Env} {R : Room} {s : State} {m : MethodId} {args : Array Value} {below : List Frame} {meth : Method} {c : Code} {H : Heap} {locs : List Loc} {cells slots : Nat} {Q : State → Prop} {g : JFrame} (k : ∀ Q' : State → Prop, Q' = Q → W p l e R s m args below meth c H locs cells slots Q' g) : W p l e R s m args below meth c H locs cells slots Q g := k Q rfl
theorem p_nil {D : va_G} {H : Heap} : va_P D vwCl [] H := fun k q h => by simp at h
theorem d_nil {A : Nat → Prop} : va_D A [] := ⟨fun i j p q h => by simp at h, fun k q h => by simp at h⟩
end
section
section MMN
variable {p : Program} {l : Launch} {e : Env} {R : Room} {s : State} {m : MethodId} {args : Array Value} {below : List Frame} {meth : Method} {c : Code} {H : Heap} {locs : List Loc} {cells slots : Nat} {Q : State → Prop}
variable {cc : ByteArray} {pc : Nat} {ls : Array Slot} {rest : List Value} {D : va_G} {cl : List vw_C} {A : Nat → Prop} {ws : va_W} {H0 : Heap}
/-- new T[n][m]: the old cells as they were, the new ones not told -/
theorem mm_mna (hexec : p.tables.exec = Jvm.exec) (hb : c.code = cc) {own : String} {index : Nat} {ty : FieldType} (hown : s.vm.findClass own = some m.cls) (hclink : (Cond.classLink own index ("[" ++ (FieldType.array ty).toString)).before args s = true) (hover : va_AOA ty s) (harr : (Cond.arrayClass ty).before args s = true)
    (hP : va_P D cl ws H) (hS : va_S A H0 H locs) {n k : Int32} {N' K' : Nat} (hn : ¬ n < 0) (hk : ¬ k < 0) (hN : n.toNatClampNeg = N') (hM : k.toNatClampNeg = K')
    (hb1 : N' * 4 ≤ 536870912) (hb2 : K' * componentBytes ty ≤ 536870912) (hb3 : K' ≤ 536870912) (hdf : fits ty (defaultValue ty) = true) (hdd : (defaultValue ty).isDefault = true) (hcells : cells + (1 + N') ≤ R.cells) (hslots : slots + (N' + N' * K') ≤ R.slots) (hdg : decode cc pc = .ok (.multianewarray index 2, 4))
    (kk : ∀ (q : Nat) (H1 : Heap), va_P D cl ws H1 → va_S A H0 H1 locs → W p l e R s m args below meth c H1 locs (cells + 1 + N') (slots + N' + N' * K') Q (F0 m (pc + 4) ls (.ref q :: rest))) : W p l e R s m args below meth c H locs cells slots Q (F0 m pc ls (.int k :: .int n :: rest)) := by
  subst hN
  subst hM
  intro T hT Xs
  obtain ⟨vm₁, cA, cy, -, fA, fC, hO, -, X', step⟩ := Jvm.Stand.multianewarray2F Xs hexec hown hclink (va_AOA.use hover) harr (g := F0 m pc ls (.int k :: .int n :: rest)) rfl (by rw [hb]; exact hdg) rfl hn hk hb1 hb2 hb3 hdf hdd hcells hslots
  generalize hF : Jvm.Free.Multi.fill (T.setVm vm₁) cA cy n.toNatClampNeg k.toNatClampNeg (defaultValue ty) n.toNatClampNeg = F at X' step
  have hTh : (T.setVm vm₁).heap = H := hT
  obtain ⟨f1, -, -, -⟩ := Jvm.Free.Multi.fill_facts (T.setVm vm₁) cA cy n.toNatClampNeg k.toNatClampNeg (defaultValue ty) n.toNatClampNeg
  rw [hF, hTh] at f1
  have hold : ∀ x : Nat, x < H.size → F.heap[x]? = H[x]? := fun x hx => by
    have := Jvm.Free.Multi.fill_old (T.setVm vm₁) cA cy n.toNatClampNeg k.toNatClampNeg (defaultValue ty) (a := x) (by rw [hTh]; exact hx) n.toNatClampNeg
    rw [hF, hTh] at this
    exact this
  obtain ⟨t, a1, b1⟩ := kk H.size F.heap (hP.kept (fun k9 x hx => hold x.1 ((hP k9 x hx).lt))) ⟨by rw [f1]; have := hS.1; omega, fun x h1 h2 => (hold x (Nat.lt_of_lt_of_le h1 hS.1)).trans (hS.2.1 x h1 h2), hS.2.2⟩ F rfl X'
  refine ⟨t, step t ?_, b1⟩
  have e : T.heap.size = H.size := by rw [hT]
  rw [e]
  exact a1
end MMN
end
section
theorem gwX0 : ∀ w ∈ u_ws RX0 TX0 12, w ∈ gw_tbl := gw_all (by decide +kernel) (by decide +kernel)
theorem gwX1 : ∀ w ∈ u_ws RX1 TX1 3, w ∈ gw_tbl := gw_all (by decide +kernel) (by decide +kernel)
theorem gwX2 : ∀ w ∈ u_ws RX2 TX2 2, w ∈ gw_tbl := gw_all (by decide +kernel) (by decide +kernel)
theorem gwX3 : ∀ w ∈ u_ws RX3 TX3 3, w ∈ gw_tbl := gw_all (by decide +kernel) (by decide +kernel)
theorem gwX4 : ∀ w ∈ u_ws RX4 TX4 10, w ∈ gw_tbl := gw_all (by decide +kernel) (by decide +kernel)
theorem gwX5 : ∀ w ∈ u_ws RX5 TX5 7, w ∈ gw_tbl := gw_all (by decide +kernel) (by decide +kernel)
theorem gwX6 : ∀ w ∈ u_ws RX6 TX6 3, w ∈ gw_tbl := gw_all (by decide +kernel) (by decide +kernel)
theorem gwX7 : ∀ w ∈ u_ws RX7 TX7 7, w ∈ gw_tbl := gw_all (by decide +kernel) (by decide +kernel)
theorem gwX8 : ∀ w ∈ u_ws RX8 TX8 3, w ∈ gw_tbl := gw_all (by decide +kernel) (by decide +kernel)
theorem gwX9 : ∀ w ∈ u_ws RX9 TX9 3, w ∈ gw_tbl := gw_all (by decide +kernel) (by decide +kernel)
theorem gwX10 : ∀ w ∈ u_ws RX10 TX10 3, w ∈ gw_tbl := gw_all (by decide +kernel) (by decide +kernel)
theorem gwX11 : ∀ w ∈ u_ws RX11 TX11 9, w ∈ gw_tbl := gw_all (by decide +kernel) (by decide +kernel)
theorem gwX12 : ∀ w ∈ u_ws RX12 TX12 33, w ∈ gw_tbl := gw_all (by decide +kernel) (by decide +kernel)
end
section
def iw (v a b : Int32) : Int32 := if a ≤ v ∧ v ≤ b then 1 else 0
theorem iw_a {v a b : Int32} (h : v < a) : (0 : Int32) = iw v a b := by
  unfold iw; rw [if_neg]; rintro ⟨h1, -⟩; rw [fa_lt] at h; rw [fa_le] at h1; omega
theorem iw_b {v a b : Int32} (h : b < v) : (0 : Int32) = iw v a b := by
  unfold iw; rw [if_neg]; rintro ⟨-, h1⟩; rw [fa_lt] at h; rw [fa_le] at h1; omega
theorem iw_1 {v a b : Int32} (h : ¬ v < a) (h2 : ¬ b < v) : (1 : Int32) = iw v a b := by
  unfold iw; rw [if_pos]; rw [fa_lt] at h h2; constructor <;> rw [fa_le] <;> omega
def il (v a b : Int64) : Int32 := if a ≤ v ∧ v ≤ b then 1 else 0
theorem cmp_lt {x y : Int64} : lg_cmp x y < 0 ↔ x < y := by
  unfold lg_cmp
  split
  · next h => constructor
              · intro q; exact absurd q (by decide)
              · intro q; rw [gt_iff_lt, fa_lt64] at h; rw [fa_lt64] at q; omega
  · next h => split
              · next h2 => subst h2; constructor
                           · intro q; exact absurd q (by decide)
                           · intro q; exact absurd q h
              · next h2 => constructor
                           · intro _; rw [gt_iff_lt, fa_lt64] at h; rw [fa_eq64] at h2; rw [fa_lt64]; omega
                           · intro _; decide
theorem cmp_gt {x y : Int64} : 0 < lg_cmp x y ↔ y < x := by
  unfold lg_cmp
  split
  · next h => exact ⟨fun _ => h, fun _ => by decide⟩
  · next h => split
              · exact ⟨fun q => absurd q (by decide), fun q => absurd q h⟩
              · exact ⟨fun q => absurd q (by decide), fun q => absurd q h⟩
theorem cmp_eq {x y : Int64} : lg_cmp x y = 0 ↔ x = y := by
  unfold lg_cmp
  split
  · next h => exact ⟨fun q => absurd q (by decide), fun q => by subst q; rw [gt_iff_lt, fa_lt64] at h; omega⟩
  · next h => split
              · next h2 => exact ⟨fun _ => h2, fun _ => rfl⟩
              · next h2 => exact ⟨fun q => absurd q (by decide), fun q => absurd q h2⟩
theorem il_a {v a b : Int64} {z : Int32} (e : z = lg_cmp v a) (h : z < 0) : (0 : Int32) = il v a b := by
  rw [e, cmp_lt] at h
  unfold il; rw [if_neg]; rintro ⟨h1, -⟩; rw [fa_lt64] at h; rw [fa_le64] at h1; omega
theorem il_b {v a b : Int64} {z : Int32} (e : z = lg_cmp v b) (h : 0 < z) : (0 : Int32) = il v a b := by
  rw [e, cmp_gt] at h
  unfold il; rw [if_neg]; rintro ⟨-, h1⟩; rw [fa_lt64] at h; rw [fa_le64] at h1; omega
theorem il_1 {v a b : Int64} {z y : Int32} (e : z = lg_cmp v a) (e2 : y = lg_cmp v b) (h : ¬ z < 0) (h2 : ¬ 0 < y) : (1 : Int32) = il v a b := by
  rw [e, cmp_lt] at h; rw [e2, cmp_gt] at h2
  unfold il; rw [if_pos]; rw [fa_lt64] at h h2; constructor <;> rw [fa_le64] <;> omega
theorem il_no {v a b : Int64} (h : ¬ a ≤ b) : il v a b = 0 := by
  unfold il; rw [if_neg]; rintro ⟨h1, h2⟩; rw [fa_le64] at h h1 h2; omega
theorem iw_no {v a b : Int32} (h : ¬ a ≤ b) : iw v a b = 0 := by
  unfold iw; rw [if_neg]; rintro ⟨h1, h2⟩; rw [fa_le] at h h1 h2; omega

theorem dX11_isWithin_0 : decode cX11_isWithin 0 = .ok (.iload_n 0, 1) := by decide +kernel
theorem dX11_isWithin_1 : decode cX11_isWithin 1 = .ok (.iload_n 1, 1) := by decide +kernel
theorem dX11_isWithin_2 : decode cX11_isWithin 2 = .ok (.if_icmp .lt 12, 3) := by decide +kernel
theorem dX11_isWithin_5 : decode cX11_isWithin 5 = .ok (.iload_n 0, 1) := by decide +kernel
theorem dX11_isWithin_6 : decode cX11_isWithin 6 = .ok (.iload_n 2, 1) := by decide +kernel
theorem dX11_isWithin_7 : decode cX11_isWithin 7 = .ok (.if_icmp .gt 7, 3) := by decide +kernel
theorem dX11_isWithin_10 : decode cX11_isWithin 10 = .ok (.iconst 1, 1) := by decide +kernel
theorem dX11_isWithin_11 : decode cX11_isWithin 11 = .ok (.goto 4, 3) := by decide +kernel
theorem dX11_isWithin_14 : decode cX11_isWithin 14 = .ok (.iconst 0, 1) := by decide +kernel
theorem dX11_isWithin_15 : decode cX11_isWithin 15 = .ok (.ireturn, 1) := by decide +kernel

set_option maxHeartbeats 4000000 in
set_option maxRecDepth 100000 in
theorem c_isWithin (l : Launch) (v : Int32) (a : Int32) (b : Int32) : Met l yX11_isWithin (Cond.code yX11_isWithin cX11_isWithin 3 (some .boolean) :: gw_tbl) ({ frames := 0, cells := 0, slots := 0, locals := 0 }) (pc_0 [.int v, .int a, .int b]) (vp_Si (fun r => r = iw v a b)) 0 0 (fun _ => False) := by
  refine Met.ofW (cc := cX11_isWithin) (maxL := 3) (ret := (some .boolean)) (by decide) rfl ?_
  intro p e s m args below meth c s₁ B hml hv
  obtain ⟨hargs, -⟩ := hv
  have hx := B.exec
  have hb := B.bytes
  have hr := B.returns
  have hts := atoms_spec (ws := Cond.code yX11_isWithin cX11_isWithin 3 (some .boolean) :: gw_tbl) B.pre
  have hg := fun (w : Cond) (h : w ∈ gw_tbl) => hts w (List.mem_cons_of_mem _ h)
  have hown : s.vm.findClass RX11 = some m.cls := findClass_of_methodNamed B.named
  have hlocks := B.notSynchronized
  have hl := lv_entry ([.int v, .int a, .int b]) (n := 3) (Nat.le_of_ble_eq_true rfl)
  rw [show entryFrame m args 3 = F0 m 0 (lg_sl ([.int v, .int a, .int b]) ++ List.replicate (3 - (lg_sl ([.int v, .int a, .int b])).length) Slot.unset).toArray [] from by rw [hargs]; exact lg_entry_eq ..]
  generalize (lg_sl ([.int v, .int a, .int b]) ++ List.replicate (3 - (lg_sl ([.int v, .int a, .int b])).length) Slot.unset).toArray = ls at hl ⊢
  have hl : lv_has ls 3 [(0, .int v), (1, .int a), (2, .int b)] := hl
  refine W_genQ (fun Q hQ => ?_)
  refine lv_iload_n hx hb dX11_isWithin_0 rfl (lv_at hl 0 rfl) ?_
  refine lv_iload_n hx hb dX11_isWithin_1 rfl (lv_at hl 1 rfl) ?_
  refine lv_icmp_lt (tgt := 14) hx hb dX11_isWithin_2 (by decide) (fun c_2 => ?_) (fun c_2 => ?_)
  · refine lv_iconst (v := 0) hx hb dX11_isWithin_14 (by decide) ?_
    subst hQ
    exact W.zret (v := 0) hx hb hr (by decide) (fun t ht hW => ⟨0, rfl, (iw_a c_2), ht⟩) (fun _ h => absurd h List.not_mem_nil) dX11_isWithin_15
  · refine lv_iload_n hx hb dX11_isWithin_5 rfl (lv_at hl 0 rfl) ?_
    refine lv_iload_n hx hb dX11_isWithin_6 rfl (lv_at hl 2 rfl) ?_
    refine lv_icmp_gt (tgt := 14) hx hb dX11_isWithin_7 (by decide) (fun c_7 => ?_) (fun c_7 => ?_)
    · refine lv_iconst (v := 0) hx hb dX11_isWithin_14 (by decide) ?_
      subst hQ
      exact W.zret (v := 0) hx hb hr (by decide) (fun t ht hW => ⟨0, rfl, (iw_b c_7), ht⟩) (fun _ h => absurd h List.not_mem_nil) dX11_isWithin_15
    · refine lv_iconst (v := 1) hx hb dX11_isWithin_10 (by decide) ?_
      refine lv_goto (tgt := 15) hx hb dX11_isWithin_11 (by decide) ?_
      subst hQ
      exact W.zret (v := 1) hx hb hr (by decide) (fun t ht hW => ⟨1, rfl, (iw_1 c_2 c_7), ht⟩) (fun _ h => absurd h List.not_mem_nil) dX11_isWithin_15

theorem dX12_in_0 : decode cX12_in 0 = .ok (.lload_n 0, 1) := by decide +kernel
theorem dX12_in_1 : decode cX12_in 1 = .ok (.lload_n 2, 1) := by decide +kernel
theorem dX12_in_2 : decode cX12_in 2 = .ok (.lcmp, 1) := by decide +kernel
theorem dX12_in_3 : decode cX12_in 3 = .ok (.ifCond .lt 14, 3) := by decide +kernel
theorem dX12_in_6 : decode cX12_in 6 = .ok (.lload_n 0, 1) := by decide +kernel
theorem dX12_in_7 : decode cX12_in 7 = .ok (.lload 4, 2) := by decide +kernel
theorem dX12_in_9 : decode cX12_in 9 = .ok (.lcmp, 1) := by decide +kernel
theorem dX12_in_10 : decode cX12_in 10 = .ok (.ifCond .gt 7, 3) := by decide +kernel
theorem dX12_in_13 : decode cX12_in 13 = .ok (.iconst 1, 1) := by decide +kernel
theorem dX12_in_14 : decode cX12_in 14 = .ok (.goto 4, 3) := by decide +kernel
theorem dX12_in_17 : decode cX12_in 17 = .ok (.iconst 0, 1) := by decide +kernel
theorem dX12_in_18 : decode cX12_in 18 = .ok (.ireturn, 1) := by decide +kernel

set_option maxHeartbeats 4000000 in
set_option maxRecDepth 100000 in
theorem c_in (l : Launch) (v : Int64) (a : Int64) (b : Int64) : Met l yX12_in (Cond.code yX12_in cX12_in 6 (some .boolean) :: gw_tbl) ({ frames := 0, cells := 0, slots := 0, locals := 0 }) (pc_0 [.long v, .long a, .long b]) (vp_Si (fun r => r = il v a b)) 0 0 (fun _ => False) := by
  refine Met.ofW (cc := cX12_in) (maxL := 6) (ret := (some .boolean)) (by decide) rfl ?_
  intro p e s m args below meth c s₁ B hml hv
  obtain ⟨hargs, -⟩ := hv
  have hx := B.exec
  have hb := B.bytes
  have hr := B.returns
  have hts := atoms_spec (ws := Cond.code yX12_in cX12_in 6 (some .boolean) :: gw_tbl) B.pre
  have hg := fun (w : Cond) (h : w ∈ gw_tbl) => hts w (List.mem_cons_of_mem _ h)
  have hown : s.vm.findClass RX12 = some m.cls := findClass_of_methodNamed B.named
  have hlocks := B.notSynchronized
  have hl := lv_entry ([.long v, .long a, .long b]) (n := 6) (Nat.le_of_ble_eq_true rfl)
  rw [show entryFrame m args 6 = F0 m 0 (lg_sl ([.long v, .long a, .long b]) ++ List.replicate (6 - (lg_sl ([.long v, .long a, .long b])).length) Slot.unset).toArray [] from by rw [hargs]; exact lg_entry_eq ..]
  generalize (lg_sl ([.long v, .long a, .long b]) ++ List.replicate (6 - (lg_sl ([.long v, .long a, .long b])).length) Slot.unset).toArray = ls at hl ⊢
  have hl : lv_has ls 6 [(0, .long v), (2, .long a), (4, .long b)] := hl
  refine W_genQ (fun Q hQ => ?_)
  refine lv_lload_n hx hb dX12_in_0 rfl (lv_at hl 0 rfl) ?_
  refine lv_lload_n hx hb dX12_in_1 rfl (lv_at hl 1 rfl) ?_
  refine W.lcmp hx hb dX12_in_2 ?_
  refine lv_topi (fun z_2 e_2 => ?_)
  refine lv_if_lt (tgt := 17) hx hb dX12_in_3 (by decide) (fun c_3 => ?_) (fun c_3 => ?_)
  · refine lv_iconst (v := 0) hx hb dX12_in_17 (by decide) ?_
    subst hQ
    exact W.zret (v := 0) hx hb hr (by decide) (fun t ht hW => ⟨0, rfl, (il_a e_2 c_3), ht⟩) (fun _ h => absurd h List.not_mem_nil) dX12_in_18
  · refine lv_lload_n hx hb dX12_in_6 rfl (lv_at hl 0 rfl) ?_
    refine lv_lload hx hb dX12_in_7 (lv_at hl 2 rfl) ?_
    refine W.lcmp hx hb dX12_in_9 ?_
    refine lv_topi (fun z_9 e_9 => ?_)
    refine lv_if_gt (tgt := 17) hx hb dX12_in_10 (by decide) (fun c_10 => ?_) (fun c_10 => ?_)
    · refine lv_iconst (v := 0) hx hb dX12_in_17 (by decide) ?_
      subst hQ
      exact W.zret (v := 0) hx hb hr (by decide) (fun t ht hW => ⟨0, rfl, (il_b e_9 c_10), ht⟩) (fun _ h => absurd h List.not_mem_nil) dX12_in_18
    · refine lv_iconst (v := 1) hx hb dX12_in_13 (by decide) ?_
      refine lv_goto (tgt := 18) hx hb dX12_in_14 (by decide) ?_
      subst hQ
      exact W.zret (v := 1) hx hb hr (by decide) (fun t ht hW => ⟨1, rfl, (il_1 e_2 e_9 c_3 c_10), ht⟩) (fun _ h => absurd h List.not_mem_nil) dX12_in_18

/-! ===== lN n to 2^64: shifts, and, or, masks, one bit ===== -/
theorem wb_tb (n : Nat) : (lN n).toBitVec = BitVec.ofNat 64 n := rfl
theorem wb_inj {a b : Int64} (h : a.toBitVec = b.toBitVec) : a = b := Int64.toBitVec_inj.mp h
theorem wb_tn {n : Nat} (h : n < 2 ^ 64) : (lN n).toBitVec.toNat = n := by rw [wb_tb, BitVec.toNat_ofNat, Nat.mod_eq_of_lt h]
theorem wb_of (x : Int64) : ∃ n, n < 2 ^ 64 ∧ x = lN n := ⟨x.toBitVec.toNat, x.toBitVec.isLt, wb_inj (by rw [wb_tb]; simp)⟩
theorem wb_of32 (x : Int32) : ∃ n, n < 2 ^ 32 ∧ x = nI n := ⟨x.toBitVec.toNat, x.toBitVec.isLt, Int32.toBitVec_inj.mp (by show _ = BitVec.ofNat 32 _; simp)⟩
theorem wb_c : ∀ k, k < 64 → ((nI k).toInt64 &&& 63) = lN k := by decide +kernel
theorem wb_cu : ∀ k, k < 64 → ((nI k).toInt64.toUInt64 &&& Int64.toUInt64 63) = UInt64.ofNat k := by decide +kernel
theorem wb_sm : ∀ k, k < 64 → (BitVec.ofNat 64 k).smod 64 = BitVec.ofNat 64 k := by decide +kernel
theorem wb_pw {a b : Nat} (h : a ≤ b) : 2 ^ b = 2 ^ a * 2 ^ (b - a) := by rw [← Nat.pow_add]; congr 1; omega
theorem wb_lt2 {a b : Nat} (h : a < b) : 2 ^ a < 2 ^ b := Nat.pow_lt_pow_right (by decide) h
theorem wb_mod (n : Nat) : lN n = lN (n % 2 ^ 64) := wb_inj (by rw [wb_tb, wb_tb]; apply BitVec.eq_of_toNat_eq; rw [BitVec.toNat_ofNat, BitVec.toNat_ofNat, Nat.mod_mod])
theorem wb_shr {n k : Nat} (hn : n < 2 ^ 64) (hk : k < 64) : ((lN n).toUInt64 >>> ((nI k).toInt64.toUInt64 &&& Int64.toUInt64 63)).toInt64 = lN (n / 2 ^ k) := by
  rw [wb_cu k hk]
  apply wb_inj
  apply BitVec.eq_of_toNat_eq
  show ((lN n).toUInt64 >>> UInt64.ofNat k).toNat = (BitVec.ofNat 64 _).toNat
  have h1 : (UInt64.ofNat k).toNat = k := by
    show (BitVec.ofNat 64 k).toNat = k
    rw [BitVec.toNat_ofNat, Nat.mod_eq_of_lt (by omega)]
  have h2 : (lN n).toUInt64.toNat = n := wb_tn hn
  rw [UInt64.toNat_shiftRight, h1, h2, Nat.mod_eq_of_lt hk, Nat.shiftRight_eq_div_pow, BitVec.toNat_ofNat, Nat.mod_eq_of_lt (Nat.lt_of_le_of_lt (Nat.div_le_self _ _) hn)]
theorem wb_shl (n : Nat) {k : Nat} (hk : k < 64) : lN n <<< ((nI k).toInt64 &&& 63) = lN (n * 2 ^ k) := by
  rw [wb_c k hk]
  apply wb_inj
  rw [Int64.toBitVec_shiftLeft, wb_tb, wb_tb, wb_tb, wb_sm k hk]
  apply BitVec.eq_of_toNat_eq
  rw [BitVec.shiftLeft_eq', BitVec.toNat_shiftLeft, BitVec.toNat_ofNat, BitVec.toNat_ofNat, BitVec.toNat_ofNat, Nat.mod_eq_of_lt (show k < 2 ^ 64 by omega), Nat.shiftLeft_eq, Nat.mul_mod, Nat.mod_mod, ← Nat.mul_mod]
theorem wb_and {a b : Nat} (ha : a < 2 ^ 64) (hb : b < 2 ^ 64) : lN a &&& lN b = lN (a &&& b) := by
  apply wb_inj
  rw [Int64.toBitVec_and, wb_tb, wb_tb, wb_tb]
  apply BitVec.eq_of_toNat_eq
  rw [BitVec.toNat_and, BitVec.toNat_ofNat, BitVec.toNat_ofNat, BitVec.toNat_ofNat, Nat.mod_eq_of_lt ha, Nat.mod_eq_of_lt hb, Nat.mod_eq_of_lt (Nat.and_lt_two_pow _ hb)]
theorem wb_or {a b : Nat} (ha : a < 2 ^ 64) (hb : b < 2 ^ 64) : lN a ||| lN b = lN (a ||| b) := by
  apply wb_inj
  rw [Int64.toBitVec_or, wb_tb, wb_tb, wb_tb]
  apply BitVec.eq_of_toNat_eq
  rw [BitVec.toNat_or, BitVec.toNat_ofNat, BitVec.toNat_ofNat, BitVec.toNat_ofNat, Nat.mod_eq_of_lt ha, Nat.mod_eq_of_lt hb, Nat.mod_eq_of_lt (Nat.or_lt_two_pow ha hb)]
theorem wb_mask {n k : Nat} (hn : n < 2 ^ 64) (hk : k < 64) : lN n &&& lN (2 ^ k - 1) = lN (n % 2 ^ k) := by
  rw [wb_and hn (by have := wb_lt2 hk; omega), Nat.and_two_pow_sub_one_eq_mod]
theorem wb_a1 {n : Nat} (hn : n < 2 ^ 64) : lN n &&& 1 = lN (n % 2) := wb_mask (k := 1) hn (by decide)
theorem wb_bit {n k : Nat} (hn : n < 2 ^ 64) (hk : k < 64) : ((lN n).toUInt64 >>> ((nI k).toInt64.toUInt64 &&& Int64.toUInt64 63)).toInt64 &&& 1 = lN (n / 2 ^ k % 2) := by
  rw [wb_shr hn hk, wb_a1 (Nat.lt_of_le_of_lt (Nat.div_le_self _ _) hn)]
theorem wb_xor {q k : Nat} (hk : k < 63) (h : 2 ^ k ≤ q) (h2 : q < 2 ^ (k + 1)) : lN q ^^^ lN (2 ^ k) = lN (q - 2 ^ k) := by
  obtain ⟨r, rfl⟩ : ∃ r, q = 2 ^ k + r := ⟨q - 2 ^ k, by omega⟩
  have hr : r < 2 ^ k := by rw [Nat.pow_succ] at h2; omega
  have hx : (2 ^ k + r) ^^^ 2 ^ k = r := by
    apply Nat.eq_of_testBit_eq
    intro i
    rw [Nat.testBit_xor, Nat.testBit_two_pow]
    rcases Nat.lt_trichotomy i k with h | h | h
    · rw [Nat.testBit_two_pow_add_gt h]
      simp [show ¬ k = i by omega]
    · subst h
      rw [Nat.testBit_two_pow_add_eq]
      simp
    · have a1 : 2 ^ (k + 1) ≤ 2 ^ i := Nat.pow_le_pow_right (by decide) h
      rw [Nat.testBit_lt_two_pow (show 2 ^ k + r < 2 ^ i by omega), Nat.testBit_lt_two_pow (show r < 2 ^ i by omega)]
      simp [show ¬ k = i by omega]
  have b1 := wb_lt2 (show k + 1 < 64 by omega)
  have b2 := wb_lt2 (show k < 64 by omega)
  apply wb_inj
  rw [Int64.toBitVec_xor, wb_tb, wb_tb, wb_tb]
  apply BitVec.eq_of_toNat_eq
  rw [BitVec.toNat_xor, BitVec.toNat_ofNat, BitVec.toNat_ofNat, BitVec.toNat_ofNat, Nat.mod_eq_of_lt (by omega : 2 ^ k + r < 2 ^ 64), Nat.mod_eq_of_lt b2, hx, Nat.add_sub_cancel_left, Nat.mod_eq_of_lt (by omega)]

theorem neg0 {v : Int32} {P : Prop} (h : ¬ v < 0) (h2 : ¬ 0 ≤ v) : P := by
  rw [fa_lt] at h; rw [fa_le] at h2; omega
def cntf (x : Int32) : Int32 := if x.toInt < 0 ∨ 5 < x.toInt then -102 else 0
theorem tw_5 {x : Int32} (h : ¬ (x.toInt < 0 ∨ 5 < x.toInt)) : x = 0 ∨ x = 1 ∨ x = 2 ∨ x = 3 ∨ x = 4 ∨ x = 5 := by
  have e0 : (0 : Int32).toInt = 0 := rfl
  have e1 : (1 : Int32).toInt = 1 := rfl
  have e2 : (2 : Int32).toInt = 2 := rfl
  have e3 : (3 : Int32).toInt = 3 := rfl
  have e4 : (4 : Int32).toInt = 4 := rfl
  have e5 : (5 : Int32).toInt = 5 := rfl
  simp only [fa_eq, e0, e1, e2, e3, e4, e5]
  omega
theorem and255 (m : Nat) : nI m &&& 255 = nI (m % 256) := by
  have h := pk_and (nI m) (m := 255) 8 rfl
  rw [h]
  congr 1
  have e : (nI m).toBitVec.toNat = m % 2 ^ 32 := by
    show (BitVec.ofNat 32 m).toNat = _
    exact BitVec.toNat_ofNat ..
  rw [e]
  omega
def by8 (n k : Nat) : Int32 := nI (n / 2 ^ (8 * k) % 256)
theorem ca_eq {n k : Nat} (hn : n < 2 ^ 64) (hk : k < 8) {z4 z6 z10 : Int32} {z5 : Int64} (e4 : z4 = 8 * nI k) (e5 : z5 = ((lN n).toUInt64 >>> (z4.toInt64.toUInt64 &&& Int64.toUInt64 63)).toInt64) (e6 : z6 = z5.toInt32) (e10 : z10 = z6 &&& 255) : z10 = by8 n k := by
  have h8 : (8 : Int32) * nI k = nI (8 * k) := pk_mul 8 k
  rw [e10, e6, e5, e4, h8, wb_shr hn (by omega), lN_i, and255]
  rfl
theorem ma_eq {n k : Nat} (hn : n < 2 ^ 64) {z : Int64} {y : Int32} (e : z = lN (n / 2 ^ (8 * k)) &&& 255) (e2 : y = z.toInt32) : y = by8 n k := by
  have hlt : n / 2 ^ (8 * k) < 2 ^ 64 := Nat.lt_of_le_of_lt (Nat.div_le_self _ _) hn
  have h := wb_mask (n := n / 2 ^ (8 * k)) (k := 8) hlt (by decide)
  have h2 : (255 : Int64) = lN (2 ^ 8 - 1) := rfl
  rw [e2, e, h2, h, lN_i]
  rfl
theorem ms_eq {n k : Nat} (hn : n < 2 ^ 64) {z : Int64} (e : z = ((lN (n / 2 ^ (8 * k))).toUInt64 >>> ((8 : Int32).toInt64.toUInt64 &&& Int64.toUInt64 63)).toInt64) : z = lN (n / 2 ^ (8 * (k + 1))) := by
  have hlt : n / 2 ^ (8 * k) < 2 ^ 64 := Nat.lt_of_le_of_lt (Nat.div_le_self _ _) hn
  have h := wb_shr (n := n / 2 ^ (8 * k)) (k := 8) hlt (by decide)
  have h2 : (8 : Int32) = nI 8 := rfl
  rw [e, h2, h, Nat.div_div_eq_div_mul, ← Nat.pow_add]
  rfl
theorem by8_j (n k : Nat) : ∃ j : Nat, j < 256 ∧ by8 n k = nI j := ⟨_, Nat.mod_lt _ (by decide), rfl⟩
theorem by8_pos (n k : Nat) : 0 < by8 n k ↔ ¬ by8 n k = 0 := by
  obtain ⟨j, hj, e⟩ := by8_j n k
  rw [e, show (0 : Int32) = nI 0 from rfl, nI_ltI (by omega) (by omega), nI_eq (by omega) (by omega)]
  omega
def tb_go (n : Nat) : Nat → Nat → Int32 → Int32 → Int32
  | 0, _, t, _ => t
  | f + 1, k, t, en => if 126 < by8 n k ∨ (¬ en = 0 ∧ ¬ by8 n k = 0) then -1 else if by8 n k = 0 then tb_go n f (k + 1) t 1 else tb_go n f (k + 1) (t + 1) en
def sp_told (n : Nat) : Int32 := tb_go n 8 0 0 0
theorem tb_x {n k : Nat} {t en : Int32} (hk : k < 8) : tb_go n (8 - k) k t en = if 126 < by8 n k ∨ (¬ en = 0 ∧ ¬ by8 n k = 0) then -1 else if by8 n k = 0 then tb_go n (8 - (k + 1)) (k + 1) t 1 else tb_go n (8 - (k + 1)) (k + 1) (t + 1) en := by
  obtain ⟨f, hf⟩ : ∃ f, 8 - k = f + 1 := ⟨8 - k - 1, by omega⟩
  rw [hf, show 8 - (k + 1) = f by omega]
  rfl
theorem tb_e {n k : Nat} {t en : Int32} (hk : ¬ k < 8) : tb_go n (8 - k) k t en = t := by
  rw [show 8 - k = 0 by omega]
  rfl
def ml_go (n : Nat) : Nat → Nat → Int32 → Int32 → Int32 × Int32
  | 0, _, g, m => (g, m)
  | f + 1, k, g, m => ml_go n f (k + 1) (if ¬ g = 0 ∧ by8 n k ≤ 126 ∧ (by8 n k = 0 ∨ m = nI k) then 1 else 0) (m + if 0 < by8 n k then 1 else 0)
theorem ml_x {n k : Nat} {g m : Int32} (hk : k < 8) : ml_go n (8 - k) k g m = ml_go n (8 - (k + 1)) (k + 1) (if ¬ g = 0 ∧ by8 n k ≤ 126 ∧ (by8 n k = 0 ∨ m = nI k) then 1 else 0) (m + if 0 < by8 n k then 1 else 0) := by
  obtain ⟨f, hf⟩ : ∃ f, 8 - k = f + 1 := ⟨8 - k - 1, by omega⟩
  rw [hf, show 8 - (k + 1) = f by omega]
  rfl
theorem ml_e {n k : Nat} {g m : Int32} (hk : ¬ k < 8) : ml_go n (8 - k) k g m = (g, m) := by
  rw [show 8 - k = 0 by omega]
  rfl
theorem ml_zero (n : Nat) : ∀ (f k : Nat) (m : Int32), (ml_go n f k 0 m).1 = 0
  | 0, _, _ => rfl
  | f + 1, k, m => by
    show (ml_go n f (k + 1) (if ¬ (0 : Int32) = 0 ∧ by8 n k ≤ 126 ∧ (by8 n k = 0 ∨ m = nI k) then 1 else 0) _).1 = 0
    rw [if_neg (fun h => h.1 rfl)]
    exact ml_zero n f (k + 1) _
theorem ml_tb (n : Nat) : ∀ (f k mm : Nat), mm ≤ k → k + f ≤ 8 → tb_go n f k (nI mm) (if mm = k then 0 else 1) = (if (ml_go n f k 1 (nI mm)).1 = 0 then -1 else (ml_go n f k 1 (nI mm)).2) ∧ ((ml_go n f k 1 (nI mm)).1 = 0 ∨ ∃ t : Nat, t ≤ k + f ∧ (ml_go n f k 1 (nI mm)).2 = nI t)
  | 0, k, mm, h, _ => ⟨(if_neg (show ¬ (ml_go n 0 k 1 (nI mm)).1 = 0 from (by decide : ¬ (1 : Int32) = 0))).symm, Or.inr ⟨mm, by omega, rfl⟩⟩
  | f + 1, k, mm, h, h8 => by
    have hm : nI mm = nI k ↔ mm = k := nI_eq (by omega) (by omega)
    have hx : tb_go n (f + 1) k (nI mm) (if mm = k then 0 else 1) = if 126 < by8 n k ∨ (¬ (if mm = k then (0 : Int32) else 1) = 0 ∧ ¬ by8 n k = 0) then -1 else if by8 n k = 0 then tb_go n f (k + 1) (nI mm) 1 else tb_go n f (k + 1) (nI mm + 1) (if mm = k then 0 else 1) := rfl
    have hy : ml_go n (f + 1) k 1 (nI mm) = ml_go n f (k + 1) (if ¬ (1 : Int32) = 0 ∧ by8 n k ≤ 126 ∧ (by8 n k = 0 ∨ nI mm = nI k) then 1 else 0) (nI mm + if 0 < by8 n k then 1 else 0) := rfl
    rw [hx, hy]
    clear hx hy
    have h1 : ¬ (1 : Int32) = 0 := by decide
    have hle : by8 n k ≤ 126 ↔ ¬ 126 < by8 n k := by rw [fa_le, fa_lt]; omega
    have hen : (¬ (if mm = k then (0 : Int32) else 1) = 0) ↔ ¬ mm = k := by
      by_cases q : mm = k
      · rw [if_pos q]; exact ⟨fun c => absurd rfl c, fun c => absurd q c⟩
      · rw [if_neg q]; exact ⟨fun _ => q, fun _ => h1⟩
    by_cases hb : 126 < by8 n k
    · have hg : (if ¬ (1 : Int32) = 0 ∧ by8 n k ≤ 126 ∧ (by8 n k = 0 ∨ nI mm = nI k) then (1 : Int32) else 0) = 0 := if_neg (fun c => (hle.mp c.2.1) hb)
      have hl : (if 126 < by8 n k ∨ (¬ (if mm = k then (0 : Int32) else 1) = 0 ∧ ¬ by8 n k = 0) then (-1 : Int32) else if by8 n k = 0 then tb_go n f (k + 1) (nI mm) 1 else tb_go n f (k + 1) (nI mm + 1) (if mm = k then 0 else 1)) = -1 := if_pos (Or.inl hb)
      rw [hg, hl]
      exact ⟨(if_pos (ml_zero n f _ _)).symm, Or.inl (ml_zero n f _ _)⟩
    · by_cases h0 : by8 n k = 0
      · have hg : (if ¬ (1 : Int32) = 0 ∧ by8 n k ≤ 126 ∧ (by8 n k = 0 ∨ nI mm = nI k) then (1 : Int32) else 0) = 1 := if_pos ⟨h1, hle.mpr hb, Or.inl h0⟩
        have hp : (nI mm + if 0 < by8 n k then (1 : Int32) else 0) = nI mm := by
          rw [if_neg (fun c => ((by8_pos n k).mp c) h0), show (0 : Int32) = nI 0 from rfl, nI_add]; rfl
        have hl : (if 126 < by8 n k ∨ (¬ (if mm = k then (0 : Int32) else 1) = 0 ∧ ¬ by8 n k = 0) then (-1 : Int32) else if by8 n k = 0 then tb_go n f (k + 1) (nI mm) 1 else tb_go n f (k + 1) (nI mm + 1) (if mm = k then 0 else 1)) = tb_go n f (k + 1) (nI mm) 1 := (if_neg (fun c => c.elim hb (fun c => c.2 h0))).trans (if_pos h0)
        rw [hg, hp, hl]
        have ih := ml_tb n f (k + 1) mm (by omega) (by omega)
        rw [if_neg (show ¬ mm = k + 1 by omega)] at ih
        exact ⟨ih.1, ih.2.imp id (fun ⟨t, a, b⟩ => ⟨t, by omega, b⟩)⟩
      · by_cases hq : mm = k
        · have hg : (if ¬ (1 : Int32) = 0 ∧ by8 n k ≤ 126 ∧ (by8 n k = 0 ∨ nI mm = nI k) then (1 : Int32) else 0) = 1 := if_pos ⟨h1, hle.mpr hb, Or.inr (hm.mpr hq)⟩
          have hp : (nI mm + if 0 < by8 n k then (1 : Int32) else 0) = nI (mm + 1) := by
            rw [if_pos ((by8_pos n k).mpr h0), nI_1]
          have hl : (if 126 < by8 n k ∨ (¬ (if mm = k then (0 : Int32) else 1) = 0 ∧ ¬ by8 n k = 0) then (-1 : Int32) else if by8 n k = 0 then tb_go n f (k + 1) (nI mm) 1 else tb_go n f (k + 1) (nI mm + 1) (if mm = k then 0 else 1)) = tb_go n f (k + 1) (nI (mm + 1)) 0 := by
            refine (if_neg (fun c => c.elim hb (fun c => (hen.mp c.1) hq))).trans ((if_neg h0).trans ?_)
            rw [if_pos hq, nI_1]
          rw [hg, hp, hl]
          have ih := ml_tb n f (k + 1) (mm + 1) (by omega) (by omega)
          rw [if_pos (show mm + 1 = k + 1 by omega)] at ih
          exact ⟨ih.1, ih.2.imp id (fun ⟨t, a, b⟩ => ⟨t, by omega, b⟩)⟩
        · have hg : (if ¬ (1 : Int32) = 0 ∧ by8 n k ≤ 126 ∧ (by8 n k = 0 ∨ nI mm = nI k) then (1 : Int32) else 0) = 0 := if_neg (fun c => c.2.2.elim h0 (fun c => hq (hm.mp c)))
          have hl : (if 126 < by8 n k ∨ (¬ (if mm = k then (0 : Int32) else 1) = 0 ∧ ¬ by8 n k = 0) then (-1 : Int32) else if by8 n k = 0 then tb_go n f (k + 1) (nI mm) 1 else tb_go n f (k + 1) (nI mm + 1) (if mm = k then 0 else 1)) = -1 := if_pos (Or.inr ⟨hen.mpr hq, h0⟩)
          rw [hg, hl]
          exact ⟨(if_pos (ml_zero n f _ _)).symm, Or.inl (ml_zero n f _ _)⟩
def sp_let (n : Nat) : Int32 := if sp_told n = -1 then -102 else sp_told n
theorem sp_ml (n : Nat) : sp_told n = (if (ml_go n 8 0 1 0).1 = 0 then -1 else (ml_go n 8 0 1 0).2) := (ml_tb n 8 0 0 (by omega) (by omega)).1
theorem ml_rng (n : Nat) : (ml_go n 8 0 1 0).1 = 0 ∨ ∃ t : Nat, t ≤ 8 ∧ (ml_go n 8 0 1 0).2 = nI t := (ml_tb n 8 0 0 (by omega) (by omega)).2
theorem nI_m1 {t : Nat} (h : t ≤ 8) : ¬ nI t = -1 := by
  intro c
  have e := congrArg Int32.toInt c
  rw [nI_toInt (by omega)] at e
  have e2 : (-1 : Int32).toInt = -1 := rfl
  omega
theorem sp_rng {n : Nat} (h : ¬ sp_told n = -1) : ∃ t : Nat, t ≤ 8 ∧ sp_told n = nI t ∧ nI t = sp_let n := by
  rw [sp_ml] at h
  by_cases c : (ml_go n 8 0 1 0).1 = 0
  · rw [if_pos c] at h; exact absurd rfl h
  · obtain ⟨t, ht, e⟩ := (ml_rng n).resolve_left c
    have e1 : sp_told n = nI t := by rw [sp_ml, if_neg c, e]
    exact ⟨t, ht, e1, by unfold sp_let; rw [e1, if_neg (nI_m1 ht)]⟩
theorem ml_bad {n : Nat} (c : (ml_go n 8 0 1 0).1 = 0) : (-102 : Int32) = sp_let n := by
  unfold sp_let; rw [sp_ml, if_pos c, if_pos rfl]
theorem ml_fine {n : Nat} (c : ¬ (ml_go n 8 0 1 0).1 = 0) : ∃ t : Nat, t ≤ 8 ∧ (ml_go n 8 0 1 0).2 = nI t ∧ nI t = sp_let n := by
  obtain ⟨t, ht, e⟩ := (ml_rng n).resolve_left c
  exact ⟨t, ht, e, by unfold sp_let; rw [sp_ml, if_neg c, e, if_neg (nI_m1 ht)]⟩
theorem sp_bad {n : Nat} {r : Int32} (e : r = sp_told n) (c : r = -1) : (-102 : Int32) = sp_let n := by
  unfold sp_let; rw [← e, if_pos c]
theorem le90 {t : Nat} (h : t ≤ 8) {z : Int32} (e : z = 0 + nI t) : z ≤ 90 := by
  rw [e, show (0 : Int32) = nI 0 from rfl, nI_add, show (90 : Int32) = nI 90 from rfl, nI_leI (by omega) (by omega)]
  omega
end
section
theorem dX5_hasCase_0 : decode cX5_hasCase 0 = .ok (.iload_n 1, 1) := by decide +kernel
theorem dX5_hasCase_1 : decode cX5_hasCase 1 = .ok (.ifCond .lt 15, 3) := by decide +kernel
theorem dX5_hasCase_4 : decode cX5_hasCase 4 = .ok (.iload_n 1, 1) := by decide +kernel
theorem dX5_hasCase_5 : decode cX5_hasCase 5 = .ok (.aload_n 0, 1) := by decide +kernel
theorem dX5_hasCase_6 : decode cX5_hasCase 6 = .ok (.getfield 33, 3) := by decide +kernel
theorem dX5_hasCase_9 : decode cX5_hasCase 9 = .ok (.if_icmp .ge 7, 3) := by decide +kernel
theorem dX5_hasCase_12 : decode cX5_hasCase 12 = .ok (.iconst 1, 1) := by decide +kernel
theorem dX5_hasCase_13 : decode cX5_hasCase 13 = .ok (.goto 4, 3) := by decide +kernel
theorem dX5_hasCase_16 : decode cX5_hasCase 16 = .ok (.iconst 0, 1) := by decide +kernel
theorem dX5_hasCase_17 : decode cX5_hasCase 17 = .ok (.ireturn, 1) := by decide +kernel
theorem kw_0 : (.fieldLink RX5 33 "NobodyChecks$Question" "cases" "I" : Cond) ∈ gw_tbl := gw_in (by decide +kernel) (by decide +kernel)

set_option maxHeartbeats 4000000 in
set_option maxRecDepth 100000 in
theorem q_hasCase (l : Launch) (D : va_G) (aq : Nat) (a1 : Nat) (a2 : Nat) (a3 : Nat) (a4 : Nat) (v : Int32) : Met l yX5_hasCase (Cond.code yX5_hasCase cX5_hasCase 2 (some .boolean) :: gw_tbl) ({ frames := 0, cells := 0, slots := 0, locals := 0 }) (pc_S D [] [(aq, .inr (5, [.ref a1, .ref a2, .ref a3, .ref a4, .int 0, .int 0, .long 0]))] [.ref aq, .int v]) (vp_Si (fun r => r = 0)) 0 0 (fun _ => False) := by
  refine Met.ofW (cc := cX5_hasCase) (maxL := 2) (ret := (some .boolean)) (by decide) rfl ?_
  intro p e s m args below meth c s₁ B hml hv
  obtain ⟨hargs, hP, hK⟩ := hv
  have hx := B.exec
  have hb := B.bytes
  have hr := B.returns
  have hts := atoms_spec (ws := Cond.code yX5_hasCase cX5_hasCase 2 (some .boolean) :: gw_tbl) B.pre
  have hg := fun (w : Cond) (h : w ∈ gw_tbl) => hts w (List.mem_cons_of_mem _ h)
  have hown : s.vm.findClass RX5 = some m.cls := findClass_of_methodNamed B.named
  have hlocks := B.notSynchronized
  have hl := lv_entry ([.ref aq, .int v]) (n := 2) (Nat.le_of_ble_eq_true rfl)
  rw [show entryFrame m args 2 = F0 m 0 (lg_sl ([.ref aq, .int v]) ++ List.replicate (2 - (lg_sl ([.ref aq, .int v])).length) Slot.unset).toArray [] from by rw [hargs]; exact lg_entry_eq ..]
  generalize (lg_sl ([.ref aq, .int v]) ++ List.replicate (2 - (lg_sl ([.ref aq, .int v])).length) Slot.unset).toArray = ls at hl ⊢
  have hl : lv_has ls 2 [(0, .ref aq), (1, .int v)] := hl
  refine W_genQ (fun Q hQ => ?_)
  refine lv_iload_n hx hb dX5_hasCase_0 rfl (lv_at hl 1 rfl) ?_
  refine lv_if_lt (tgt := 16) hx hb dX5_hasCase_1 (by decide) (fun c_1 => ?_) (fun c_1 => ?_)
  · refine lv_iconst (v := 0) hx hb dX5_hasCase_16 (by decide) ?_
    subst hQ
    exact W.zret (v := 0) hx hb hr (by decide) (fun t ht hW => ⟨0, rfl, rfl, ht⟩) (fun _ h => absurd h List.not_mem_nil) dX5_hasCase_17
  · refine lv_iload_n hx hb dX5_hasCase_4 rfl (lv_at hl 1 rfl) ?_
    refine lv_aload_n hx hb dX5_hasCase_5 rfl (lv_at hl 0 rfl) ?_
    refine va_get (D := D) (ci := 5) (v := .int 0) (C := RX5) (T := TX5) (N := 7) hx hb hg gwX5 hown hK hP 0 rfl rfl 4 (by decide) (hg _ kw_0) (fun _ h9 => h9) rfl dX5_hasCase_6 ?_
    refine lv_icmp_ge (tgt := 16) hx hb dX5_hasCase_9 (by decide) (fun c_9 => ?_) (fun c_9 => ?_)
    · refine lv_iconst (v := 0) hx hb dX5_hasCase_16 (by decide) ?_
      subst hQ
      exact W.zret (v := 0) hx hb hr (by decide) (fun t ht hW => ⟨0, rfl, rfl, ht⟩) (fun _ h => absurd h List.not_mem_nil) dX5_hasCase_17
    · refine lv_iconst (v := 1) hx hb dX5_hasCase_12 (by decide) ?_
      refine lv_goto (tgt := 17) hx hb dX5_hasCase_13 (by decide) ?_
      subst hQ
      exact W.zret (v := 1) hx hb hr (by decide) (fun t ht hW => ⟨1, rfl, (neg0 c_1 c_9), ht⟩) (fun _ h => absurd h List.not_mem_nil) dX5_hasCase_17

theorem dX5_hasPerson_0 : decode cX5_hasPerson 0 = .ok (.iload_n 1, 1) := by decide +kernel
theorem dX5_hasPerson_1 : decode cX5_hasPerson 1 = .ok (.ifCond .lt 15, 3) := by decide +kernel
theorem dX5_hasPerson_4 : decode cX5_hasPerson 4 = .ok (.iload_n 1, 1) := by decide +kernel
theorem dX5_hasPerson_5 : decode cX5_hasPerson 5 = .ok (.aload_n 0, 1) := by decide +kernel
theorem dX5_hasPerson_6 : decode cX5_hasPerson 6 = .ok (.getfield 37, 3) := by decide +kernel
theorem dX5_hasPerson_9 : decode cX5_hasPerson 9 = .ok (.if_icmp .ge 7, 3) := by decide +kernel
theorem dX5_hasPerson_12 : decode cX5_hasPerson 12 = .ok (.iconst 1, 1) := by decide +kernel
theorem dX5_hasPerson_13 : decode cX5_hasPerson 13 = .ok (.goto 4, 3) := by decide +kernel
theorem dX5_hasPerson_16 : decode cX5_hasPerson 16 = .ok (.iconst 0, 1) := by decide +kernel
theorem dX5_hasPerson_17 : decode cX5_hasPerson 17 = .ok (.ireturn, 1) := by decide +kernel
theorem kw_1 : (.fieldLink RX5 37 "NobodyChecks$Question" "persons" "I" : Cond) ∈ gw_tbl := gw_in (by decide +kernel) (by decide +kernel)

set_option maxHeartbeats 4000000 in
set_option maxRecDepth 100000 in
theorem q_hasPerson (l : Launch) (D : va_G) (aq : Nat) (a1 : Nat) (a2 : Nat) (a3 : Nat) (a4 : Nat) (v : Int32) : Met l yX5_hasPerson (Cond.code yX5_hasPerson cX5_hasPerson 2 (some .boolean) :: gw_tbl) ({ frames := 0, cells := 0, slots := 0, locals := 0 }) (pc_S D [] [(aq, .inr (5, [.ref a1, .ref a2, .ref a3, .ref a4, .int 0, .int 0, .long 0]))] [.ref aq, .int v]) (vp_Si (fun r => r = 0)) 0 0 (fun _ => False) := by
  refine Met.ofW (cc := cX5_hasPerson) (maxL := 2) (ret := (some .boolean)) (by decide) rfl ?_
  intro p e s m args below meth c s₁ B hml hv
  obtain ⟨hargs, hP, hK⟩ := hv
  have hx := B.exec
  have hb := B.bytes
  have hr := B.returns
  have hts := atoms_spec (ws := Cond.code yX5_hasPerson cX5_hasPerson 2 (some .boolean) :: gw_tbl) B.pre
  have hg := fun (w : Cond) (h : w ∈ gw_tbl) => hts w (List.mem_cons_of_mem _ h)
  have hown : s.vm.findClass RX5 = some m.cls := findClass_of_methodNamed B.named
  have hlocks := B.notSynchronized
  have hl := lv_entry ([.ref aq, .int v]) (n := 2) (Nat.le_of_ble_eq_true rfl)
  rw [show entryFrame m args 2 = F0 m 0 (lg_sl ([.ref aq, .int v]) ++ List.replicate (2 - (lg_sl ([.ref aq, .int v])).length) Slot.unset).toArray [] from by rw [hargs]; exact lg_entry_eq ..]
  generalize (lg_sl ([.ref aq, .int v]) ++ List.replicate (2 - (lg_sl ([.ref aq, .int v])).length) Slot.unset).toArray = ls at hl ⊢
  have hl : lv_has ls 2 [(0, .ref aq), (1, .int v)] := hl
  refine W_genQ (fun Q hQ => ?_)
  refine lv_iload_n hx hb dX5_hasPerson_0 rfl (lv_at hl 1 rfl) ?_
  refine lv_if_lt (tgt := 16) hx hb dX5_hasPerson_1 (by decide) (fun c_1 => ?_) (fun c_1 => ?_)
  · refine lv_iconst (v := 0) hx hb dX5_hasPerson_16 (by decide) ?_
    subst hQ
    exact W.zret (v := 0) hx hb hr (by decide) (fun t ht hW => ⟨0, rfl, rfl, ht⟩) (fun _ h => absurd h List.not_mem_nil) dX5_hasPerson_17
  · refine lv_iload_n hx hb dX5_hasPerson_4 rfl (lv_at hl 1 rfl) ?_
    refine lv_aload_n hx hb dX5_hasPerson_5 rfl (lv_at hl 0 rfl) ?_
    refine va_get (D := D) (ci := 5) (v := .int 0) (C := RX5) (T := TX5) (N := 7) hx hb hg gwX5 hown hK hP 0 rfl rfl 5 (by decide) (hg _ kw_1) (fun _ h9 => h9) rfl dX5_hasPerson_6 ?_
    refine lv_icmp_ge (tgt := 16) hx hb dX5_hasPerson_9 (by decide) (fun c_9 => ?_) (fun c_9 => ?_)
    · refine lv_iconst (v := 0) hx hb dX5_hasPerson_16 (by decide) ?_
      subst hQ
      exact W.zret (v := 0) hx hb hr (by decide) (fun t ht hW => ⟨0, rfl, rfl, ht⟩) (fun _ h => absurd h List.not_mem_nil) dX5_hasPerson_17
    · refine lv_iconst (v := 1) hx hb dX5_hasPerson_12 (by decide) ?_
      refine lv_goto (tgt := 17) hx hb dX5_hasPerson_13 (by decide) ?_
      subst hQ
      exact W.zret (v := 1) hx hb hr (by decide) (fun t ht hW => ⟨1, rfl, (neg0 c_1 c_9), ht⟩) (fun _ h => absurd h List.not_mem_nil) dX5_hasPerson_17

theorem dX5_stands_0 : decode cX5_stands 0 = .ok (.aload_n 0, 1) := by decide +kernel
theorem dX5_stands_1 : decode cX5_stands 1 = .ok (.getfield 33, 3) := by decide +kernel
theorem dX5_stands_4 : decode cX5_stands 4 = .ok (.ifCond .le 7, 3) := by decide +kernel
theorem dX5_stands_7 : decode cX5_stands 7 = .ok (.iconst 1, 1) := by decide +kernel
theorem dX5_stands_8 : decode cX5_stands 8 = .ok (.goto 4, 3) := by decide +kernel
theorem dX5_stands_11 : decode cX5_stands 11 = .ok (.iconst 0, 1) := by decide +kernel
theorem dX5_stands_12 : decode cX5_stands 12 = .ok (.ireturn, 1) := by decide +kernel

set_option maxHeartbeats 4000000 in
set_option maxRecDepth 100000 in
theorem q_stands (l : Launch) (D : va_G) (aq : Nat) (a1 : Nat) (a2 : Nat) (a3 : Nat) (a4 : Nat) : Met l yX5_stands (Cond.code yX5_stands cX5_stands 1 (some .boolean) :: gw_tbl) ({ frames := 0, cells := 0, slots := 0, locals := 0 }) (pc_S D [] [(aq, .inr (5, [.ref a1, .ref a2, .ref a3, .ref a4, .int 0, .int 0, .long 0]))] [.ref aq]) (vp_Si (fun r => r = 0)) 0 0 (fun _ => False) := by
  refine Met.ofW (cc := cX5_stands) (maxL := 1) (ret := (some .boolean)) (by decide) rfl ?_
  intro p e s m args below meth c s₁ B hml hv
  obtain ⟨hargs, hP, hK⟩ := hv
  have hx := B.exec
  have hb := B.bytes
  have hr := B.returns
  have hts := atoms_spec (ws := Cond.code yX5_stands cX5_stands 1 (some .boolean) :: gw_tbl) B.pre
  have hg := fun (w : Cond) (h : w ∈ gw_tbl) => hts w (List.mem_cons_of_mem _ h)
  have hown : s.vm.findClass RX5 = some m.cls := findClass_of_methodNamed B.named
  have hlocks := B.notSynchronized
  have hl := lv_entry ([.ref aq]) (n := 1) (Nat.le_of_ble_eq_true rfl)
  rw [show entryFrame m args 1 = F0 m 0 (lg_sl ([.ref aq]) ++ List.replicate (1 - (lg_sl ([.ref aq])).length) Slot.unset).toArray [] from by rw [hargs]; exact lg_entry_eq ..]
  generalize (lg_sl ([.ref aq]) ++ List.replicate (1 - (lg_sl ([.ref aq])).length) Slot.unset).toArray = ls at hl ⊢
  have hl : lv_has ls 1 [(0, .ref aq)] := hl
  refine W_genQ (fun Q hQ => ?_)
  refine lv_aload_n hx hb dX5_stands_0 rfl (lv_at hl 0 rfl) ?_
  refine va_get (D := D) (ci := 5) (v := .int 0) (C := RX5) (T := TX5) (N := 7) hx hb hg gwX5 hown hK hP 0 rfl rfl 4 (by decide) (hg _ kw_0) (fun _ h9 => h9) rfl dX5_stands_1 ?_
  refine lv_if_le (tgt := 11) hx hb dX5_stands_4 (by decide) (fun c_4 => ?_) (fun c_4 => absurd (by decide) c_4)
  refine lv_iconst (v := 0) hx hb dX5_stands_11 (by decide) ?_
  subst hQ
  exact W.zret (v := 0) hx hb hr (by decide) (fun t ht hW => ⟨0, rfl, rfl, ht⟩) (fun _ h => absurd h List.not_mem_nil) dX5_stands_12

theorem dX11_payOf_0 : decode cX11_payOf 0 = .ok (.iload_n 1, 1) := by decide +kernel
theorem dX11_payOf_1 : decode cX11_payOf 1 = .ok (.iconst 0, 1) := by decide +kernel
theorem dX11_payOf_2 : decode cX11_payOf 2 = .ok (.aload_n 0, 1) := by decide +kernel
theorem dX11_payOf_3 : decode cX11_payOf 3 = .ok (.getfield 134, 3) := by decide +kernel
theorem dX11_payOf_6 : decode cX11_payOf 6 = .ok (.iconst 1, 1) := by decide +kernel
theorem dX11_payOf_7 : decode cX11_payOf 7 = .ok (.isub, 1) := by decide +kernel
theorem dX11_payOf_8 : decode cX11_payOf 8 = .ok (.invokestatic 105, 3) := by decide +kernel
theorem dX11_payOf_11 : decode cX11_payOf 11 = .ok (.ifCond .eq 12, 3) := by decide +kernel
theorem dX11_payOf_14 : decode cX11_payOf 14 = .ok (.aload_n 0, 1) := by decide +kernel
theorem dX11_payOf_15 : decode cX11_payOf 15 = .ok (.getfield 32, 3) := by decide +kernel
theorem dX11_payOf_18 : decode cX11_payOf 18 = .ok (.iload_n 1, 1) := by decide +kernel
theorem dX11_payOf_19 : decode cX11_payOf 19 = .ok (.aaload, 1) := by decide +kernel
theorem dX11_payOf_20 : decode cX11_payOf 20 = .ok (.goto 4, 3) := by decide +kernel
theorem dX11_payOf_23 : decode cX11_payOf 23 = .ok (.aconst_null, 1) := by decide +kernel
theorem dX11_payOf_24 : decode cX11_payOf 24 = .ok (.areturn, 1) := by decide +kernel
theorem kw_2 : (.fieldLink RX11 134 "NobodyChecks" "payCount" "I" : Cond) ∈ gw_tbl := gw_in (by decide +kernel) (by decide +kernel)
theorem kw_3 : (.code yX11_isWithin cX11_isWithin 3 (some .boolean) : Cond) ∈ gw_tbl := gw_in (by decide +kernel) (by decide +kernel)
theorem kw_4 : (.methodLink RX11 105 yX11_isWithin : Cond) ∈ gw_tbl := gw_in (by decide +kernel) (by decide +kernel)
theorem kw_5 : (.static yX11_isWithin : Cond) ∈ gw_tbl := gw_in (by decide +kernel) (by decide +kernel)
theorem kw_6 : (.initialized RX11 : Cond) ∈ gw_tbl := gw_in (by decide +kernel) (by decide +kernel)

set_option maxHeartbeats 4000000 in
set_option maxRecDepth 100000 in
theorem x_payOf (l : Launch) (D : va_G) (x0 : Nat) (pg : Nat) (rd : Nat) (aq : Nat) (py : Nat) (pl : Nat) (ch : Nat) (ro : Nat) (v : Int32) : Met l yX11_payOf (Cond.code yX11_payOf cX11_payOf 2 (some (.object "NobodyChecks$Pay")) :: gw_tbl) ({ frames := 1, cells := 0, slots := 0, locals := 22 }) (pc_S D [] [(x0, .inr (11, [.ref pg, .ref rd, .ref aq, .ref py, .ref pl, .ref ch, .ref ro, .int 0, .int 0]))] [.ref x0, .int v]) (va_Sq (fun r => r = none)) 0 0 (fun _ => False) := by
  refine Met.ofW (cc := cX11_payOf) (maxL := 2) (ret := (some (.object "NobodyChecks$Pay"))) (by decide) rfl ?_
  intro p e s m args below meth c s₁ B hml hv
  obtain ⟨hargs, hP, hK⟩ := hv
  have hx := B.exec
  have hb := B.bytes
  have hr := B.returns
  have hts := atoms_spec (ws := Cond.code yX11_payOf cX11_payOf 2 (some (.object "NobodyChecks$Pay")) :: gw_tbl) B.pre
  have hg := fun (w : Cond) (h : w ∈ gw_tbl) => hts w (List.mem_cons_of_mem _ h)
  have hown : s.vm.findClass RX11 = some m.cls := findClass_of_methodNamed B.named
  have hlocks := B.notSynchronized
  have hl := lv_entry ([.ref x0, .int v]) (n := 2) (Nat.le_of_ble_eq_true rfl)
  rw [show entryFrame m args 2 = F0 m 0 (lg_sl ([.ref x0, .int v]) ++ List.replicate (2 - (lg_sl ([.ref x0, .int v])).length) Slot.unset).toArray [] from by rw [hargs]; exact lg_entry_eq ..]
  generalize (lg_sl ([.ref x0, .int v]) ++ List.replicate (2 - (lg_sl ([.ref x0, .int v])).length) Slot.unset).toArray = ls at hl ⊢
  have hl : lv_has ls 2 [(0, .ref x0), (1, .int v)] := hl
  refine W_genQ (fun Q hQ => ?_)
  refine lv_iload_n hx hb dX11_payOf_0 rfl (lv_at hl 1 rfl) ?_
  refine lv_iconst (v := 0) hx hb dX11_payOf_1 (by decide) ?_
  refine lv_aload_n hx hb dX11_payOf_2 rfl (lv_at hl 0 rfl) ?_
  refine va_get (D := D) (ci := 11) (v := .int 0) (C := RX11) (T := TX11) (N := 9) hx hb hg gwX11 hown hK hP 0 rfl rfl 7 (by decide) (hg _ kw_2) (fun _ h9 => h9) rfl dX11_payOf_3 ?_
  refine lv_iconst (v := 1) hx hb dX11_payOf_6 (by decide) ?_
  refine lv_isub hx hb dX11_payOf_7 ?_
  refine lv_topi (fun z_7 e_7 => ?_)
  obtain rfl : z_7 = ((-1) : Int32) := e_7.trans (by decide)
  refine vp_callSi (W.runS (As := [.int v, .int 0, .int (-1)]) (rest := []) ⟨hx, hb, hml, hown, hg⟩ (c_isWithin l v 0 (-1)) (va_cwS 3 hg (gw_S kw_4 kw_5 kw_6 kw_3) rfl rfl rfl (by decide +kernel) ⟨Nat.le_of_ble_eq_true rfl, Nat.le_of_ble_eq_true rfl⟩) pr_0 rfl rfl hl.1 rfl (lv_room (Nat.le_of_ble_eq_true rfl)) dX11_payOf_8 ⟨Nat.le_of_ble_eq_true rfl, Nat.le_of_ble_eq_true rfl⟩) (fun r_8 h_8 => ?_)
  obtain rfl : r_8 = (0 : Int32) := h_8.trans (iw_no (by decide))
  refine lv_if_eq (tgt := 23) hx hb dX11_payOf_11 (by decide) (fun c_11 => ?_) (fun c_11 => absurd (by decide) c_11)
  refine lv_null hx hb dX11_payOf_23 ?_
  subst hQ
  exact W.aret (v := .null) hx hb hr (Or.inl ⟨_, rfl⟩) (Or.inl rfl) (fun t ht hW => ⟨none, rfl, rfl, ht⟩) (fun _ h => absurd h List.not_mem_nil) dX11_payOf_24

theorem dX11_refusalOf_0 : decode cX11_refusalOf 0 = .ok (.aload_n 1, 1) := by decide +kernel
theorem dX11_refusalOf_1 : decode cX11_refusalOf 1 = .ok (.ifnonnull 6, 3) := by decide +kernel
theorem dX11_refusalOf_4 : decode cX11_refusalOf 4 = .ok (.bipush (-101), 2) := by decide +kernel
theorem dX11_refusalOf_6 : decode cX11_refusalOf 6 = .ok (.ireturn, 1) := by decide +kernel
theorem dX11_refusalOf_7 : decode cX11_refusalOf 7 = .ok (.aload_n 0, 1) := by decide +kernel
theorem dX11_refusalOf_8 : decode cX11_refusalOf 8 = .ok (.getfield 26, 3) := by decide +kernel
theorem dX11_refusalOf_11 : decode cX11_refusalOf 11 = .ok (.invokevirtual 204, 3) := by decide +kernel
theorem dX11_refusalOf_14 : decode cX11_refusalOf 14 = .ok (.ifCond .ne 6, 3) := by decide +kernel
theorem dX11_refusalOf_17 : decode cX11_refusalOf 17 = .ok (.bipush (-103), 2) := by decide +kernel
theorem dX11_refusalOf_19 : decode cX11_refusalOf 19 = .ok (.ireturn, 1) := by decide +kernel
theorem dX11_refusalOf_20 : decode cX11_refusalOf 20 = .ok (.aload_n 0, 1) := by decide +kernel
theorem dX11_refusalOf_21 : decode cX11_refusalOf 21 = .ok (.getfield 26, 3) := by decide +kernel
theorem dX11_refusalOf_24 : decode cX11_refusalOf 24 = .ok (.iload_n 2, 1) := by decide +kernel
theorem dX11_refusalOf_25 : decode cX11_refusalOf 25 = .ok (.invokevirtual 174, 3) := by decide +kernel
theorem dX11_refusalOf_28 : decode cX11_refusalOf 28 = .ok (.ifCond .eq 17, 3) := by decide +kernel
theorem dX11_refusalOf_31 : decode cX11_refusalOf 31 = .ok (.iload_n 3, 1) := by decide +kernel
theorem dX11_refusalOf_32 : decode cX11_refusalOf 32 = .ok (.iconst 0, 1) := by decide +kernel
theorem dX11_refusalOf_33 : decode cX11_refusalOf 33 = .ok (.iload 4, 2) := by decide +kernel
theorem dX11_refusalOf_35 : decode cX11_refusalOf 35 = .ok (.invokestatic 105, 3) := by decide +kernel
theorem dX11_refusalOf_38 : decode cX11_refusalOf 38 = .ok (.ifCond .eq 7, 3) := by decide +kernel
theorem dX11_refusalOf_41 : decode cX11_refusalOf 41 = .ok (.iconst 0, 1) := by decide +kernel
theorem dX11_refusalOf_42 : decode cX11_refusalOf 42 = .ok (.goto 5, 3) := by decide +kernel
theorem dX11_refusalOf_45 : decode cX11_refusalOf 45 = .ok (.bipush (-102), 2) := by decide +kernel
theorem dX11_refusalOf_47 : decode cX11_refusalOf 47 = .ok (.ireturn, 1) := by decide +kernel

set_option maxHeartbeats 4000000 in
set_option maxRecDepth 100000 in
theorem x_refusalOf (l : Launch) (D : va_G) (x0 : Nat) (pg : Nat) (rd : Nat) (aq : Nat) (py : Nat) (pl : Nat) (ch : Nat) (ro : Nat) (v : Int32) (v2 : Int32) (v3 : Int32) : Met l yX11_refusalOf (Cond.code yX11_refusalOf cX11_refusalOf 5 (some .int) :: gw_tbl) ({ frames := 0, cells := 0, slots := 0, locals := 0 }) (pc_S D [] [(x0, .inr (11, [.ref pg, .ref rd, .ref aq, .ref py, .ref pl, .ref ch, .ref ro, .int 0, .int 0]))] [.ref x0, .null, .int v, .int v2, .int v3]) (vp_Si (fun r => r = -101)) 0 0 (fun _ => False) := by
  refine Met.ofW (cc := cX11_refusalOf) (maxL := 5) (ret := (some .int)) (by decide) rfl ?_
  intro p e s m args below meth c s₁ B hml hv
  obtain ⟨hargs, hP, hK⟩ := hv
  have hx := B.exec
  have hb := B.bytes
  have hr := B.returns
  have hts := atoms_spec (ws := Cond.code yX11_refusalOf cX11_refusalOf 5 (some .int) :: gw_tbl) B.pre
  have hg := fun (w : Cond) (h : w ∈ gw_tbl) => hts w (List.mem_cons_of_mem _ h)
  have hown : s.vm.findClass RX11 = some m.cls := findClass_of_methodNamed B.named
  have hlocks := B.notSynchronized
  have hl := lv_entry ([.ref x0, .null, .int v, .int v2, .int v3]) (n := 5) (Nat.le_of_ble_eq_true rfl)
  rw [show entryFrame m args 5 = F0 m 0 (lg_sl ([.ref x0, .null, .int v, .int v2, .int v3]) ++ List.replicate (5 - (lg_sl ([.ref x0, .null, .int v, .int v2, .int v3])).length) Slot.unset).toArray [] from by rw [hargs]; exact lg_entry_eq ..]
  generalize (lg_sl ([.ref x0, .null, .int v, .int v2, .int v3]) ++ List.replicate (5 - (lg_sl ([.ref x0, .null, .int v, .int v2, .int v3])).length) Slot.unset).toArray = ls at hl ⊢
  have hl : lv_has ls 5 [(0, .ref x0), (1, .null), (2, .int v), (3, .int v2), (4, .int v3)] := hl
  refine W_genQ (fun Q hQ => ?_)
  refine lv_aload_nN hx hb dX11_refusalOf_0 rfl (lv_at hl 1 rfl) ?_
  refine lv_ifnonnullN hx hb dX11_refusalOf_1 ?_
  refine lv_bipush (v := (-101)) hx hb dX11_refusalOf_4 (by decide) ?_
  subst hQ
  exact W.iret (v := (-101)) hx hb hr (fun t ht hW => ⟨(-101), rfl, rfl, ht⟩) (fun _ h => absurd h List.not_mem_nil) dX11_refusalOf_6

theorem dX11_chance_0 : decode cX11_chance 0 = .ok (.aload_n 0, 1) := by decide +kernel
theorem dX11_chance_1 : decode cX11_chance 1 = .ok (.getfield 26, 3) := by decide +kernel
theorem dX11_chance_4 : decode cX11_chance 4 = .ok (.iload_n 1, 1) := by decide +kernel
theorem dX11_chance_5 : decode cX11_chance 5 = .ok (.invokevirtual 90, 3) := by decide +kernel
theorem dX11_chance_8 : decode cX11_chance 8 = .ok (.ifCond .ne 6, 3) := by decide +kernel
theorem dX11_chance_11 : decode cX11_chance 11 = .ok (.bipush (-101), 2) := by decide +kernel
theorem dX11_chance_13 : decode cX11_chance 13 = .ok (.ireturn, 1) := by decide +kernel
theorem dX11_chance_14 : decode cX11_chance 14 = .ok (.iload_n 2, 1) := by decide +kernel
theorem dX11_chance_15 : decode cX11_chance 15 = .ok (.iconst (-1), 1) := by decide +kernel
theorem dX11_chance_16 : decode cX11_chance 16 = .ok (.if_icmp .ne 13, 3) := by decide +kernel
theorem dX11_chance_19 : decode cX11_chance 19 = .ok (.aload_n 0, 1) := by decide +kernel
theorem dX11_chance_20 : decode cX11_chance 20 = .ok (.getfield 26, 3) := by decide +kernel
theorem dX11_chance_23 : decode cX11_chance 23 = .ok (.getfield 94, 3) := by decide +kernel
theorem dX11_chance_26 : decode cX11_chance 26 = .ok (.iload_n 1, 1) := by decide +kernel
theorem dX11_chance_27 : decode cX11_chance 27 = .ok (.iaload, 1) := by decide +kernel
theorem dX11_chance_28 : decode cX11_chance 28 = .ok (.ireturn, 1) := by decide +kernel
theorem dX11_chance_29 : decode cX11_chance 29 = .ok (.aload_n 0, 1) := by decide +kernel
theorem dX11_chance_30 : decode cX11_chance 30 = .ok (.getfield 26, 3) := by decide +kernel
theorem dX11_chance_33 : decode cX11_chance 33 = .ok (.iload_n 2, 1) := by decide +kernel
theorem dX11_chance_34 : decode cX11_chance 34 = .ok (.invokevirtual 98, 3) := by decide +kernel
theorem dX11_chance_37 : decode cX11_chance 37 = .ok (.ifCond .eq 17, 3) := by decide +kernel
theorem dX11_chance_40 : decode cX11_chance 40 = .ok (.aload_n 0, 1) := by decide +kernel
theorem dX11_chance_41 : decode cX11_chance 41 = .ok (.getfield 26, 3) := by decide +kernel
theorem dX11_chance_44 : decode cX11_chance 44 = .ok (.getfield 101, 3) := by decide +kernel
theorem dX11_chance_47 : decode cX11_chance 47 = .ok (.iload_n 1, 1) := by decide +kernel
theorem dX11_chance_48 : decode cX11_chance 48 = .ok (.aaload, 1) := by decide +kernel
theorem dX11_chance_49 : decode cX11_chance 49 = .ok (.iload_n 2, 1) := by decide +kernel
theorem dX11_chance_50 : decode cX11_chance 50 = .ok (.iaload, 1) := by decide +kernel
theorem dX11_chance_51 : decode cX11_chance 51 = .ok (.goto 5, 3) := by decide +kernel
theorem dX11_chance_54 : decode cX11_chance 54 = .ok (.bipush (-101), 2) := by decide +kernel
theorem dX11_chance_56 : decode cX11_chance 56 = .ok (.ireturn, 1) := by decide +kernel
theorem kw_7 : (.fieldLink RX11 26 "NobodyChecks" "asked" "LNobodyChecks$Question;" : Cond) ∈ gw_tbl := gw_in (by decide +kernel) (by decide +kernel)
theorem kw_8 : (.code yX5_hasCase cX5_hasCase 2 (some .boolean) : Cond) ∈ gw_tbl := gw_in (by decide +kernel) (by decide +kernel)
theorem kw_9 : (.methodLink RX11 90 yX5_hasCase : Cond) ∈ gw_tbl := gw_in (by decide +kernel) (by decide +kernel)
theorem kw_10 : (.instanceMethod yX5_hasCase : Cond) ∈ gw_tbl := gw_in (by decide +kernel) (by decide +kernel)
theorem kw_11 : (.selects RX5 yX5_hasCase yX5_hasCase : Cond) ∈ gw_tbl := gw_in (by decide +kernel) (by decide +kernel)
theorem kw_12 : (.initialized RX5 : Cond) ∈ gw_tbl := gw_in (by decide +kernel) (by decide +kernel)

set_option maxHeartbeats 4000000 in
set_option maxRecDepth 100000 in
theorem x_chance (l : Launch) (D : va_G) (x0 : Nat) (pg : Nat) (rd : Nat) (aq : Nat) (py : Nat) (pl : Nat) (ch : Nat) (ro : Nat) (a1 : Nat) (a2 : Nat) (a3 : Nat) (a4 : Nat) (p1 : Int32) (p2 : Int32) : Met l yX11_chance (Cond.code yX11_chance cX11_chance 3 (some .int) :: gw_tbl) ({ frames := 1, cells := 0, slots := 0, locals := 21 }) (pc_S D [] [(x0, .inr (11, [.ref pg, .ref rd, .ref aq, .ref py, .ref pl, .ref ch, .ref ro, .int 0, .int 0])), (aq, .inr (5, [.ref a1, .ref a2, .ref a3, .ref a4, .int 0, .int 0, .long 0]))] [.ref x0, .int p1, .int p2]) (vp_Si (fun r => r = (-101))) 0 0 (fun _ => False) := by
  refine Met.ofW (cc := cX11_chance) (maxL := 3) (ret := (some .int)) (by decide) rfl ?_
  intro p e s m args below meth c s₁ B hml hv
  obtain ⟨hargs, hP, hK⟩ := hv
  have hx := B.exec
  have hb := B.bytes
  have hr := B.returns
  have hts := atoms_spec (ws := Cond.code yX11_chance cX11_chance 3 (some .int) :: gw_tbl) B.pre
  have hg := fun (w : Cond) (h : w ∈ gw_tbl) => hts w (List.mem_cons_of_mem _ h)
  have hown : s.vm.findClass RX11 = some m.cls := findClass_of_methodNamed B.named
  have hlocks := B.notSynchronized
  have hl := lv_entry ([.ref x0, .int p1, .int p2]) (n := 3) (Nat.le_of_ble_eq_true rfl)
  rw [show entryFrame m args 3 = F0 m 0 (lg_sl ([.ref x0, .int p1, .int p2]) ++ List.replicate (3 - (lg_sl ([.ref x0, .int p1, .int p2])).length) Slot.unset).toArray [] from by rw [hargs]; exact lg_entry_eq ..]
  generalize (lg_sl ([.ref x0, .int p1, .int p2]) ++ List.replicate (3 - (lg_sl ([.ref x0, .int p1, .int p2])).length) Slot.unset).toArray = ls at hl ⊢
  have hl : lv_has ls 3 [(0, .ref x0), (1, .int p1), (2, .int p2)] := hl
  refine W_genQ (fun Q hQ => ?_)
  refine lv_aload_n hx hb dX11_chance_0 rfl (lv_at hl 0 rfl) ?_
  refine va_get (D := D) (ci := 11) (v := .ref aq) (C := RX11) (T := TX11) (N := 9) hx hb hg gwX11 hown hK hP 0 rfl rfl 2 (by decide) (hg _ kw_7) (fun _ h9 => h9) rfl dX11_chance_1 ?_
  refine lv_iload_n hx hb dX11_chance_4 rfl (lv_at hl 1 rfl) ?_
  have hPc := hP.sub (ws' := [(aq, .inr (5, [.ref a1, .ref a2, .ref a3, .ref a4, .int 0, .int 0, .long 0]))]) [1] rfl
  have hKc := hK.sub (tys' := []) [] rfl
  refine vp_callSi (W.runV (As := [.int p1]) (rest := []) ⟨hx, hb, hml, hown, hg⟩ (q_hasCase l D aq a1 a2 a3 a4 p1) (cwV 1 hg (gw_V kw_9 kw_10 kw_11 kw_12 kw_8) rfl rfl rfl (by decide +kernel) ⟨Nat.le_of_ble_eq_true rfl, Nat.le_of_ble_eq_true rfl⟩) (pr_SV (q := (RX5, TX5, 7)) 5 0 hKc hPc rfl rfl) rfl rfl hl.1 rfl (lv_room (Nat.le_of_ble_eq_true rfl)) dX11_chance_5 ⟨Nat.le_of_ble_eq_true rfl, Nat.le_of_ble_eq_true rfl⟩) (fun r_5 h_5 => ?_)
  obtain rfl : r_5 = (0 : Int32) := h_5
  refine lv_if_ne (tgt := 14) hx hb dX11_chance_8 (by decide) (fun c_8 => absurd c_8 (by decide)) (fun c_8 => ?_)
  refine lv_bipush (v := (-101)) hx hb dX11_chance_11 (by decide) ?_
  subst hQ
  exact W.iret (v := (-101)) hx hb hr (fun t ht hW => ⟨(-101), rfl, rfl, ht⟩) (fun _ h => absurd h List.not_mem_nil) dX11_chance_13

theorem dX11_cost_0 : decode cX11_cost 0 = .ok (.aload_n 0, 1) := by decide +kernel
theorem dX11_cost_1 : decode cX11_cost 1 = .ok (.getfield 26, 3) := by decide +kernel
theorem dX11_cost_4 : decode cX11_cost 4 = .ok (.iload_n 1, 1) := by decide +kernel
theorem dX11_cost_5 : decode cX11_cost 5 = .ok (.invokevirtual 98, 3) := by decide +kernel
theorem dX11_cost_8 : decode cX11_cost 8 = .ok (.ifCond .ne 6, 3) := by decide +kernel
theorem dX11_cost_11 : decode cX11_cost 11 = .ok (.bipush (-101), 2) := by decide +kernel
theorem dX11_cost_13 : decode cX11_cost 13 = .ok (.ireturn, 1) := by decide +kernel
theorem dX11_cost_14 : decode cX11_cost 14 = .ok (.iload_n 2, 1) := by decide +kernel
theorem dX11_cost_15 : decode cX11_cost 15 = .ok (.iconst 0, 1) := by decide +kernel
theorem dX11_cost_16 : decode cX11_cost 16 = .ok (.sipush 999, 3) := by decide +kernel
theorem dX11_cost_19 : decode cX11_cost 19 = .ok (.invokestatic 105, 3) := by decide +kernel
theorem dX11_cost_22 : decode cX11_cost 22 = .ok (.ifCond .ne 6, 3) := by decide +kernel
theorem dX11_cost_25 : decode cX11_cost 25 = .ok (.bipush (-102), 2) := by decide +kernel
theorem dX11_cost_27 : decode cX11_cost 27 = .ok (.ireturn, 1) := by decide +kernel
theorem dX11_cost_28 : decode cX11_cost 28 = .ok (.aload_n 0, 1) := by decide +kernel
theorem dX11_cost_29 : decode cX11_cost 29 = .ok (.getfield 26, 3) := by decide +kernel
theorem dX11_cost_32 : decode cX11_cost 32 = .ok (.getfield 109, 3) := by decide +kernel
theorem dX11_cost_35 : decode cX11_cost 35 = .ok (.iload_n 1, 1) := by decide +kernel
theorem dX11_cost_36 : decode cX11_cost 36 = .ok (.iaload, 1) := by decide +kernel
theorem dX11_cost_37 : decode cX11_cost 37 = .ok (.istore_n 3, 1) := by decide +kernel
theorem dX11_cost_38 : decode cX11_cost 38 = .ok (.aload_n 0, 1) := by decide +kernel
theorem dX11_cost_39 : decode cX11_cost 39 = .ok (.getfield 26, 3) := by decide +kernel
theorem dX11_cost_42 : decode cX11_cost 42 = .ok (.getfield 109, 3) := by decide +kernel
theorem dX11_cost_45 : decode cX11_cost 45 = .ok (.iload_n 1, 1) := by decide +kernel
theorem dX11_cost_46 : decode cX11_cost 46 = .ok (.iload_n 2, 1) := by decide +kernel
theorem dX11_cost_47 : decode cX11_cost 47 = .ok (.iastore, 1) := by decide +kernel
theorem dX11_cost_48 : decode cX11_cost 48 = .ok (.iload_n 3, 1) := by decide +kernel
theorem dX11_cost_49 : decode cX11_cost 49 = .ok (.ireturn, 1) := by decide +kernel
theorem kw_13 : (.code yX5_hasPerson cX5_hasPerson 2 (some .boolean) : Cond) ∈ gw_tbl := gw_in (by decide +kernel) (by decide +kernel)
theorem kw_14 : (.methodLink RX11 98 yX5_hasPerson : Cond) ∈ gw_tbl := gw_in (by decide +kernel) (by decide +kernel)
theorem kw_15 : (.instanceMethod yX5_hasPerson : Cond) ∈ gw_tbl := gw_in (by decide +kernel) (by decide +kernel)
theorem kw_16 : (.selects RX5 yX5_hasPerson yX5_hasPerson : Cond) ∈ gw_tbl := gw_in (by decide +kernel) (by decide +kernel)

set_option maxHeartbeats 4000000 in
set_option maxRecDepth 100000 in
theorem x_cost (l : Launch) (D : va_G) (x0 : Nat) (pg : Nat) (rd : Nat) (aq : Nat) (py : Nat) (pl : Nat) (ch : Nat) (ro : Nat) (a1 : Nat) (a2 : Nat) (a3 : Nat) (a4 : Nat) (p1 : Int32) (p2 : Int32) : Met l yX11_cost (Cond.code yX11_cost cX11_cost 4 (some .int) :: gw_tbl) ({ frames := 1, cells := 0, slots := 0, locals := 21 }) (pc_S D [] [(x0, .inr (11, [.ref pg, .ref rd, .ref aq, .ref py, .ref pl, .ref ch, .ref ro, .int 0, .int 0])), (aq, .inr (5, [.ref a1, .ref a2, .ref a3, .ref a4, .int 0, .int 0, .long 0]))] [.ref x0, .int p1, .int p2]) (vp_Si (fun r => r = (-101))) 0 0 (fun _ => False) := by
  refine Met.ofW (cc := cX11_cost) (maxL := 4) (ret := (some .int)) (by decide) rfl ?_
  intro p e s m args below meth c s₁ B hml hv
  obtain ⟨hargs, hP, hK⟩ := hv
  have hx := B.exec
  have hb := B.bytes
  have hr := B.returns
  have hts := atoms_spec (ws := Cond.code yX11_cost cX11_cost 4 (some .int) :: gw_tbl) B.pre
  have hg := fun (w : Cond) (h : w ∈ gw_tbl) => hts w (List.mem_cons_of_mem _ h)
  have hown : s.vm.findClass RX11 = some m.cls := findClass_of_methodNamed B.named
  have hlocks := B.notSynchronized
  have hl := lv_entry ([.ref x0, .int p1, .int p2]) (n := 4) (Nat.le_of_ble_eq_true rfl)
  rw [show entryFrame m args 4 = F0 m 0 (lg_sl ([.ref x0, .int p1, .int p2]) ++ List.replicate (4 - (lg_sl ([.ref x0, .int p1, .int p2])).length) Slot.unset).toArray [] from by rw [hargs]; exact lg_entry_eq ..]
  generalize (lg_sl ([.ref x0, .int p1, .int p2]) ++ List.replicate (4 - (lg_sl ([.ref x0, .int p1, .int p2])).length) Slot.unset).toArray = ls at hl ⊢
  have hl : lv_has ls 4 [(0, .ref x0), (1, .int p1), (2, .int p2)] := hl
  refine W_genQ (fun Q hQ => ?_)
  refine lv_aload_n hx hb dX11_cost_0 rfl (lv_at hl 0 rfl) ?_
  refine va_get (D := D) (ci := 11) (v := .ref aq) (C := RX11) (T := TX11) (N := 9) hx hb hg gwX11 hown hK hP 0 rfl rfl 2 (by decide) (hg _ kw_7) (fun _ h9 => h9) rfl dX11_cost_1 ?_
  refine lv_iload_n hx hb dX11_cost_4 rfl (lv_at hl 1 rfl) ?_
  have hPc := hP.sub (ws' := [(aq, .inr (5, [.ref a1, .ref a2, .ref a3, .ref a4, .int 0, .int 0, .long 0]))]) [1] rfl
  have hKc := hK.sub (tys' := []) [] rfl
  refine vp_callSi (W.runV (As := [.int p1]) (rest := []) ⟨hx, hb, hml, hown, hg⟩ (q_hasPerson l D aq a1 a2 a3 a4 p1) (cwV 1 hg (gw_V kw_14 kw_15 kw_16 kw_12 kw_13) rfl rfl rfl (by decide +kernel) ⟨Nat.le_of_ble_eq_true rfl, Nat.le_of_ble_eq_true rfl⟩) (pr_SV (q := (RX5, TX5, 7)) 5 0 hKc hPc rfl rfl) rfl rfl hl.1 rfl (lv_room (Nat.le_of_ble_eq_true rfl)) dX11_cost_5 ⟨Nat.le_of_ble_eq_true rfl, Nat.le_of_ble_eq_true rfl⟩) (fun r_5 h_5 => ?_)
  obtain rfl : r_5 = (0 : Int32) := h_5
  refine lv_if_ne (tgt := 14) hx hb dX11_cost_8 (by decide) (fun c_8 => absurd c_8 (by decide)) (fun c_8 => ?_)
  refine lv_bipush (v := (-101)) hx hb dX11_cost_11 (by decide) ?_
  subst hQ
  exact W.iret (v := (-101)) hx hb hr (fun t ht hW => ⟨(-101), rfl, rfl, ht⟩) (fun _ h => absurd h List.not_mem_nil) dX11_cost_13

theorem dX11_thinks_0 : decode cX11_thinks 0 = .ok (.aload_n 0, 1) := by decide +kernel
theorem dX11_thinks_1 : decode cX11_thinks 1 = .ok (.getfield 26, 3) := by decide +kernel
theorem dX11_thinks_4 : decode cX11_thinks 4 = .ok (.iload_n 1, 1) := by decide +kernel
theorem dX11_thinks_5 : decode cX11_thinks 5 = .ok (.invokevirtual 98, 3) := by decide +kernel
theorem dX11_thinks_8 : decode cX11_thinks 8 = .ok (.ifCond .eq 19, 3) := by decide +kernel
theorem dX11_thinks_11 : decode cX11_thinks 11 = .ok (.aload_n 0, 1) := by decide +kernel
theorem dX11_thinks_12 : decode cX11_thinks 12 = .ok (.getfield 26, 3) := by decide +kernel
theorem dX11_thinks_15 : decode cX11_thinks 15 = .ok (.iload_n 3, 1) := by decide +kernel
theorem dX11_thinks_16 : decode cX11_thinks 16 = .ok (.invokevirtual 98, 3) := by decide +kernel
theorem dX11_thinks_19 : decode cX11_thinks 19 = .ok (.ifCond .eq 8, 3) := by decide +kernel
theorem dX11_thinks_22 : decode cX11_thinks 22 = .ok (.iload_n 1, 1) := by decide +kernel
theorem dX11_thinks_23 : decode cX11_thinks 23 = .ok (.iload_n 3, 1) := by decide +kernel
theorem dX11_thinks_24 : decode cX11_thinks 24 = .ok (.if_icmp .ne 7, 3) := by decide +kernel
theorem dX11_thinks_27 : decode cX11_thinks 27 = .ok (.ldc2_w 112, 3) := by decide +kernel
theorem dX11_thinks_30 : decode cX11_thinks 30 = .ok (.lreturn, 1) := by decide +kernel
theorem dX11_thinks_31 : decode cX11_thinks 31 = .ok (.iload_n 2, 1) := by decide +kernel
theorem dX11_thinks_32 : decode cX11_thinks 32 = .ok (.iconst 0, 1) := by decide +kernel
theorem dX11_thinks_33 : decode cX11_thinks 33 = .ok (.iconst 1, 1) := by decide +kernel
theorem dX11_thinks_34 : decode cX11_thinks 34 = .ok (.invokestatic 105, 3) := by decide +kernel
theorem dX11_thinks_37 : decode cX11_thinks 37 = .ok (.ifCond .eq 13, 3) := by decide +kernel
theorem dX11_thinks_40 : decode cX11_thinks 40 = .ok (.iload 4, 2) := by decide +kernel
theorem dX11_thinks_42 : decode cX11_thinks 42 = .ok (.iconst 0, 1) := by decide +kernel
theorem dX11_thinks_43 : decode cX11_thinks 43 = .ok (.iconst 1, 1) := by decide +kernel
theorem dX11_thinks_44 : decode cX11_thinks 44 = .ok (.invokestatic 105, 3) := by decide +kernel
theorem dX11_thinks_47 : decode cX11_thinks 47 = .ok (.ifCond .ne 7, 3) := by decide +kernel
theorem dX11_thinks_50 : decode cX11_thinks 50 = .ok (.ldc2_w 114, 3) := by decide +kernel
theorem dX11_thinks_53 : decode cX11_thinks 53 = .ok (.lreturn, 1) := by decide +kernel
theorem dX11_thinks_54 : decode cX11_thinks 54 = .ok (.aload_n 0, 1) := by decide +kernel
theorem dX11_thinks_55 : decode cX11_thinks 55 = .ok (.getfield 26, 3) := by decide +kernel
theorem dX11_thinks_58 : decode cX11_thinks 58 = .ok (.iload_n 1, 1) := by decide +kernel
theorem dX11_thinks_59 : decode cX11_thinks 59 = .ok (.iload_n 2, 1) := by decide +kernel
theorem dX11_thinks_60 : decode cX11_thinks 60 = .ok (.invokevirtual 116, 3) := by decide +kernel
theorem dX11_thinks_63 : decode cX11_thinks 63 = .ok (.lstore 5, 2) := by decide +kernel
theorem dX11_thinks_65 : decode cX11_thinks 65 = .ok (.lload 5, 2) := by decide +kernel
theorem dX11_thinks_67 : decode cX11_thinks 67 = .ok (.lconst 0, 1) := by decide +kernel
theorem dX11_thinks_68 : decode cX11_thinks 68 = .ok (.lcmp, 1) := by decide +kernel
theorem dX11_thinks_69 : decode cX11_thinks 69 = .ok (.ifCond .ne 7, 3) := by decide +kernel
theorem dX11_thinks_72 : decode cX11_thinks 72 = .ok (.ldc2_w 120, 3) := by decide +kernel
theorem dX11_thinks_75 : decode cX11_thinks 75 = .ok (.lreturn, 1) := by decide +kernel
theorem dX11_thinks_76 : decode cX11_thinks 76 = .ok (.aload_n 0, 1) := by decide +kernel
theorem dX11_thinks_77 : decode cX11_thinks 77 = .ok (.getfield 26, 3) := by decide +kernel
theorem dX11_thinks_80 : decode cX11_thinks 80 = .ok (.iload_n 1, 1) := by decide +kernel
theorem dX11_thinks_81 : decode cX11_thinks 81 = .ok (.iload_n 2, 1) := by decide +kernel
theorem dX11_thinks_82 : decode cX11_thinks 82 = .ok (.iload_n 3, 1) := by decide +kernel
theorem dX11_thinks_83 : decode cX11_thinks 83 = .ok (.invokevirtual 122, 3) := by decide +kernel
theorem dX11_thinks_86 : decode cX11_thinks 86 = .ok (.lload 5, 2) := by decide +kernel
theorem dX11_thinks_88 : decode cX11_thinks 88 = .ok (.iload 4, 2) := by decide +kernel
theorem dX11_thinks_90 : decode cX11_thinks 90 = .ok (.invokestatic 126, 3) := by decide +kernel
theorem dX11_thinks_93 : decode cX11_thinks 93 = .ok (.lreturn, 1) := by decide +kernel
theorem kw_17 : (.constantLong RX11 112 (-101) : Cond) ∈ gw_tbl := gw_in (by decide +kernel) (by decide +kernel)

set_option maxHeartbeats 4000000 in
set_option maxRecDepth 100000 in
theorem x_thinks (l : Launch) (D : va_G) (x0 : Nat) (pg : Nat) (rd : Nat) (aq : Nat) (py : Nat) (pl : Nat) (ch : Nat) (ro : Nat) (a1 : Nat) (a2 : Nat) (a3 : Nat) (a4 : Nat) (p1 : Int32) (p2 : Int32) (p3 : Int32) (p4 : Int32) : Met l yX11_thinks (Cond.code yX11_thinks cX11_thinks 7 (some .long) :: gw_tbl) ({ frames := 1, cells := 0, slots := 0, locals := 21 }) (pc_S D [] [(x0, .inr (11, [.ref pg, .ref rd, .ref aq, .ref py, .ref pl, .ref ch, .ref ro, .int 0, .int 0])), (aq, .inr (5, [.ref a1, .ref a2, .ref a3, .ref a4, .int 0, .int 0, .long 0]))] [.ref x0, .int p1, .int p2, .int p3, .int p4]) (vp_Sl (fun r => r = (-101))) 0 0 (fun _ => False) := by
  refine Met.ofW (cc := cX11_thinks) (maxL := 7) (ret := (some .long)) (by decide) rfl ?_
  intro p e s m args below meth c s₁ B hml hv
  obtain ⟨hargs, hP, hK⟩ := hv
  have hx := B.exec
  have hb := B.bytes
  have hr := B.returns
  have hts := atoms_spec (ws := Cond.code yX11_thinks cX11_thinks 7 (some .long) :: gw_tbl) B.pre
  have hg := fun (w : Cond) (h : w ∈ gw_tbl) => hts w (List.mem_cons_of_mem _ h)
  have hown : s.vm.findClass RX11 = some m.cls := findClass_of_methodNamed B.named
  have hlocks := B.notSynchronized
  have hl := lv_entry ([.ref x0, .int p1, .int p2, .int p3, .int p4]) (n := 7) (Nat.le_of_ble_eq_true rfl)
  rw [show entryFrame m args 7 = F0 m 0 (lg_sl ([.ref x0, .int p1, .int p2, .int p3, .int p4]) ++ List.replicate (7 - (lg_sl ([.ref x0, .int p1, .int p2, .int p3, .int p4])).length) Slot.unset).toArray [] from by rw [hargs]; exact lg_entry_eq ..]
  generalize (lg_sl ([.ref x0, .int p1, .int p2, .int p3, .int p4]) ++ List.replicate (7 - (lg_sl ([.ref x0, .int p1, .int p2, .int p3, .int p4])).length) Slot.unset).toArray = ls at hl ⊢
  have hl : lv_has ls 7 [(0, .ref x0), (1, .int p1), (2, .int p2), (3, .int p3), (4, .int p4)] := hl
  refine W_genQ (fun Q hQ => ?_)
  refine lv_aload_n hx hb dX11_thinks_0 rfl (lv_at hl 0 rfl) ?_
  refine va_get (D := D) (ci := 11) (v := .ref aq) (C := RX11) (T := TX11) (N := 9) hx hb hg gwX11 hown hK hP 0 rfl rfl 2 (by decide) (hg _ kw_7) (fun _ h9 => h9) rfl dX11_thinks_1 ?_
  refine lv_iload_n hx hb dX11_thinks_4 rfl (lv_at hl 1 rfl) ?_
  have hPc := hP.sub (ws' := [(aq, .inr (5, [.ref a1, .ref a2, .ref a3, .ref a4, .int 0, .int 0, .long 0]))]) [1] rfl
  have hKc := hK.sub (tys' := []) [] rfl
  refine vp_callSi (W.runV (As := [.int p1]) (rest := []) ⟨hx, hb, hml, hown, hg⟩ (q_hasPerson l D aq a1 a2 a3 a4 p1) (cwV 1 hg (gw_V kw_14 kw_15 kw_16 kw_12 kw_13) rfl rfl rfl (by decide +kernel) ⟨Nat.le_of_ble_eq_true rfl, Nat.le_of_ble_eq_true rfl⟩) (pr_SV (q := (RX5, TX5, 7)) 5 0 hKc hPc rfl rfl) rfl rfl hl.1 rfl (lv_room (Nat.le_of_ble_eq_true rfl)) dX11_thinks_5 ⟨Nat.le_of_ble_eq_true rfl, Nat.le_of_ble_eq_true rfl⟩) (fun r_5 h_5 => ?_)
  obtain rfl : r_5 = (0 : Int32) := h_5
  refine lv_if_eq (tgt := 27) hx hb dX11_thinks_8 (by decide) (fun c_8 => ?_) (fun c_8 => absurd (by decide) c_8)
  refine lv_ldc2 hx hb hown (hg _ kw_17) dX11_thinks_27 ?_
  subst hQ
  exact W.lret (v := (-101)) hx hb hr (fun t ht hW => ⟨(-101), rfl, rfl, ht⟩) (fun _ h => absurd h List.not_mem_nil) dX11_thinks_30

theorem dX11_as_0 : decode cX11_as 0 = .ok (.aload_n 0, 1) := by decide +kernel
theorem dX11_as_1 : decode cX11_as 1 = .ok (.iload_n 1, 1) := by decide +kernel
theorem dX11_as_2 : decode cX11_as 2 = .ok (.invokevirtual 145, 3) := by decide +kernel
theorem dX11_as_5 : decode cX11_as 5 = .ok (.astore_n 3, 1) := by decide +kernel
theorem dX11_as_6 : decode cX11_as 6 = .ok (.aload_n 3, 1) := by decide +kernel
theorem dX11_as_7 : decode cX11_as 7 = .ok (.ifnonnull 6, 3) := by decide +kernel
theorem dX11_as_10 : decode cX11_as 10 = .ok (.bipush (-101), 2) := by decide +kernel
theorem dX11_as_12 : decode cX11_as 12 = .ok (.ireturn, 1) := by decide +kernel
theorem dX11_as_13 : decode cX11_as 13 = .ok (.iload_n 2, 1) := by decide +kernel
theorem dX11_as_14 : decode cX11_as 14 = .ok (.iconst 0, 1) := by decide +kernel
theorem dX11_as_15 : decode cX11_as 15 = .ok (.iconst 4, 1) := by decide +kernel
theorem dX11_as_16 : decode cX11_as 16 = .ok (.invokestatic 105, 3) := by decide +kernel
theorem dX11_as_19 : decode cX11_as 19 = .ok (.ifCond .ne 6, 3) := by decide +kernel
theorem dX11_as_22 : decode cX11_as 22 = .ok (.bipush (-102), 2) := by decide +kernel
theorem dX11_as_24 : decode cX11_as 24 = .ok (.ireturn, 1) := by decide +kernel
theorem dX11_as_25 : decode cX11_as 25 = .ok (.aload_n 3, 1) := by decide +kernel
theorem dX11_as_26 : decode cX11_as 26 = .ok (.iload_n 2, 1) := by decide +kernel
theorem dX11_as_27 : decode cX11_as 27 = .ok (.invokestatic 148, 3) := by decide +kernel
theorem dX11_as_30 : decode cX11_as 30 = .ok (.ifCond .eq 7, 3) := by decide +kernel
theorem dX11_as_33 : decode cX11_as 33 = .ok (.iload_n 1, 1) := by decide +kernel
theorem dX11_as_34 : decode cX11_as 34 = .ok (.goto 4, 3) := by decide +kernel
theorem dX11_as_37 : decode cX11_as 37 = .ok (.iconst (-1), 1) := by decide +kernel
theorem dX11_as_38 : decode cX11_as 38 = .ok (.ireturn, 1) := by decide +kernel
theorem kw_18 : (.code yX11_payOf cX11_payOf 2 (some (.object "NobodyChecks$Pay")) : Cond) ∈ gw_tbl := gw_in (by decide +kernel) (by decide +kernel)
theorem kw_19 : (.methodLink RX11 145 yX11_payOf : Cond) ∈ gw_tbl := gw_in (by decide +kernel) (by decide +kernel)
theorem kw_20 : (.instanceMethod yX11_payOf : Cond) ∈ gw_tbl := gw_in (by decide +kernel) (by decide +kernel)
theorem kw_21 : (.selects RX11 yX11_payOf yX11_payOf : Cond) ∈ gw_tbl := gw_in (by decide +kernel) (by decide +kernel)

set_option maxHeartbeats 4000000 in
set_option maxRecDepth 100000 in
theorem x_as (l : Launch) (D : va_G) (x0 : Nat) (pg : Nat) (rd : Nat) (aq : Nat) (py : Nat) (pl : Nat) (ch : Nat) (ro : Nat) (p1 : Int32) (p2 : Int32) : Met l yX11_as (Cond.code yX11_as cX11_as 4 (some .int) :: gw_tbl) ({ frames := 2, cells := 0, slots := 0, locals := 43 }) (pc_S D [] [(x0, .inr (11, [.ref pg, .ref rd, .ref aq, .ref py, .ref pl, .ref ch, .ref ro, .int 0, .int 0]))] [.ref x0, .int p1, .int p2]) (vp_Si (fun r => r = (-101))) 0 0 (fun _ => False) := by
  refine Met.ofW (cc := cX11_as) (maxL := 4) (ret := (some .int)) (by decide) rfl ?_
  intro p e s m args below meth c s₁ B hml hv
  obtain ⟨hargs, hP, hK⟩ := hv
  have hx := B.exec
  have hb := B.bytes
  have hr := B.returns
  have hts := atoms_spec (ws := Cond.code yX11_as cX11_as 4 (some .int) :: gw_tbl) B.pre
  have hg := fun (w : Cond) (h : w ∈ gw_tbl) => hts w (List.mem_cons_of_mem _ h)
  have hown : s.vm.findClass RX11 = some m.cls := findClass_of_methodNamed B.named
  have hlocks := B.notSynchronized
  have hl := lv_entry ([.ref x0, .int p1, .int p2]) (n := 4) (Nat.le_of_ble_eq_true rfl)
  rw [show entryFrame m args 4 = F0 m 0 (lg_sl ([.ref x0, .int p1, .int p2]) ++ List.replicate (4 - (lg_sl ([.ref x0, .int p1, .int p2])).length) Slot.unset).toArray [] from by rw [hargs]; exact lg_entry_eq ..]
  generalize (lg_sl ([.ref x0, .int p1, .int p2]) ++ List.replicate (4 - (lg_sl ([.ref x0, .int p1, .int p2])).length) Slot.unset).toArray = ls at hl ⊢
  have hl : lv_has ls 4 [(0, .ref x0), (1, .int p1), (2, .int p2)] := hl
  refine W_genQ (fun Q hQ => ?_)
  refine lv_aload_n hx hb dX11_as_0 rfl (lv_at hl 0 rfl) ?_
  refine lv_iload_n hx hb dX11_as_1 rfl (lv_at hl 1 rfl) ?_
  have hPc := hP.sub (ws' := [(x0, .inr (11, [.ref pg, .ref rd, .ref aq, .ref py, .ref pl, .ref ch, .ref ro, .int 0, .int 0]))]) [0] rfl
  have hKc := hK.sub (tys' := []) [] rfl
  refine va_csq (W.runV (As := [.int p1]) (rest := []) ⟨hx, hb, hml, hown, hg⟩ (x_payOf l D x0 pg rd aq py pl ch ro p1) (cwV 1 hg (gw_V kw_19 kw_20 kw_21 kw_6 kw_18) rfl rfl rfl (by decide +kernel) ⟨Nat.le_of_ble_eq_true rfl, Nat.le_of_ble_eq_true rfl⟩) (pr_SV (q := (RX11, TX11, 9)) 11 0 hKc hPc rfl rfl) rfl rfl hl.1 rfl (lv_room (Nat.le_of_ble_eq_true rfl)) dX11_as_2 ⟨Nat.le_of_ble_eq_true rfl, Nat.le_of_ble_eq_true rfl⟩) (fun r_2 h_2 => ?_)
  obtain rfl : r_2 = none := h_2
  refine W.eq (g2 := F0 m 5 ls [.null]) rfl ?_
  refine lv_astore_nN (lv' := [(3, .null), (0, .ref x0), (1, .int p1), (2, .int p2)]) hx hb dX11_as_5 rfl hl (by decide) rfl (fun ls hl => ?_)
  refine lv_aload_nN hx hb dX11_as_6 rfl (lv_at hl 0 rfl) ?_
  refine lv_ifnonnullN hx hb dX11_as_7 ?_
  refine lv_bipush (v := (-101)) hx hb dX11_as_10 (by decide) ?_
  subst hQ
  exact W.iret (v := (-101)) hx hb hr (fun t ht hW => ⟨(-101), rfl, rfl, ht⟩) (fun _ h => absurd h List.not_mem_nil) dX11_as_12

theorem dX11_about_0 : decode cX11_about 0 = .ok (.aload_n 0, 1) := by decide +kernel
theorem dX11_about_1 : decode cX11_about 1 = .ok (.iload_n 1, 1) := by decide +kernel
theorem dX11_about_2 : decode cX11_about 2 = .ok (.invokevirtual 145, 3) := by decide +kernel
theorem dX11_about_5 : decode cX11_about 5 = .ok (.astore_n 3, 1) := by decide +kernel
theorem dX11_about_6 : decode cX11_about 6 = .ok (.aload_n 3, 1) := by decide +kernel
theorem dX11_about_7 : decode cX11_about 7 = .ok (.ifnonnull 6, 3) := by decide +kernel
theorem dX11_about_10 : decode cX11_about 10 = .ok (.bipush (-101), 2) := by decide +kernel
theorem dX11_about_12 : decode cX11_about 12 = .ok (.ireturn, 1) := by decide +kernel
theorem dX11_about_13 : decode cX11_about 13 = .ok (.iload_n 2, 1) := by decide +kernel
theorem dX11_about_14 : decode cX11_about 14 = .ok (.iconst 0, 1) := by decide +kernel
theorem dX11_about_15 : decode cX11_about 15 = .ok (.iconst 4, 1) := by decide +kernel
theorem dX11_about_16 : decode cX11_about 16 = .ok (.invokestatic 105, 3) := by decide +kernel
theorem dX11_about_19 : decode cX11_about 19 = .ok (.ifCond .ne 6, 3) := by decide +kernel
theorem dX11_about_22 : decode cX11_about 22 = .ok (.bipush (-102), 2) := by decide +kernel
theorem dX11_about_24 : decode cX11_about 24 = .ok (.ireturn, 1) := by decide +kernel
theorem dX11_about_25 : decode cX11_about 25 = .ok (.iload_n 2, 1) := by decide +kernel
theorem dX11_about_26 : decode cX11_about 26 = .ok (.iconst 4, 1) := by decide +kernel
theorem dX11_about_27 : decode cX11_about 27 = .ok (.if_icmp .ne 10, 3) := by decide +kernel
theorem dX11_about_30 : decode cX11_about 30 = .ok (.aload_n 3, 1) := by decide +kernel
theorem dX11_about_31 : decode cX11_about 31 = .ok (.invokevirtual 152, 3) := by decide +kernel
theorem dX11_about_34 : decode cX11_about 34 = .ok (.goto 9, 3) := by decide +kernel
theorem dX11_about_37 : decode cX11_about 37 = .ok (.aload_n 3, 1) := by decide +kernel
theorem dX11_about_38 : decode cX11_about 38 = .ok (.getfield 156, 3) := by decide +kernel
theorem dX11_about_41 : decode cX11_about 41 = .ok (.iload_n 2, 1) := by decide +kernel
theorem dX11_about_42 : decode cX11_about 42 = .ok (.iaload, 1) := by decide +kernel
theorem dX11_about_43 : decode cX11_about 43 = .ok (.ireturn, 1) := by decide +kernel

set_option maxHeartbeats 4000000 in
set_option maxRecDepth 100000 in
theorem x_about (l : Launch) (D : va_G) (x0 : Nat) (pg : Nat) (rd : Nat) (aq : Nat) (py : Nat) (pl : Nat) (ch : Nat) (ro : Nat) (p1 : Int32) (p2 : Int32) : Met l yX11_about (Cond.code yX11_about cX11_about 4 (some .int) :: gw_tbl) ({ frames := 2, cells := 0, slots := 0, locals := 43 }) (pc_S D [] [(x0, .inr (11, [.ref pg, .ref rd, .ref aq, .ref py, .ref pl, .ref ch, .ref ro, .int 0, .int 0]))] [.ref x0, .int p1, .int p2]) (vp_Si (fun r => r = (-101))) 0 0 (fun _ => False) := by
  refine Met.ofW (cc := cX11_about) (maxL := 4) (ret := (some .int)) (by decide) rfl ?_
  intro p e s m args below meth c s₁ B hml hv
  obtain ⟨hargs, hP, hK⟩ := hv
  have hx := B.exec
  have hb := B.bytes
  have hr := B.returns
  have hts := atoms_spec (ws := Cond.code yX11_about cX11_about 4 (some .int) :: gw_tbl) B.pre
  have hg := fun (w : Cond) (h : w ∈ gw_tbl) => hts w (List.mem_cons_of_mem _ h)
  have hown : s.vm.findClass RX11 = some m.cls := findClass_of_methodNamed B.named
  have hlocks := B.notSynchronized
  have hl := lv_entry ([.ref x0, .int p1, .int p2]) (n := 4) (Nat.le_of_ble_eq_true rfl)
  rw [show entryFrame m args 4 = F0 m 0 (lg_sl ([.ref x0, .int p1, .int p2]) ++ List.replicate (4 - (lg_sl ([.ref x0, .int p1, .int p2])).length) Slot.unset).toArray [] from by rw [hargs]; exact lg_entry_eq ..]
  generalize (lg_sl ([.ref x0, .int p1, .int p2]) ++ List.replicate (4 - (lg_sl ([.ref x0, .int p1, .int p2])).length) Slot.unset).toArray = ls at hl ⊢
  have hl : lv_has ls 4 [(0, .ref x0), (1, .int p1), (2, .int p2)] := hl
  refine W_genQ (fun Q hQ => ?_)
  refine lv_aload_n hx hb dX11_about_0 rfl (lv_at hl 0 rfl) ?_
  refine lv_iload_n hx hb dX11_about_1 rfl (lv_at hl 1 rfl) ?_
  have hPc := hP.sub (ws' := [(x0, .inr (11, [.ref pg, .ref rd, .ref aq, .ref py, .ref pl, .ref ch, .ref ro, .int 0, .int 0]))]) [0] rfl
  have hKc := hK.sub (tys' := []) [] rfl
  refine va_csq (W.runV (As := [.int p1]) (rest := []) ⟨hx, hb, hml, hown, hg⟩ (x_payOf l D x0 pg rd aq py pl ch ro p1) (cwV 1 hg (gw_V kw_19 kw_20 kw_21 kw_6 kw_18) rfl rfl rfl (by decide +kernel) ⟨Nat.le_of_ble_eq_true rfl, Nat.le_of_ble_eq_true rfl⟩) (pr_SV (q := (RX11, TX11, 9)) 11 0 hKc hPc rfl rfl) rfl rfl hl.1 rfl (lv_room (Nat.le_of_ble_eq_true rfl)) dX11_about_2 ⟨Nat.le_of_ble_eq_true rfl, Nat.le_of_ble_eq_true rfl⟩) (fun r_2 h_2 => ?_)
  obtain rfl : r_2 = none := h_2
  refine W.eq (g2 := F0 m 5 ls [.null]) rfl ?_
  refine lv_astore_nN (lv' := [(3, .null), (0, .ref x0), (1, .int p1), (2, .int p2)]) hx hb dX11_about_5 rfl hl (by decide) rfl (fun ls hl => ?_)
  refine lv_aload_nN hx hb dX11_about_6 rfl (lv_at hl 0 rfl) ?_
  refine lv_ifnonnullN hx hb dX11_about_7 ?_
  refine lv_bipush (v := (-101)) hx hb dX11_about_10 (by decide) ?_
  subst hQ
  exact W.iret (v := (-101)) hx hb hr (fun t ht hW => ⟨(-101), rfl, rfl, ht⟩) (fun _ h => absurd h List.not_mem_nil) dX11_about_12

theorem dX11_gets_0 : decode cX11_gets 0 = .ok (.aload_n 0, 1) := by decide +kernel
theorem dX11_gets_1 : decode cX11_gets 1 = .ok (.iload_n 1, 1) := by decide +kernel
theorem dX11_gets_2 : decode cX11_gets 2 = .ok (.invokevirtual 145, 3) := by decide +kernel
theorem dX11_gets_5 : decode cX11_gets 5 = .ok (.astore 4, 2) := by decide +kernel
theorem dX11_gets_7 : decode cX11_gets 7 = .ok (.aload 4, 2) := by decide +kernel
theorem dX11_gets_9 : decode cX11_gets 9 = .ok (.ifnull 14, 3) := by decide +kernel
theorem dX11_gets_12 : decode cX11_gets 12 = .ok (.aload_n 0, 1) := by decide +kernel
theorem dX11_gets_13 : decode cX11_gets 13 = .ok (.getfield 26, 3) := by decide +kernel
theorem dX11_gets_16 : decode cX11_gets 16 = .ok (.iload_n 2, 1) := by decide +kernel
theorem dX11_gets_17 : decode cX11_gets 17 = .ok (.invokevirtual 98, 3) := by decide +kernel
theorem dX11_gets_20 : decode cX11_gets 20 = .ok (.ifCond .ne 6, 3) := by decide +kernel
theorem dX11_gets_23 : decode cX11_gets 23 = .ok (.bipush (-101), 2) := by decide +kernel
theorem dX11_gets_25 : decode cX11_gets 25 = .ok (.ireturn, 1) := by decide +kernel
theorem dX11_gets_26 : decode cX11_gets 26 = .ok (.iload_n 3, 1) := by decide +kernel
theorem dX11_gets_27 : decode cX11_gets 27 = .ok (.iconst 0, 1) := by decide +kernel
theorem dX11_gets_28 : decode cX11_gets 28 = .ok (.aload_n 0, 1) := by decide +kernel
theorem dX11_gets_29 : decode cX11_gets 29 = .ok (.getfield 26, 3) := by decide +kernel
theorem dX11_gets_32 : decode cX11_gets 32 = .ok (.invokevirtual 159, 3) := by decide +kernel
theorem dX11_gets_35 : decode cX11_gets 35 = .ok (.iconst 1, 1) := by decide +kernel
theorem dX11_gets_36 : decode cX11_gets 36 = .ok (.isub, 1) := by decide +kernel
theorem dX11_gets_37 : decode cX11_gets 37 = .ok (.invokestatic 105, 3) := by decide +kernel
theorem dX11_gets_40 : decode cX11_gets 40 = .ok (.ifCond .ne 6, 3) := by decide +kernel
theorem dX11_gets_43 : decode cX11_gets 43 = .ok (.bipush (-102), 2) := by decide +kernel
theorem dX11_gets_45 : decode cX11_gets 45 = .ok (.ireturn, 1) := by decide +kernel
theorem dX11_gets_46 : decode cX11_gets 46 = .ok (.iload_n 3, 1) := by decide +kernel
theorem dX11_gets_47 : decode cX11_gets 47 = .ok (.iload_n 2, 1) := by decide +kernel
theorem dX11_gets_48 : decode cX11_gets 48 = .ok (.ishr, 1) := by decide +kernel
theorem dX11_gets_49 : decode cX11_gets 49 = .ok (.iconst 1, 1) := by decide +kernel
theorem dX11_gets_50 : decode cX11_gets 50 = .ok (.iand, 1) := by decide +kernel
theorem dX11_gets_51 : decode cX11_gets 51 = .ok (.istore 5, 2) := by decide +kernel
theorem dX11_gets_53 : decode cX11_gets 53 = .ok (.iload_n 3, 1) := by decide +kernel
theorem dX11_gets_54 : decode cX11_gets 54 = .ok (.invokestatic 162, 3) := by decide +kernel
theorem dX11_gets_57 : decode cX11_gets 57 = .ok (.iload 5, 2) := by decide +kernel
theorem dX11_gets_59 : decode cX11_gets 59 = .ok (.isub, 1) := by decide +kernel
theorem dX11_gets_60 : decode cX11_gets 60 = .ok (.istore 6, 2) := by decide +kernel
theorem dX11_gets_62 : decode cX11_gets 62 = .ok (.aload 4, 2) := by decide +kernel
theorem dX11_gets_64 : decode cX11_gets 64 = .ok (.iload 5, 2) := by decide +kernel
theorem dX11_gets_66 : decode cX11_gets 66 = .ok (.aload_n 0, 1) := by decide +kernel
theorem dX11_gets_67 : decode cX11_gets 67 = .ok (.getfield 26, 3) := by decide +kernel
theorem dX11_gets_70 : decode cX11_gets 70 = .ok (.getfield 87, 3) := by decide +kernel
theorem dX11_gets_73 : decode cX11_gets 73 = .ok (.iconst 1, 1) := by decide +kernel
theorem dX11_gets_74 : decode cX11_gets 74 = .ok (.isub, 1) := by decide +kernel
theorem dX11_gets_75 : decode cX11_gets 75 = .ok (.iload 6, 2) := by decide +kernel
theorem dX11_gets_77 : decode cX11_gets 77 = .ok (.isub, 1) := by decide +kernel
theorem dX11_gets_78 : decode cX11_gets 78 = .ok (.iload 6, 2) := by decide +kernel
theorem dX11_gets_80 : decode cX11_gets 80 = .ok (.invokevirtual 168, 3) := by decide +kernel
theorem dX11_gets_83 : decode cX11_gets 83 = .ok (.ireturn, 1) := by decide +kernel

set_option maxHeartbeats 4000000 in
set_option maxRecDepth 100000 in
theorem x_gets (l : Launch) (D : va_G) (x0 : Nat) (pg : Nat) (rd : Nat) (aq : Nat) (py : Nat) (pl : Nat) (ch : Nat) (ro : Nat) (p1 : Int32) (p2 : Int32) (p3 : Int32) : Met l yX11_gets (Cond.code yX11_gets cX11_gets 7 (some .int) :: gw_tbl) ({ frames := 2, cells := 0, slots := 0, locals := 43 }) (pc_S D [] [(x0, .inr (11, [.ref pg, .ref rd, .ref aq, .ref py, .ref pl, .ref ch, .ref ro, .int 0, .int 0]))] [.ref x0, .int p1, .int p2, .int p3]) (vp_Si (fun r => r = (-101))) 0 0 (fun _ => False) := by
  refine Met.ofW (cc := cX11_gets) (maxL := 7) (ret := (some .int)) (by decide) rfl ?_
  intro p e s m args below meth c s₁ B hml hv
  obtain ⟨hargs, hP, hK⟩ := hv
  have hx := B.exec
  have hb := B.bytes
  have hr := B.returns
  have hts := atoms_spec (ws := Cond.code yX11_gets cX11_gets 7 (some .int) :: gw_tbl) B.pre
  have hg := fun (w : Cond) (h : w ∈ gw_tbl) => hts w (List.mem_cons_of_mem _ h)
  have hown : s.vm.findClass RX11 = some m.cls := findClass_of_methodNamed B.named
  have hlocks := B.notSynchronized
  have hl := lv_entry ([.ref x0, .int p1, .int p2, .int p3]) (n := 7) (Nat.le_of_ble_eq_true rfl)
  rw [show entryFrame m args 7 = F0 m 0 (lg_sl ([.ref x0, .int p1, .int p2, .int p3]) ++ List.replicate (7 - (lg_sl ([.ref x0, .int p1, .int p2, .int p3])).length) Slot.unset).toArray [] from by rw [hargs]; exact lg_entry_eq ..]
  generalize (lg_sl ([.ref x0, .int p1, .int p2, .int p3]) ++ List.replicate (7 - (lg_sl ([.ref x0, .int p1, .int p2, .int p3])).length) Slot.unset).toArray = ls at hl ⊢
  have hl : lv_has ls 7 [(0, .ref x0), (1, .int p1), (2, .int p2), (3, .int p3)] := hl
  refine W_genQ (fun Q hQ => ?_)
  refine lv_aload_n hx hb dX11_gets_0 rfl (lv_at hl 0 rfl) ?_
  refine lv_iload_n hx hb dX11_gets_1 rfl (lv_at hl 1 rfl) ?_
  have hPc := hP.sub (ws' := [(x0, .inr (11, [.ref pg, .ref rd, .ref aq, .ref py, .ref pl, .ref ch, .ref ro, .int 0, .int 0]))]) [0] rfl
  have hKc := hK.sub (tys' := []) [] rfl
  refine va_csq (W.runV (As := [.int p1]) (rest := []) ⟨hx, hb, hml, hown, hg⟩ (x_payOf l D x0 pg rd aq py pl ch ro p1) (cwV 1 hg (gw_V kw_19 kw_20 kw_21 kw_6 kw_18) rfl rfl rfl (by decide +kernel) ⟨Nat.le_of_ble_eq_true rfl, Nat.le_of_ble_eq_true rfl⟩) (pr_SV (q := (RX11, TX11, 9)) 11 0 hKc hPc rfl rfl) rfl rfl hl.1 rfl (lv_room (Nat.le_of_ble_eq_true rfl)) dX11_gets_2 ⟨Nat.le_of_ble_eq_true rfl, Nat.le_of_ble_eq_true rfl⟩) (fun r_2 h_2 => ?_)
  obtain rfl : r_2 = none := h_2
  refine W.eq (g2 := F0 m 5 ls [.null]) rfl ?_
  refine lv_astoreN (lv' := [(4, .null), (0, .ref x0), (1, .int p1), (2, .int p2), (3, .int p3)]) hx hb dX11_gets_5 hl (by decide) rfl (fun ls hl => ?_)
  refine lv_aloadN hx hb dX11_gets_7 (lv_at hl 0 rfl) ?_
  refine lv_ifnullN (tgt := 23) hx hb dX11_gets_9 (by decide) ?_
  refine lv_bipush (v := (-101)) hx hb dX11_gets_23 (by decide) ?_
  subst hQ
  exact W.iret (v := (-101)) hx hb hr (fun t ht hW => ⟨(-101), rfl, rfl, ht⟩) (fun _ h => absurd h List.not_mem_nil) dX11_gets_25

theorem dX11_worth_0 : decode cX11_worth 0 = .ok (.aload_n 0, 1) := by decide +kernel
theorem dX11_worth_1 : decode cX11_worth 1 = .ok (.iload_n 1, 1) := by decide +kernel
theorem dX11_worth_2 : decode cX11_worth 2 = .ok (.invokevirtual 145, 3) := by decide +kernel
theorem dX11_worth_5 : decode cX11_worth 5 = .ok (.astore 5, 2) := by decide +kernel
theorem dX11_worth_7 : decode cX11_worth 7 = .ok (.aload 5, 2) := by decide +kernel
theorem dX11_worth_9 : decode cX11_worth 9 = .ok (.ifnull 14, 3) := by decide +kernel
theorem dX11_worth_12 : decode cX11_worth 12 = .ok (.aload_n 0, 1) := by decide +kernel
theorem dX11_worth_13 : decode cX11_worth 13 = .ok (.getfield 26, 3) := by decide +kernel
theorem dX11_worth_16 : decode cX11_worth 16 = .ok (.iload_n 3, 1) := by decide +kernel
theorem dX11_worth_17 : decode cX11_worth 17 = .ok (.invokevirtual 98, 3) := by decide +kernel
theorem dX11_worth_20 : decode cX11_worth 20 = .ok (.ifCond .ne 7, 3) := by decide +kernel
theorem dX11_worth_23 : decode cX11_worth 23 = .ok (.ldc2_w 172, 3) := by decide +kernel
theorem dX11_worth_26 : decode cX11_worth 26 = .ok (.lreturn, 1) := by decide +kernel
theorem dX11_worth_27 : decode cX11_worth 27 = .ok (.aload_n 0, 1) := by decide +kernel
theorem dX11_worth_28 : decode cX11_worth 28 = .ok (.getfield 26, 3) := by decide +kernel
theorem dX11_worth_31 : decode cX11_worth 31 = .ok (.iload_n 2, 1) := by decide +kernel
theorem dX11_worth_32 : decode cX11_worth 32 = .ok (.invokevirtual 174, 3) := by decide +kernel
theorem dX11_worth_35 : decode cX11_worth 35 = .ok (.ifCond .eq 13, 3) := by decide +kernel
theorem dX11_worth_38 : decode cX11_worth 38 = .ok (.iload 4, 2) := by decide +kernel
theorem dX11_worth_40 : decode cX11_worth 40 = .ok (.iconst 0, 1) := by decide +kernel
theorem dX11_worth_41 : decode cX11_worth 41 = .ok (.iconst 1, 1) := by decide +kernel
theorem dX11_worth_42 : decode cX11_worth 42 = .ok (.invokestatic 105, 3) := by decide +kernel
theorem dX11_worth_45 : decode cX11_worth 45 = .ok (.ifCond .ne 7, 3) := by decide +kernel
theorem dX11_worth_48 : decode cX11_worth 48 = .ok (.ldc2_w 177, 3) := by decide +kernel
theorem dX11_worth_51 : decode cX11_worth 51 = .ok (.lreturn, 1) := by decide +kernel
theorem dX11_worth_52 : decode cX11_worth 52 = .ok (.aload_n 0, 1) := by decide +kernel
theorem dX11_worth_53 : decode cX11_worth 53 = .ok (.getfield 41, 3) := by decide +kernel
theorem dX11_worth_56 : decode cX11_worth 56 = .ok (.aload 5, 2) := by decide +kernel
theorem dX11_worth_58 : decode cX11_worth 58 = .ok (.invokevirtual 179, 3) := by decide +kernel
theorem dX11_worth_61 : decode cX11_worth 61 = .ok (.aload_n 0, 1) := by decide +kernel
theorem dX11_worth_62 : decode cX11_worth 62 = .ok (.getfield 41, 3) := by decide +kernel
theorem dX11_worth_65 : decode cX11_worth 65 = .ok (.iload_n 2, 1) := by decide +kernel
theorem dX11_worth_66 : decode cX11_worth 66 = .ok (.iload_n 3, 1) := by decide +kernel
theorem dX11_worth_67 : decode cX11_worth 67 = .ok (.invokevirtual 183, 3) := by decide +kernel
theorem dX11_worth_70 : decode cX11_worth 70 = .ok (.aload_n 0, 1) := by decide +kernel
theorem dX11_worth_71 : decode cX11_worth 71 = .ok (.getfield 41, 3) := by decide +kernel
theorem dX11_worth_74 : decode cX11_worth 74 = .ok (.getfield 186, 3) := by decide +kernel
theorem dX11_worth_77 : decode cX11_worth 77 = .ok (.iload 4, 2) := by decide +kernel
theorem dX11_worth_79 : decode cX11_worth 79 = .ok (.invokestatic 126, 3) := by decide +kernel
theorem dX11_worth_82 : decode cX11_worth 82 = .ok (.lreturn, 1) := by decide +kernel
theorem kw_22 : (.constantLong RX11 172 (-2000000000000000001) : Cond) ∈ gw_tbl := gw_in (by decide +kernel) (by decide +kernel)

set_option maxHeartbeats 4000000 in
set_option maxRecDepth 100000 in
theorem x_worth (l : Launch) (D : va_G) (x0 : Nat) (pg : Nat) (rd : Nat) (aq : Nat) (py : Nat) (pl : Nat) (ch : Nat) (ro : Nat) (p1 : Int32) (p2 : Int32) (p3 : Int32) (p4 : Int32) : Met l yX11_worth (Cond.code yX11_worth cX11_worth 6 (some .long) :: gw_tbl) ({ frames := 2, cells := 0, slots := 0, locals := 43 }) (pc_S D [] [(x0, .inr (11, [.ref pg, .ref rd, .ref aq, .ref py, .ref pl, .ref ch, .ref ro, .int 0, .int 0]))] [.ref x0, .int p1, .int p2, .int p3, .int p4]) (vp_Sl (fun r => r = (-2000000000000000001))) 0 0 (fun _ => False) := by
  refine Met.ofW (cc := cX11_worth) (maxL := 6) (ret := (some .long)) (by decide) rfl ?_
  intro p e s m args below meth c s₁ B hml hv
  obtain ⟨hargs, hP, hK⟩ := hv
  have hx := B.exec
  have hb := B.bytes
  have hr := B.returns
  have hts := atoms_spec (ws := Cond.code yX11_worth cX11_worth 6 (some .long) :: gw_tbl) B.pre
  have hg := fun (w : Cond) (h : w ∈ gw_tbl) => hts w (List.mem_cons_of_mem _ h)
  have hown : s.vm.findClass RX11 = some m.cls := findClass_of_methodNamed B.named
  have hlocks := B.notSynchronized
  have hl := lv_entry ([.ref x0, .int p1, .int p2, .int p3, .int p4]) (n := 6) (Nat.le_of_ble_eq_true rfl)
  rw [show entryFrame m args 6 = F0 m 0 (lg_sl ([.ref x0, .int p1, .int p2, .int p3, .int p4]) ++ List.replicate (6 - (lg_sl ([.ref x0, .int p1, .int p2, .int p3, .int p4])).length) Slot.unset).toArray [] from by rw [hargs]; exact lg_entry_eq ..]
  generalize (lg_sl ([.ref x0, .int p1, .int p2, .int p3, .int p4]) ++ List.replicate (6 - (lg_sl ([.ref x0, .int p1, .int p2, .int p3, .int p4])).length) Slot.unset).toArray = ls at hl ⊢
  have hl : lv_has ls 6 [(0, .ref x0), (1, .int p1), (2, .int p2), (3, .int p3), (4, .int p4)] := hl
  refine W_genQ (fun Q hQ => ?_)
  refine lv_aload_n hx hb dX11_worth_0 rfl (lv_at hl 0 rfl) ?_
  refine lv_iload_n hx hb dX11_worth_1 rfl (lv_at hl 1 rfl) ?_
  have hPc := hP.sub (ws' := [(x0, .inr (11, [.ref pg, .ref rd, .ref aq, .ref py, .ref pl, .ref ch, .ref ro, .int 0, .int 0]))]) [0] rfl
  have hKc := hK.sub (tys' := []) [] rfl
  refine va_csq (W.runV (As := [.int p1]) (rest := []) ⟨hx, hb, hml, hown, hg⟩ (x_payOf l D x0 pg rd aq py pl ch ro p1) (cwV 1 hg (gw_V kw_19 kw_20 kw_21 kw_6 kw_18) rfl rfl rfl (by decide +kernel) ⟨Nat.le_of_ble_eq_true rfl, Nat.le_of_ble_eq_true rfl⟩) (pr_SV (q := (RX11, TX11, 9)) 11 0 hKc hPc rfl rfl) rfl rfl hl.1 rfl (lv_room (Nat.le_of_ble_eq_true rfl)) dX11_worth_2 ⟨Nat.le_of_ble_eq_true rfl, Nat.le_of_ble_eq_true rfl⟩) (fun r_2 h_2 => ?_)
  obtain rfl : r_2 = none := h_2
  refine W.eq (g2 := F0 m 5 ls [.null]) rfl ?_
  refine lv_astoreN (lv' := [(5, .null), (0, .ref x0), (1, .int p1), (2, .int p2), (3, .int p3), (4, .int p4)]) hx hb dX11_worth_5 hl (by decide) rfl (fun ls hl => ?_)
  refine lv_aloadN hx hb dX11_worth_7 (lv_at hl 0 rfl) ?_
  refine lv_ifnullN (tgt := 23) hx hb dX11_worth_9 (by decide) ?_
  refine lv_ldc2 hx hb hown (hg _ kw_22) dX11_worth_23 ?_
  subst hQ
  exact W.lret (v := (-2000000000000000001)) hx hb hr (fun t ht hW => ⟨(-2000000000000000001), rfl, rfl, ht⟩) (fun _ h => absurd h List.not_mem_nil) dX11_worth_26

theorem dX11_rests_0 : decode cX11_rests 0 = .ok (.aload_n 0, 1) := by decide +kernel
theorem dX11_rests_1 : decode cX11_rests 1 = .ok (.iload_n 1, 1) := by decide +kernel
theorem dX11_rests_2 : decode cX11_rests 2 = .ok (.invokevirtual 145, 3) := by decide +kernel
theorem dX11_rests_5 : decode cX11_rests 5 = .ok (.astore 4, 2) := by decide +kernel
theorem dX11_rests_7 : decode cX11_rests 7 = .ok (.aload_n 0, 1) := by decide +kernel
theorem dX11_rests_8 : decode cX11_rests 8 = .ok (.aload 4, 2) := by decide +kernel
theorem dX11_rests_10 : decode cX11_rests 10 = .ok (.iload_n 2, 1) := by decide +kernel
theorem dX11_rests_11 : decode cX11_rests 11 = .ok (.iload_n 3, 1) := by decide +kernel
theorem dX11_rests_12 : decode cX11_rests 12 = .ok (.iconst 2, 1) := by decide +kernel
theorem dX11_rests_13 : decode cX11_rests 13 = .ok (.invokevirtual 190, 3) := by decide +kernel
theorem dX11_rests_16 : decode cX11_rests 16 = .ok (.istore 5, 2) := by decide +kernel
theorem dX11_rests_18 : decode cX11_rests 18 = .ok (.aload 4, 2) := by decide +kernel
theorem dX11_rests_20 : decode cX11_rests 20 = .ok (.ifnull 8, 3) := by decide +kernel
theorem dX11_rests_23 : decode cX11_rests 23 = .ok (.iload 5, 2) := by decide +kernel
theorem dX11_rests_25 : decode cX11_rests 25 = .ok (.ifCond .eq 6, 3) := by decide +kernel
theorem dX11_rests_28 : decode cX11_rests 28 = .ok (.iload 5, 2) := by decide +kernel
theorem dX11_rests_30 : decode cX11_rests 30 = .ok (.ireturn, 1) := by decide +kernel
theorem dX11_rests_31 : decode cX11_rests 31 = .ok (.aload_n 0, 1) := by decide +kernel
theorem dX11_rests_32 : decode cX11_rests 32 = .ok (.getfield 41, 3) := by decide +kernel
theorem dX11_rests_35 : decode cX11_rests 35 = .ok (.aload 4, 2) := by decide +kernel
theorem dX11_rests_37 : decode cX11_rests 37 = .ok (.invokevirtual 179, 3) := by decide +kernel
theorem dX11_rests_40 : decode cX11_rests 40 = .ok (.aload_n 0, 1) := by decide +kernel
theorem dX11_rests_41 : decode cX11_rests 41 = .ok (.getfield 41, 3) := by decide +kernel
theorem dX11_rests_44 : decode cX11_rests 44 = .ok (.iload_n 2, 1) := by decide +kernel
theorem dX11_rests_45 : decode cX11_rests 45 = .ok (.invokevirtual 194, 3) := by decide +kernel
theorem dX11_rests_48 : decode cX11_rests 48 = .ok (.istore 6, 2) := by decide +kernel
theorem dX11_rests_50 : decode cX11_rests 50 = .ok (.iload_n 3, 1) := by decide +kernel
theorem dX11_rests_51 : decode cX11_rests 51 = .ok (.ifCond .ne 15, 3) := by decide +kernel
theorem dX11_rests_54 : decode cX11_rests 54 = .ok (.iload 6, 2) := by decide +kernel
theorem dX11_rests_56 : decode cX11_rests 56 = .ok (.iconst (-1), 1) := by decide +kernel
theorem dX11_rests_57 : decode cX11_rests 57 = .ok (.if_icmp .ne 7, 3) := by decide +kernel
theorem dX11_rests_60 : decode cX11_rests 60 = .ok (.iconst 1, 1) := by decide +kernel
theorem dX11_rests_61 : decode cX11_rests 61 = .ok (.goto 4, 3) := by decide +kernel
theorem dX11_rests_64 : decode cX11_rests 64 = .ok (.iconst 0, 1) := by decide +kernel
theorem dX11_rests_65 : decode cX11_rests 65 = .ok (.ireturn, 1) := by decide +kernel
theorem dX11_rests_66 : decode cX11_rests 66 = .ok (.iload_n 3, 1) := by decide +kernel
theorem dX11_rests_67 : decode cX11_rests 67 = .ok (.iconst 1, 1) := by decide +kernel
theorem dX11_rests_68 : decode cX11_rests 68 = .ok (.if_icmp .eq 9, 3) := by decide +kernel
theorem dX11_rests_71 : decode cX11_rests 71 = .ok (.iload 6, 2) := by decide +kernel
theorem dX11_rests_73 : decode cX11_rests 73 = .ok (.iconst (-1), 1) := by decide +kernel
theorem dX11_rests_74 : decode cX11_rests 74 = .ok (.if_icmp .ne 8, 3) := by decide +kernel
theorem dX11_rests_77 : decode cX11_rests 77 = .ok (.iload 6, 2) := by decide +kernel
theorem dX11_rests_79 : decode cX11_rests 79 = .ok (.goto 13, 3) := by decide +kernel
theorem dX11_rests_82 : decode cX11_rests 82 = .ok (.aload_n 0, 1) := by decide +kernel
theorem dX11_rests_83 : decode cX11_rests 83 = .ok (.getfield 41, 3) := by decide +kernel
theorem dX11_rests_86 : decode cX11_rests 86 = .ok (.iload_n 2, 1) := by decide +kernel
theorem dX11_rests_87 : decode cX11_rests 87 = .ok (.iload 6, 2) := by decide +kernel
theorem dX11_rests_89 : decode cX11_rests 89 = .ok (.invokevirtual 197, 3) := by decide +kernel
theorem dX11_rests_92 : decode cX11_rests 92 = .ok (.ireturn, 1) := by decide +kernel
theorem kw_23 : (.code yX11_refusalOf cX11_refusalOf 5 (some .int) : Cond) ∈ gw_tbl := gw_in (by decide +kernel) (by decide +kernel)
theorem kw_24 : (.methodLink RX11 190 yX11_refusalOf : Cond) ∈ gw_tbl := gw_in (by decide +kernel) (by decide +kernel)
theorem kw_25 : (.instanceMethod yX11_refusalOf : Cond) ∈ gw_tbl := gw_in (by decide +kernel) (by decide +kernel)
theorem kw_26 : (.selects RX11 yX11_refusalOf yX11_refusalOf : Cond) ∈ gw_tbl := gw_in (by decide +kernel) (by decide +kernel)

set_option maxHeartbeats 4000000 in
set_option maxRecDepth 100000 in
theorem x_rests (l : Launch) (D : va_G) (x0 : Nat) (pg : Nat) (rd : Nat) (aq : Nat) (py : Nat) (pl : Nat) (ch : Nat) (ro : Nat) (p1 : Int32) (p2 : Int32) (p3 : Int32) : Met l yX11_rests (Cond.code yX11_rests cX11_rests 7 (some .int) :: gw_tbl) ({ frames := 2, cells := 0, slots := 0, locals := 43 }) (pc_S D [] [(x0, .inr (11, [.ref pg, .ref rd, .ref aq, .ref py, .ref pl, .ref ch, .ref ro, .int 0, .int 0]))] [.ref x0, .int p1, .int p2, .int p3]) (vp_Si (fun r => r = (-101))) 0 0 (fun _ => False) := by
  refine Met.ofW (cc := cX11_rests) (maxL := 7) (ret := (some .int)) (by decide) rfl ?_
  intro p e s m args below meth c s₁ B hml hv
  obtain ⟨hargs, hP, hK⟩ := hv
  have hx := B.exec
  have hb := B.bytes
  have hr := B.returns
  have hts := atoms_spec (ws := Cond.code yX11_rests cX11_rests 7 (some .int) :: gw_tbl) B.pre
  have hg := fun (w : Cond) (h : w ∈ gw_tbl) => hts w (List.mem_cons_of_mem _ h)
  have hown : s.vm.findClass RX11 = some m.cls := findClass_of_methodNamed B.named
  have hlocks := B.notSynchronized
  have hl := lv_entry ([.ref x0, .int p1, .int p2, .int p3]) (n := 7) (Nat.le_of_ble_eq_true rfl)
  rw [show entryFrame m args 7 = F0 m 0 (lg_sl ([.ref x0, .int p1, .int p2, .int p3]) ++ List.replicate (7 - (lg_sl ([.ref x0, .int p1, .int p2, .int p3])).length) Slot.unset).toArray [] from by rw [hargs]; exact lg_entry_eq ..]
  generalize (lg_sl ([.ref x0, .int p1, .int p2, .int p3]) ++ List.replicate (7 - (lg_sl ([.ref x0, .int p1, .int p2, .int p3])).length) Slot.unset).toArray = ls at hl ⊢
  have hl : lv_has ls 7 [(0, .ref x0), (1, .int p1), (2, .int p2), (3, .int p3)] := hl
  refine W_genQ (fun Q hQ => ?_)
  refine lv_aload_n hx hb dX11_rests_0 rfl (lv_at hl 0 rfl) ?_
  refine lv_iload_n hx hb dX11_rests_1 rfl (lv_at hl 1 rfl) ?_
  have hPc := hP.sub (ws' := [(x0, .inr (11, [.ref pg, .ref rd, .ref aq, .ref py, .ref pl, .ref ch, .ref ro, .int 0, .int 0]))]) [0] rfl
  have hKc := hK.sub (tys' := []) [] rfl
  refine va_csq (W.runV (As := [.int p1]) (rest := []) ⟨hx, hb, hml, hown, hg⟩ (x_payOf l D x0 pg rd aq py pl ch ro p1) (cwV 1 hg (gw_V kw_19 kw_20 kw_21 kw_6 kw_18) rfl rfl rfl (by decide +kernel) ⟨Nat.le_of_ble_eq_true rfl, Nat.le_of_ble_eq_true rfl⟩) (pr_SV (q := (RX11, TX11, 9)) 11 0 hKc hPc rfl rfl) rfl rfl hl.1 rfl (lv_room (Nat.le_of_ble_eq_true rfl)) dX11_rests_2 ⟨Nat.le_of_ble_eq_true rfl, Nat.le_of_ble_eq_true rfl⟩) (fun r_2 h_2 => ?_)
  obtain rfl : r_2 = none := h_2
  refine W.eq (g2 := F0 m 5 ls [.null]) rfl ?_
  refine lv_astoreN (lv' := [(4, .null), (0, .ref x0), (1, .int p1), (2, .int p2), (3, .int p3)]) hx hb dX11_rests_5 hl (by decide) rfl (fun ls hl => ?_)
  refine lv_aload_n hx hb dX11_rests_7 rfl (lv_at hl 1 rfl) ?_
  refine lv_aloadN hx hb dX11_rests_8 (lv_at hl 0 rfl) ?_
  refine lv_iload_n hx hb dX11_rests_10 rfl (lv_at hl 3 rfl) ?_
  refine lv_iload_n hx hb dX11_rests_11 rfl (lv_at hl 4 rfl) ?_
  refine lv_iconst (v := 2) hx hb dX11_rests_12 (by decide) ?_
  have hPc := hP.sub (ws' := [(x0, .inr (11, [.ref pg, .ref rd, .ref aq, .ref py, .ref pl, .ref ch, .ref ro, .int 0, .int 0]))]) [0] rfl
  have hKc := hK.sub (tys' := []) [] rfl
  refine vp_callSi (W.runV (As := [.null, .int p2, .int p3, .int 2]) (rest := []) ⟨hx, hb, hml, hown, hg⟩ (x_refusalOf l D x0 pg rd aq py pl ch ro p2 p3 2) (cwV 4 hg (gw_V kw_24 kw_25 kw_26 kw_6 kw_23) rfl rfl rfl (by decide +kernel) ⟨Nat.le_of_ble_eq_true rfl, Nat.le_of_ble_eq_true rfl⟩) (pr_SV (q := (RX11, TX11, 9)) 11 0 hKc hPc rfl rfl) rfl rfl hl.1 rfl (lv_room (Nat.le_of_ble_eq_true rfl)) dX11_rests_13 ⟨Nat.le_of_ble_eq_true rfl, Nat.le_of_ble_eq_true rfl⟩) (fun r_13 h_13 => ?_)
  obtain rfl : r_13 = ((-101) : Int32) := h_13
  refine lv_istore (lv' := [(5, .int (-101)), (4, .null), (0, .ref x0), (1, .int p1), (2, .int p2), (3, .int p3)]) hx hb dX11_rests_16 hl (by decide) rfl (fun ls hl => ?_)
  refine lv_aloadN hx hb dX11_rests_18 (lv_at hl 1 rfl) ?_
  refine lv_ifnullN (tgt := 28) hx hb dX11_rests_20 (by decide) ?_
  refine lv_iload hx hb dX11_rests_28 (lv_at hl 0 rfl) ?_
  subst hQ
  exact W.iret (v := (-101)) hx hb hr (fun t ht hW => ⟨(-101), rfl, rfl, ht⟩) (fun _ h => absurd h List.not_mem_nil) dX11_rests_30

theorem dX11_gain_0 : decode cX11_gain 0 = .ok (.aload_n 0, 1) := by decide +kernel
theorem dX11_gain_1 : decode cX11_gain 1 = .ok (.iload_n 1, 1) := by decide +kernel
theorem dX11_gain_2 : decode cX11_gain 2 = .ok (.invokevirtual 145, 3) := by decide +kernel
theorem dX11_gain_5 : decode cX11_gain 5 = .ok (.astore 5, 2) := by decide +kernel
theorem dX11_gain_7 : decode cX11_gain 7 = .ok (.aload 5, 2) := by decide +kernel
theorem dX11_gain_9 : decode cX11_gain 9 = .ok (.ifnull 14, 3) := by decide +kernel
theorem dX11_gain_12 : decode cX11_gain 12 = .ok (.aload_n 0, 1) := by decide +kernel
theorem dX11_gain_13 : decode cX11_gain 13 = .ok (.getfield 26, 3) := by decide +kernel
theorem dX11_gain_16 : decode cX11_gain 16 = .ok (.iload_n 3, 1) := by decide +kernel
theorem dX11_gain_17 : decode cX11_gain 17 = .ok (.invokevirtual 98, 3) := by decide +kernel
theorem dX11_gain_20 : decode cX11_gain 20 = .ok (.ifCond .ne 7, 3) := by decide +kernel
theorem dX11_gain_23 : decode cX11_gain 23 = .ok (.ldc2_w 112, 3) := by decide +kernel
theorem dX11_gain_26 : decode cX11_gain 26 = .ok (.lreturn, 1) := by decide +kernel
theorem dX11_gain_27 : decode cX11_gain 27 = .ok (.aload_n 0, 1) := by decide +kernel
theorem dX11_gain_28 : decode cX11_gain 28 = .ok (.getfield 26, 3) := by decide +kernel
theorem dX11_gain_31 : decode cX11_gain 31 = .ok (.iload_n 2, 1) := by decide +kernel
theorem dX11_gain_32 : decode cX11_gain 32 = .ok (.invokevirtual 174, 3) := by decide +kernel
theorem dX11_gain_35 : decode cX11_gain 35 = .ok (.ifCond .eq 13, 3) := by decide +kernel
theorem dX11_gain_38 : decode cX11_gain 38 = .ok (.iload 4, 2) := by decide +kernel
theorem dX11_gain_40 : decode cX11_gain 40 = .ok (.iconst 0, 1) := by decide +kernel
theorem dX11_gain_41 : decode cX11_gain 41 = .ok (.iconst 1, 1) := by decide +kernel
theorem dX11_gain_42 : decode cX11_gain 42 = .ok (.invokestatic 105, 3) := by decide +kernel
theorem dX11_gain_45 : decode cX11_gain 45 = .ok (.ifCond .ne 7, 3) := by decide +kernel
theorem dX11_gain_48 : decode cX11_gain 48 = .ok (.ldc2_w 114, 3) := by decide +kernel
theorem dX11_gain_51 : decode cX11_gain 51 = .ok (.lreturn, 1) := by decide +kernel
theorem dX11_gain_52 : decode cX11_gain 52 = .ok (.aload_n 0, 1) := by decide +kernel
theorem dX11_gain_53 : decode cX11_gain 53 = .ok (.getfield 41, 3) := by decide +kernel
theorem dX11_gain_56 : decode cX11_gain 56 = .ok (.aload 5, 2) := by decide +kernel
theorem dX11_gain_58 : decode cX11_gain 58 = .ok (.invokevirtual 179, 3) := by decide +kernel
theorem dX11_gain_61 : decode cX11_gain 61 = .ok (.aload_n 0, 1) := by decide +kernel
theorem dX11_gain_62 : decode cX11_gain 62 = .ok (.getfield 41, 3) := by decide +kernel
theorem dX11_gain_65 : decode cX11_gain 65 = .ok (.iload_n 2, 1) := by decide +kernel
theorem dX11_gain_66 : decode cX11_gain 66 = .ok (.iload_n 3, 1) := by decide +kernel
theorem dX11_gain_67 : decode cX11_gain 67 = .ok (.invokevirtual 201, 3) := by decide +kernel
theorem dX11_gain_70 : decode cX11_gain 70 = .ok (.aload_n 0, 1) := by decide +kernel
theorem dX11_gain_71 : decode cX11_gain 71 = .ok (.getfield 41, 3) := by decide +kernel
theorem dX11_gain_74 : decode cX11_gain 74 = .ok (.getfield 186, 3) := by decide +kernel
theorem dX11_gain_77 : decode cX11_gain 77 = .ok (.iload 4, 2) := by decide +kernel
theorem dX11_gain_79 : decode cX11_gain 79 = .ok (.invokestatic 126, 3) := by decide +kernel
theorem dX11_gain_82 : decode cX11_gain 82 = .ok (.lreturn, 1) := by decide +kernel

set_option maxHeartbeats 4000000 in
set_option maxRecDepth 100000 in
theorem x_gain (l : Launch) (D : va_G) (x0 : Nat) (pg : Nat) (rd : Nat) (aq : Nat) (py : Nat) (pl : Nat) (ch : Nat) (ro : Nat) (p1 : Int32) (p2 : Int32) (p3 : Int32) (p4 : Int32) : Met l yX11_gain (Cond.code yX11_gain cX11_gain 6 (some .long) :: gw_tbl) ({ frames := 2, cells := 0, slots := 0, locals := 43 }) (pc_S D [] [(x0, .inr (11, [.ref pg, .ref rd, .ref aq, .ref py, .ref pl, .ref ch, .ref ro, .int 0, .int 0]))] [.ref x0, .int p1, .int p2, .int p3, .int p4]) (vp_Sl (fun r => r = (-101))) 0 0 (fun _ => False) := by
  refine Met.ofW (cc := cX11_gain) (maxL := 6) (ret := (some .long)) (by decide) rfl ?_
  intro p e s m args below meth c s₁ B hml hv
  obtain ⟨hargs, hP, hK⟩ := hv
  have hx := B.exec
  have hb := B.bytes
  have hr := B.returns
  have hts := atoms_spec (ws := Cond.code yX11_gain cX11_gain 6 (some .long) :: gw_tbl) B.pre
  have hg := fun (w : Cond) (h : w ∈ gw_tbl) => hts w (List.mem_cons_of_mem _ h)
  have hown : s.vm.findClass RX11 = some m.cls := findClass_of_methodNamed B.named
  have hlocks := B.notSynchronized
  have hl := lv_entry ([.ref x0, .int p1, .int p2, .int p3, .int p4]) (n := 6) (Nat.le_of_ble_eq_true rfl)
  rw [show entryFrame m args 6 = F0 m 0 (lg_sl ([.ref x0, .int p1, .int p2, .int p3, .int p4]) ++ List.replicate (6 - (lg_sl ([.ref x0, .int p1, .int p2, .int p3, .int p4])).length) Slot.unset).toArray [] from by rw [hargs]; exact lg_entry_eq ..]
  generalize (lg_sl ([.ref x0, .int p1, .int p2, .int p3, .int p4]) ++ List.replicate (6 - (lg_sl ([.ref x0, .int p1, .int p2, .int p3, .int p4])).length) Slot.unset).toArray = ls at hl ⊢
  have hl : lv_has ls 6 [(0, .ref x0), (1, .int p1), (2, .int p2), (3, .int p3), (4, .int p4)] := hl
  refine W_genQ (fun Q hQ => ?_)
  refine lv_aload_n hx hb dX11_gain_0 rfl (lv_at hl 0 rfl) ?_
  refine lv_iload_n hx hb dX11_gain_1 rfl (lv_at hl 1 rfl) ?_
  have hPc := hP.sub (ws' := [(x0, .inr (11, [.ref pg, .ref rd, .ref aq, .ref py, .ref pl, .ref ch, .ref ro, .int 0, .int 0]))]) [0] rfl
  have hKc := hK.sub (tys' := []) [] rfl
  refine va_csq (W.runV (As := [.int p1]) (rest := []) ⟨hx, hb, hml, hown, hg⟩ (x_payOf l D x0 pg rd aq py pl ch ro p1) (cwV 1 hg (gw_V kw_19 kw_20 kw_21 kw_6 kw_18) rfl rfl rfl (by decide +kernel) ⟨Nat.le_of_ble_eq_true rfl, Nat.le_of_ble_eq_true rfl⟩) (pr_SV (q := (RX11, TX11, 9)) 11 0 hKc hPc rfl rfl) rfl rfl hl.1 rfl (lv_room (Nat.le_of_ble_eq_true rfl)) dX11_gain_2 ⟨Nat.le_of_ble_eq_true rfl, Nat.le_of_ble_eq_true rfl⟩) (fun r_2 h_2 => ?_)
  obtain rfl : r_2 = none := h_2
  refine W.eq (g2 := F0 m 5 ls [.null]) rfl ?_
  refine lv_astoreN (lv' := [(5, .null), (0, .ref x0), (1, .int p1), (2, .int p2), (3, .int p3), (4, .int p4)]) hx hb dX11_gain_5 hl (by decide) rfl (fun ls hl => ?_)
  refine lv_aloadN hx hb dX11_gain_7 (lv_at hl 0 rfl) ?_
  refine lv_ifnullN (tgt := 23) hx hb dX11_gain_9 (by decide) ?_
  refine lv_ldc2 hx hb hown (hg _ kw_17) dX11_gain_23 ?_
  subst hQ
  exact W.lret (v := (-101)) hx hb hr (fun t ht hW => ⟨(-101), rfl, rfl, ht⟩) (fun _ h => absurd h List.not_mem_nil) dX11_gain_26

theorem dX11_all_0 : decode cX11_all 0 = .ok (.aload_n 0, 1) := by decide +kernel
theorem dX11_all_1 : decode cX11_all 1 = .ok (.iload_n 1, 1) := by decide +kernel
theorem dX11_all_2 : decode cX11_all 2 = .ok (.invokevirtual 145, 3) := by decide +kernel
theorem dX11_all_5 : decode cX11_all 5 = .ok (.astore_n 3, 1) := by decide +kernel
theorem dX11_all_6 : decode cX11_all 6 = .ok (.aload_n 3, 1) := by decide +kernel
theorem dX11_all_7 : decode cX11_all 7 = .ok (.ifnonnull 6, 3) := by decide +kernel
theorem dX11_all_10 : decode cX11_all 10 = .ok (.bipush (-101), 2) := by decide +kernel
theorem dX11_all_12 : decode cX11_all 12 = .ok (.ireturn, 1) := by decide +kernel
theorem dX11_all_13 : decode cX11_all 13 = .ok (.aload_n 0, 1) := by decide +kernel
theorem dX11_all_14 : decode cX11_all 14 = .ok (.getfield 26, 3) := by decide +kernel
theorem dX11_all_17 : decode cX11_all 17 = .ok (.invokevirtual 204, 3) := by decide +kernel
theorem dX11_all_20 : decode cX11_all 20 = .ok (.ifCond .ne 6, 3) := by decide +kernel
theorem dX11_all_23 : decode cX11_all 23 = .ok (.bipush (-103), 2) := by decide +kernel
theorem dX11_all_25 : decode cX11_all 25 = .ok (.ireturn, 1) := by decide +kernel
theorem dX11_all_26 : decode cX11_all 26 = .ok (.iload_n 2, 1) := by decide +kernel
theorem dX11_all_27 : decode cX11_all 27 = .ok (.iconst 0, 1) := by decide +kernel
theorem dX11_all_28 : decode cX11_all 28 = .ok (.iconst 1, 1) := by decide +kernel
theorem dX11_all_29 : decode cX11_all 29 = .ok (.invokestatic 105, 3) := by decide +kernel
theorem dX11_all_32 : decode cX11_all 32 = .ok (.ifCond .ne 17, 3) := by decide +kernel
theorem dX11_all_35 : decode cX11_all 35 = .ok (.iload_n 2, 1) := by decide +kernel
theorem dX11_all_36 : decode cX11_all 36 = .ok (.bipush 10, 2) := by decide +kernel
theorem dX11_all_38 : decode cX11_all 38 = .ok (.bipush 99, 2) := by decide +kernel
theorem dX11_all_40 : decode cX11_all 40 = .ok (.invokestatic 105, 3) := by decide +kernel
theorem dX11_all_43 : decode cX11_all 43 = .ok (.ifCond .ne 6, 3) := by decide +kernel
theorem dX11_all_46 : decode cX11_all 46 = .ok (.bipush (-102), 2) := by decide +kernel
theorem dX11_all_48 : decode cX11_all 48 = .ok (.ireturn, 1) := by decide +kernel
theorem dX11_all_49 : decode cX11_all 49 = .ok (.aload_n 0, 1) := by decide +kernel
theorem dX11_all_50 : decode cX11_all 50 = .ok (.getfield 41, 3) := by decide +kernel
theorem dX11_all_53 : decode cX11_all 53 = .ok (.aload_n 3, 1) := by decide +kernel
theorem dX11_all_54 : decode cX11_all 54 = .ok (.invokevirtual 179, 3) := by decide +kernel
theorem dX11_all_57 : decode cX11_all 57 = .ok (.iload_n 2, 1) := by decide +kernel
theorem dX11_all_58 : decode cX11_all 58 = .ok (.ifCond .ne 11, 3) := by decide +kernel
theorem dX11_all_61 : decode cX11_all 61 = .ok (.aload_n 0, 1) := by decide +kernel
theorem dX11_all_62 : decode cX11_all 62 = .ok (.getfield 41, 3) := by decide +kernel
theorem dX11_all_65 : decode cX11_all 65 = .ok (.invokevirtual 207, 3) := by decide +kernel
theorem dX11_all_68 : decode cX11_all 68 = .ok (.ireturn, 1) := by decide +kernel
theorem dX11_all_69 : decode cX11_all 69 = .ok (.iload_n 2, 1) := by decide +kernel
theorem dX11_all_70 : decode cX11_all 70 = .ok (.iconst 1, 1) := by decide +kernel
theorem dX11_all_71 : decode cX11_all 71 = .ok (.if_icmp .ne 13, 3) := by decide +kernel
theorem dX11_all_74 : decode cX11_all 74 = .ok (.aload_n 0, 1) := by decide +kernel
theorem dX11_all_75 : decode cX11_all 75 = .ok (.getfield 41, 3) := by decide +kernel
theorem dX11_all_78 : decode cX11_all 78 = .ok (.invokevirtual 210, 3) := by decide +kernel
theorem dX11_all_81 : decode cX11_all 81 = .ok (.goto 14, 3) := by decide +kernel
theorem dX11_all_84 : decode cX11_all 84 = .ok (.aload_n 0, 1) := by decide +kernel
theorem dX11_all_85 : decode cX11_all 85 = .ok (.getfield 41, 3) := by decide +kernel
theorem dX11_all_88 : decode cX11_all 88 = .ok (.iload_n 2, 1) := by decide +kernel
theorem dX11_all_89 : decode cX11_all 89 = .ok (.bipush 10, 2) := by decide +kernel
theorem dX11_all_91 : decode cX11_all 91 = .ok (.isub, 1) := by decide +kernel
theorem dX11_all_92 : decode cX11_all 92 = .ok (.invokevirtual 213, 3) := by decide +kernel
theorem dX11_all_95 : decode cX11_all 95 = .ok (.ireturn, 1) := by decide +kernel

set_option maxHeartbeats 4000000 in
set_option maxRecDepth 100000 in
theorem x_all (l : Launch) (D : va_G) (x0 : Nat) (pg : Nat) (rd : Nat) (aq : Nat) (py : Nat) (pl : Nat) (ch : Nat) (ro : Nat) (p1 : Int32) (p2 : Int32) : Met l yX11_all (Cond.code yX11_all cX11_all 4 (some .int) :: gw_tbl) ({ frames := 2, cells := 0, slots := 0, locals := 43 }) (pc_S D [] [(x0, .inr (11, [.ref pg, .ref rd, .ref aq, .ref py, .ref pl, .ref ch, .ref ro, .int 0, .int 0]))] [.ref x0, .int p1, .int p2]) (vp_Si (fun r => r = (-101))) 0 0 (fun _ => False) := by
  refine Met.ofW (cc := cX11_all) (maxL := 4) (ret := (some .int)) (by decide) rfl ?_
  intro p e s m args below meth c s₁ B hml hv
  obtain ⟨hargs, hP, hK⟩ := hv
  have hx := B.exec
  have hb := B.bytes
  have hr := B.returns
  have hts := atoms_spec (ws := Cond.code yX11_all cX11_all 4 (some .int) :: gw_tbl) B.pre
  have hg := fun (w : Cond) (h : w ∈ gw_tbl) => hts w (List.mem_cons_of_mem _ h)
  have hown : s.vm.findClass RX11 = some m.cls := findClass_of_methodNamed B.named
  have hlocks := B.notSynchronized
  have hl := lv_entry ([.ref x0, .int p1, .int p2]) (n := 4) (Nat.le_of_ble_eq_true rfl)
  rw [show entryFrame m args 4 = F0 m 0 (lg_sl ([.ref x0, .int p1, .int p2]) ++ List.replicate (4 - (lg_sl ([.ref x0, .int p1, .int p2])).length) Slot.unset).toArray [] from by rw [hargs]; exact lg_entry_eq ..]
  generalize (lg_sl ([.ref x0, .int p1, .int p2]) ++ List.replicate (4 - (lg_sl ([.ref x0, .int p1, .int p2])).length) Slot.unset).toArray = ls at hl ⊢
  have hl : lv_has ls 4 [(0, .ref x0), (1, .int p1), (2, .int p2)] := hl
  refine W_genQ (fun Q hQ => ?_)
  refine lv_aload_n hx hb dX11_all_0 rfl (lv_at hl 0 rfl) ?_
  refine lv_iload_n hx hb dX11_all_1 rfl (lv_at hl 1 rfl) ?_
  have hPc := hP.sub (ws' := [(x0, .inr (11, [.ref pg, .ref rd, .ref aq, .ref py, .ref pl, .ref ch, .ref ro, .int 0, .int 0]))]) [0] rfl
  have hKc := hK.sub (tys' := []) [] rfl
  refine va_csq (W.runV (As := [.int p1]) (rest := []) ⟨hx, hb, hml, hown, hg⟩ (x_payOf l D x0 pg rd aq py pl ch ro p1) (cwV 1 hg (gw_V kw_19 kw_20 kw_21 kw_6 kw_18) rfl rfl rfl (by decide +kernel) ⟨Nat.le_of_ble_eq_true rfl, Nat.le_of_ble_eq_true rfl⟩) (pr_SV (q := (RX11, TX11, 9)) 11 0 hKc hPc rfl rfl) rfl rfl hl.1 rfl (lv_room (Nat.le_of_ble_eq_true rfl)) dX11_all_2 ⟨Nat.le_of_ble_eq_true rfl, Nat.le_of_ble_eq_true rfl⟩) (fun r_2 h_2 => ?_)
  obtain rfl : r_2 = none := h_2
  refine W.eq (g2 := F0 m 5 ls [.null]) rfl ?_
  refine lv_astore_nN (lv' := [(3, .null), (0, .ref x0), (1, .int p1), (2, .int p2)]) hx hb dX11_all_5 rfl hl (by decide) rfl (fun ls hl => ?_)
  refine lv_aload_nN hx hb dX11_all_6 rfl (lv_at hl 0 rfl) ?_
  refine lv_ifnonnullN hx hb dX11_all_7 ?_
  refine lv_bipush (v := (-101)) hx hb dX11_all_10 (by decide) ?_
  subst hQ
  exact W.iret (v := (-101)) hx hb hr (fun t ht hW => ⟨(-101), rfl, rfl, ht⟩) (fun _ h => absurd h List.not_mem_nil) dX11_all_12

theorem dX11_group_0 : decode cX11_group 0 = .ok (.aload_n 0, 1) := by decide +kernel
theorem dX11_group_1 : decode cX11_group 1 = .ok (.iload_n 1, 1) := by decide +kernel
theorem dX11_group_2 : decode cX11_group 2 = .ok (.invokevirtual 145, 3) := by decide +kernel
theorem dX11_group_5 : decode cX11_group 5 = .ok (.astore 4, 2) := by decide +kernel
theorem dX11_group_7 : decode cX11_group 7 = .ok (.aload_n 0, 1) := by decide +kernel
theorem dX11_group_8 : decode cX11_group 8 = .ok (.aload 4, 2) := by decide +kernel
theorem dX11_group_10 : decode cX11_group 10 = .ok (.iload_n 2, 1) := by decide +kernel
theorem dX11_group_11 : decode cX11_group 11 = .ok (.iload_n 3, 1) := by decide +kernel
theorem dX11_group_12 : decode cX11_group 12 = .ok (.iconst 1, 1) := by decide +kernel
theorem dX11_group_13 : decode cX11_group 13 = .ok (.invokevirtual 190, 3) := by decide +kernel
theorem dX11_group_16 : decode cX11_group 16 = .ok (.istore 5, 2) := by decide +kernel
theorem dX11_group_18 : decode cX11_group 18 = .ok (.aload 4, 2) := by decide +kernel
theorem dX11_group_20 : decode cX11_group 20 = .ok (.ifnull 8, 3) := by decide +kernel
theorem dX11_group_23 : decode cX11_group 23 = .ok (.iload 5, 2) := by decide +kernel
theorem dX11_group_25 : decode cX11_group 25 = .ok (.ifCond .eq 6, 3) := by decide +kernel
theorem dX11_group_28 : decode cX11_group 28 = .ok (.iload 5, 2) := by decide +kernel
theorem dX11_group_30 : decode cX11_group 30 = .ok (.ireturn, 1) := by decide +kernel
theorem dX11_group_31 : decode cX11_group 31 = .ok (.aload_n 0, 1) := by decide +kernel
theorem dX11_group_32 : decode cX11_group 32 = .ok (.getfield 41, 3) := by decide +kernel
theorem dX11_group_35 : decode cX11_group 35 = .ok (.aload 4, 2) := by decide +kernel
theorem dX11_group_37 : decode cX11_group 37 = .ok (.invokevirtual 179, 3) := by decide +kernel
theorem dX11_group_40 : decode cX11_group 40 = .ok (.aload_n 0, 1) := by decide +kernel
theorem dX11_group_41 : decode cX11_group 41 = .ok (.getfield 41, 3) := by decide +kernel
theorem dX11_group_44 : decode cX11_group 44 = .ok (.iload_n 2, 1) := by decide +kernel
theorem dX11_group_45 : decode cX11_group 45 = .ok (.invokevirtual 216, 3) := by decide +kernel
theorem dX11_group_48 : decode cX11_group 48 = .ok (.iload_n 3, 1) := by decide +kernel
theorem dX11_group_49 : decode cX11_group 49 = .ok (.ifCond .ne 13, 3) := by decide +kernel
theorem dX11_group_52 : decode cX11_group 52 = .ok (.aload_n 0, 1) := by decide +kernel
theorem dX11_group_53 : decode cX11_group 53 = .ok (.getfield 41, 3) := by decide +kernel
theorem dX11_group_56 : decode cX11_group 56 = .ok (.getfield 220, 3) := by decide +kernel
theorem dX11_group_59 : decode cX11_group 59 = .ok (.goto 10, 3) := by decide +kernel
theorem dX11_group_62 : decode cX11_group 62 = .ok (.aload_n 0, 1) := by decide +kernel
theorem dX11_group_63 : decode cX11_group 63 = .ok (.getfield 41, 3) := by decide +kernel
theorem dX11_group_66 : decode cX11_group 66 = .ok (.getfield 223, 3) := by decide +kernel
theorem dX11_group_69 : decode cX11_group 69 = .ok (.ireturn, 1) := by decide +kernel

set_option maxHeartbeats 4000000 in
set_option maxRecDepth 100000 in
theorem x_group (l : Launch) (D : va_G) (x0 : Nat) (pg : Nat) (rd : Nat) (aq : Nat) (py : Nat) (pl : Nat) (ch : Nat) (ro : Nat) (p1 : Int32) (p2 : Int32) (p3 : Int32) : Met l yX11_group (Cond.code yX11_group cX11_group 6 (some .int) :: gw_tbl) ({ frames := 2, cells := 0, slots := 0, locals := 43 }) (pc_S D [] [(x0, .inr (11, [.ref pg, .ref rd, .ref aq, .ref py, .ref pl, .ref ch, .ref ro, .int 0, .int 0]))] [.ref x0, .int p1, .int p2, .int p3]) (vp_Si (fun r => r = (-101))) 0 0 (fun _ => False) := by
  refine Met.ofW (cc := cX11_group) (maxL := 6) (ret := (some .int)) (by decide) rfl ?_
  intro p e s m args below meth c s₁ B hml hv
  obtain ⟨hargs, hP, hK⟩ := hv
  have hx := B.exec
  have hb := B.bytes
  have hr := B.returns
  have hts := atoms_spec (ws := Cond.code yX11_group cX11_group 6 (some .int) :: gw_tbl) B.pre
  have hg := fun (w : Cond) (h : w ∈ gw_tbl) => hts w (List.mem_cons_of_mem _ h)
  have hown : s.vm.findClass RX11 = some m.cls := findClass_of_methodNamed B.named
  have hlocks := B.notSynchronized
  have hl := lv_entry ([.ref x0, .int p1, .int p2, .int p3]) (n := 6) (Nat.le_of_ble_eq_true rfl)
  rw [show entryFrame m args 6 = F0 m 0 (lg_sl ([.ref x0, .int p1, .int p2, .int p3]) ++ List.replicate (6 - (lg_sl ([.ref x0, .int p1, .int p2, .int p3])).length) Slot.unset).toArray [] from by rw [hargs]; exact lg_entry_eq ..]
  generalize (lg_sl ([.ref x0, .int p1, .int p2, .int p3]) ++ List.replicate (6 - (lg_sl ([.ref x0, .int p1, .int p2, .int p3])).length) Slot.unset).toArray = ls at hl ⊢
  have hl : lv_has ls 6 [(0, .ref x0), (1, .int p1), (2, .int p2), (3, .int p3)] := hl
  refine W_genQ (fun Q hQ => ?_)
  refine lv_aload_n hx hb dX11_group_0 rfl (lv_at hl 0 rfl) ?_
  refine lv_iload_n hx hb dX11_group_1 rfl (lv_at hl 1 rfl) ?_
  have hPc := hP.sub (ws' := [(x0, .inr (11, [.ref pg, .ref rd, .ref aq, .ref py, .ref pl, .ref ch, .ref ro, .int 0, .int 0]))]) [0] rfl
  have hKc := hK.sub (tys' := []) [] rfl
  refine va_csq (W.runV (As := [.int p1]) (rest := []) ⟨hx, hb, hml, hown, hg⟩ (x_payOf l D x0 pg rd aq py pl ch ro p1) (cwV 1 hg (gw_V kw_19 kw_20 kw_21 kw_6 kw_18) rfl rfl rfl (by decide +kernel) ⟨Nat.le_of_ble_eq_true rfl, Nat.le_of_ble_eq_true rfl⟩) (pr_SV (q := (RX11, TX11, 9)) 11 0 hKc hPc rfl rfl) rfl rfl hl.1 rfl (lv_room (Nat.le_of_ble_eq_true rfl)) dX11_group_2 ⟨Nat.le_of_ble_eq_true rfl, Nat.le_of_ble_eq_true rfl⟩) (fun r_2 h_2 => ?_)
  obtain rfl : r_2 = none := h_2
  refine W.eq (g2 := F0 m 5 ls [.null]) rfl ?_
  refine lv_astoreN (lv' := [(4, .null), (0, .ref x0), (1, .int p1), (2, .int p2), (3, .int p3)]) hx hb dX11_group_5 hl (by decide) rfl (fun ls hl => ?_)
  refine lv_aload_n hx hb dX11_group_7 rfl (lv_at hl 1 rfl) ?_
  refine lv_aloadN hx hb dX11_group_8 (lv_at hl 0 rfl) ?_
  refine lv_iload_n hx hb dX11_group_10 rfl (lv_at hl 3 rfl) ?_
  refine lv_iload_n hx hb dX11_group_11 rfl (lv_at hl 4 rfl) ?_
  refine lv_iconst (v := 1) hx hb dX11_group_12 (by decide) ?_
  have hPc := hP.sub (ws' := [(x0, .inr (11, [.ref pg, .ref rd, .ref aq, .ref py, .ref pl, .ref ch, .ref ro, .int 0, .int 0]))]) [0] rfl
  have hKc := hK.sub (tys' := []) [] rfl
  refine vp_callSi (W.runV (As := [.null, .int p2, .int p3, .int 1]) (rest := []) ⟨hx, hb, hml, hown, hg⟩ (x_refusalOf l D x0 pg rd aq py pl ch ro p2 p3 1) (cwV 4 hg (gw_V kw_24 kw_25 kw_26 kw_6 kw_23) rfl rfl rfl (by decide +kernel) ⟨Nat.le_of_ble_eq_true rfl, Nat.le_of_ble_eq_true rfl⟩) (pr_SV (q := (RX11, TX11, 9)) 11 0 hKc hPc rfl rfl) rfl rfl hl.1 rfl (lv_room (Nat.le_of_ble_eq_true rfl)) dX11_group_13 ⟨Nat.le_of_ble_eq_true rfl, Nat.le_of_ble_eq_true rfl⟩) (fun r_13 h_13 => ?_)
  obtain rfl : r_13 = ((-101) : Int32) := h_13
  refine lv_istore (lv' := [(5, .int (-101)), (4, .null), (0, .ref x0), (1, .int p1), (2, .int p2), (3, .int p3)]) hx hb dX11_group_16 hl (by decide) rfl (fun ls hl => ?_)
  refine lv_aloadN hx hb dX11_group_18 (lv_at hl 1 rfl) ?_
  refine lv_ifnullN (tgt := 28) hx hb dX11_group_20 (by decide) ?_
  refine lv_iload hx hb dX11_group_28 (lv_at hl 0 rfl) ?_
  subst hQ
  exact W.iret (v := (-101)) hx hb hr (fun t ht hW => ⟨(-101), rfl, rfl, ht⟩) (fun _ h => absurd h List.not_mem_nil) dX11_group_30

theorem dX11_goes_0 : decode cX11_goes 0 = .ok (.aload_n 0, 1) := by decide +kernel
theorem dX11_goes_1 : decode cX11_goes 1 = .ok (.iload_n 1, 1) := by decide +kernel
theorem dX11_goes_2 : decode cX11_goes 2 = .ok (.invokevirtual 145, 3) := by decide +kernel
theorem dX11_goes_5 : decode cX11_goes 5 = .ok (.astore 4, 2) := by decide +kernel
theorem dX11_goes_7 : decode cX11_goes 7 = .ok (.aload_n 0, 1) := by decide +kernel
theorem dX11_goes_8 : decode cX11_goes 8 = .ok (.aload 4, 2) := by decide +kernel
theorem dX11_goes_10 : decode cX11_goes 10 = .ok (.iload_n 2, 1) := by decide +kernel
theorem dX11_goes_11 : decode cX11_goes 11 = .ok (.iload_n 3, 1) := by decide +kernel
theorem dX11_goes_12 : decode cX11_goes 12 = .ok (.iconst 2, 1) := by decide +kernel
theorem dX11_goes_13 : decode cX11_goes 13 = .ok (.invokevirtual 190, 3) := by decide +kernel
theorem dX11_goes_16 : decode cX11_goes 16 = .ok (.istore 5, 2) := by decide +kernel
theorem dX11_goes_18 : decode cX11_goes 18 = .ok (.aload 4, 2) := by decide +kernel
theorem dX11_goes_20 : decode cX11_goes 20 = .ok (.ifnull 8, 3) := by decide +kernel
theorem dX11_goes_23 : decode cX11_goes 23 = .ok (.iload 5, 2) := by decide +kernel
theorem dX11_goes_25 : decode cX11_goes 25 = .ok (.ifCond .eq 6, 3) := by decide +kernel
theorem dX11_goes_28 : decode cX11_goes 28 = .ok (.iload 5, 2) := by decide +kernel
theorem dX11_goes_30 : decode cX11_goes 30 = .ok (.ireturn, 1) := by decide +kernel
theorem dX11_goes_31 : decode cX11_goes 31 = .ok (.aload_n 0, 1) := by decide +kernel
theorem dX11_goes_32 : decode cX11_goes 32 = .ok (.getfield 41, 3) := by decide +kernel
theorem dX11_goes_35 : decode cX11_goes 35 = .ok (.aload 4, 2) := by decide +kernel
theorem dX11_goes_37 : decode cX11_goes 37 = .ok (.invokevirtual 179, 3) := by decide +kernel
theorem dX11_goes_40 : decode cX11_goes 40 = .ok (.aload_n 0, 1) := by decide +kernel
theorem dX11_goes_41 : decode cX11_goes 41 = .ok (.getfield 41, 3) := by decide +kernel
theorem dX11_goes_44 : decode cX11_goes 44 = .ok (.iload_n 2, 1) := by decide +kernel
theorem dX11_goes_45 : decode cX11_goes 45 = .ok (.invokevirtual 226, 3) := by decide +kernel
theorem dX11_goes_48 : decode cX11_goes 48 = .ok (.iload_n 3, 1) := by decide +kernel
theorem dX11_goes_49 : decode cX11_goes 49 = .ok (.ifCond .ne 11, 3) := by decide +kernel
theorem dX11_goes_52 : decode cX11_goes 52 = .ok (.aload_n 0, 1) := by decide +kernel
theorem dX11_goes_53 : decode cX11_goes 53 = .ok (.getfield 41, 3) := by decide +kernel
theorem dX11_goes_56 : decode cX11_goes 56 = .ok (.getfield 229, 3) := by decide +kernel
theorem dX11_goes_59 : decode cX11_goes 59 = .ok (.ireturn, 1) := by decide +kernel
theorem dX11_goes_60 : decode cX11_goes 60 = .ok (.iload_n 3, 1) := by decide +kernel
theorem dX11_goes_61 : decode cX11_goes 61 = .ok (.iconst 1, 1) := by decide +kernel
theorem dX11_goes_62 : decode cX11_goes 62 = .ok (.if_icmp .ne 13, 3) := by decide +kernel
theorem dX11_goes_65 : decode cX11_goes 65 = .ok (.aload_n 0, 1) := by decide +kernel
theorem dX11_goes_66 : decode cX11_goes 66 = .ok (.getfield 41, 3) := by decide +kernel
theorem dX11_goes_69 : decode cX11_goes 69 = .ok (.getfield 232, 3) := by decide +kernel
theorem dX11_goes_72 : decode cX11_goes 72 = .ok (.goto 10, 3) := by decide +kernel
theorem dX11_goes_75 : decode cX11_goes 75 = .ok (.aload_n 0, 1) := by decide +kernel
theorem dX11_goes_76 : decode cX11_goes 76 = .ok (.getfield 41, 3) := by decide +kernel
theorem dX11_goes_79 : decode cX11_goes 79 = .ok (.getfield 235, 3) := by decide +kernel
theorem dX11_goes_82 : decode cX11_goes 82 = .ok (.ireturn, 1) := by decide +kernel

set_option maxHeartbeats 4000000 in
set_option maxRecDepth 100000 in
theorem x_goes (l : Launch) (D : va_G) (x0 : Nat) (pg : Nat) (rd : Nat) (aq : Nat) (py : Nat) (pl : Nat) (ch : Nat) (ro : Nat) (p1 : Int32) (p2 : Int32) (p3 : Int32) : Met l yX11_goes (Cond.code yX11_goes cX11_goes 6 (some .int) :: gw_tbl) ({ frames := 2, cells := 0, slots := 0, locals := 43 }) (pc_S D [] [(x0, .inr (11, [.ref pg, .ref rd, .ref aq, .ref py, .ref pl, .ref ch, .ref ro, .int 0, .int 0]))] [.ref x0, .int p1, .int p2, .int p3]) (vp_Si (fun r => r = (-101))) 0 0 (fun _ => False) := by
  refine Met.ofW (cc := cX11_goes) (maxL := 6) (ret := (some .int)) (by decide) rfl ?_
  intro p e s m args below meth c s₁ B hml hv
  obtain ⟨hargs, hP, hK⟩ := hv
  have hx := B.exec
  have hb := B.bytes
  have hr := B.returns
  have hts := atoms_spec (ws := Cond.code yX11_goes cX11_goes 6 (some .int) :: gw_tbl) B.pre
  have hg := fun (w : Cond) (h : w ∈ gw_tbl) => hts w (List.mem_cons_of_mem _ h)
  have hown : s.vm.findClass RX11 = some m.cls := findClass_of_methodNamed B.named
  have hlocks := B.notSynchronized
  have hl := lv_entry ([.ref x0, .int p1, .int p2, .int p3]) (n := 6) (Nat.le_of_ble_eq_true rfl)
  rw [show entryFrame m args 6 = F0 m 0 (lg_sl ([.ref x0, .int p1, .int p2, .int p3]) ++ List.replicate (6 - (lg_sl ([.ref x0, .int p1, .int p2, .int p3])).length) Slot.unset).toArray [] from by rw [hargs]; exact lg_entry_eq ..]
  generalize (lg_sl ([.ref x0, .int p1, .int p2, .int p3]) ++ List.replicate (6 - (lg_sl ([.ref x0, .int p1, .int p2, .int p3])).length) Slot.unset).toArray = ls at hl ⊢
  have hl : lv_has ls 6 [(0, .ref x0), (1, .int p1), (2, .int p2), (3, .int p3)] := hl
  refine W_genQ (fun Q hQ => ?_)
  refine lv_aload_n hx hb dX11_goes_0 rfl (lv_at hl 0 rfl) ?_
  refine lv_iload_n hx hb dX11_goes_1 rfl (lv_at hl 1 rfl) ?_
  have hPc := hP.sub (ws' := [(x0, .inr (11, [.ref pg, .ref rd, .ref aq, .ref py, .ref pl, .ref ch, .ref ro, .int 0, .int 0]))]) [0] rfl
  have hKc := hK.sub (tys' := []) [] rfl
  refine va_csq (W.runV (As := [.int p1]) (rest := []) ⟨hx, hb, hml, hown, hg⟩ (x_payOf l D x0 pg rd aq py pl ch ro p1) (cwV 1 hg (gw_V kw_19 kw_20 kw_21 kw_6 kw_18) rfl rfl rfl (by decide +kernel) ⟨Nat.le_of_ble_eq_true rfl, Nat.le_of_ble_eq_true rfl⟩) (pr_SV (q := (RX11, TX11, 9)) 11 0 hKc hPc rfl rfl) rfl rfl hl.1 rfl (lv_room (Nat.le_of_ble_eq_true rfl)) dX11_goes_2 ⟨Nat.le_of_ble_eq_true rfl, Nat.le_of_ble_eq_true rfl⟩) (fun r_2 h_2 => ?_)
  obtain rfl : r_2 = none := h_2
  refine W.eq (g2 := F0 m 5 ls [.null]) rfl ?_
  refine lv_astoreN (lv' := [(4, .null), (0, .ref x0), (1, .int p1), (2, .int p2), (3, .int p3)]) hx hb dX11_goes_5 hl (by decide) rfl (fun ls hl => ?_)
  refine lv_aload_n hx hb dX11_goes_7 rfl (lv_at hl 1 rfl) ?_
  refine lv_aloadN hx hb dX11_goes_8 (lv_at hl 0 rfl) ?_
  refine lv_iload_n hx hb dX11_goes_10 rfl (lv_at hl 3 rfl) ?_
  refine lv_iload_n hx hb dX11_goes_11 rfl (lv_at hl 4 rfl) ?_
  refine lv_iconst (v := 2) hx hb dX11_goes_12 (by decide) ?_
  have hPc := hP.sub (ws' := [(x0, .inr (11, [.ref pg, .ref rd, .ref aq, .ref py, .ref pl, .ref ch, .ref ro, .int 0, .int 0]))]) [0] rfl
  have hKc := hK.sub (tys' := []) [] rfl
  refine vp_callSi (W.runV (As := [.null, .int p2, .int p3, .int 2]) (rest := []) ⟨hx, hb, hml, hown, hg⟩ (x_refusalOf l D x0 pg rd aq py pl ch ro p2 p3 2) (cwV 4 hg (gw_V kw_24 kw_25 kw_26 kw_6 kw_23) rfl rfl rfl (by decide +kernel) ⟨Nat.le_of_ble_eq_true rfl, Nat.le_of_ble_eq_true rfl⟩) (pr_SV (q := (RX11, TX11, 9)) 11 0 hKc hPc rfl rfl) rfl rfl hl.1 rfl (lv_room (Nat.le_of_ble_eq_true rfl)) dX11_goes_13 ⟨Nat.le_of_ble_eq_true rfl, Nat.le_of_ble_eq_true rfl⟩) (fun r_13 h_13 => ?_)
  obtain rfl : r_13 = ((-101) : Int32) := h_13
  refine lv_istore (lv' := [(5, .int (-101)), (4, .null), (0, .ref x0), (1, .int p1), (2, .int p2), (3, .int p3)]) hx hb dX11_goes_16 hl (by decide) rfl (fun ls hl => ?_)
  refine lv_aloadN hx hb dX11_goes_18 (lv_at hl 1 rfl) ?_
  refine lv_ifnullN (tgt := 28) hx hb dX11_goes_20 (by decide) ?_
  refine lv_iload hx hb dX11_goes_28 (lv_at hl 0 rfl) ?_
  subst hQ
  exact W.iret (v := (-101)) hx hb hr (fun t ht hW => ⟨(-101), rfl, rfl, ht⟩) (fun _ h => absurd h List.not_mem_nil) dX11_goes_30

theorem dX11_drawn_0 : decode cX11_drawn 0 = .ok (.aload_n 0, 1) := by decide +kernel
theorem dX11_drawn_1 : decode cX11_drawn 1 = .ok (.iload_n 1, 1) := by decide +kernel
theorem dX11_drawn_2 : decode cX11_drawn 2 = .ok (.invokevirtual 145, 3) := by decide +kernel
theorem dX11_drawn_5 : decode cX11_drawn 5 = .ok (.astore_n 2, 1) := by decide +kernel
theorem dX11_drawn_6 : decode cX11_drawn 6 = .ok (.aload_n 2, 1) := by decide +kernel
theorem dX11_drawn_7 : decode cX11_drawn 7 = .ok (.ifnonnull 6, 3) := by decide +kernel
theorem dX11_drawn_10 : decode cX11_drawn 10 = .ok (.bipush (-101), 2) := by decide +kernel
theorem dX11_drawn_12 : decode cX11_drawn 12 = .ok (.ireturn, 1) := by decide +kernel
theorem dX11_drawn_13 : decode cX11_drawn 13 = .ok (.aload_n 0, 1) := by decide +kernel
theorem dX11_drawn_14 : decode cX11_drawn 14 = .ok (.getfield 26, 3) := by decide +kernel
theorem dX11_drawn_17 : decode cX11_drawn 17 = .ok (.invokevirtual 204, 3) := by decide +kernel
theorem dX11_drawn_20 : decode cX11_drawn 20 = .ok (.ifCond .ne 6, 3) := by decide +kernel
theorem dX11_drawn_23 : decode cX11_drawn 23 = .ok (.bipush (-103), 2) := by decide +kernel
theorem dX11_drawn_25 : decode cX11_drawn 25 = .ok (.ireturn, 1) := by decide +kernel
theorem dX11_drawn_26 : decode cX11_drawn 26 = .ok (.aload_n 0, 1) := by decide +kernel
theorem dX11_drawn_27 : decode cX11_drawn 27 = .ok (.getfield 41, 3) := by decide +kernel
theorem dX11_drawn_30 : decode cX11_drawn 30 = .ok (.aload_n 2, 1) := by decide +kernel
theorem dX11_drawn_31 : decode cX11_drawn 31 = .ok (.invokevirtual 179, 3) := by decide +kernel
theorem dX11_drawn_34 : decode cX11_drawn 34 = .ok (.aload_n 0, 1) := by decide +kernel
theorem dX11_drawn_35 : decode cX11_drawn 35 = .ok (.getfield 41, 3) := by decide +kernel
theorem dX11_drawn_38 : decode cX11_drawn 38 = .ok (.invokevirtual 238, 3) := by decide +kernel
theorem dX11_drawn_41 : decode cX11_drawn 41 = .ok (.ireturn, 1) := by decide +kernel

set_option maxHeartbeats 4000000 in
set_option maxRecDepth 100000 in
theorem x_drawn (l : Launch) (D : va_G) (x0 : Nat) (pg : Nat) (rd : Nat) (aq : Nat) (py : Nat) (pl : Nat) (ch : Nat) (ro : Nat) (p1 : Int32) : Met l yX11_drawn (Cond.code yX11_drawn cX11_drawn 3 (some .int) :: gw_tbl) ({ frames := 2, cells := 0, slots := 0, locals := 43 }) (pc_S D [] [(x0, .inr (11, [.ref pg, .ref rd, .ref aq, .ref py, .ref pl, .ref ch, .ref ro, .int 0, .int 0]))] [.ref x0, .int p1]) (vp_Si (fun r => r = (-101))) 0 0 (fun _ => False) := by
  refine Met.ofW (cc := cX11_drawn) (maxL := 3) (ret := (some .int)) (by decide) rfl ?_
  intro p e s m args below meth c s₁ B hml hv
  obtain ⟨hargs, hP, hK⟩ := hv
  have hx := B.exec
  have hb := B.bytes
  have hr := B.returns
  have hts := atoms_spec (ws := Cond.code yX11_drawn cX11_drawn 3 (some .int) :: gw_tbl) B.pre
  have hg := fun (w : Cond) (h : w ∈ gw_tbl) => hts w (List.mem_cons_of_mem _ h)
  have hown : s.vm.findClass RX11 = some m.cls := findClass_of_methodNamed B.named
  have hlocks := B.notSynchronized
  have hl := lv_entry ([.ref x0, .int p1]) (n := 3) (Nat.le_of_ble_eq_true rfl)
  rw [show entryFrame m args 3 = F0 m 0 (lg_sl ([.ref x0, .int p1]) ++ List.replicate (3 - (lg_sl ([.ref x0, .int p1])).length) Slot.unset).toArray [] from by rw [hargs]; exact lg_entry_eq ..]
  generalize (lg_sl ([.ref x0, .int p1]) ++ List.replicate (3 - (lg_sl ([.ref x0, .int p1])).length) Slot.unset).toArray = ls at hl ⊢
  have hl : lv_has ls 3 [(0, .ref x0), (1, .int p1)] := hl
  refine W_genQ (fun Q hQ => ?_)
  refine lv_aload_n hx hb dX11_drawn_0 rfl (lv_at hl 0 rfl) ?_
  refine lv_iload_n hx hb dX11_drawn_1 rfl (lv_at hl 1 rfl) ?_
  have hPc := hP.sub (ws' := [(x0, .inr (11, [.ref pg, .ref rd, .ref aq, .ref py, .ref pl, .ref ch, .ref ro, .int 0, .int 0]))]) [0] rfl
  have hKc := hK.sub (tys' := []) [] rfl
  refine va_csq (W.runV (As := [.int p1]) (rest := []) ⟨hx, hb, hml, hown, hg⟩ (x_payOf l D x0 pg rd aq py pl ch ro p1) (cwV 1 hg (gw_V kw_19 kw_20 kw_21 kw_6 kw_18) rfl rfl rfl (by decide +kernel) ⟨Nat.le_of_ble_eq_true rfl, Nat.le_of_ble_eq_true rfl⟩) (pr_SV (q := (RX11, TX11, 9)) 11 0 hKc hPc rfl rfl) rfl rfl hl.1 rfl (lv_room (Nat.le_of_ble_eq_true rfl)) dX11_drawn_2 ⟨Nat.le_of_ble_eq_true rfl, Nat.le_of_ble_eq_true rfl⟩) (fun r_2 h_2 => ?_)
  obtain rfl : r_2 = none := h_2
  refine W.eq (g2 := F0 m 5 ls [.null]) rfl ?_
  refine lv_astore_nN (lv' := [(2, .null), (0, .ref x0), (1, .int p1)]) hx hb dX11_drawn_5 rfl hl (by decide) rfl (fun ls hl => ?_)
  refine lv_aload_nN hx hb dX11_drawn_6 rfl (lv_at hl 0 rfl) ?_
  refine lv_ifnonnullN hx hb dX11_drawn_7 ?_
  refine lv_bipush (v := (-101)) hx hb dX11_drawn_10 (by decide) ?_
  subst hQ
  exact W.iret (v := (-101)) hx hb hr (fun t ht hW => ⟨(-101), rfl, rfl, ht⟩) (fun _ h => absurd h List.not_mem_nil) dX11_drawn_12

theorem dX11_leastSame_0 : decode cX11_leastSame 0 = .ok (.aload_n 0, 1) := by decide +kernel
theorem dX11_leastSame_1 : decode cX11_leastSame 1 = .ok (.getfield 26, 3) := by decide +kernel
theorem dX11_leastSame_4 : decode cX11_leastSame 4 = .ok (.invokevirtual 204, 3) := by decide +kernel
theorem dX11_leastSame_7 : decode cX11_leastSame 7 = .ok (.ifCond .eq 13, 3) := by decide +kernel
theorem dX11_leastSame_10 : decode cX11_leastSame 10 = .ok (.aload_n 0, 1) := by decide +kernel
theorem dX11_leastSame_11 : decode cX11_leastSame 11 = .ok (.getfield 48, 3) := by decide +kernel
theorem dX11_leastSame_14 : decode cX11_leastSame 14 = .ok (.invokevirtual 241, 3) := by decide +kernel
theorem dX11_leastSame_17 : decode cX11_leastSame 17 = .ok (.goto 5, 3) := by decide +kernel
theorem dX11_leastSame_20 : decode cX11_leastSame 20 = .ok (.bipush (-103), 2) := by decide +kernel
theorem dX11_leastSame_22 : decode cX11_leastSame 22 = .ok (.ireturn, 1) := by decide +kernel
theorem kw_27 : (.code yX5_stands cX5_stands 1 (some .boolean) : Cond) ∈ gw_tbl := gw_in (by decide +kernel) (by decide +kernel)
theorem kw_28 : (.methodLink RX11 204 yX5_stands : Cond) ∈ gw_tbl := gw_in (by decide +kernel) (by decide +kernel)
theorem kw_29 : (.instanceMethod yX5_stands : Cond) ∈ gw_tbl := gw_in (by decide +kernel) (by decide +kernel)
theorem kw_30 : (.selects RX5 yX5_stands yX5_stands : Cond) ∈ gw_tbl := gw_in (by decide +kernel) (by decide +kernel)

set_option maxHeartbeats 4000000 in
set_option maxRecDepth 100000 in
theorem x_leastSame (l : Launch) (D : va_G) (x0 : Nat) (pg : Nat) (rd : Nat) (aq : Nat) (py : Nat) (pl : Nat) (ch : Nat) (ro : Nat) (a1 : Nat) (a2 : Nat) (a3 : Nat) (a4 : Nat) : Met l yX11_leastSame (Cond.code yX11_leastSame cX11_leastSame 1 (some .int) :: gw_tbl) ({ frames := 1, cells := 0, slots := 0, locals := 20 }) (pc_S D [] [(x0, .inr (11, [.ref pg, .ref rd, .ref aq, .ref py, .ref pl, .ref ch, .ref ro, .int 0, .int 0])), (aq, .inr (5, [.ref a1, .ref a2, .ref a3, .ref a4, .int 0, .int 0, .long 0]))] [.ref x0]) (vp_Si (fun r => r = (-103))) 0 0 (fun _ => False) := by
  refine Met.ofW (cc := cX11_leastSame) (maxL := 1) (ret := (some .int)) (by decide) rfl ?_
  intro p e s m args below meth c s₁ B hml hv
  obtain ⟨hargs, hP, hK⟩ := hv
  have hx := B.exec
  have hb := B.bytes
  have hr := B.returns
  have hts := atoms_spec (ws := Cond.code yX11_leastSame cX11_leastSame 1 (some .int) :: gw_tbl) B.pre
  have hg := fun (w : Cond) (h : w ∈ gw_tbl) => hts w (List.mem_cons_of_mem _ h)
  have hown : s.vm.findClass RX11 = some m.cls := findClass_of_methodNamed B.named
  have hlocks := B.notSynchronized
  have hl := lv_entry ([.ref x0]) (n := 1) (Nat.le_of_ble_eq_true rfl)
  rw [show entryFrame m args 1 = F0 m 0 (lg_sl ([.ref x0]) ++ List.replicate (1 - (lg_sl ([.ref x0])).length) Slot.unset).toArray [] from by rw [hargs]; exact lg_entry_eq ..]
  generalize (lg_sl ([.ref x0]) ++ List.replicate (1 - (lg_sl ([.ref x0])).length) Slot.unset).toArray = ls at hl ⊢
  have hl : lv_has ls 1 [(0, .ref x0)] := hl
  refine W_genQ (fun Q hQ => ?_)
  refine lv_aload_n hx hb dX11_leastSame_0 rfl (lv_at hl 0 rfl) ?_
  refine va_get (D := D) (ci := 11) (v := .ref aq) (C := RX11) (T := TX11) (N := 9) hx hb hg gwX11 hown hK hP 0 rfl rfl 2 (by decide) (hg _ kw_7) (fun _ h9 => h9) rfl dX11_leastSame_1 ?_
  have hPc := hP.sub (ws' := [(aq, .inr (5, [.ref a1, .ref a2, .ref a3, .ref a4, .int 0, .int 0, .long 0]))]) [1] rfl
  have hKc := hK.sub (tys' := []) [] rfl
  refine vp_callSi (W.runV (As := []) (rest := []) ⟨hx, hb, hml, hown, hg⟩ (q_stands l D aq a1 a2 a3 a4) (cwV 0 hg (gw_V kw_28 kw_29 kw_30 kw_12 kw_27) rfl rfl rfl (by decide +kernel) ⟨Nat.le_of_ble_eq_true rfl, Nat.le_of_ble_eq_true rfl⟩) (pr_SV (q := (RX5, TX5, 7)) 5 0 hKc hPc rfl rfl) rfl rfl hl.1 rfl (lv_room (Nat.le_of_ble_eq_true rfl)) dX11_leastSame_4 ⟨Nat.le_of_ble_eq_true rfl, Nat.le_of_ble_eq_true rfl⟩) (fun r_4 h_4 => ?_)
  obtain rfl : r_4 = (0 : Int32) := h_4
  refine lv_if_eq (tgt := 20) hx hb dX11_leastSame_7 (by decide) (fun c_7 => ?_) (fun c_7 => absurd (by decide) c_7)
  refine lv_bipush (v := (-103)) hx hb dX11_leastSame_20 (by decide) ?_
  subst hQ
  exact W.iret (v := (-103)) hx hb hr (fun t ht hW => ⟨(-103), rfl, rfl, ht⟩) (fun _ h => absurd h List.not_mem_nil) dX11_leastSame_22

theorem dX11_leastTable_0 : decode cX11_leastTable 0 = .ok (.aload_n 0, 1) := by decide +kernel
theorem dX11_leastTable_1 : decode cX11_leastTable 1 = .ok (.getfield 26, 3) := by decide +kernel
theorem dX11_leastTable_4 : decode cX11_leastTable 4 = .ok (.invokevirtual 204, 3) := by decide +kernel
theorem dX11_leastTable_7 : decode cX11_leastTable 7 = .ok (.ifCond .ne 6, 3) := by decide +kernel
theorem dX11_leastTable_10 : decode cX11_leastTable 10 = .ok (.bipush (-103), 2) := by decide +kernel
theorem dX11_leastTable_12 : decode cX11_leastTable 12 = .ok (.ireturn, 1) := by decide +kernel
theorem dX11_leastTable_13 : decode cX11_leastTable 13 = .ok (.iload_n 1, 1) := by decide +kernel
theorem dX11_leastTable_14 : decode cX11_leastTable 14 = .ok (.iconst 0, 1) := by decide +kernel
theorem dX11_leastTable_15 : decode cX11_leastTable 15 = .ok (.iconst 4, 1) := by decide +kernel
theorem dX11_leastTable_16 : decode cX11_leastTable 16 = .ok (.invokestatic 105, 3) := by decide +kernel
theorem dX11_leastTable_19 : decode cX11_leastTable 19 = .ok (.ifCond .ne 6, 3) := by decide +kernel
theorem dX11_leastTable_22 : decode cX11_leastTable 22 = .ok (.bipush (-102), 2) := by decide +kernel
theorem dX11_leastTable_24 : decode cX11_leastTable 24 = .ok (.ireturn, 1) := by decide +kernel
theorem dX11_leastTable_25 : decode cX11_leastTable 25 = .ok (.aload_n 0, 1) := by decide +kernel
theorem dX11_leastTable_26 : decode cX11_leastTable 26 = .ok (.getfield 244, 3) := by decide +kernel
theorem dX11_leastTable_29 : decode cX11_leastTable 29 = .ok (.bipush 10, 2) := by decide +kernel
theorem dX11_leastTable_31 : decode cX11_leastTable 31 = .ok (.if_icmp .lt 6, 3) := by decide +kernel
theorem dX11_leastTable_34 : decode cX11_leastTable 34 = .ok (.bipush (-103), 2) := by decide +kernel
theorem dX11_leastTable_36 : decode cX11_leastTable 36 = .ok (.ireturn, 1) := by decide +kernel
theorem dX11_leastTable_37 : decode cX11_leastTable 37 = .ok (.aload_n 0, 1) := by decide +kernel
theorem dX11_leastTable_38 : decode cX11_leastTable 38 = .ok (.dup, 1) := by decide +kernel
theorem dX11_leastTable_39 : decode cX11_leastTable 39 = .ok (.getfield 244, 3) := by decide +kernel
theorem dX11_leastTable_42 : decode cX11_leastTable 42 = .ok (.iconst 1, 1) := by decide +kernel
theorem dX11_leastTable_43 : decode cX11_leastTable 43 = .ok (.iadd, 1) := by decide +kernel
theorem dX11_leastTable_44 : decode cX11_leastTable 44 = .ok (.putfield 244, 3) := by decide +kernel
theorem dX11_leastTable_47 : decode cX11_leastTable 47 = .ok (.aload_n 0, 1) := by decide +kernel
theorem dX11_leastTable_48 : decode cX11_leastTable 48 = .ok (.getfield 48, 3) := by decide +kernel
theorem dX11_leastTable_51 : decode cX11_leastTable 51 = .ok (.invokevirtual 247, 3) := by decide +kernel
theorem dX11_leastTable_54 : decode cX11_leastTable 54 = .ok (.iload_n 1, 1) := by decide +kernel
theorem dX11_leastTable_55 : decode cX11_leastTable 55 = .ok (.iconst 4, 1) := by decide +kernel
theorem dX11_leastTable_56 : decode cX11_leastTable 56 = .ok (.if_icmp .ne 13, 3) := by decide +kernel
theorem dX11_leastTable_59 : decode cX11_leastTable 59 = .ok (.aload_n 0, 1) := by decide +kernel
theorem dX11_leastTable_60 : decode cX11_leastTable 60 = .ok (.getfield 48, 3) := by decide +kernel
theorem dX11_leastTable_63 : decode cX11_leastTable 63 = .ok (.getfield 250, 3) := by decide +kernel
theorem dX11_leastTable_66 : decode cX11_leastTable 66 = .ok (.goto 12, 3) := by decide +kernel
theorem dX11_leastTable_69 : decode cX11_leastTable 69 = .ok (.aload_n 0, 1) := by decide +kernel
theorem dX11_leastTable_70 : decode cX11_leastTable 70 = .ok (.getfield 48, 3) := by decide +kernel
theorem dX11_leastTable_73 : decode cX11_leastTable 73 = .ok (.getfield 253, 3) := by decide +kernel
theorem dX11_leastTable_76 : decode cX11_leastTable 76 = .ok (.iload_n 1, 1) := by decide +kernel
theorem dX11_leastTable_77 : decode cX11_leastTable 77 = .ok (.iaload, 1) := by decide +kernel
theorem dX11_leastTable_78 : decode cX11_leastTable 78 = .ok (.ireturn, 1) := by decide +kernel

set_option maxHeartbeats 4000000 in
set_option maxRecDepth 100000 in
theorem x_leastTable (l : Launch) (D : va_G) (x0 : Nat) (pg : Nat) (rd : Nat) (aq : Nat) (py : Nat) (pl : Nat) (ch : Nat) (ro : Nat) (a1 : Nat) (a2 : Nat) (a3 : Nat) (a4 : Nat) (p1 : Int32) : Met l yX11_leastTable (Cond.code yX11_leastTable cX11_leastTable 2 (some .int) :: gw_tbl) ({ frames := 1, cells := 0, slots := 0, locals := 20 }) (pc_S D [] [(x0, .inr (11, [.ref pg, .ref rd, .ref aq, .ref py, .ref pl, .ref ch, .ref ro, .int 0, .int 0])), (aq, .inr (5, [.ref a1, .ref a2, .ref a3, .ref a4, .int 0, .int 0, .long 0]))] [.ref x0, .int p1]) (vp_Si (fun r => r = (-103))) 0 0 (fun _ => False) := by
  refine Met.ofW (cc := cX11_leastTable) (maxL := 2) (ret := (some .int)) (by decide) rfl ?_
  intro p e s m args below meth c s₁ B hml hv
  obtain ⟨hargs, hP, hK⟩ := hv
  have hx := B.exec
  have hb := B.bytes
  have hr := B.returns
  have hts := atoms_spec (ws := Cond.code yX11_leastTable cX11_leastTable 2 (some .int) :: gw_tbl) B.pre
  have hg := fun (w : Cond) (h : w ∈ gw_tbl) => hts w (List.mem_cons_of_mem _ h)
  have hown : s.vm.findClass RX11 = some m.cls := findClass_of_methodNamed B.named
  have hlocks := B.notSynchronized
  have hl := lv_entry ([.ref x0, .int p1]) (n := 2) (Nat.le_of_ble_eq_true rfl)
  rw [show entryFrame m args 2 = F0 m 0 (lg_sl ([.ref x0, .int p1]) ++ List.replicate (2 - (lg_sl ([.ref x0, .int p1])).length) Slot.unset).toArray [] from by rw [hargs]; exact lg_entry_eq ..]
  generalize (lg_sl ([.ref x0, .int p1]) ++ List.replicate (2 - (lg_sl ([.ref x0, .int p1])).length) Slot.unset).toArray = ls at hl ⊢
  have hl : lv_has ls 2 [(0, .ref x0), (1, .int p1)] := hl
  refine W_genQ (fun Q hQ => ?_)
  refine lv_aload_n hx hb dX11_leastTable_0 rfl (lv_at hl 0 rfl) ?_
  refine va_get (D := D) (ci := 11) (v := .ref aq) (C := RX11) (T := TX11) (N := 9) hx hb hg gwX11 hown hK hP 0 rfl rfl 2 (by decide) (hg _ kw_7) (fun _ h9 => h9) rfl dX11_leastTable_1 ?_
  have hPc := hP.sub (ws' := [(aq, .inr (5, [.ref a1, .ref a2, .ref a3, .ref a4, .int 0, .int 0, .long 0]))]) [1] rfl
  have hKc := hK.sub (tys' := []) [] rfl
  refine vp_callSi (W.runV (As := []) (rest := []) ⟨hx, hb, hml, hown, hg⟩ (q_stands l D aq a1 a2 a3 a4) (cwV 0 hg (gw_V kw_28 kw_29 kw_30 kw_12 kw_27) rfl rfl rfl (by decide +kernel) ⟨Nat.le_of_ble_eq_true rfl, Nat.le_of_ble_eq_true rfl⟩) (pr_SV (q := (RX5, TX5, 7)) 5 0 hKc hPc rfl rfl) rfl rfl hl.1 rfl (lv_room (Nat.le_of_ble_eq_true rfl)) dX11_leastTable_4 ⟨Nat.le_of_ble_eq_true rfl, Nat.le_of_ble_eq_true rfl⟩) (fun r_4 h_4 => ?_)
  obtain rfl : r_4 = (0 : Int32) := h_4
  refine lv_if_ne (tgt := 13) hx hb dX11_leastTable_7 (by decide) (fun c_7 => absurd c_7 (by decide)) (fun c_7 => ?_)
  refine lv_bipush (v := (-103)) hx hb dX11_leastTable_10 (by decide) ?_
  subst hQ
  exact W.iret (v := (-103)) hx hb hr (fun t ht hW => ⟨(-103), rfl, rfl, ht⟩) (fun _ h => absurd h List.not_mem_nil) dX11_leastTable_12

theorem dX11_leastLook_0 : decode cX11_leastLook 0 = .ok (.aload_n 0, 1) := by decide +kernel
theorem dX11_leastLook_1 : decode cX11_leastLook 1 = .ok (.iload_n 1, 1) := by decide +kernel
theorem dX11_leastLook_2 : decode cX11_leastLook 2 = .ok (.invokevirtual 145, 3) := by decide +kernel
theorem dX11_leastLook_5 : decode cX11_leastLook 5 = .ok (.astore_n 2, 1) := by decide +kernel
theorem dX11_leastLook_6 : decode cX11_leastLook 6 = .ok (.aload_n 2, 1) := by decide +kernel
theorem dX11_leastLook_7 : decode cX11_leastLook 7 = .ok (.ifnonnull 6, 3) := by decide +kernel
theorem dX11_leastLook_10 : decode cX11_leastLook 10 = .ok (.bipush (-101), 2) := by decide +kernel
theorem dX11_leastLook_12 : decode cX11_leastLook 12 = .ok (.ireturn, 1) := by decide +kernel
theorem dX11_leastLook_13 : decode cX11_leastLook 13 = .ok (.aload_n 0, 1) := by decide +kernel
theorem dX11_leastLook_14 : decode cX11_leastLook 14 = .ok (.getfield 26, 3) := by decide +kernel
theorem dX11_leastLook_17 : decode cX11_leastLook 17 = .ok (.invokevirtual 204, 3) := by decide +kernel
theorem dX11_leastLook_20 : decode cX11_leastLook 20 = .ok (.ifCond .eq 11, 3) := by decide +kernel
theorem dX11_leastLook_23 : decode cX11_leastLook 23 = .ok (.aload_n 2, 1) := by decide +kernel
theorem dX11_leastLook_24 : decode cX11_leastLook 24 = .ok (.invokevirtual 152, 3) := by decide +kernel
theorem dX11_leastLook_27 : decode cX11_leastLook 27 = .ok (.iconst 4, 1) := by decide +kernel
theorem dX11_leastLook_28 : decode cX11_leastLook 28 = .ok (.if_icmp .eq 6, 3) := by decide +kernel
theorem dX11_leastLook_31 : decode cX11_leastLook 31 = .ok (.bipush (-103), 2) := by decide +kernel
theorem dX11_leastLook_33 : decode cX11_leastLook 33 = .ok (.ireturn, 1) := by decide +kernel
theorem dX11_leastLook_34 : decode cX11_leastLook 34 = .ok (.aload_n 0, 1) := by decide +kernel
theorem dX11_leastLook_35 : decode cX11_leastLook 35 = .ok (.getfield 48, 3) := by decide +kernel
theorem dX11_leastLook_38 : decode cX11_leastLook 38 = .ok (.aload_n 2, 1) := by decide +kernel
theorem dX11_leastLook_39 : decode cX11_leastLook 39 = .ok (.invokevirtual 256, 3) := by decide +kernel
theorem dX11_leastLook_42 : decode cX11_leastLook 42 = .ok (.ireturn, 1) := by decide +kernel

set_option maxHeartbeats 4000000 in
set_option maxRecDepth 100000 in
theorem x_leastLook (l : Launch) (D : va_G) (x0 : Nat) (pg : Nat) (rd : Nat) (aq : Nat) (py : Nat) (pl : Nat) (ch : Nat) (ro : Nat) (p1 : Int32) : Met l yX11_leastLook (Cond.code yX11_leastLook cX11_leastLook 3 (some .int) :: gw_tbl) ({ frames := 2, cells := 0, slots := 0, locals := 43 }) (pc_S D [] [(x0, .inr (11, [.ref pg, .ref rd, .ref aq, .ref py, .ref pl, .ref ch, .ref ro, .int 0, .int 0]))] [.ref x0, .int p1]) (vp_Si (fun r => r = (-101))) 0 0 (fun _ => False) := by
  refine Met.ofW (cc := cX11_leastLook) (maxL := 3) (ret := (some .int)) (by decide) rfl ?_
  intro p e s m args below meth c s₁ B hml hv
  obtain ⟨hargs, hP, hK⟩ := hv
  have hx := B.exec
  have hb := B.bytes
  have hr := B.returns
  have hts := atoms_spec (ws := Cond.code yX11_leastLook cX11_leastLook 3 (some .int) :: gw_tbl) B.pre
  have hg := fun (w : Cond) (h : w ∈ gw_tbl) => hts w (List.mem_cons_of_mem _ h)
  have hown : s.vm.findClass RX11 = some m.cls := findClass_of_methodNamed B.named
  have hlocks := B.notSynchronized
  have hl := lv_entry ([.ref x0, .int p1]) (n := 3) (Nat.le_of_ble_eq_true rfl)
  rw [show entryFrame m args 3 = F0 m 0 (lg_sl ([.ref x0, .int p1]) ++ List.replicate (3 - (lg_sl ([.ref x0, .int p1])).length) Slot.unset).toArray [] from by rw [hargs]; exact lg_entry_eq ..]
  generalize (lg_sl ([.ref x0, .int p1]) ++ List.replicate (3 - (lg_sl ([.ref x0, .int p1])).length) Slot.unset).toArray = ls at hl ⊢
  have hl : lv_has ls 3 [(0, .ref x0), (1, .int p1)] := hl
  refine W_genQ (fun Q hQ => ?_)
  refine lv_aload_n hx hb dX11_leastLook_0 rfl (lv_at hl 0 rfl) ?_
  refine lv_iload_n hx hb dX11_leastLook_1 rfl (lv_at hl 1 rfl) ?_
  have hPc := hP.sub (ws' := [(x0, .inr (11, [.ref pg, .ref rd, .ref aq, .ref py, .ref pl, .ref ch, .ref ro, .int 0, .int 0]))]) [0] rfl
  have hKc := hK.sub (tys' := []) [] rfl
  refine va_csq (W.runV (As := [.int p1]) (rest := []) ⟨hx, hb, hml, hown, hg⟩ (x_payOf l D x0 pg rd aq py pl ch ro p1) (cwV 1 hg (gw_V kw_19 kw_20 kw_21 kw_6 kw_18) rfl rfl rfl (by decide +kernel) ⟨Nat.le_of_ble_eq_true rfl, Nat.le_of_ble_eq_true rfl⟩) (pr_SV (q := (RX11, TX11, 9)) 11 0 hKc hPc rfl rfl) rfl rfl hl.1 rfl (lv_room (Nat.le_of_ble_eq_true rfl)) dX11_leastLook_2 ⟨Nat.le_of_ble_eq_true rfl, Nat.le_of_ble_eq_true rfl⟩) (fun r_2 h_2 => ?_)
  obtain rfl : r_2 = none := h_2
  refine W.eq (g2 := F0 m 5 ls [.null]) rfl ?_
  refine lv_astore_nN (lv' := [(2, .null), (0, .ref x0), (1, .int p1)]) hx hb dX11_leastLook_5 rfl hl (by decide) rfl (fun ls hl => ?_)
  refine lv_aload_nN hx hb dX11_leastLook_6 rfl (lv_at hl 0 rfl) ?_
  refine lv_ifnonnullN hx hb dX11_leastLook_7 ?_
  refine lv_bipush (v := (-101)) hx hb dX11_leastLook_10 (by decide) ?_
  subst hQ
  exact W.iret (v := (-101)) hx hb hr (fun t ht hW => ⟨(-101), rfl, rfl, ht⟩) (fun _ h => absurd h List.not_mem_nil) dX11_leastLook_12

theorem dX11_mayBe_0 : decode cX11_mayBe 0 = .ok (.aload_n 0, 1) := by decide +kernel
theorem dX11_mayBe_1 : decode cX11_mayBe 1 = .ok (.iload_n 1, 1) := by decide +kernel
theorem dX11_mayBe_2 : decode cX11_mayBe 2 = .ok (.invokevirtual 145, 3) := by decide +kernel
theorem dX11_mayBe_5 : decode cX11_mayBe 5 = .ok (.astore_n 3, 1) := by decide +kernel
theorem dX11_mayBe_6 : decode cX11_mayBe 6 = .ok (.aload_n 3, 1) := by decide +kernel
theorem dX11_mayBe_7 : decode cX11_mayBe 7 = .ok (.ifnonnull 6, 3) := by decide +kernel
theorem dX11_mayBe_10 : decode cX11_mayBe 10 = .ok (.bipush (-101), 2) := by decide +kernel
theorem dX11_mayBe_12 : decode cX11_mayBe 12 = .ok (.ireturn, 1) := by decide +kernel
theorem dX11_mayBe_13 : decode cX11_mayBe 13 = .ok (.aload_n 0, 1) := by decide +kernel
theorem dX11_mayBe_14 : decode cX11_mayBe 14 = .ok (.getfield 26, 3) := by decide +kernel
theorem dX11_mayBe_17 : decode cX11_mayBe 17 = .ok (.invokevirtual 204, 3) := by decide +kernel
theorem dX11_mayBe_20 : decode cX11_mayBe 20 = .ok (.ifCond .ne 6, 3) := by decide +kernel
theorem dX11_mayBe_23 : decode cX11_mayBe 23 = .ok (.bipush (-103), 2) := by decide +kernel
theorem dX11_mayBe_25 : decode cX11_mayBe 25 = .ok (.ireturn, 1) := by decide +kernel
theorem dX11_mayBe_26 : decode cX11_mayBe 26 = .ok (.iload_n 2, 1) := by decide +kernel
theorem dX11_mayBe_27 : decode cX11_mayBe 27 = .ok (.iconst 0, 1) := by decide +kernel
theorem dX11_mayBe_28 : decode cX11_mayBe 28 = .ok (.bipush 100, 2) := by decide +kernel
theorem dX11_mayBe_30 : decode cX11_mayBe 30 = .ok (.invokestatic 105, 3) := by decide +kernel
theorem dX11_mayBe_33 : decode cX11_mayBe 33 = .ok (.ifCond .eq 15, 3) := by decide +kernel
theorem dX11_mayBe_36 : decode cX11_mayBe 36 = .ok (.aload_n 0, 1) := by decide +kernel
theorem dX11_mayBe_37 : decode cX11_mayBe 37 = .ok (.getfield 48, 3) := by decide +kernel
theorem dX11_mayBe_40 : decode cX11_mayBe 40 = .ok (.aload_n 3, 1) := by decide +kernel
theorem dX11_mayBe_41 : decode cX11_mayBe 41 = .ok (.iload_n 2, 1) := by decide +kernel
theorem dX11_mayBe_42 : decode cX11_mayBe 42 = .ok (.invokevirtual 260, 3) := by decide +kernel
theorem dX11_mayBe_45 : decode cX11_mayBe 45 = .ok (.goto 5, 3) := by decide +kernel
theorem dX11_mayBe_48 : decode cX11_mayBe 48 = .ok (.bipush (-102), 2) := by decide +kernel
theorem dX11_mayBe_50 : decode cX11_mayBe 50 = .ok (.ireturn, 1) := by decide +kernel

set_option maxHeartbeats 4000000 in
set_option maxRecDepth 100000 in
theorem x_mayBe (l : Launch) (D : va_G) (x0 : Nat) (pg : Nat) (rd : Nat) (aq : Nat) (py : Nat) (pl : Nat) (ch : Nat) (ro : Nat) (p1 : Int32) (p2 : Int32) : Met l yX11_mayBe (Cond.code yX11_mayBe cX11_mayBe 4 (some .int) :: gw_tbl) ({ frames := 2, cells := 0, slots := 0, locals := 43 }) (pc_S D [] [(x0, .inr (11, [.ref pg, .ref rd, .ref aq, .ref py, .ref pl, .ref ch, .ref ro, .int 0, .int 0]))] [.ref x0, .int p1, .int p2]) (vp_Si (fun r => r = (-101))) 0 0 (fun _ => False) := by
  refine Met.ofW (cc := cX11_mayBe) (maxL := 4) (ret := (some .int)) (by decide) rfl ?_
  intro p e s m args below meth c s₁ B hml hv
  obtain ⟨hargs, hP, hK⟩ := hv
  have hx := B.exec
  have hb := B.bytes
  have hr := B.returns
  have hts := atoms_spec (ws := Cond.code yX11_mayBe cX11_mayBe 4 (some .int) :: gw_tbl) B.pre
  have hg := fun (w : Cond) (h : w ∈ gw_tbl) => hts w (List.mem_cons_of_mem _ h)
  have hown : s.vm.findClass RX11 = some m.cls := findClass_of_methodNamed B.named
  have hlocks := B.notSynchronized
  have hl := lv_entry ([.ref x0, .int p1, .int p2]) (n := 4) (Nat.le_of_ble_eq_true rfl)
  rw [show entryFrame m args 4 = F0 m 0 (lg_sl ([.ref x0, .int p1, .int p2]) ++ List.replicate (4 - (lg_sl ([.ref x0, .int p1, .int p2])).length) Slot.unset).toArray [] from by rw [hargs]; exact lg_entry_eq ..]
  generalize (lg_sl ([.ref x0, .int p1, .int p2]) ++ List.replicate (4 - (lg_sl ([.ref x0, .int p1, .int p2])).length) Slot.unset).toArray = ls at hl ⊢
  have hl : lv_has ls 4 [(0, .ref x0), (1, .int p1), (2, .int p2)] := hl
  refine W_genQ (fun Q hQ => ?_)
  refine lv_aload_n hx hb dX11_mayBe_0 rfl (lv_at hl 0 rfl) ?_
  refine lv_iload_n hx hb dX11_mayBe_1 rfl (lv_at hl 1 rfl) ?_
  have hPc := hP.sub (ws' := [(x0, .inr (11, [.ref pg, .ref rd, .ref aq, .ref py, .ref pl, .ref ch, .ref ro, .int 0, .int 0]))]) [0] rfl
  have hKc := hK.sub (tys' := []) [] rfl
  refine va_csq (W.runV (As := [.int p1]) (rest := []) ⟨hx, hb, hml, hown, hg⟩ (x_payOf l D x0 pg rd aq py pl ch ro p1) (cwV 1 hg (gw_V kw_19 kw_20 kw_21 kw_6 kw_18) rfl rfl rfl (by decide +kernel) ⟨Nat.le_of_ble_eq_true rfl, Nat.le_of_ble_eq_true rfl⟩) (pr_SV (q := (RX11, TX11, 9)) 11 0 hKc hPc rfl rfl) rfl rfl hl.1 rfl (lv_room (Nat.le_of_ble_eq_true rfl)) dX11_mayBe_2 ⟨Nat.le_of_ble_eq_true rfl, Nat.le_of_ble_eq_true rfl⟩) (fun r_2 h_2 => ?_)
  obtain rfl : r_2 = none := h_2
  refine W.eq (g2 := F0 m 5 ls [.null]) rfl ?_
  refine lv_astore_nN (lv' := [(3, .null), (0, .ref x0), (1, .int p1), (2, .int p2)]) hx hb dX11_mayBe_5 rfl hl (by decide) rfl (fun ls hl => ?_)
  refine lv_aload_nN hx hb dX11_mayBe_6 rfl (lv_at hl 0 rfl) ?_
  refine lv_ifnonnullN hx hb dX11_mayBe_7 ?_
  refine lv_bipush (v := (-101)) hx hb dX11_mayBe_10 (by decide) ?_
  subst hQ
  exact W.iret (v := (-101)) hx hb hr (fun t ht hW => ⟨(-101), rfl, rfl, ht⟩) (fun _ h => absurd h List.not_mem_nil) dX11_mayBe_12

theorem dX11_row_0 : decode cX11_row 0 = .ok (.aload_n 0, 1) := by decide +kernel
theorem dX11_row_1 : decode cX11_row 1 = .ok (.getfield 26, 3) := by decide +kernel
theorem dX11_row_4 : decode cX11_row 4 = .ok (.invokevirtual 204, 3) := by decide +kernel
theorem dX11_row_7 : decode cX11_row 7 = .ok (.ifCond .ne 6, 3) := by decide +kernel
theorem dX11_row_10 : decode cX11_row 10 = .ok (.bipush (-103), 2) := by decide +kernel
theorem dX11_row_12 : decode cX11_row 12 = .ok (.ireturn, 1) := by decide +kernel
theorem dX11_row_13 : decode cX11_row 13 = .ok (.iload_n 1, 1) := by decide +kernel
theorem dX11_row_14 : decode cX11_row 14 = .ok (.iconst 0, 1) := by decide +kernel
theorem dX11_row_15 : decode cX11_row 15 = .ok (.aload_n 0, 1) := by decide +kernel
theorem dX11_row_16 : decode cX11_row 16 = .ok (.getfield 26, 3) := by decide +kernel
theorem dX11_row_19 : decode cX11_row 19 = .ok (.getfield 87, 3) := by decide +kernel
theorem dX11_row_22 : decode cX11_row 22 = .ok (.invokestatic 264, 3) := by decide +kernel
theorem dX11_row_25 : decode cX11_row 25 = .ok (.iconst 1, 1) := by decide +kernel
theorem dX11_row_26 : decode cX11_row 26 = .ok (.isub, 1) := by decide +kernel
theorem dX11_row_27 : decode cX11_row 27 = .ok (.invokestatic 105, 3) := by decide +kernel
theorem dX11_row_30 : decode cX11_row 30 = .ok (.ifCond .ne 6, 3) := by decide +kernel
theorem dX11_row_33 : decode cX11_row 33 = .ok (.bipush (-102), 2) := by decide +kernel
theorem dX11_row_35 : decode cX11_row 35 = .ok (.ireturn, 1) := by decide +kernel
theorem dX11_row_36 : decode cX11_row 36 = .ok (.lload_n 2, 1) := by decide +kernel
theorem dX11_row_37 : decode cX11_row 37 = .ok (.ldc2_w 120, 3) := by decide +kernel
theorem dX11_row_40 : decode cX11_row 40 = .ok (.lcmp, 1) := by decide +kernel
theorem dX11_row_41 : decode cX11_row 41 = .ok (.ifCond .lt 18, 3) := by decide +kernel
theorem dX11_row_44 : decode cX11_row 44 = .ok (.lload_n 2, 1) := by decide +kernel
theorem dX11_row_45 : decode cX11_row 45 = .ok (.aload_n 0, 1) := by decide +kernel
theorem dX11_row_46 : decode cX11_row 46 = .ok (.getfield 26, 3) := by decide +kernel
theorem dX11_row_49 : decode cX11_row 49 = .ok (.getfield 87, 3) := by decide +kernel
theorem dX11_row_52 : decode cX11_row 52 = .ok (.invokestatic 267, 3) := by decide +kernel
theorem dX11_row_55 : decode cX11_row 55 = .ok (.lcmp, 1) := by decide +kernel
theorem dX11_row_56 : decode cX11_row 56 = .ok (.ifCond .lt 6, 3) := by decide +kernel
theorem dX11_row_59 : decode cX11_row 59 = .ok (.bipush (-102), 2) := by decide +kernel
theorem dX11_row_61 : decode cX11_row 61 = .ok (.ireturn, 1) := by decide +kernel
theorem dX11_row_62 : decode cX11_row 62 = .ok (.aload_n 0, 1) := by decide +kernel
theorem dX11_row_63 : decode cX11_row 63 = .ok (.getfield 55, 3) := by decide +kernel
theorem dX11_row_66 : decode cX11_row 66 = .ok (.getfield 83, 3) := by decide +kernel
theorem dX11_row_69 : decode cX11_row 69 = .ok (.bipush 24, 2) := by decide +kernel
theorem dX11_row_71 : decode cX11_row 71 = .ok (.if_icmp .lt 6, 3) := by decide +kernel
theorem dX11_row_74 : decode cX11_row 74 = .ok (.bipush (-104), 2) := by decide +kernel
theorem dX11_row_76 : decode cX11_row 76 = .ok (.ireturn, 1) := by decide +kernel
theorem dX11_row_77 : decode cX11_row 77 = .ok (.aload_n 0, 1) := by decide +kernel
theorem dX11_row_78 : decode cX11_row 78 = .ok (.getfield 55, 3) := by decide +kernel
theorem dX11_row_81 : decode cX11_row 81 = .ok (.iload_n 1, 1) := by decide +kernel
theorem dX11_row_82 : decode cX11_row 82 = .ok (.lload_n 2, 1) := by decide +kernel
theorem dX11_row_83 : decode cX11_row 83 = .ok (.invokevirtual 271, 3) := by decide +kernel
theorem dX11_row_86 : decode cX11_row 86 = .ok (.aload_n 0, 1) := by decide +kernel
theorem dX11_row_87 : decode cX11_row 87 = .ok (.getfield 55, 3) := by decide +kernel
theorem dX11_row_90 : decode cX11_row 90 = .ok (.getfield 83, 3) := by decide +kernel
theorem dX11_row_93 : decode cX11_row 93 = .ok (.ireturn, 1) := by decide +kernel

set_option maxHeartbeats 4000000 in
set_option maxRecDepth 100000 in
theorem x_row (l : Launch) (D : va_G) (x0 : Nat) (pg : Nat) (rd : Nat) (aq : Nat) (py : Nat) (pl : Nat) (ch : Nat) (ro : Nat) (a1 : Nat) (a2 : Nat) (a3 : Nat) (a4 : Nat) (p1 : Int32) (p2 : Int64) : Met l yX11_row (Cond.code yX11_row cX11_row 4 (some .int) :: gw_tbl) ({ frames := 1, cells := 0, slots := 0, locals := 20 }) (pc_S D [] [(x0, .inr (11, [.ref pg, .ref rd, .ref aq, .ref py, .ref pl, .ref ch, .ref ro, .int 0, .int 0])), (aq, .inr (5, [.ref a1, .ref a2, .ref a3, .ref a4, .int 0, .int 0, .long 0]))] [.ref x0, .int p1, .long p2]) (vp_Si (fun r => r = (-103))) 0 0 (fun _ => False) := by
  refine Met.ofW (cc := cX11_row) (maxL := 4) (ret := (some .int)) (by decide) rfl ?_
  intro p e s m args below meth c s₁ B hml hv
  obtain ⟨hargs, hP, hK⟩ := hv
  have hx := B.exec
  have hb := B.bytes
  have hr := B.returns
  have hts := atoms_spec (ws := Cond.code yX11_row cX11_row 4 (some .int) :: gw_tbl) B.pre
  have hg := fun (w : Cond) (h : w ∈ gw_tbl) => hts w (List.mem_cons_of_mem _ h)
  have hown : s.vm.findClass RX11 = some m.cls := findClass_of_methodNamed B.named
  have hlocks := B.notSynchronized
  have hl := lv_entry ([.ref x0, .int p1, .long p2]) (n := 4) (Nat.le_of_ble_eq_true rfl)
  rw [show entryFrame m args 4 = F0 m 0 (lg_sl ([.ref x0, .int p1, .long p2]) ++ List.replicate (4 - (lg_sl ([.ref x0, .int p1, .long p2])).length) Slot.unset).toArray [] from by rw [hargs]; exact lg_entry_eq ..]
  generalize (lg_sl ([.ref x0, .int p1, .long p2]) ++ List.replicate (4 - (lg_sl ([.ref x0, .int p1, .long p2])).length) Slot.unset).toArray = ls at hl ⊢
  have hl : lv_has ls 4 [(0, .ref x0), (1, .int p1), (2, .long p2)] := hl
  refine W_genQ (fun Q hQ => ?_)
  refine lv_aload_n hx hb dX11_row_0 rfl (lv_at hl 0 rfl) ?_
  refine va_get (D := D) (ci := 11) (v := .ref aq) (C := RX11) (T := TX11) (N := 9) hx hb hg gwX11 hown hK hP 0 rfl rfl 2 (by decide) (hg _ kw_7) (fun _ h9 => h9) rfl dX11_row_1 ?_
  have hPc := hP.sub (ws' := [(aq, .inr (5, [.ref a1, .ref a2, .ref a3, .ref a4, .int 0, .int 0, .long 0]))]) [1] rfl
  have hKc := hK.sub (tys' := []) [] rfl
  refine vp_callSi (W.runV (As := []) (rest := []) ⟨hx, hb, hml, hown, hg⟩ (q_stands l D aq a1 a2 a3 a4) (cwV 0 hg (gw_V kw_28 kw_29 kw_30 kw_12 kw_27) rfl rfl rfl (by decide +kernel) ⟨Nat.le_of_ble_eq_true rfl, Nat.le_of_ble_eq_true rfl⟩) (pr_SV (q := (RX5, TX5, 7)) 5 0 hKc hPc rfl rfl) rfl rfl hl.1 rfl (lv_room (Nat.le_of_ble_eq_true rfl)) dX11_row_4 ⟨Nat.le_of_ble_eq_true rfl, Nat.le_of_ble_eq_true rfl⟩) (fun r_4 h_4 => ?_)
  obtain rfl : r_4 = (0 : Int32) := h_4
  refine lv_if_ne (tgt := 13) hx hb dX11_row_7 (by decide) (fun c_7 => absurd c_7 (by decide)) (fun c_7 => ?_)
  refine lv_bipush (v := (-103)) hx hb dX11_row_10 (by decide) ?_
  subst hQ
  exact W.iret (v := (-103)) hx hb hr (fun t ht hW => ⟨(-103), rfl, rfl, ht⟩) (fun _ h => absurd h List.not_mem_nil) dX11_row_12

theorem dX11_alike_0 : decode cX11_alike 0 = .ok (.aload_n 0, 1) := by decide +kernel
theorem dX11_alike_1 : decode cX11_alike 1 = .ok (.getfield 26, 3) := by decide +kernel
theorem dX11_alike_4 : decode cX11_alike 4 = .ok (.iload_n 1, 1) := by decide +kernel
theorem dX11_alike_5 : decode cX11_alike 5 = .ok (.invokevirtual 98, 3) := by decide +kernel
theorem dX11_alike_8 : decode cX11_alike 8 = .ok (.ifCond .eq 19, 3) := by decide +kernel
theorem dX11_alike_11 : decode cX11_alike 11 = .ok (.aload_n 0, 1) := by decide +kernel
theorem dX11_alike_12 : decode cX11_alike 12 = .ok (.getfield 26, 3) := by decide +kernel
theorem dX11_alike_15 : decode cX11_alike 15 = .ok (.iload_n 2, 1) := by decide +kernel
theorem dX11_alike_16 : decode cX11_alike 16 = .ok (.invokevirtual 98, 3) := by decide +kernel
theorem dX11_alike_19 : decode cX11_alike 19 = .ok (.ifCond .eq 8, 3) := by decide +kernel
theorem dX11_alike_22 : decode cX11_alike 22 = .ok (.iload_n 1, 1) := by decide +kernel
theorem dX11_alike_23 : decode cX11_alike 23 = .ok (.iload_n 2, 1) := by decide +kernel
theorem dX11_alike_24 : decode cX11_alike 24 = .ok (.if_icmp .ne 7, 3) := by decide +kernel
theorem dX11_alike_27 : decode cX11_alike 27 = .ok (.ldc_w 274, 3) := by decide +kernel
theorem dX11_alike_30 : decode cX11_alike 30 = .ok (.ireturn, 1) := by decide +kernel
theorem dX11_alike_31 : decode cX11_alike 31 = .ok (.iload_n 3, 1) := by decide +kernel
theorem dX11_alike_32 : decode cX11_alike 32 = .ok (.iconst 0, 1) := by decide +kernel
theorem dX11_alike_33 : decode cX11_alike 33 = .ok (.iconst 3, 1) := by decide +kernel
theorem dX11_alike_34 : decode cX11_alike 34 = .ok (.invokestatic 105, 3) := by decide +kernel
theorem dX11_alike_37 : decode cX11_alike 37 = .ok (.ifCond .ne 7, 3) := by decide +kernel
theorem dX11_alike_40 : decode cX11_alike 40 = .ok (.ldc_w 275, 3) := by decide +kernel
theorem dX11_alike_43 : decode cX11_alike 43 = .ok (.ireturn, 1) := by decide +kernel
theorem dX11_alike_44 : decode cX11_alike 44 = .ok (.aload_n 0, 1) := by decide +kernel
theorem dX11_alike_45 : decode cX11_alike 45 = .ok (.getfield 55, 3) := by decide +kernel
theorem dX11_alike_48 : decode cX11_alike 48 = .ok (.iload_n 1, 1) := by decide +kernel
theorem dX11_alike_49 : decode cX11_alike 49 = .ok (.iload_n 2, 1) := by decide +kernel
theorem dX11_alike_50 : decode cX11_alike 50 = .ok (.invokevirtual 276, 3) := by decide +kernel
theorem dX11_alike_53 : decode cX11_alike 53 = .ok (.istore 4, 2) := by decide +kernel
theorem dX11_alike_55 : decode cX11_alike 55 = .ok (.iload_n 3, 1) := by decide +kernel
theorem dX11_alike_56 : decode cX11_alike 56 = .ok (.iconst 2, 1) := by decide +kernel
theorem dX11_alike_57 : decode cX11_alike 57 = .ok (.if_icmp .lt 7, 3) := by decide +kernel
theorem dX11_alike_60 : decode cX11_alike 60 = .ok (.iconst 1, 1) := by decide +kernel
theorem dX11_alike_61 : decode cX11_alike 61 = .ok (.goto 4, 3) := by decide +kernel
theorem dX11_alike_64 : decode cX11_alike 64 = .ok (.iconst 0, 1) := by decide +kernel
theorem dX11_alike_65 : decode cX11_alike 65 = .ok (.istore 5, 2) := by decide +kernel
theorem dX11_alike_67 : decode cX11_alike 67 = .ok (.iload 4, 2) := by decide +kernel
theorem dX11_alike_69 : decode cX11_alike 69 = .ok (.iload 5, 2) := by decide +kernel
theorem dX11_alike_71 : decode cX11_alike 71 = .ok (.ifCond .eq 7, 3) := by decide +kernel
theorem dX11_alike_74 : decode cX11_alike 74 = .ok (.iconst 2, 1) := by decide +kernel
theorem dX11_alike_75 : decode cX11_alike 75 = .ok (.goto 4, 3) := by decide +kernel
theorem dX11_alike_78 : decode cX11_alike 78 = .ok (.iconst 1, 1) := by decide +kernel
theorem dX11_alike_79 : decode cX11_alike 79 = .ok (.if_icmp .ge 7, 3) := by decide +kernel
theorem dX11_alike_82 : decode cX11_alike 82 = .ok (.ldc_w 279, 3) := by decide +kernel
theorem dX11_alike_85 : decode cX11_alike 85 = .ok (.ireturn, 1) := by decide +kernel
theorem dX11_alike_86 : decode cX11_alike 86 = .ok (.aload_n 0, 1) := by decide +kernel
theorem dX11_alike_87 : decode cX11_alike 87 = .ok (.getfield 55, 3) := by decide +kernel
theorem dX11_alike_90 : decode cX11_alike 90 = .ok (.iload_n 1, 1) := by decide +kernel
theorem dX11_alike_91 : decode cX11_alike 91 = .ok (.iload_n 2, 1) := by decide +kernel
theorem dX11_alike_92 : decode cX11_alike 92 = .ok (.invokevirtual 280, 3) := by decide +kernel
theorem dX11_alike_95 : decode cX11_alike 95 = .ok (.istore 6, 2) := by decide +kernel
theorem dX11_alike_97 : decode cX11_alike 97 = .ok (.iload 5, 2) := by decide +kernel
theorem dX11_alike_99 : decode cX11_alike 99 = .ok (.ifCond .ne 15, 3) := by decide +kernel
theorem dX11_alike_102 : decode cX11_alike 102 = .ok (.iload 6, 2) := by decide +kernel
theorem dX11_alike_104 : decode cX11_alike 104 = .ok (.i2l, 1) := by decide +kernel
theorem dX11_alike_105 : decode cX11_alike 105 = .ok (.iload 4, 2) := by decide +kernel
theorem dX11_alike_107 : decode cX11_alike 107 = .ok (.i2l, 1) := by decide +kernel
theorem dX11_alike_108 : decode cX11_alike 108 = .ok (.iload_n 3, 1) := by decide +kernel
theorem dX11_alike_109 : decode cX11_alike 109 = .ok (.invokestatic 126, 3) := by decide +kernel
theorem dX11_alike_112 : decode cX11_alike 112 = .ok (.l2i, 1) := by decide +kernel
theorem dX11_alike_113 : decode cX11_alike 113 = .ok (.ireturn, 1) := by decide +kernel
theorem dX11_alike_114 : decode cX11_alike 114 = .ok (.iload 4, 2) := by decide +kernel
theorem dX11_alike_116 : decode cX11_alike 116 = .ok (.iload 4, 2) := by decide +kernel
theorem dX11_alike_118 : decode cX11_alike 118 = .ok (.iconst 1, 1) := by decide +kernel
theorem dX11_alike_119 : decode cX11_alike 119 = .ok (.isub, 1) := by decide +kernel
theorem dX11_alike_120 : decode cX11_alike 120 = .ok (.imul, 1) := by decide +kernel
theorem dX11_alike_121 : decode cX11_alike 121 = .ok (.istore 7, 2) := by decide +kernel
theorem dX11_alike_123 : decode cX11_alike 123 = .ok (.iload 6, 2) := by decide +kernel
theorem dX11_alike_125 : decode cX11_alike 125 = .ok (.iload 4, 2) := by decide +kernel
theorem dX11_alike_127 : decode cX11_alike 127 = .ok (.iconst 1, 1) := by decide +kernel
theorem dX11_alike_128 : decode cX11_alike 128 = .ok (.isub, 1) := by decide +kernel
theorem dX11_alike_129 : decode cX11_alike 129 = .ok (.imul, 1) := by decide +kernel
theorem dX11_alike_130 : decode cX11_alike 130 = .ok (.aload_n 0, 1) := by decide +kernel
theorem dX11_alike_131 : decode cX11_alike 131 = .ok (.getfield 55, 3) := by decide +kernel
theorem dX11_alike_134 : decode cX11_alike 134 = .ok (.iload_n 1, 1) := by decide +kernel
theorem dX11_alike_135 : decode cX11_alike 135 = .ok (.iload_n 2, 1) := by decide +kernel
theorem dX11_alike_136 : decode cX11_alike 136 = .ok (.invokevirtual 283, 3) := by decide +kernel
theorem dX11_alike_139 : decode cX11_alike 139 = .ok (.isub, 1) := by decide +kernel
theorem dX11_alike_140 : decode cX11_alike 140 = .ok (.istore 8, 2) := by decide +kernel
theorem dX11_alike_142 : decode cX11_alike 142 = .ok (.iload 8, 2) := by decide +kernel
theorem dX11_alike_144 : decode cX11_alike 144 = .ok (.i2l, 1) := by decide +kernel
theorem dX11_alike_145 : decode cX11_alike 145 = .ok (.iload 7, 2) := by decide +kernel
theorem dX11_alike_147 : decode cX11_alike 147 = .ok (.i2l, 1) := by decide +kernel
theorem dX11_alike_148 : decode cX11_alike 148 = .ok (.iload_n 3, 1) := by decide +kernel
theorem dX11_alike_149 : decode cX11_alike 149 = .ok (.iconst 2, 1) := by decide +kernel
theorem dX11_alike_150 : decode cX11_alike 150 = .ok (.isub, 1) := by decide +kernel
theorem dX11_alike_151 : decode cX11_alike 151 = .ok (.invokestatic 126, 3) := by decide +kernel
theorem dX11_alike_154 : decode cX11_alike 154 = .ok (.l2i, 1) := by decide +kernel
theorem dX11_alike_155 : decode cX11_alike 155 = .ok (.ireturn, 1) := by decide +kernel
theorem kw_31 : (.constant RX11 274 (-1000001) : Cond) ∈ gw_tbl := gw_in (by decide +kernel) (by decide +kernel)

set_option maxHeartbeats 4000000 in
set_option maxRecDepth 100000 in
theorem x_alike (l : Launch) (D : va_G) (x0 : Nat) (pg : Nat) (rd : Nat) (aq : Nat) (py : Nat) (pl : Nat) (ch : Nat) (ro : Nat) (a1 : Nat) (a2 : Nat) (a3 : Nat) (a4 : Nat) (p1 : Int32) (p2 : Int32) (p3 : Int32) : Met l yX11_alike (Cond.code yX11_alike cX11_alike 9 (some .int) :: gw_tbl) ({ frames := 1, cells := 0, slots := 0, locals := 21 }) (pc_S D [] [(x0, .inr (11, [.ref pg, .ref rd, .ref aq, .ref py, .ref pl, .ref ch, .ref ro, .int 0, .int 0])), (aq, .inr (5, [.ref a1, .ref a2, .ref a3, .ref a4, .int 0, .int 0, .long 0]))] [.ref x0, .int p1, .int p2, .int p3]) (vp_Si (fun r => r = (-1000001))) 0 0 (fun _ => False) := by
  refine Met.ofW (cc := cX11_alike) (maxL := 9) (ret := (some .int)) (by decide) rfl ?_
  intro p e s m args below meth c s₁ B hml hv
  obtain ⟨hargs, hP, hK⟩ := hv
  have hx := B.exec
  have hb := B.bytes
  have hr := B.returns
  have hts := atoms_spec (ws := Cond.code yX11_alike cX11_alike 9 (some .int) :: gw_tbl) B.pre
  have hg := fun (w : Cond) (h : w ∈ gw_tbl) => hts w (List.mem_cons_of_mem _ h)
  have hown : s.vm.findClass RX11 = some m.cls := findClass_of_methodNamed B.named
  have hlocks := B.notSynchronized
  have hl := lv_entry ([.ref x0, .int p1, .int p2, .int p3]) (n := 9) (Nat.le_of_ble_eq_true rfl)
  rw [show entryFrame m args 9 = F0 m 0 (lg_sl ([.ref x0, .int p1, .int p2, .int p3]) ++ List.replicate (9 - (lg_sl ([.ref x0, .int p1, .int p2, .int p3])).length) Slot.unset).toArray [] from by rw [hargs]; exact lg_entry_eq ..]
  generalize (lg_sl ([.ref x0, .int p1, .int p2, .int p3]) ++ List.replicate (9 - (lg_sl ([.ref x0, .int p1, .int p2, .int p3])).length) Slot.unset).toArray = ls at hl ⊢
  have hl : lv_has ls 9 [(0, .ref x0), (1, .int p1), (2, .int p2), (3, .int p3)] := hl
  refine W_genQ (fun Q hQ => ?_)
  refine lv_aload_n hx hb dX11_alike_0 rfl (lv_at hl 0 rfl) ?_
  refine va_get (D := D) (ci := 11) (v := .ref aq) (C := RX11) (T := TX11) (N := 9) hx hb hg gwX11 hown hK hP 0 rfl rfl 2 (by decide) (hg _ kw_7) (fun _ h9 => h9) rfl dX11_alike_1 ?_
  refine lv_iload_n hx hb dX11_alike_4 rfl (lv_at hl 1 rfl) ?_
  have hPc := hP.sub (ws' := [(aq, .inr (5, [.ref a1, .ref a2, .ref a3, .ref a4, .int 0, .int 0, .long 0]))]) [1] rfl
  have hKc := hK.sub (tys' := []) [] rfl
  refine vp_callSi (W.runV (As := [.int p1]) (rest := []) ⟨hx, hb, hml, hown, hg⟩ (q_hasPerson l D aq a1 a2 a3 a4 p1) (cwV 1 hg (gw_V kw_14 kw_15 kw_16 kw_12 kw_13) rfl rfl rfl (by decide +kernel) ⟨Nat.le_of_ble_eq_true rfl, Nat.le_of_ble_eq_true rfl⟩) (pr_SV (q := (RX5, TX5, 7)) 5 0 hKc hPc rfl rfl) rfl rfl hl.1 rfl (lv_room (Nat.le_of_ble_eq_true rfl)) dX11_alike_5 ⟨Nat.le_of_ble_eq_true rfl, Nat.le_of_ble_eq_true rfl⟩) (fun r_5 h_5 => ?_)
  obtain rfl : r_5 = (0 : Int32) := h_5
  refine lv_if_eq (tgt := 27) hx hb dX11_alike_8 (by decide) (fun c_8 => ?_) (fun c_8 => absurd (by decide) c_8)
  refine lv_ldcw hx hb hown (hg _ kw_31) dX11_alike_27 ?_
  subst hQ
  exact W.iret (v := (-1000001)) hx hb hr (fun t ht hW => ⟨(-1000001), rfl, rfl, ht⟩) (fun _ h => absurd h List.not_mem_nil) dX11_alike_30

theorem dX11_crowd_0 : decode cX11_crowd 0 = .ok (.iload_n 1, 1) := by decide +kernel
theorem dX11_crowd_1 : decode cX11_crowd 1 = .ok (.iconst 0, 1) := by decide +kernel
theorem dX11_crowd_2 : decode cX11_crowd 2 = .ok (.aload_n 0, 1) := by decide +kernel
theorem dX11_crowd_3 : decode cX11_crowd 3 = .ok (.getfield 55, 3) := by decide +kernel
theorem dX11_crowd_6 : decode cX11_crowd 6 = .ok (.getfield 83, 3) := by decide +kernel
theorem dX11_crowd_9 : decode cX11_crowd 9 = .ok (.iconst 1, 1) := by decide +kernel
theorem dX11_crowd_10 : decode cX11_crowd 10 = .ok (.isub, 1) := by decide +kernel
theorem dX11_crowd_11 : decode cX11_crowd 11 = .ok (.invokestatic 105, 3) := by decide +kernel
theorem dX11_crowd_14 : decode cX11_crowd 14 = .ok (.ifCond .ne 6, 3) := by decide +kernel
theorem dX11_crowd_17 : decode cX11_crowd 17 = .ok (.bipush (-101), 2) := by decide +kernel
theorem dX11_crowd_19 : decode cX11_crowd 19 = .ok (.ireturn, 1) := by decide +kernel
theorem dX11_crowd_20 : decode cX11_crowd 20 = .ok (.iload_n 2, 1) := by decide +kernel
theorem dX11_crowd_21 : decode cX11_crowd 21 = .ok (.iconst 0, 1) := by decide +kernel
theorem dX11_crowd_22 : decode cX11_crowd 22 = .ok (.iconst 1, 1) := by decide +kernel
theorem dX11_crowd_23 : decode cX11_crowd 23 = .ok (.invokestatic 105, 3) := by decide +kernel
theorem dX11_crowd_26 : decode cX11_crowd 26 = .ok (.ifCond .ne 6, 3) := by decide +kernel
theorem dX11_crowd_29 : decode cX11_crowd 29 = .ok (.bipush (-102), 2) := by decide +kernel
theorem dX11_crowd_31 : decode cX11_crowd 31 = .ok (.ireturn, 1) := by decide +kernel
theorem dX11_crowd_32 : decode cX11_crowd 32 = .ok (.iload_n 2, 1) := by decide +kernel
theorem dX11_crowd_33 : decode cX11_crowd 33 = .ok (.ifCond .ne 21, 3) := by decide +kernel
theorem dX11_crowd_36 : decode cX11_crowd 36 = .ok (.aload_n 0, 1) := by decide +kernel
theorem dX11_crowd_37 : decode cX11_crowd 37 = .ok (.getfield 55, 3) := by decide +kernel
theorem dX11_crowd_40 : decode cX11_crowd 40 = .ok (.iload_n 1, 1) := by decide +kernel
theorem dX11_crowd_41 : decode cX11_crowd 41 = .ok (.aload_n 0, 1) := by decide +kernel
theorem dX11_crowd_42 : decode cX11_crowd 42 = .ok (.getfield 26, 3) := by decide +kernel
theorem dX11_crowd_45 : decode cX11_crowd 45 = .ok (.getfield 87, 3) := by decide +kernel
theorem dX11_crowd_48 : decode cX11_crowd 48 = .ok (.invokevirtual 286, 3) := by decide +kernel
theorem dX11_crowd_51 : decode cX11_crowd 51 = .ok (.goto 18, 3) := by decide +kernel
theorem dX11_crowd_54 : decode cX11_crowd 54 = .ok (.aload_n 0, 1) := by decide +kernel
theorem dX11_crowd_55 : decode cX11_crowd 55 = .ok (.getfield 55, 3) := by decide +kernel
theorem dX11_crowd_58 : decode cX11_crowd 58 = .ok (.iload_n 1, 1) := by decide +kernel
theorem dX11_crowd_59 : decode cX11_crowd 59 = .ok (.aload_n 0, 1) := by decide +kernel
theorem dX11_crowd_60 : decode cX11_crowd 60 = .ok (.getfield 26, 3) := by decide +kernel
theorem dX11_crowd_63 : decode cX11_crowd 63 = .ok (.getfield 87, 3) := by decide +kernel
theorem dX11_crowd_66 : decode cX11_crowd 66 = .ok (.invokevirtual 289, 3) := by decide +kernel
theorem dX11_crowd_69 : decode cX11_crowd 69 = .ok (.ireturn, 1) := by decide +kernel
theorem kw_32 : (.fieldLink RX11 55 "NobodyChecks" "rows" "LNobodyChecks$Rows;" : Cond) ∈ gw_tbl := gw_in (by decide +kernel) (by decide +kernel)
theorem kw_33 : (.fieldLink RX11 83 "NobodyChecks$Rows" "size" "I" : Cond) ∈ gw_tbl := gw_in (by decide +kernel) (by decide +kernel)

set_option maxHeartbeats 4000000 in
set_option maxRecDepth 100000 in
theorem x_crowd (l : Launch) (D : va_G) (x0 : Nat) (pg : Nat) (rd : Nat) (aq : Nat) (py : Nat) (pl : Nat) (ch : Nat) (ro : Nat) (r1 : Nat) (r2 : Nat) (p1 : Int32) (p2 : Int32) : Met l yX11_crowd (Cond.code yX11_crowd cX11_crowd 3 (some .int) :: gw_tbl) ({ frames := 1, cells := 0, slots := 0, locals := 22 }) (pc_S D [] [(x0, .inr (11, [.ref pg, .ref rd, .ref aq, .ref py, .ref pl, .ref ch, .ref ro, .int 0, .int 0])), (ro, .inr (8, [.ref r1, .ref r2, .int 0]))] [.ref x0, .int p1, .int p2]) (vp_Si (fun r => r = (-101))) 0 0 (fun _ => False) := by
  refine Met.ofW (cc := cX11_crowd) (maxL := 3) (ret := (some .int)) (by decide) rfl ?_
  intro p e s m args below meth c s₁ B hml hv
  obtain ⟨hargs, hP, hK⟩ := hv
  have hx := B.exec
  have hb := B.bytes
  have hr := B.returns
  have hts := atoms_spec (ws := Cond.code yX11_crowd cX11_crowd 3 (some .int) :: gw_tbl) B.pre
  have hg := fun (w : Cond) (h : w ∈ gw_tbl) => hts w (List.mem_cons_of_mem _ h)
  have hown : s.vm.findClass RX11 = some m.cls := findClass_of_methodNamed B.named
  have hlocks := B.notSynchronized
  have hl := lv_entry ([.ref x0, .int p1, .int p2]) (n := 3) (Nat.le_of_ble_eq_true rfl)
  rw [show entryFrame m args 3 = F0 m 0 (lg_sl ([.ref x0, .int p1, .int p2]) ++ List.replicate (3 - (lg_sl ([.ref x0, .int p1, .int p2])).length) Slot.unset).toArray [] from by rw [hargs]; exact lg_entry_eq ..]
  generalize (lg_sl ([.ref x0, .int p1, .int p2]) ++ List.replicate (3 - (lg_sl ([.ref x0, .int p1, .int p2])).length) Slot.unset).toArray = ls at hl ⊢
  have hl : lv_has ls 3 [(0, .ref x0), (1, .int p1), (2, .int p2)] := hl
  refine W_genQ (fun Q hQ => ?_)
  refine lv_iload_n hx hb dX11_crowd_0 rfl (lv_at hl 1 rfl) ?_
  refine lv_iconst (v := 0) hx hb dX11_crowd_1 (by decide) ?_
  refine lv_aload_n hx hb dX11_crowd_2 rfl (lv_at hl 0 rfl) ?_
  refine va_get (D := D) (ci := 11) (v := .ref ro) (C := RX11) (T := TX11) (N := 9) hx hb hg gwX11 hown hK hP 0 rfl rfl 6 (by decide) (hg _ kw_32) (fun _ h9 => h9) rfl dX11_crowd_3 ?_
  refine va_get (D := D) (ci := 8) (v := .int 0) (C := RX8) (T := TX8) (N := 3) hx hb hg gwX8 hown hK hP 1 rfl rfl 2 (by decide) (hg _ kw_33) (fun _ h9 => h9) rfl dX11_crowd_6 ?_
  refine lv_iconst (v := 1) hx hb dX11_crowd_9 (by decide) ?_
  refine lv_isub hx hb dX11_crowd_10 ?_
  refine lv_topi (fun z_10 e_10 => ?_)
  obtain rfl : z_10 = ((-1) : Int32) := e_10.trans (by decide)
  refine vp_callSi (W.runS (As := [.int p1, .int 0, .int (-1)]) (rest := []) ⟨hx, hb, hml, hown, hg⟩ (c_isWithin l p1 0 (-1)) (va_cwS 3 hg (gw_S kw_4 kw_5 kw_6 kw_3) rfl rfl rfl (by decide +kernel) ⟨Nat.le_of_ble_eq_true rfl, Nat.le_of_ble_eq_true rfl⟩) pr_0 rfl rfl hl.1 rfl (lv_room (Nat.le_of_ble_eq_true rfl)) dX11_crowd_11 ⟨Nat.le_of_ble_eq_true rfl, Nat.le_of_ble_eq_true rfl⟩) (fun r_11 h_11 => ?_)
  obtain rfl : r_11 = (0 : Int32) := h_11.trans (iw_no (by decide))
  refine lv_if_ne (tgt := 20) hx hb dX11_crowd_14 (by decide) (fun c_14 => absurd c_14 (by decide)) (fun c_14 => ?_)
  refine lv_bipush (v := (-101)) hx hb dX11_crowd_17 (by decide) ?_
  subst hQ
  exact W.iret (v := (-101)) hx hb hr (fun t ht hW => ⟨(-101), rfl, rfl, ht⟩) (fun _ h => absurd h List.not_mem_nil) dX11_crowd_19

theorem dX11_count_0 : decode cX11_count 0 = .ok (.iload_n 1, 1) := by decide +kernel
theorem dX11_count_1 : decode cX11_count 1 = .ok (.tableswitch 81 0 5 #[39, 47, 55, 60, 68, 76], 39) := by decide +kernel
theorem dX11_count_40 : decode cX11_count 40 = .ok (.aload_n 0, 1) := by decide +kernel
theorem dX11_count_41 : decode cX11_count 41 = .ok (.getfield 26, 3) := by decide +kernel
theorem dX11_count_44 : decode cX11_count 44 = .ok (.getfield 292, 3) := by decide +kernel
theorem dX11_count_47 : decode cX11_count 47 = .ok (.ireturn, 1) := by decide +kernel
theorem dX11_count_48 : decode cX11_count 48 = .ok (.aload_n 0, 1) := by decide +kernel
theorem dX11_count_49 : decode cX11_count 49 = .ok (.getfield 26, 3) := by decide +kernel
theorem dX11_count_52 : decode cX11_count 52 = .ok (.getfield 87, 3) := by decide +kernel
theorem dX11_count_55 : decode cX11_count 55 = .ok (.ireturn, 1) := by decide +kernel
theorem dX11_count_56 : decode cX11_count 56 = .ok (.aload_n 0, 1) := by decide +kernel
theorem dX11_count_57 : decode cX11_count 57 = .ok (.getfield 134, 3) := by decide +kernel
theorem dX11_count_60 : decode cX11_count 60 = .ok (.ireturn, 1) := by decide +kernel
theorem dX11_count_61 : decode cX11_count 61 = .ok (.aload_n 0, 1) := by decide +kernel
theorem dX11_count_62 : decode cX11_count 62 = .ok (.getfield 55, 3) := by decide +kernel
theorem dX11_count_65 : decode cX11_count 65 = .ok (.getfield 83, 3) := by decide +kernel
theorem dX11_count_68 : decode cX11_count 68 = .ok (.ireturn, 1) := by decide +kernel
theorem dX11_count_69 : decode cX11_count 69 = .ok (.aload_n 0, 1) := by decide +kernel
theorem dX11_count_70 : decode cX11_count 70 = .ok (.getfield 10, 3) := by decide +kernel
theorem dX11_count_73 : decode cX11_count 73 = .ok (.getfield 63, 3) := by decide +kernel
theorem dX11_count_76 : decode cX11_count 76 = .ok (.ireturn, 1) := by decide +kernel
theorem dX11_count_77 : decode cX11_count 77 = .ok (.aload_n 0, 1) := by decide +kernel
theorem dX11_count_78 : decode cX11_count 78 = .ok (.getfield 244, 3) := by decide +kernel
theorem dX11_count_81 : decode cX11_count 81 = .ok (.ireturn, 1) := by decide +kernel
theorem dX11_count_82 : decode cX11_count 82 = .ok (.bipush (-102), 2) := by decide +kernel
theorem dX11_count_84 : decode cX11_count 84 = .ok (.ireturn, 1) := by decide +kernel
theorem kw_34 : (.fieldLink RX11 292 "NobodyChecks$Question" "cases" "I" : Cond) ∈ gw_tbl := gw_in (by decide +kernel) (by decide +kernel)
theorem kw_35 : (.fieldLink RX11 87 "NobodyChecks$Question" "persons" "I" : Cond) ∈ gw_tbl := gw_in (by decide +kernel) (by decide +kernel)
theorem kw_36 : (.fieldLink RX11 10 "NobodyChecks" "page" "LNobodyChecks$Page;" : Cond) ∈ gw_tbl := gw_in (by decide +kernel) (by decide +kernel)
theorem kw_37 : (.fieldLink RX11 63 "NobodyChecks$Page" "size" "I" : Cond) ∈ gw_tbl := gw_in (by decide +kernel) (by decide +kernel)
theorem kw_38 : (.fieldLink RX11 244 "NobodyChecks" "tablesDone" "I" : Cond) ∈ gw_tbl := gw_in (by decide +kernel) (by decide +kernel)

set_option maxHeartbeats 4000000 in
set_option maxRecDepth 100000 in
theorem x_count (l : Launch) (D : va_G) (x0 : Nat) (pg : Nat) (rd : Nat) (aq : Nat) (py : Nat) (pl : Nat) (ch : Nat) (ro : Nat) (a1 : Nat) (a2 : Nat) (a3 : Nat) (a4 : Nat) (r1 : Nat) (r2 : Nat) (cd : Nat) (p1 : Int32) : Met l yX11_count (Cond.code yX11_count cX11_count 2 (some .int) :: gw_tbl) ({ frames := 0, cells := 0, slots := 0, locals := 0 }) (pc_S D [] [(x0, .inr (11, [.ref pg, .ref rd, .ref aq, .ref py, .ref pl, .ref ch, .ref ro, .int 0, .int 0])), (aq, .inr (5, [.ref a1, .ref a2, .ref a3, .ref a4, .int 0, .int 0, .long 0])), (ro, .inr (8, [.ref r1, .ref r2, .int 0])), (pg, .inr (2, [.ref cd, .int 0]))] [.ref x0, .int p1]) (vp_Si (fun r => r = cntf p1)) 0 0 (fun _ => False) := by
  refine Met.ofW (cc := cX11_count) (maxL := 2) (ret := (some .int)) (by decide) rfl ?_
  intro p e s m args below meth c s₁ B hml hv
  obtain ⟨hargs, hP, hK⟩ := hv
  have hx := B.exec
  have hb := B.bytes
  have hr := B.returns
  have hts := atoms_spec (ws := Cond.code yX11_count cX11_count 2 (some .int) :: gw_tbl) B.pre
  have hg := fun (w : Cond) (h : w ∈ gw_tbl) => hts w (List.mem_cons_of_mem _ h)
  have hown : s.vm.findClass RX11 = some m.cls := findClass_of_methodNamed B.named
  have hlocks := B.notSynchronized
  have hl := lv_entry ([.ref x0, .int p1]) (n := 2) (Nat.le_of_ble_eq_true rfl)
  rw [show entryFrame m args 2 = F0 m 0 (lg_sl ([.ref x0, .int p1]) ++ List.replicate (2 - (lg_sl ([.ref x0, .int p1])).length) Slot.unset).toArray [] from by rw [hargs]; exact lg_entry_eq ..]
  generalize (lg_sl ([.ref x0, .int p1]) ++ List.replicate (2 - (lg_sl ([.ref x0, .int p1])).length) Slot.unset).toArray = ls at hl ⊢
  have hl : lv_has ls 2 [(0, .ref x0), (1, .int p1)] := hl
  refine W_genQ (fun Q hQ => ?_)
  refine lv_iload_n hx hb dX11_count_0 rfl (lv_at hl 1 rfl) ?_
  by_cases t_1 : p1.toInt < 0 ∨ 5 < p1.toInt
  · refine lv_tableOut (tgt := 82) hx hb dX11_count_1 t_1 (by decide) ?_
    refine lv_bipush (v := (-102)) hx hb dX11_count_82 (by decide) ?_
    subst hQ
    exact W.iret (v := (-102)) hx hb hr (fun t ht hW => ⟨(-102), rfl, (if_pos t_1).symm, ht⟩) (fun _ h => absurd h List.not_mem_nil) dX11_count_84
  · rcases tw_5 t_1 with rfl | rfl | rfl | rfl | rfl | rfl
    · refine lv_tableIn (tgt := 40) hx hb dX11_count_1 (by decide) (by decide) rfl (by decide) ?_
      refine lv_aload_n hx hb dX11_count_40 rfl (lv_at hl 0 rfl) ?_
      refine va_get (D := D) (ci := 11) (v := .ref aq) (C := RX11) (T := TX11) (N := 9) hx hb hg gwX11 hown hK hP 0 rfl rfl 2 (by decide) (hg _ kw_7) (fun _ h9 => h9) rfl dX11_count_41 ?_
      refine va_get (D := D) (ci := 5) (v := .int 0) (C := RX5) (T := TX5) (N := 7) hx hb hg gwX5 hown hK hP 1 rfl rfl 4 (by decide) (hg _ kw_34) (fun _ h9 => h9) rfl dX11_count_44 ?_
      subst hQ
      exact W.iret (v := 0) hx hb hr (fun t ht hW => ⟨0, rfl, rfl, ht⟩) (fun _ h => absurd h List.not_mem_nil) dX11_count_47
    · refine lv_tableIn (tgt := 48) hx hb dX11_count_1 (by decide) (by decide) rfl (by decide) ?_
      refine lv_aload_n hx hb dX11_count_48 rfl (lv_at hl 0 rfl) ?_
      refine va_get (D := D) (ci := 11) (v := .ref aq) (C := RX11) (T := TX11) (N := 9) hx hb hg gwX11 hown hK hP 0 rfl rfl 2 (by decide) (hg _ kw_7) (fun _ h9 => h9) rfl dX11_count_49 ?_
      refine va_get (D := D) (ci := 5) (v := .int 0) (C := RX5) (T := TX5) (N := 7) hx hb hg gwX5 hown hK hP 1 rfl rfl 5 (by decide) (hg _ kw_35) (fun _ h9 => h9) rfl dX11_count_52 ?_
      subst hQ
      exact W.iret (v := 0) hx hb hr (fun t ht hW => ⟨0, rfl, rfl, ht⟩) (fun _ h => absurd h List.not_mem_nil) dX11_count_55
    · refine lv_tableIn (tgt := 56) hx hb dX11_count_1 (by decide) (by decide) rfl (by decide) ?_
      refine lv_aload_n hx hb dX11_count_56 rfl (lv_at hl 0 rfl) ?_
      refine va_get (D := D) (ci := 11) (v := .int 0) (C := RX11) (T := TX11) (N := 9) hx hb hg gwX11 hown hK hP 0 rfl rfl 7 (by decide) (hg _ kw_2) (fun _ h9 => h9) rfl dX11_count_57 ?_
      subst hQ
      exact W.iret (v := 0) hx hb hr (fun t ht hW => ⟨0, rfl, rfl, ht⟩) (fun _ h => absurd h List.not_mem_nil) dX11_count_60
    · refine lv_tableIn (tgt := 61) hx hb dX11_count_1 (by decide) (by decide) rfl (by decide) ?_
      refine lv_aload_n hx hb dX11_count_61 rfl (lv_at hl 0 rfl) ?_
      refine va_get (D := D) (ci := 11) (v := .ref ro) (C := RX11) (T := TX11) (N := 9) hx hb hg gwX11 hown hK hP 0 rfl rfl 6 (by decide) (hg _ kw_32) (fun _ h9 => h9) rfl dX11_count_62 ?_
      refine va_get (D := D) (ci := 8) (v := .int 0) (C := RX8) (T := TX8) (N := 3) hx hb hg gwX8 hown hK hP 2 rfl rfl 2 (by decide) (hg _ kw_33) (fun _ h9 => h9) rfl dX11_count_65 ?_
      subst hQ
      exact W.iret (v := 0) hx hb hr (fun t ht hW => ⟨0, rfl, rfl, ht⟩) (fun _ h => absurd h List.not_mem_nil) dX11_count_68
    · refine lv_tableIn (tgt := 69) hx hb dX11_count_1 (by decide) (by decide) rfl (by decide) ?_
      refine lv_aload_n hx hb dX11_count_69 rfl (lv_at hl 0 rfl) ?_
      refine va_get (D := D) (ci := 11) (v := .ref pg) (C := RX11) (T := TX11) (N := 9) hx hb hg gwX11 hown hK hP 0 rfl rfl 0 (by decide) (hg _ kw_36) (fun _ h9 => h9) rfl dX11_count_70 ?_
      refine va_get (D := D) (ci := 2) (v := .int 0) (C := RX2) (T := TX2) (N := 2) hx hb hg gwX2 hown hK hP 3 rfl rfl 1 (by decide) (hg _ kw_37) (fun _ h9 => h9) rfl dX11_count_73 ?_
      subst hQ
      exact W.iret (v := 0) hx hb hr (fun t ht hW => ⟨0, rfl, rfl, ht⟩) (fun _ h => absurd h List.not_mem_nil) dX11_count_76
    · refine lv_tableIn (tgt := 77) hx hb dX11_count_1 (by decide) (by decide) rfl (by decide) ?_
      refine lv_aload_n hx hb dX11_count_77 rfl (lv_at hl 0 rfl) ?_
      refine va_get (D := D) (ci := 11) (v := .int 0) (C := RX11) (T := TX11) (N := 9) hx hb hg gwX11 hown hK hP 0 rfl rfl 8 (by decide) (hg _ kw_38) (fun _ h9 => h9) rfl dX11_count_78 ?_
      subst hQ
      exact W.iret (v := 0) hx hb hr (fun t ht hW => ⟨0, rfl, rfl, ht⟩) (fun _ h => absurd h List.not_mem_nil) dX11_count_81

theorem dX11_mixed_0 : decode cX11_mixed 0 = .ok (.ldc2_w 328, 3) := by decide +kernel
theorem dX11_mixed_3 : decode cX11_mixed 3 = .ok (.lload_n 0, 1) := by decide +kernel
theorem dX11_mixed_4 : decode cX11_mixed 4 = .ok (.lmul, 1) := by decide +kernel
theorem dX11_mixed_5 : decode cX11_mixed 5 = .ok (.lload_n 2, 1) := by decide +kernel
theorem dX11_mixed_6 : decode cX11_mixed 6 = .ok (.ladd, 1) := by decide +kernel
theorem dX11_mixed_7 : decode cX11_mixed 7 = .ok (.lreturn, 1) := by decide +kernel
theorem kw_39 : (.constantLong RX11 328 (31) : Cond) ∈ gw_tbl := gw_in (by decide +kernel) (by decide +kernel)

set_option maxHeartbeats 4000000 in
set_option maxRecDepth 100000 in
theorem x_mixed (l : Launch) (v : Int64) (u : Int64) : Met l yX11_mixed (Cond.code yX11_mixed cX11_mixed 4 (some .long) :: gw_tbl) ({ frames := 0, cells := 0, slots := 0, locals := 0 }) (pc_0 [.long v, .long u]) (vp_Sl (fun r => r = 31 * v + u)) 0 0 (fun _ => False) := by
  refine Met.ofW (cc := cX11_mixed) (maxL := 4) (ret := (some .long)) (by decide) rfl ?_
  intro p e s m args below meth c s₁ B hml hv
  obtain ⟨hargs, -⟩ := hv
  have hx := B.exec
  have hb := B.bytes
  have hr := B.returns
  have hts := atoms_spec (ws := Cond.code yX11_mixed cX11_mixed 4 (some .long) :: gw_tbl) B.pre
  have hg := fun (w : Cond) (h : w ∈ gw_tbl) => hts w (List.mem_cons_of_mem _ h)
  have hown : s.vm.findClass RX11 = some m.cls := findClass_of_methodNamed B.named
  have hlocks := B.notSynchronized
  have hl := lv_entry ([.long v, .long u]) (n := 4) (Nat.le_of_ble_eq_true rfl)
  rw [show entryFrame m args 4 = F0 m 0 (lg_sl ([.long v, .long u]) ++ List.replicate (4 - (lg_sl ([.long v, .long u])).length) Slot.unset).toArray [] from by rw [hargs]; exact lg_entry_eq ..]
  generalize (lg_sl ([.long v, .long u]) ++ List.replicate (4 - (lg_sl ([.long v, .long u])).length) Slot.unset).toArray = ls at hl ⊢
  have hl : lv_has ls 4 [(0, .long v), (2, .long u)] := hl
  refine W_genQ (fun Q hQ => ?_)
  refine lv_ldc2 hx hb hown (hg _ kw_39) dX11_mixed_0 ?_
  refine lv_lload_n hx hb dX11_mixed_3 rfl (lv_at hl 0 rfl) ?_
  refine lv_lmul hx hb dX11_mixed_4 ?_
  refine lv_topl (fun z_4 e_4 => ?_)
  refine lv_lload_n hx hb dX11_mixed_5 rfl (lv_at hl 1 rfl) ?_
  refine lv_ladd hx hb dX11_mixed_6 ?_
  refine lv_topl (fun z_6 e_6 => ?_)
  subst hQ
  exact W.lret (v := z_6) hx hb hr (fun t ht hW => ⟨z_6, rfl, (by rw [e_6, e_4]), ht⟩) (fun _ h => absurd h List.not_mem_nil) dX11_mixed_7

theorem dX11_withQuestion_0 : decode cX11_withQuestion 0 = .ok (.lload_n 1, 1) := by decide +kernel
theorem dX11_withQuestion_1 : decode cX11_withQuestion 1 = .ok (.lstore_n 3, 1) := by decide +kernel
theorem dX11_withQuestion_2 : decode cX11_withQuestion 2 = .ok (.iconst 0, 1) := by decide +kernel
theorem dX11_withQuestion_3 : decode cX11_withQuestion 3 = .ok (.istore 5, 2) := by decide +kernel
theorem dX11_withQuestion_5 : decode cX11_withQuestion 5 = .ok (.iload 5, 2) := by decide +kernel
theorem dX11_withQuestion_7 : decode cX11_withQuestion 7 = .ok (.aload_n 0, 1) := by decide +kernel
theorem dX11_withQuestion_8 : decode cX11_withQuestion 8 = .ok (.getfield 26, 3) := by decide +kernel
theorem dX11_withQuestion_11 : decode cX11_withQuestion 11 = .ok (.getfield 292, 3) := by decide +kernel
theorem dX11_withQuestion_14 : decode cX11_withQuestion 14 = .ok (.if_icmp .ge 65, 3) := by decide +kernel
theorem dX11_withQuestion_17 : decode cX11_withQuestion 17 = .ok (.lload_n 3, 1) := by decide +kernel
theorem dX11_withQuestion_18 : decode cX11_withQuestion 18 = .ok (.aload_n 0, 1) := by decide +kernel
theorem dX11_withQuestion_19 : decode cX11_withQuestion 19 = .ok (.getfield 26, 3) := by decide +kernel
theorem dX11_withQuestion_22 : decode cX11_withQuestion 22 = .ok (.getfield 94, 3) := by decide +kernel
theorem dX11_withQuestion_25 : decode cX11_withQuestion 25 = .ok (.iload 5, 2) := by decide +kernel
theorem dX11_withQuestion_27 : decode cX11_withQuestion 27 = .ok (.iaload, 1) := by decide +kernel
theorem dX11_withQuestion_28 : decode cX11_withQuestion 28 = .ok (.i2l, 1) := by decide +kernel
theorem dX11_withQuestion_29 : decode cX11_withQuestion 29 = .ok (.invokestatic 310, 3) := by decide +kernel
theorem dX11_withQuestion_32 : decode cX11_withQuestion 32 = .ok (.lstore_n 3, 1) := by decide +kernel
theorem dX11_withQuestion_33 : decode cX11_withQuestion 33 = .ok (.iconst 0, 1) := by decide +kernel
theorem dX11_withQuestion_34 : decode cX11_withQuestion 34 = .ok (.istore 6, 2) := by decide +kernel
theorem dX11_withQuestion_36 : decode cX11_withQuestion 36 = .ok (.iload 6, 2) := by decide +kernel
theorem dX11_withQuestion_38 : decode cX11_withQuestion 38 = .ok (.aload_n 0, 1) := by decide +kernel
theorem dX11_withQuestion_39 : decode cX11_withQuestion 39 = .ok (.getfield 26, 3) := by decide +kernel
theorem dX11_withQuestion_42 : decode cX11_withQuestion 42 = .ok (.getfield 87, 3) := by decide +kernel
theorem dX11_withQuestion_45 : decode cX11_withQuestion 45 = .ok (.if_icmp .ge 28, 3) := by decide +kernel
theorem dX11_withQuestion_48 : decode cX11_withQuestion 48 = .ok (.lload_n 3, 1) := by decide +kernel
theorem dX11_withQuestion_49 : decode cX11_withQuestion 49 = .ok (.aload_n 0, 1) := by decide +kernel
theorem dX11_withQuestion_50 : decode cX11_withQuestion 50 = .ok (.getfield 26, 3) := by decide +kernel
theorem dX11_withQuestion_53 : decode cX11_withQuestion 53 = .ok (.getfield 101, 3) := by decide +kernel
theorem dX11_withQuestion_56 : decode cX11_withQuestion 56 = .ok (.iload 5, 2) := by decide +kernel
theorem dX11_withQuestion_58 : decode cX11_withQuestion 58 = .ok (.aaload, 1) := by decide +kernel
theorem dX11_withQuestion_59 : decode cX11_withQuestion 59 = .ok (.iload 6, 2) := by decide +kernel
theorem dX11_withQuestion_61 : decode cX11_withQuestion 61 = .ok (.iaload, 1) := by decide +kernel
theorem dX11_withQuestion_62 : decode cX11_withQuestion 62 = .ok (.i2l, 1) := by decide +kernel
theorem dX11_withQuestion_63 : decode cX11_withQuestion 63 = .ok (.invokestatic 310, 3) := by decide +kernel
theorem dX11_withQuestion_66 : decode cX11_withQuestion 66 = .ok (.lstore_n 3, 1) := by decide +kernel
theorem dX11_withQuestion_67 : decode cX11_withQuestion 67 = .ok (.iinc 6 1, 3) := by decide +kernel
theorem dX11_withQuestion_70 : decode cX11_withQuestion 70 = .ok (.goto (-34), 3) := by decide +kernel
theorem dX11_withQuestion_73 : decode cX11_withQuestion 73 = .ok (.iinc 5 1, 3) := by decide +kernel
theorem dX11_withQuestion_76 : decode cX11_withQuestion 76 = .ok (.goto (-71), 3) := by decide +kernel
theorem dX11_withQuestion_79 : decode cX11_withQuestion 79 = .ok (.iconst 0, 1) := by decide +kernel
theorem dX11_withQuestion_80 : decode cX11_withQuestion 80 = .ok (.istore 5, 2) := by decide +kernel
theorem dX11_withQuestion_82 : decode cX11_withQuestion 82 = .ok (.iload 5, 2) := by decide +kernel
theorem dX11_withQuestion_84 : decode cX11_withQuestion 84 = .ok (.aload_n 0, 1) := by decide +kernel
theorem dX11_withQuestion_85 : decode cX11_withQuestion 85 = .ok (.getfield 26, 3) := by decide +kernel
theorem dX11_withQuestion_88 : decode cX11_withQuestion 88 = .ok (.getfield 87, 3) := by decide +kernel
theorem dX11_withQuestion_91 : decode cX11_withQuestion 91 = .ok (.if_icmp .ge 25, 3) := by decide +kernel
theorem dX11_withQuestion_94 : decode cX11_withQuestion 94 = .ok (.lload_n 3, 1) := by decide +kernel
theorem dX11_withQuestion_95 : decode cX11_withQuestion 95 = .ok (.aload_n 0, 1) := by decide +kernel
theorem dX11_withQuestion_96 : decode cX11_withQuestion 96 = .ok (.getfield 26, 3) := by decide +kernel
theorem dX11_withQuestion_99 : decode cX11_withQuestion 99 = .ok (.getfield 109, 3) := by decide +kernel
theorem dX11_withQuestion_102 : decode cX11_withQuestion 102 = .ok (.iload 5, 2) := by decide +kernel
theorem dX11_withQuestion_104 : decode cX11_withQuestion 104 = .ok (.iaload, 1) := by decide +kernel
theorem dX11_withQuestion_105 : decode cX11_withQuestion 105 = .ok (.i2l, 1) := by decide +kernel
theorem dX11_withQuestion_106 : decode cX11_withQuestion 106 = .ok (.invokestatic 310, 3) := by decide +kernel
theorem dX11_withQuestion_109 : decode cX11_withQuestion 109 = .ok (.lstore_n 3, 1) := by decide +kernel
theorem dX11_withQuestion_110 : decode cX11_withQuestion 110 = .ok (.iinc 5 1, 3) := by decide +kernel
theorem dX11_withQuestion_113 : decode cX11_withQuestion 113 = .ok (.goto (-31), 3) := by decide +kernel
theorem dX11_withQuestion_116 : decode cX11_withQuestion 116 = .ok (.lload_n 3, 1) := by decide +kernel
theorem dX11_withQuestion_117 : decode cX11_withQuestion 117 = .ok (.lreturn, 1) := by decide +kernel

set_option maxHeartbeats 4000000 in
set_option maxRecDepth 100000 in
theorem x_withQuestion (l : Launch) (D : va_G) (x0 : Nat) (pg : Nat) (rd : Nat) (aq : Nat) (py : Nat) (pl : Nat) (ch : Nat) (ro : Nat) (a1 : Nat) (a2 : Nat) (a3 : Nat) (a4 : Nat) (v : Int64) : Met l yX11_withQuestion (Cond.code yX11_withQuestion cX11_withQuestion 7 (some .long) :: gw_tbl) ({ frames := 0, cells := 0, slots := 0, locals := 0 }) (pc_S D [] [(x0, .inr (11, [.ref pg, .ref rd, .ref aq, .ref py, .ref pl, .ref ch, .ref ro, .int 0, .int 0])), (aq, .inr (5, [.ref a1, .ref a2, .ref a3, .ref a4, .int 0, .int 0, .long 0]))] [.ref x0, .long v]) (vp_Sl (fun r => r = v)) 0 0 (fun _ => False) := by
  refine Met.ofW (cc := cX11_withQuestion) (maxL := 7) (ret := (some .long)) (by decide) rfl ?_
  intro p e s m args below meth c s₁ B hml hv
  obtain ⟨hargs, hP, hK⟩ := hv
  have hx := B.exec
  have hb := B.bytes
  have hr := B.returns
  have hts := atoms_spec (ws := Cond.code yX11_withQuestion cX11_withQuestion 7 (some .long) :: gw_tbl) B.pre
  have hg := fun (w : Cond) (h : w ∈ gw_tbl) => hts w (List.mem_cons_of_mem _ h)
  have hown : s.vm.findClass RX11 = some m.cls := findClass_of_methodNamed B.named
  have hlocks := B.notSynchronized
  have hl := lv_entry ([.ref x0, .long v]) (n := 7) (Nat.le_of_ble_eq_true rfl)
  rw [show entryFrame m args 7 = F0 m 0 (lg_sl ([.ref x0, .long v]) ++ List.replicate (7 - (lg_sl ([.ref x0, .long v])).length) Slot.unset).toArray [] from by rw [hargs]; exact lg_entry_eq ..]
  generalize (lg_sl ([.ref x0, .long v]) ++ List.replicate (7 - (lg_sl ([.ref x0, .long v])).length) Slot.unset).toArray = ls at hl ⊢
  have hl : lv_has ls 7 [(0, .ref x0), (1, .long v)] := hl
  refine W_genQ (fun Q hQ => ?_)
  refine lv_lload_n hx hb dX11_withQuestion_0 rfl (lv_at hl 1 rfl) ?_
  refine lv_lstore_n (lv' := [(3, .long v), (0, .ref x0), (1, .long v)]) hx hb dX11_withQuestion_1 rfl hl (by decide) rfl (fun ls hl => ?_)
  refine lv_iconst (v := 0) hx hb dX11_withQuestion_2 (by decide) ?_
  refine lv_istore (lv' := [(5, .int 0), (3, .long v), (0, .ref x0), (1, .long v)]) hx hb dX11_withQuestion_3 hl (by decide) rfl (fun ls hl => ?_)
  refine lv_iload hx hb dX11_withQuestion_5 (lv_at hl 0 rfl) ?_
  refine lv_aload_n hx hb dX11_withQuestion_7 rfl (lv_at hl 2 rfl) ?_
  refine va_get (D := D) (ci := 11) (v := .ref aq) (C := RX11) (T := TX11) (N := 9) hx hb hg gwX11 hown hK hP 0 rfl rfl 2 (by decide) (hg _ kw_7) (fun _ h9 => h9) rfl dX11_withQuestion_8 ?_
  refine va_get (D := D) (ci := 5) (v := .int 0) (C := RX5) (T := TX5) (N := 7) hx hb hg gwX5 hown hK hP 1 rfl rfl 4 (by decide) (hg _ kw_34) (fun _ h9 => h9) rfl dX11_withQuestion_11 ?_
  refine lv_icmp_ge (tgt := 79) hx hb dX11_withQuestion_14 (by decide) (fun c_14 => ?_) (fun c_14 => absurd (by decide) c_14)
  refine lv_iconst (v := 0) hx hb dX11_withQuestion_79 (by decide) ?_
  refine lv_istore (lv' := [(5, .int 0), (3, .long v), (0, .ref x0), (1, .long v)]) hx hb dX11_withQuestion_80 hl (by decide) rfl (fun ls hl => ?_)
  refine lv_iload hx hb dX11_withQuestion_82 (lv_at hl 0 rfl) ?_
  refine lv_aload_n hx hb dX11_withQuestion_84 rfl (lv_at hl 2 rfl) ?_
  refine va_get (D := D) (ci := 11) (v := .ref aq) (C := RX11) (T := TX11) (N := 9) hx hb hg gwX11 hown hK hP 0 rfl rfl 2 (by decide) (hg _ kw_7) (fun _ h9 => h9) rfl dX11_withQuestion_85 ?_
  refine va_get (D := D) (ci := 5) (v := .int 0) (C := RX5) (T := TX5) (N := 7) hx hb hg gwX5 hown hK hP 1 rfl rfl 5 (by decide) (hg _ kw_35) (fun _ h9 => h9) rfl dX11_withQuestion_88 ?_
  refine lv_icmp_ge (tgt := 116) hx hb dX11_withQuestion_91 (by decide) (fun c_91 => ?_) (fun c_91 => absurd (by decide) c_91)
  refine lv_lload_n hx hb dX11_withQuestion_116 rfl (lv_at hl 1 rfl) ?_
  subst hQ
  exact W.lret (v := v) hx hb hr (fun t ht hW => ⟨v, rfl, rfl, ht⟩) (fun _ h => absurd h List.not_mem_nil) dX11_withQuestion_117

theorem dX11_withPays_0 : decode cX11_withPays 0 = .ok (.lload_n 1, 1) := by decide +kernel
theorem dX11_withPays_1 : decode cX11_withPays 1 = .ok (.lstore_n 3, 1) := by decide +kernel
theorem dX11_withPays_2 : decode cX11_withPays 2 = .ok (.iconst 0, 1) := by decide +kernel
theorem dX11_withPays_3 : decode cX11_withPays 3 = .ok (.istore 5, 2) := by decide +kernel
theorem dX11_withPays_5 : decode cX11_withPays 5 = .ok (.iload 5, 2) := by decide +kernel
theorem dX11_withPays_7 : decode cX11_withPays 7 = .ok (.aload_n 0, 1) := by decide +kernel
theorem dX11_withPays_8 : decode cX11_withPays 8 = .ok (.getfield 134, 3) := by decide +kernel
theorem dX11_withPays_11 : decode cX11_withPays 11 = .ok (.if_icmp .ge 30, 3) := by decide +kernel
theorem dX11_withPays_14 : decode cX11_withPays 14 = .ok (.aload_n 0, 1) := by decide +kernel
theorem dX11_withPays_15 : decode cX11_withPays 15 = .ok (.iload 5, 2) := by decide +kernel
theorem dX11_withPays_17 : decode cX11_withPays 17 = .ok (.invokevirtual 145, 3) := by decide +kernel
theorem dX11_withPays_20 : decode cX11_withPays 20 = .ok (.astore 6, 2) := by decide +kernel
theorem dX11_withPays_22 : decode cX11_withPays 22 = .ok (.aload 6, 2) := by decide +kernel
theorem dX11_withPays_24 : decode cX11_withPays 24 = .ok (.ifnull 11, 3) := by decide +kernel
theorem dX11_withPays_27 : decode cX11_withPays 27 = .ok (.aload_n 0, 1) := by decide +kernel
theorem dX11_withPays_28 : decode cX11_withPays 28 = .ok (.lload_n 3, 1) := by decide +kernel
theorem dX11_withPays_29 : decode cX11_withPays 29 = .ok (.aload 6, 2) := by decide +kernel
theorem dX11_withPays_31 : decode cX11_withPays 31 = .ok (.invokevirtual 317, 3) := by decide +kernel
theorem dX11_withPays_34 : decode cX11_withPays 34 = .ok (.lstore_n 3, 1) := by decide +kernel
theorem dX11_withPays_35 : decode cX11_withPays 35 = .ok (.iinc 5 1, 3) := by decide +kernel
theorem dX11_withPays_38 : decode cX11_withPays 38 = .ok (.goto (-33), 3) := by decide +kernel
theorem dX11_withPays_41 : decode cX11_withPays 41 = .ok (.lload_n 3, 1) := by decide +kernel
theorem dX11_withPays_42 : decode cX11_withPays 42 = .ok (.lreturn, 1) := by decide +kernel

set_option maxHeartbeats 4000000 in
set_option maxRecDepth 100000 in
theorem x_withPays (l : Launch) (D : va_G) (x0 : Nat) (pg : Nat) (rd : Nat) (aq : Nat) (py : Nat) (pl : Nat) (ch : Nat) (ro : Nat) (v : Int64) : Met l yX11_withPays (Cond.code yX11_withPays cX11_withPays 7 (some .long) :: gw_tbl) ({ frames := 0, cells := 0, slots := 0, locals := 0 }) (pc_S D [] [(x0, .inr (11, [.ref pg, .ref rd, .ref aq, .ref py, .ref pl, .ref ch, .ref ro, .int 0, .int 0]))] [.ref x0, .long v]) (vp_Sl (fun r => r = v)) 0 0 (fun _ => False) := by
  refine Met.ofW (cc := cX11_withPays) (maxL := 7) (ret := (some .long)) (by decide) rfl ?_
  intro p e s m args below meth c s₁ B hml hv
  obtain ⟨hargs, hP, hK⟩ := hv
  have hx := B.exec
  have hb := B.bytes
  have hr := B.returns
  have hts := atoms_spec (ws := Cond.code yX11_withPays cX11_withPays 7 (some .long) :: gw_tbl) B.pre
  have hg := fun (w : Cond) (h : w ∈ gw_tbl) => hts w (List.mem_cons_of_mem _ h)
  have hown : s.vm.findClass RX11 = some m.cls := findClass_of_methodNamed B.named
  have hlocks := B.notSynchronized
  have hl := lv_entry ([.ref x0, .long v]) (n := 7) (Nat.le_of_ble_eq_true rfl)
  rw [show entryFrame m args 7 = F0 m 0 (lg_sl ([.ref x0, .long v]) ++ List.replicate (7 - (lg_sl ([.ref x0, .long v])).length) Slot.unset).toArray [] from by rw [hargs]; exact lg_entry_eq ..]
  generalize (lg_sl ([.ref x0, .long v]) ++ List.replicate (7 - (lg_sl ([.ref x0, .long v])).length) Slot.unset).toArray = ls at hl ⊢
  have hl : lv_has ls 7 [(0, .ref x0), (1, .long v)] := hl
  refine W_genQ (fun Q hQ => ?_)
  refine lv_lload_n hx hb dX11_withPays_0 rfl (lv_at hl 1 rfl) ?_
  refine lv_lstore_n (lv' := [(3, .long v), (0, .ref x0), (1, .long v)]) hx hb dX11_withPays_1 rfl hl (by decide) rfl (fun ls hl => ?_)
  refine lv_iconst (v := 0) hx hb dX11_withPays_2 (by decide) ?_
  refine lv_istore (lv' := [(5, .int 0), (3, .long v), (0, .ref x0), (1, .long v)]) hx hb dX11_withPays_3 hl (by decide) rfl (fun ls hl => ?_)
  refine lv_iload hx hb dX11_withPays_5 (lv_at hl 0 rfl) ?_
  refine lv_aload_n hx hb dX11_withPays_7 rfl (lv_at hl 2 rfl) ?_
  refine va_get (D := D) (ci := 11) (v := .int 0) (C := RX11) (T := TX11) (N := 9) hx hb hg gwX11 hown hK hP 0 rfl rfl 7 (by decide) (hg _ kw_2) (fun _ h9 => h9) rfl dX11_withPays_8 ?_
  refine lv_icmp_ge (tgt := 41) hx hb dX11_withPays_11 (by decide) (fun c_11 => ?_) (fun c_11 => absurd (by decide) c_11)
  refine lv_lload_n hx hb dX11_withPays_41 rfl (lv_at hl 1 rfl) ?_
  subst hQ
  exact W.lret (v := v) hx hb hr (fun t ht hW => ⟨v, rfl, rfl, ht⟩) (fun _ h => absurd h List.not_mem_nil) dX11_withPays_42

theorem dX11_withRows_0 : decode cX11_withRows 0 = .ok (.lload_n 1, 1) := by decide +kernel
theorem dX11_withRows_1 : decode cX11_withRows 1 = .ok (.lstore_n 3, 1) := by decide +kernel
theorem dX11_withRows_2 : decode cX11_withRows 2 = .ok (.iconst 0, 1) := by decide +kernel
theorem dX11_withRows_3 : decode cX11_withRows 3 = .ok (.istore 5, 2) := by decide +kernel
theorem dX11_withRows_5 : decode cX11_withRows 5 = .ok (.iload 5, 2) := by decide +kernel
theorem dX11_withRows_7 : decode cX11_withRows 7 = .ok (.aload_n 0, 1) := by decide +kernel
theorem dX11_withRows_8 : decode cX11_withRows 8 = .ok (.getfield 55, 3) := by decide +kernel
theorem dX11_withRows_11 : decode cX11_withRows 11 = .ok (.getfield 83, 3) := by decide +kernel
theorem dX11_withRows_14 : decode cX11_withRows 14 = .ok (.if_icmp .ge 84, 3) := by decide +kernel
theorem dX11_withRows_17 : decode cX11_withRows 17 = .ok (.lload_n 3, 1) := by decide +kernel
theorem dX11_withRows_18 : decode cX11_withRows 18 = .ok (.aload_n 0, 1) := by decide +kernel
theorem dX11_withRows_19 : decode cX11_withRows 19 = .ok (.getfield 55, 3) := by decide +kernel
theorem dX11_withRows_22 : decode cX11_withRows 22 = .ok (.getfield 321, 3) := by decide +kernel
theorem dX11_withRows_25 : decode cX11_withRows 25 = .ok (.iload 5, 2) := by decide +kernel
theorem dX11_withRows_27 : decode cX11_withRows 27 = .ok (.iaload, 1) := by decide +kernel
theorem dX11_withRows_28 : decode cX11_withRows 28 = .ok (.i2l, 1) := by decide +kernel
theorem dX11_withRows_29 : decode cX11_withRows 29 = .ok (.invokestatic 310, 3) := by decide +kernel
theorem dX11_withRows_32 : decode cX11_withRows 32 = .ok (.lstore_n 3, 1) := by decide +kernel
theorem dX11_withRows_33 : decode cX11_withRows 33 = .ok (.lload_n 3, 1) := by decide +kernel
theorem dX11_withRows_34 : decode cX11_withRows 34 = .ok (.aload_n 0, 1) := by decide +kernel
theorem dX11_withRows_35 : decode cX11_withRows 35 = .ok (.getfield 55, 3) := by decide +kernel
theorem dX11_withRows_38 : decode cX11_withRows 38 = .ok (.getfield 324, 3) := by decide +kernel
theorem dX11_withRows_41 : decode cX11_withRows 41 = .ok (.iload 5, 2) := by decide +kernel
theorem dX11_withRows_43 : decode cX11_withRows 43 = .ok (.laload, 1) := by decide +kernel
theorem dX11_withRows_44 : decode cX11_withRows 44 = .ok (.invokestatic 310, 3) := by decide +kernel
theorem dX11_withRows_47 : decode cX11_withRows 47 = .ok (.lstore_n 3, 1) := by decide +kernel
theorem dX11_withRows_48 : decode cX11_withRows 48 = .ok (.lload_n 3, 1) := by decide +kernel
theorem dX11_withRows_49 : decode cX11_withRows 49 = .ok (.aload_n 0, 1) := by decide +kernel
theorem dX11_withRows_50 : decode cX11_withRows 50 = .ok (.getfield 55, 3) := by decide +kernel
theorem dX11_withRows_53 : decode cX11_withRows 53 = .ok (.iload 5, 2) := by decide +kernel
theorem dX11_withRows_55 : decode cX11_withRows 55 = .ok (.aload_n 0, 1) := by decide +kernel
theorem dX11_withRows_56 : decode cX11_withRows 56 = .ok (.getfield 26, 3) := by decide +kernel
theorem dX11_withRows_59 : decode cX11_withRows 59 = .ok (.getfield 87, 3) := by decide +kernel
theorem dX11_withRows_62 : decode cX11_withRows 62 = .ok (.invokevirtual 286, 3) := by decide +kernel
theorem dX11_withRows_65 : decode cX11_withRows 65 = .ok (.i2l, 1) := by decide +kernel
theorem dX11_withRows_66 : decode cX11_withRows 66 = .ok (.invokestatic 310, 3) := by decide +kernel
theorem dX11_withRows_69 : decode cX11_withRows 69 = .ok (.lstore_n 3, 1) := by decide +kernel
theorem dX11_withRows_70 : decode cX11_withRows 70 = .ok (.lload_n 3, 1) := by decide +kernel
theorem dX11_withRows_71 : decode cX11_withRows 71 = .ok (.aload_n 0, 1) := by decide +kernel
theorem dX11_withRows_72 : decode cX11_withRows 72 = .ok (.getfield 55, 3) := by decide +kernel
theorem dX11_withRows_75 : decode cX11_withRows 75 = .ok (.iload 5, 2) := by decide +kernel
theorem dX11_withRows_77 : decode cX11_withRows 77 = .ok (.aload_n 0, 1) := by decide +kernel
theorem dX11_withRows_78 : decode cX11_withRows 78 = .ok (.getfield 26, 3) := by decide +kernel
theorem dX11_withRows_81 : decode cX11_withRows 81 = .ok (.getfield 87, 3) := by decide +kernel
theorem dX11_withRows_84 : decode cX11_withRows 84 = .ok (.invokevirtual 289, 3) := by decide +kernel
theorem dX11_withRows_87 : decode cX11_withRows 87 = .ok (.i2l, 1) := by decide +kernel
theorem dX11_withRows_88 : decode cX11_withRows 88 = .ok (.invokestatic 310, 3) := by decide +kernel
theorem dX11_withRows_91 : decode cX11_withRows 91 = .ok (.lstore_n 3, 1) := by decide +kernel
theorem dX11_withRows_92 : decode cX11_withRows 92 = .ok (.iinc 5 1, 3) := by decide +kernel
theorem dX11_withRows_95 : decode cX11_withRows 95 = .ok (.goto (-90), 3) := by decide +kernel
theorem dX11_withRows_98 : decode cX11_withRows 98 = .ok (.lload_n 3, 1) := by decide +kernel
theorem dX11_withRows_99 : decode cX11_withRows 99 = .ok (.lreturn, 1) := by decide +kernel

set_option maxHeartbeats 4000000 in
set_option maxRecDepth 100000 in
theorem x_withRows (l : Launch) (D : va_G) (x0 : Nat) (pg : Nat) (rd : Nat) (aq : Nat) (py : Nat) (pl : Nat) (ch : Nat) (ro : Nat) (r1 : Nat) (r2 : Nat) (v : Int64) : Met l yX11_withRows (Cond.code yX11_withRows cX11_withRows 6 (some .long) :: gw_tbl) ({ frames := 0, cells := 0, slots := 0, locals := 0 }) (pc_S D [] [(x0, .inr (11, [.ref pg, .ref rd, .ref aq, .ref py, .ref pl, .ref ch, .ref ro, .int 0, .int 0])), (ro, .inr (8, [.ref r1, .ref r2, .int 0]))] [.ref x0, .long v]) (vp_Sl (fun r => r = v)) 0 0 (fun _ => False) := by
  refine Met.ofW (cc := cX11_withRows) (maxL := 6) (ret := (some .long)) (by decide) rfl ?_
  intro p e s m args below meth c s₁ B hml hv
  obtain ⟨hargs, hP, hK⟩ := hv
  have hx := B.exec
  have hb := B.bytes
  have hr := B.returns
  have hts := atoms_spec (ws := Cond.code yX11_withRows cX11_withRows 6 (some .long) :: gw_tbl) B.pre
  have hg := fun (w : Cond) (h : w ∈ gw_tbl) => hts w (List.mem_cons_of_mem _ h)
  have hown : s.vm.findClass RX11 = some m.cls := findClass_of_methodNamed B.named
  have hlocks := B.notSynchronized
  have hl := lv_entry ([.ref x0, .long v]) (n := 6) (Nat.le_of_ble_eq_true rfl)
  rw [show entryFrame m args 6 = F0 m 0 (lg_sl ([.ref x0, .long v]) ++ List.replicate (6 - (lg_sl ([.ref x0, .long v])).length) Slot.unset).toArray [] from by rw [hargs]; exact lg_entry_eq ..]
  generalize (lg_sl ([.ref x0, .long v]) ++ List.replicate (6 - (lg_sl ([.ref x0, .long v])).length) Slot.unset).toArray = ls at hl ⊢
  have hl : lv_has ls 6 [(0, .ref x0), (1, .long v)] := hl
  refine W_genQ (fun Q hQ => ?_)
  refine lv_lload_n hx hb dX11_withRows_0 rfl (lv_at hl 1 rfl) ?_
  refine lv_lstore_n (lv' := [(3, .long v), (0, .ref x0), (1, .long v)]) hx hb dX11_withRows_1 rfl hl (by decide) rfl (fun ls hl => ?_)
  refine lv_iconst (v := 0) hx hb dX11_withRows_2 (by decide) ?_
  refine lv_istore (lv' := [(5, .int 0), (3, .long v), (0, .ref x0), (1, .long v)]) hx hb dX11_withRows_3 hl (by decide) rfl (fun ls hl => ?_)
  refine lv_iload hx hb dX11_withRows_5 (lv_at hl 0 rfl) ?_
  refine lv_aload_n hx hb dX11_withRows_7 rfl (lv_at hl 2 rfl) ?_
  refine va_get (D := D) (ci := 11) (v := .ref ro) (C := RX11) (T := TX11) (N := 9) hx hb hg gwX11 hown hK hP 0 rfl rfl 6 (by decide) (hg _ kw_32) (fun _ h9 => h9) rfl dX11_withRows_8 ?_
  refine va_get (D := D) (ci := 8) (v := .int 0) (C := RX8) (T := TX8) (N := 3) hx hb hg gwX8 hown hK hP 1 rfl rfl 2 (by decide) (hg _ kw_33) (fun _ h9 => h9) rfl dX11_withRows_11 ?_
  refine lv_icmp_ge (tgt := 98) hx hb dX11_withRows_14 (by decide) (fun c_14 => ?_) (fun c_14 => absurd (by decide) c_14)
  refine lv_lload_n hx hb dX11_withRows_98 rfl (lv_at hl 1 rfl) ?_
  subst hQ
  exact W.lret (v := v) hx hb hr (fun t ht hW => ⟨v, rfl, rfl, ht⟩) (fun _ h => absurd h List.not_mem_nil) dX11_withRows_99

theorem dX11_digest_0 : decode cX11_digest 0 = .ok (.aload_n 0, 1) := by decide +kernel
theorem dX11_digest_1 : decode cX11_digest 1 = .ok (.aload_n 0, 1) := by decide +kernel
theorem dX11_digest_2 : decode cX11_digest 2 = .ok (.aload_n 0, 1) := by decide +kernel
theorem dX11_digest_3 : decode cX11_digest 3 = .ok (.ldc2_w 295, 3) := by decide +kernel
theorem dX11_digest_6 : decode cX11_digest 6 = .ok (.invokevirtual 297, 3) := by decide +kernel
theorem dX11_digest_9 : decode cX11_digest 9 = .ok (.invokevirtual 301, 3) := by decide +kernel
theorem dX11_digest_12 : decode cX11_digest 12 = .ok (.invokevirtual 304, 3) := by decide +kernel
theorem dX11_digest_15 : decode cX11_digest 15 = .ok (.lstore_n 1, 1) := by decide +kernel
theorem dX11_digest_16 : decode cX11_digest 16 = .ok (.iconst 0, 1) := by decide +kernel
theorem dX11_digest_17 : decode cX11_digest 17 = .ok (.istore_n 3, 1) := by decide +kernel
theorem dX11_digest_18 : decode cX11_digest 18 = .ok (.iload_n 3, 1) := by decide +kernel
theorem dX11_digest_19 : decode cX11_digest 19 = .ok (.aload_n 0, 1) := by decide +kernel
theorem dX11_digest_20 : decode cX11_digest 20 = .ok (.getfield 10, 3) := by decide +kernel
theorem dX11_digest_23 : decode cX11_digest 23 = .ok (.getfield 63, 3) := by decide +kernel
theorem dX11_digest_26 : decode cX11_digest 26 = .ok (.if_icmp .ge 24, 3) := by decide +kernel
theorem dX11_digest_29 : decode cX11_digest 29 = .ok (.lload_n 1, 1) := by decide +kernel
theorem dX11_digest_30 : decode cX11_digest 30 = .ok (.aload_n 0, 1) := by decide +kernel
theorem dX11_digest_31 : decode cX11_digest 31 = .ok (.getfield 10, 3) := by decide +kernel
theorem dX11_digest_34 : decode cX11_digest 34 = .ok (.getfield 307, 3) := by decide +kernel
theorem dX11_digest_37 : decode cX11_digest 37 = .ok (.iload_n 3, 1) := by decide +kernel
theorem dX11_digest_38 : decode cX11_digest 38 = .ok (.iaload, 1) := by decide +kernel
theorem dX11_digest_39 : decode cX11_digest 39 = .ok (.i2l, 1) := by decide +kernel
theorem dX11_digest_40 : decode cX11_digest 40 = .ok (.invokestatic 310, 3) := by decide +kernel
theorem dX11_digest_43 : decode cX11_digest 43 = .ok (.lstore_n 1, 1) := by decide +kernel
theorem dX11_digest_44 : decode cX11_digest 44 = .ok (.iinc 3 1, 3) := by decide +kernel
theorem dX11_digest_47 : decode cX11_digest 47 = .ok (.goto (-29), 3) := by decide +kernel
theorem dX11_digest_50 : decode cX11_digest 50 = .ok (.iconst 0, 1) := by decide +kernel
theorem dX11_digest_51 : decode cX11_digest 51 = .ok (.istore_n 3, 1) := by decide +kernel
theorem dX11_digest_52 : decode cX11_digest 52 = .ok (.iload_n 3, 1) := by decide +kernel
theorem dX11_digest_53 : decode cX11_digest 53 = .ok (.iconst 5, 1) := by decide +kernel
theorem dX11_digest_54 : decode cX11_digest 54 = .ok (.if_icmp .gt 20, 3) := by decide +kernel
theorem dX11_digest_57 : decode cX11_digest 57 = .ok (.lload_n 1, 1) := by decide +kernel
theorem dX11_digest_58 : decode cX11_digest 58 = .ok (.aload_n 0, 1) := by decide +kernel
theorem dX11_digest_59 : decode cX11_digest 59 = .ok (.iload_n 3, 1) := by decide +kernel
theorem dX11_digest_60 : decode cX11_digest 60 = .ok (.invokevirtual 314, 3) := by decide +kernel
theorem dX11_digest_63 : decode cX11_digest 63 = .ok (.i2l, 1) := by decide +kernel
theorem dX11_digest_64 : decode cX11_digest 64 = .ok (.invokestatic 310, 3) := by decide +kernel
theorem dX11_digest_67 : decode cX11_digest 67 = .ok (.lstore_n 1, 1) := by decide +kernel
theorem dX11_digest_68 : decode cX11_digest 68 = .ok (.iinc 3 1, 3) := by decide +kernel
theorem dX11_digest_71 : decode cX11_digest 71 = .ok (.goto (-19), 3) := by decide +kernel
theorem dX11_digest_74 : decode cX11_digest 74 = .ok (.lload_n 1, 1) := by decide +kernel
theorem dX11_digest_75 : decode cX11_digest 75 = .ok (.lreturn, 1) := by decide +kernel
theorem kw_40 : (.constantLong RX11 295 (347) : Cond) ∈ gw_tbl := gw_in (by decide +kernel) (by decide +kernel)
theorem kw_41 : (.code yX11_withQuestion cX11_withQuestion 7 (some .long) : Cond) ∈ gw_tbl := gw_in (by decide +kernel) (by decide +kernel)
theorem kw_42 : (.methodLink RX11 297 yX11_withQuestion : Cond) ∈ gw_tbl := gw_in (by decide +kernel) (by decide +kernel)
theorem kw_43 : (.instanceMethod yX11_withQuestion : Cond) ∈ gw_tbl := gw_in (by decide +kernel) (by decide +kernel)
theorem kw_44 : (.selects RX11 yX11_withQuestion yX11_withQuestion : Cond) ∈ gw_tbl := gw_in (by decide +kernel) (by decide +kernel)
theorem kw_45 : (.code yX11_withPays cX11_withPays 7 (some .long) : Cond) ∈ gw_tbl := gw_in (by decide +kernel) (by decide +kernel)
theorem kw_46 : (.methodLink RX11 301 yX11_withPays : Cond) ∈ gw_tbl := gw_in (by decide +kernel) (by decide +kernel)
theorem kw_47 : (.instanceMethod yX11_withPays : Cond) ∈ gw_tbl := gw_in (by decide +kernel) (by decide +kernel)
theorem kw_48 : (.selects RX11 yX11_withPays yX11_withPays : Cond) ∈ gw_tbl := gw_in (by decide +kernel) (by decide +kernel)
theorem kw_49 : (.code yX11_withRows cX11_withRows 6 (some .long) : Cond) ∈ gw_tbl := gw_in (by decide +kernel) (by decide +kernel)
theorem kw_50 : (.methodLink RX11 304 yX11_withRows : Cond) ∈ gw_tbl := gw_in (by decide +kernel) (by decide +kernel)
theorem kw_51 : (.instanceMethod yX11_withRows : Cond) ∈ gw_tbl := gw_in (by decide +kernel) (by decide +kernel)
theorem kw_52 : (.selects RX11 yX11_withRows yX11_withRows : Cond) ∈ gw_tbl := gw_in (by decide +kernel) (by decide +kernel)
theorem kw_53 : (.code yX11_count cX11_count 2 (some .int) : Cond) ∈ gw_tbl := gw_in (by decide +kernel) (by decide +kernel)
theorem kw_54 : (.methodLink RX11 314 yX11_count : Cond) ∈ gw_tbl := gw_in (by decide +kernel) (by decide +kernel)
theorem kw_55 : (.instanceMethod yX11_count : Cond) ∈ gw_tbl := gw_in (by decide +kernel) (by decide +kernel)
theorem kw_56 : (.selects RX11 yX11_count yX11_count : Cond) ∈ gw_tbl := gw_in (by decide +kernel) (by decide +kernel)
theorem kw_57 : (.code yX11_mixed cX11_mixed 4 (some .long) : Cond) ∈ gw_tbl := gw_in (by decide +kernel) (by decide +kernel)
theorem kw_58 : (.methodLink RX11 310 yX11_mixed : Cond) ∈ gw_tbl := gw_in (by decide +kernel) (by decide +kernel)
theorem kw_59 : (.static yX11_mixed : Cond) ∈ gw_tbl := gw_in (by decide +kernel) (by decide +kernel)

set_option maxHeartbeats 4000000 in
set_option maxRecDepth 100000 in
theorem x_digest (l : Launch) (D : va_G) (x0 : Nat) (pg : Nat) (rd : Nat) (aq : Nat) (py : Nat) (pl : Nat) (ch : Nat) (ro : Nat) (a1 : Nat) (a2 : Nat) (a3 : Nat) (a4 : Nat) (r1 : Nat) (r2 : Nat) (cd : Nat) : Met l yX11_digest (Cond.code yX11_digest cX11_digest 4 (some .long) :: gw_tbl) ({ frames := 1, cells := 0, slots := 0, locals := 26 }) (pc_S D [] [(x0, .inr (11, [.ref pg, .ref rd, .ref aq, .ref py, .ref pl, .ref ch, .ref ro, .int 0, .int 0])), (aq, .inr (5, [.ref a1, .ref a2, .ref a3, .ref a4, .int 0, .int 0, .long 0])), (ro, .inr (8, [.ref r1, .ref r2, .int 0])), (pg, .inr (2, [.ref cd, .int 0]))] [.ref x0]) (vp_Sl (fun r => r = 307963777307)) 0 0 (fun _ => False) := by
  refine Met.ofW (cc := cX11_digest) (maxL := 4) (ret := (some .long)) (by decide) rfl ?_
  intro p e s m args below meth c s₁ B hml hv
  obtain ⟨hargs, hP, hK⟩ := hv
  have hx := B.exec
  have hb := B.bytes
  have hr := B.returns
  have hts := atoms_spec (ws := Cond.code yX11_digest cX11_digest 4 (some .long) :: gw_tbl) B.pre
  have hg := fun (w : Cond) (h : w ∈ gw_tbl) => hts w (List.mem_cons_of_mem _ h)
  have hown : s.vm.findClass RX11 = some m.cls := findClass_of_methodNamed B.named
  have hlocks := B.notSynchronized
  have hl := lv_entry ([.ref x0]) (n := 4) (Nat.le_of_ble_eq_true rfl)
  rw [show entryFrame m args 4 = F0 m 0 (lg_sl ([.ref x0]) ++ List.replicate (4 - (lg_sl ([.ref x0])).length) Slot.unset).toArray [] from by rw [hargs]; exact lg_entry_eq ..]
  generalize (lg_sl ([.ref x0]) ++ List.replicate (4 - (lg_sl ([.ref x0])).length) Slot.unset).toArray = ls at hl ⊢
  have hl : lv_has ls 4 [(0, .ref x0)] := hl
  refine W_genQ (fun Q hQ => ?_)
  refine lv_aload_n hx hb dX11_digest_0 rfl (lv_at hl 0 rfl) ?_
  refine lv_aload_n hx hb dX11_digest_1 rfl (lv_at hl 0 rfl) ?_
  refine lv_aload_n hx hb dX11_digest_2 rfl (lv_at hl 0 rfl) ?_
  refine lv_ldc2 hx hb hown (hg _ kw_40) dX11_digest_3 ?_
  have hPc := hP.sub (ws' := [(x0, .inr (11, [.ref pg, .ref rd, .ref aq, .ref py, .ref pl, .ref ch, .ref ro, .int 0, .int 0])), (aq, .inr (5, [.ref a1, .ref a2, .ref a3, .ref a4, .int 0, .int 0, .long 0]))]) [0, 1] rfl
  have hKc := hK.sub (tys' := []) [] rfl
  refine vp_callSl (W.runV (As := [.long 347]) (rest := [.ref x0, .ref x0]) ⟨hx, hb, hml, hown, hg⟩ (x_withQuestion l D x0 pg rd aq py pl ch ro a1 a2 a3 a4 347) (cwV 1 hg (gw_V kw_42 kw_43 kw_44 kw_6 kw_41) rfl rfl rfl (by decide +kernel) ⟨Nat.le_of_ble_eq_true rfl, Nat.le_of_ble_eq_true rfl⟩) (pr_SV (q := (RX11, TX11, 9)) 11 0 hKc hPc rfl rfl) rfl rfl hl.1 rfl (lv_room (Nat.le_of_ble_eq_true rfl)) dX11_digest_6 ⟨Nat.le_of_ble_eq_true rfl, Nat.le_of_ble_eq_true rfl⟩) (fun r_6 h_6 => ?_)
  obtain rfl : r_6 = 347 := h_6
  have hPc := hP.sub (ws' := [(x0, .inr (11, [.ref pg, .ref rd, .ref aq, .ref py, .ref pl, .ref ch, .ref ro, .int 0, .int 0]))]) [0] rfl
  have hKc := hK.sub (tys' := []) [] rfl
  refine vp_callSl (W.runV (As := [.long 347]) (rest := [.ref x0]) ⟨hx, hb, hml, hown, hg⟩ (x_withPays l D x0 pg rd aq py pl ch ro 347) (cwV 1 hg (gw_V kw_46 kw_47 kw_48 kw_6 kw_45) rfl rfl rfl (by decide +kernel) ⟨Nat.le_of_ble_eq_true rfl, Nat.le_of_ble_eq_true rfl⟩) (pr_SV (q := (RX11, TX11, 9)) 11 0 hKc hPc rfl rfl) rfl rfl hl.1 rfl (lv_room (Nat.le_of_ble_eq_true rfl)) dX11_digest_9 ⟨Nat.le_of_ble_eq_true rfl, Nat.le_of_ble_eq_true rfl⟩) (fun r_9 h_9 => ?_)
  obtain rfl : r_9 = 347 := h_9
  have hPc := hP.sub (ws' := [(x0, .inr (11, [.ref pg, .ref rd, .ref aq, .ref py, .ref pl, .ref ch, .ref ro, .int 0, .int 0])), (ro, .inr (8, [.ref r1, .ref r2, .int 0]))]) [0, 2] rfl
  have hKc := hK.sub (tys' := []) [] rfl
  refine vp_callSl (W.runV (As := [.long 347]) (rest := []) ⟨hx, hb, hml, hown, hg⟩ (x_withRows l D x0 pg rd aq py pl ch ro r1 r2 347) (cwV 1 hg (gw_V kw_50 kw_51 kw_52 kw_6 kw_49) rfl rfl rfl (by decide +kernel) ⟨Nat.le_of_ble_eq_true rfl, Nat.le_of_ble_eq_true rfl⟩) (pr_SV (q := (RX11, TX11, 9)) 11 0 hKc hPc rfl rfl) rfl rfl hl.1 rfl (lv_room (Nat.le_of_ble_eq_true rfl)) dX11_digest_12 ⟨Nat.le_of_ble_eq_true rfl, Nat.le_of_ble_eq_true rfl⟩) (fun r_12 h_12 => ?_)
  obtain rfl : r_12 = 347 := h_12
  refine lv_lstore_n (lv' := [(1, .long 347), (0, .ref x0)]) hx hb dX11_digest_15 rfl hl (by decide) rfl (fun ls hl => ?_)
  refine lv_iconst (v := 0) hx hb dX11_digest_16 (by decide) ?_
  refine lv_istore_n (lv' := [(3, .int 0), (1, .long 347), (0, .ref x0)]) hx hb dX11_digest_17 rfl hl (by decide) rfl (fun ls hl => ?_)
  refine lv_iload_n hx hb dX11_digest_18 rfl (lv_at hl 0 rfl) ?_
  refine lv_aload_n hx hb dX11_digest_19 rfl (lv_at hl 2 rfl) ?_
  refine va_get (D := D) (ci := 11) (v := .ref pg) (C := RX11) (T := TX11) (N := 9) hx hb hg gwX11 hown hK hP 0 rfl rfl 0 (by decide) (hg _ kw_36) (fun _ h9 => h9) rfl dX11_digest_20 ?_
  refine va_get (D := D) (ci := 2) (v := .int 0) (C := RX2) (T := TX2) (N := 2) hx hb hg gwX2 hown hK hP 3 rfl rfl 1 (by decide) (hg _ kw_37) (fun _ h9 => h9) rfl dX11_digest_23 ?_
  refine lv_icmp_ge (tgt := 50) hx hb dX11_digest_26 (by decide) (fun c_26 => ?_) (fun c_26 => absurd (by decide) c_26)
  refine lv_iconst (v := 0) hx hb dX11_digest_50 (by decide) ?_
  refine lv_istore_n (lv' := [(3, .int 0), (1, .long 347), (0, .ref x0)]) hx hb dX11_digest_51 rfl hl (by decide) rfl (fun ls hl => ?_)
  refine lv_iload_n hx hb dX11_digest_52 rfl (lv_at hl 0 rfl) ?_
  refine lv_iconst (v := 5) hx hb dX11_digest_53 (by decide) ?_
  refine lv_icmp_gt (tgt := 74) hx hb dX11_digest_54 (by decide) (fun c_54 => absurd c_54 (by decide)) (fun c_54 => ?_)
  refine lv_lload_n hx hb dX11_digest_57 rfl (lv_at hl 1 rfl) ?_
  refine lv_aload_n hx hb dX11_digest_58 rfl (lv_at hl 2 rfl) ?_
  refine lv_iload_n hx hb dX11_digest_59 rfl (lv_at hl 0 rfl) ?_
  have hPc := hP.sub (ws' := [(x0, .inr (11, [.ref pg, .ref rd, .ref aq, .ref py, .ref pl, .ref ch, .ref ro, .int 0, .int 0])), (aq, .inr (5, [.ref a1, .ref a2, .ref a3, .ref a4, .int 0, .int 0, .long 0])), (ro, .inr (8, [.ref r1, .ref r2, .int 0])), (pg, .inr (2, [.ref cd, .int 0]))]) [0, 1, 2, 3] rfl
  have hKc := hK.sub (tys' := []) [] rfl
  refine vp_callSi (W.runV (As := [.int 0]) (rest := [.long 347]) ⟨hx, hb, hml, hown, hg⟩ (x_count l D x0 pg rd aq py pl ch ro a1 a2 a3 a4 r1 r2 cd 0) (cwV 1 hg (gw_V kw_54 kw_55 kw_56 kw_6 kw_53) rfl rfl rfl (by decide +kernel) ⟨Nat.le_of_ble_eq_true rfl, Nat.le_of_ble_eq_true rfl⟩) (pr_SV (q := (RX11, TX11, 9)) 11 0 hKc hPc rfl rfl) rfl rfl hl.1 rfl (lv_room (Nat.le_of_ble_eq_true rfl)) dX11_digest_60 ⟨Nat.le_of_ble_eq_true rfl, Nat.le_of_ble_eq_true rfl⟩) (fun r_60 h_60 => ?_)
  obtain rfl : r_60 = (0 : Int32) := h_60.trans (by decide)
  refine lv_i2l hx hb dX11_digest_63 rfl ?_
  refine lv_topl (fun z_63 e_63 => ?_)
  obtain rfl : z_63 = (0 : Int64) := e_63.trans (by decide)
  refine vp_callSl (W.runS (As := [.long 347, .long 0]) (rest := []) ⟨hx, hb, hml, hown, hg⟩ (x_mixed l 347 0) (va_cwS 2 hg (gw_S kw_58 kw_59 kw_6 kw_57) rfl rfl rfl (by decide +kernel) ⟨Nat.le_of_ble_eq_true rfl, Nat.le_of_ble_eq_true rfl⟩) pr_0 rfl rfl hl.1 rfl (lv_room (Nat.le_of_ble_eq_true rfl)) dX11_digest_64 ⟨Nat.le_of_ble_eq_true rfl, Nat.le_of_ble_eq_true rfl⟩) (fun r_64 h_64 => ?_)
  obtain rfl : r_64 = (10757 : Int64) := h_64.trans (by decide)
  refine lv_lstore_n (lv' := [(1, .long 10757), (3, .int 0), (0, .ref x0)]) hx hb dX11_digest_67 rfl hl (by decide) rfl (fun ls hl => ?_)
  refine lv_iinc (v := 1) (lv' := [(3, .int 1), (1, .long 10757), (0, .ref x0)]) hx hb dX11_digest_68 hl (k := 1) rfl (by decide) (by decide) rfl (fun ls hl => ?_)
  refine lv_goto (tgt := 52) hx hb dX11_digest_71 (by decide) ?_
  refine lv_iload_n hx hb dX11_digest_52 rfl (lv_at hl 0 rfl) ?_
  refine lv_iconst (v := 5) hx hb dX11_digest_53 (by decide) ?_
  refine lv_icmp_gt (tgt := 74) hx hb dX11_digest_54 (by decide) (fun c_54 => absurd c_54 (by decide)) (fun c_54 => ?_)
  refine lv_lload_n hx hb dX11_digest_57 rfl (lv_at hl 1 rfl) ?_
  refine lv_aload_n hx hb dX11_digest_58 rfl (lv_at hl 2 rfl) ?_
  refine lv_iload_n hx hb dX11_digest_59 rfl (lv_at hl 0 rfl) ?_
  have hPc := hP.sub (ws' := [(x0, .inr (11, [.ref pg, .ref rd, .ref aq, .ref py, .ref pl, .ref ch, .ref ro, .int 0, .int 0])), (aq, .inr (5, [.ref a1, .ref a2, .ref a3, .ref a4, .int 0, .int 0, .long 0])), (ro, .inr (8, [.ref r1, .ref r2, .int 0])), (pg, .inr (2, [.ref cd, .int 0]))]) [0, 1, 2, 3] rfl
  have hKc := hK.sub (tys' := []) [] rfl
  refine vp_callSi (W.runV (As := [.int 1]) (rest := [.long 10757]) ⟨hx, hb, hml, hown, hg⟩ (x_count l D x0 pg rd aq py pl ch ro a1 a2 a3 a4 r1 r2 cd 1) (cwV 1 hg (gw_V kw_54 kw_55 kw_56 kw_6 kw_53) rfl rfl rfl (by decide +kernel) ⟨Nat.le_of_ble_eq_true rfl, Nat.le_of_ble_eq_true rfl⟩) (pr_SV (q := (RX11, TX11, 9)) 11 0 hKc hPc rfl rfl) rfl rfl hl.1 rfl (lv_room (Nat.le_of_ble_eq_true rfl)) dX11_digest_60 ⟨Nat.le_of_ble_eq_true rfl, Nat.le_of_ble_eq_true rfl⟩) (fun r_60 h_60 => ?_)
  obtain rfl : r_60 = (0 : Int32) := h_60.trans (by decide)
  refine lv_i2l hx hb dX11_digest_63 rfl ?_
  refine lv_topl (fun z_63 e_63 => ?_)
  obtain rfl : z_63 = (0 : Int64) := e_63.trans (by decide)
  refine vp_callSl (W.runS (As := [.long 10757, .long 0]) (rest := []) ⟨hx, hb, hml, hown, hg⟩ (x_mixed l 10757 0) (va_cwS 2 hg (gw_S kw_58 kw_59 kw_6 kw_57) rfl rfl rfl (by decide +kernel) ⟨Nat.le_of_ble_eq_true rfl, Nat.le_of_ble_eq_true rfl⟩) pr_0 rfl rfl hl.1 rfl (lv_room (Nat.le_of_ble_eq_true rfl)) dX11_digest_64 ⟨Nat.le_of_ble_eq_true rfl, Nat.le_of_ble_eq_true rfl⟩) (fun r_64 h_64 => ?_)
  obtain rfl : r_64 = (333467 : Int64) := h_64.trans (by decide)
  refine lv_lstore_n (lv' := [(1, .long 333467), (3, .int 1), (0, .ref x0)]) hx hb dX11_digest_67 rfl hl (by decide) rfl (fun ls hl => ?_)
  refine lv_iinc (v := 2) (lv' := [(3, .int 2), (1, .long 333467), (0, .ref x0)]) hx hb dX11_digest_68 hl (k := 1) rfl (by decide) (by decide) rfl (fun ls hl => ?_)
  refine lv_goto (tgt := 52) hx hb dX11_digest_71 (by decide) ?_
  refine lv_iload_n hx hb dX11_digest_52 rfl (lv_at hl 0 rfl) ?_
  refine lv_iconst (v := 5) hx hb dX11_digest_53 (by decide) ?_
  refine lv_icmp_gt (tgt := 74) hx hb dX11_digest_54 (by decide) (fun c_54 => absurd c_54 (by decide)) (fun c_54 => ?_)
  refine lv_lload_n hx hb dX11_digest_57 rfl (lv_at hl 1 rfl) ?_
  refine lv_aload_n hx hb dX11_digest_58 rfl (lv_at hl 2 rfl) ?_
  refine lv_iload_n hx hb dX11_digest_59 rfl (lv_at hl 0 rfl) ?_
  have hPc := hP.sub (ws' := [(x0, .inr (11, [.ref pg, .ref rd, .ref aq, .ref py, .ref pl, .ref ch, .ref ro, .int 0, .int 0])), (aq, .inr (5, [.ref a1, .ref a2, .ref a3, .ref a4, .int 0, .int 0, .long 0])), (ro, .inr (8, [.ref r1, .ref r2, .int 0])), (pg, .inr (2, [.ref cd, .int 0]))]) [0, 1, 2, 3] rfl
  have hKc := hK.sub (tys' := []) [] rfl
  refine vp_callSi (W.runV (As := [.int 2]) (rest := [.long 333467]) ⟨hx, hb, hml, hown, hg⟩ (x_count l D x0 pg rd aq py pl ch ro a1 a2 a3 a4 r1 r2 cd 2) (cwV 1 hg (gw_V kw_54 kw_55 kw_56 kw_6 kw_53) rfl rfl rfl (by decide +kernel) ⟨Nat.le_of_ble_eq_true rfl, Nat.le_of_ble_eq_true rfl⟩) (pr_SV (q := (RX11, TX11, 9)) 11 0 hKc hPc rfl rfl) rfl rfl hl.1 rfl (lv_room (Nat.le_of_ble_eq_true rfl)) dX11_digest_60 ⟨Nat.le_of_ble_eq_true rfl, Nat.le_of_ble_eq_true rfl⟩) (fun r_60 h_60 => ?_)
  obtain rfl : r_60 = (0 : Int32) := h_60.trans (by decide)
  refine lv_i2l hx hb dX11_digest_63 rfl ?_
  refine lv_topl (fun z_63 e_63 => ?_)
  obtain rfl : z_63 = (0 : Int64) := e_63.trans (by decide)
  refine vp_callSl (W.runS (As := [.long 333467, .long 0]) (rest := []) ⟨hx, hb, hml, hown, hg⟩ (x_mixed l 333467 0) (va_cwS 2 hg (gw_S kw_58 kw_59 kw_6 kw_57) rfl rfl rfl (by decide +kernel) ⟨Nat.le_of_ble_eq_true rfl, Nat.le_of_ble_eq_true rfl⟩) pr_0 rfl rfl hl.1 rfl (lv_room (Nat.le_of_ble_eq_true rfl)) dX11_digest_64 ⟨Nat.le_of_ble_eq_true rfl, Nat.le_of_ble_eq_true rfl⟩) (fun r_64 h_64 => ?_)
  obtain rfl : r_64 = (10337477 : Int64) := h_64.trans (by decide)
  refine lv_lstore_n (lv' := [(1, .long 10337477), (3, .int 2), (0, .ref x0)]) hx hb dX11_digest_67 rfl hl (by decide) rfl (fun ls hl => ?_)
  refine lv_iinc (v := 3) (lv' := [(3, .int 3), (1, .long 10337477), (0, .ref x0)]) hx hb dX11_digest_68 hl (k := 1) rfl (by decide) (by decide) rfl (fun ls hl => ?_)
  refine lv_goto (tgt := 52) hx hb dX11_digest_71 (by decide) ?_
  refine lv_iload_n hx hb dX11_digest_52 rfl (lv_at hl 0 rfl) ?_
  refine lv_iconst (v := 5) hx hb dX11_digest_53 (by decide) ?_
  refine lv_icmp_gt (tgt := 74) hx hb dX11_digest_54 (by decide) (fun c_54 => absurd c_54 (by decide)) (fun c_54 => ?_)
  refine lv_lload_n hx hb dX11_digest_57 rfl (lv_at hl 1 rfl) ?_
  refine lv_aload_n hx hb dX11_digest_58 rfl (lv_at hl 2 rfl) ?_
  refine lv_iload_n hx hb dX11_digest_59 rfl (lv_at hl 0 rfl) ?_
  have hPc := hP.sub (ws' := [(x0, .inr (11, [.ref pg, .ref rd, .ref aq, .ref py, .ref pl, .ref ch, .ref ro, .int 0, .int 0])), (aq, .inr (5, [.ref a1, .ref a2, .ref a3, .ref a4, .int 0, .int 0, .long 0])), (ro, .inr (8, [.ref r1, .ref r2, .int 0])), (pg, .inr (2, [.ref cd, .int 0]))]) [0, 1, 2, 3] rfl
  have hKc := hK.sub (tys' := []) [] rfl
  refine vp_callSi (W.runV (As := [.int 3]) (rest := [.long 10337477]) ⟨hx, hb, hml, hown, hg⟩ (x_count l D x0 pg rd aq py pl ch ro a1 a2 a3 a4 r1 r2 cd 3) (cwV 1 hg (gw_V kw_54 kw_55 kw_56 kw_6 kw_53) rfl rfl rfl (by decide +kernel) ⟨Nat.le_of_ble_eq_true rfl, Nat.le_of_ble_eq_true rfl⟩) (pr_SV (q := (RX11, TX11, 9)) 11 0 hKc hPc rfl rfl) rfl rfl hl.1 rfl (lv_room (Nat.le_of_ble_eq_true rfl)) dX11_digest_60 ⟨Nat.le_of_ble_eq_true rfl, Nat.le_of_ble_eq_true rfl⟩) (fun r_60 h_60 => ?_)
  obtain rfl : r_60 = (0 : Int32) := h_60.trans (by decide)
  refine lv_i2l hx hb dX11_digest_63 rfl ?_
  refine lv_topl (fun z_63 e_63 => ?_)
  obtain rfl : z_63 = (0 : Int64) := e_63.trans (by decide)
  refine vp_callSl (W.runS (As := [.long 10337477, .long 0]) (rest := []) ⟨hx, hb, hml, hown, hg⟩ (x_mixed l 10337477 0) (va_cwS 2 hg (gw_S kw_58 kw_59 kw_6 kw_57) rfl rfl rfl (by decide +kernel) ⟨Nat.le_of_ble_eq_true rfl, Nat.le_of_ble_eq_true rfl⟩) pr_0 rfl rfl hl.1 rfl (lv_room (Nat.le_of_ble_eq_true rfl)) dX11_digest_64 ⟨Nat.le_of_ble_eq_true rfl, Nat.le_of_ble_eq_true rfl⟩) (fun r_64 h_64 => ?_)
  obtain rfl : r_64 = (320461787 : Int64) := h_64.trans (by decide)
  refine lv_lstore_n (lv' := [(1, .long 320461787), (3, .int 3), (0, .ref x0)]) hx hb dX11_digest_67 rfl hl (by decide) rfl (fun ls hl => ?_)
  refine lv_iinc (v := 4) (lv' := [(3, .int 4), (1, .long 320461787), (0, .ref x0)]) hx hb dX11_digest_68 hl (k := 1) rfl (by decide) (by decide) rfl (fun ls hl => ?_)
  refine lv_goto (tgt := 52) hx hb dX11_digest_71 (by decide) ?_
  refine lv_iload_n hx hb dX11_digest_52 rfl (lv_at hl 0 rfl) ?_
  refine lv_iconst (v := 5) hx hb dX11_digest_53 (by decide) ?_
  refine lv_icmp_gt (tgt := 74) hx hb dX11_digest_54 (by decide) (fun c_54 => absurd c_54 (by decide)) (fun c_54 => ?_)
  refine lv_lload_n hx hb dX11_digest_57 rfl (lv_at hl 1 rfl) ?_
  refine lv_aload_n hx hb dX11_digest_58 rfl (lv_at hl 2 rfl) ?_
  refine lv_iload_n hx hb dX11_digest_59 rfl (lv_at hl 0 rfl) ?_
  have hPc := hP.sub (ws' := [(x0, .inr (11, [.ref pg, .ref rd, .ref aq, .ref py, .ref pl, .ref ch, .ref ro, .int 0, .int 0])), (aq, .inr (5, [.ref a1, .ref a2, .ref a3, .ref a4, .int 0, .int 0, .long 0])), (ro, .inr (8, [.ref r1, .ref r2, .int 0])), (pg, .inr (2, [.ref cd, .int 0]))]) [0, 1, 2, 3] rfl
  have hKc := hK.sub (tys' := []) [] rfl
  refine vp_callSi (W.runV (As := [.int 4]) (rest := [.long 320461787]) ⟨hx, hb, hml, hown, hg⟩ (x_count l D x0 pg rd aq py pl ch ro a1 a2 a3 a4 r1 r2 cd 4) (cwV 1 hg (gw_V kw_54 kw_55 kw_56 kw_6 kw_53) rfl rfl rfl (by decide +kernel) ⟨Nat.le_of_ble_eq_true rfl, Nat.le_of_ble_eq_true rfl⟩) (pr_SV (q := (RX11, TX11, 9)) 11 0 hKc hPc rfl rfl) rfl rfl hl.1 rfl (lv_room (Nat.le_of_ble_eq_true rfl)) dX11_digest_60 ⟨Nat.le_of_ble_eq_true rfl, Nat.le_of_ble_eq_true rfl⟩) (fun r_60 h_60 => ?_)
  obtain rfl : r_60 = (0 : Int32) := h_60.trans (by decide)
  refine lv_i2l hx hb dX11_digest_63 rfl ?_
  refine lv_topl (fun z_63 e_63 => ?_)
  obtain rfl : z_63 = (0 : Int64) := e_63.trans (by decide)
  refine vp_callSl (W.runS (As := [.long 320461787, .long 0]) (rest := []) ⟨hx, hb, hml, hown, hg⟩ (x_mixed l 320461787 0) (va_cwS 2 hg (gw_S kw_58 kw_59 kw_6 kw_57) rfl rfl rfl (by decide +kernel) ⟨Nat.le_of_ble_eq_true rfl, Nat.le_of_ble_eq_true rfl⟩) pr_0 rfl rfl hl.1 rfl (lv_room (Nat.le_of_ble_eq_true rfl)) dX11_digest_64 ⟨Nat.le_of_ble_eq_true rfl, Nat.le_of_ble_eq_true rfl⟩) (fun r_64 h_64 => ?_)
  obtain rfl : r_64 = (9934315397 : Int64) := h_64.trans (by decide)
  refine lv_lstore_n (lv' := [(1, .long 9934315397), (3, .int 4), (0, .ref x0)]) hx hb dX11_digest_67 rfl hl (by decide) rfl (fun ls hl => ?_)
  refine lv_iinc (v := 5) (lv' := [(3, .int 5), (1, .long 9934315397), (0, .ref x0)]) hx hb dX11_digest_68 hl (k := 1) rfl (by decide) (by decide) rfl (fun ls hl => ?_)
  refine lv_goto (tgt := 52) hx hb dX11_digest_71 (by decide) ?_
  refine lv_iload_n hx hb dX11_digest_52 rfl (lv_at hl 0 rfl) ?_
  refine lv_iconst (v := 5) hx hb dX11_digest_53 (by decide) ?_
  refine lv_icmp_gt (tgt := 74) hx hb dX11_digest_54 (by decide) (fun c_54 => absurd c_54 (by decide)) (fun c_54 => ?_)
  refine lv_lload_n hx hb dX11_digest_57 rfl (lv_at hl 1 rfl) ?_
  refine lv_aload_n hx hb dX11_digest_58 rfl (lv_at hl 2 rfl) ?_
  refine lv_iload_n hx hb dX11_digest_59 rfl (lv_at hl 0 rfl) ?_
  have hPc := hP.sub (ws' := [(x0, .inr (11, [.ref pg, .ref rd, .ref aq, .ref py, .ref pl, .ref ch, .ref ro, .int 0, .int 0])), (aq, .inr (5, [.ref a1, .ref a2, .ref a3, .ref a4, .int 0, .int 0, .long 0])), (ro, .inr (8, [.ref r1, .ref r2, .int 0])), (pg, .inr (2, [.ref cd, .int 0]))]) [0, 1, 2, 3] rfl
  have hKc := hK.sub (tys' := []) [] rfl
  refine vp_callSi (W.runV (As := [.int 5]) (rest := [.long 9934315397]) ⟨hx, hb, hml, hown, hg⟩ (x_count l D x0 pg rd aq py pl ch ro a1 a2 a3 a4 r1 r2 cd 5) (cwV 1 hg (gw_V kw_54 kw_55 kw_56 kw_6 kw_53) rfl rfl rfl (by decide +kernel) ⟨Nat.le_of_ble_eq_true rfl, Nat.le_of_ble_eq_true rfl⟩) (pr_SV (q := (RX11, TX11, 9)) 11 0 hKc hPc rfl rfl) rfl rfl hl.1 rfl (lv_room (Nat.le_of_ble_eq_true rfl)) dX11_digest_60 ⟨Nat.le_of_ble_eq_true rfl, Nat.le_of_ble_eq_true rfl⟩) (fun r_60 h_60 => ?_)
  obtain rfl : r_60 = (0 : Int32) := h_60.trans (by decide)
  refine lv_i2l hx hb dX11_digest_63 rfl ?_
  refine lv_topl (fun z_63 e_63 => ?_)
  obtain rfl : z_63 = (0 : Int64) := e_63.trans (by decide)
  refine vp_callSl (W.runS (As := [.long 9934315397, .long 0]) (rest := []) ⟨hx, hb, hml, hown, hg⟩ (x_mixed l 9934315397 0) (va_cwS 2 hg (gw_S kw_58 kw_59 kw_6 kw_57) rfl rfl rfl (by decide +kernel) ⟨Nat.le_of_ble_eq_true rfl, Nat.le_of_ble_eq_true rfl⟩) pr_0 rfl rfl hl.1 rfl (lv_room (Nat.le_of_ble_eq_true rfl)) dX11_digest_64 ⟨Nat.le_of_ble_eq_true rfl, Nat.le_of_ble_eq_true rfl⟩) (fun r_64 h_64 => ?_)
  obtain rfl : r_64 = (307963777307 : Int64) := h_64.trans (by decide)
  refine lv_lstore_n (lv' := [(1, .long 307963777307), (3, .int 5), (0, .ref x0)]) hx hb dX11_digest_67 rfl hl (by decide) rfl (fun ls hl => ?_)
  refine lv_iinc (v := 6) (lv' := [(3, .int 6), (1, .long 307963777307), (0, .ref x0)]) hx hb dX11_digest_68 hl (k := 1) rfl (by decide) (by decide) rfl (fun ls hl => ?_)
  refine lv_goto (tgt := 52) hx hb dX11_digest_71 (by decide) ?_
  refine lv_iload_n hx hb dX11_digest_52 rfl (lv_at hl 0 rfl) ?_
  refine lv_iconst (v := 5) hx hb dX11_digest_53 (by decide) ?_
  refine lv_icmp_gt (tgt := 74) hx hb dX11_digest_54 (by decide) (fun c_54 => ?_) (fun c_54 => absurd (by decide) c_54)
  refine lv_lload_n hx hb dX11_digest_74 rfl (lv_at hl 1 rfl) ?_
  subst hQ
  exact W.lret (v := 307963777307) hx hb hr (fun t ht hW => ⟨307963777307, rfl, rfl, ht⟩) (fun _ h => absurd h List.not_mem_nil) dX11_digest_75
end
section
def ms4 (k : Int32) : Int32 := if k = 4 then 100 else 999
theorem ms4_y {k : Int32} (h : k = 4) : ms4 k = 100 := if_pos h
theorem ms4_n {k : Int32} (h : ¬ k = 4) : ms4 k = 999 := if_neg h
def okq (k q0 q1 q2 q3 : Int32) : Prop := iw q0 0 999 = 1 ∧ iw q1 0 (ms4 k) = 1 ∧ iw q2 0 999 = 1 ∧ iw q3 0 (ms4 k) = 1
theorem iw_01 {v a b : Int32} : iw v a b = 0 ∨ iw v a b = 1 := by
  unfold iw; split
  · exact Or.inr rfl
  · exact Or.inl rfl
theorem iw_y {v a b r : Int32} (h : r = iw v a b) (c : ¬ r = 0) : iw v a b = 1 := iw_01.resolve_left (fun q => c (h.trans q))
theorem iw_n {v a b r : Int32} {P : Prop} (h : r = iw v a b) (c : r = 0) (q : iw v a b = 1) : P := absurd (h.symm.trans c) (by rw [q]; decide)
def anf (k q0 q1 q2 q3 : Int32) : Int32 := if iw q0 0 999 = 1 ∧ iw q1 0 (ms4 k) = 1 ∧ iw q2 0 999 = 1 ∧ iw q3 0 (ms4 k) = 1 then 1 else 0
theorem an_1 {k q0 q1 q2 q3 : Int32} (h : okq k q0 q1 q2 q3) : (1 : Int32) = anf k q0 q1 q2 q3 := (if_pos h).symm
theorem an_0 {k q0 q1 q2 q3 : Int32} (h : ¬ okq k q0 q1 q2 q3) : (0 : Int32) = anf k q0 q1 q2 q3 := (if_neg h).symm
def spay (k q0 q1 q2 q3 : Int32) : Int32 := if iw k 0 4 = 1 ∧ anf k q0 q1 q2 q3 = 1 then 0 else -102
theorem sp_n1 {k q0 q1 q2 q3 r : Int32} (h : r = iw k 0 4) (c : r = 0) : (-102 : Int32) = spay k q0 q1 q2 q3 := (if_neg (fun q => iw_n h c q.1)).symm
theorem sp_n2 {k q0 q1 q2 q3 r : Int32} (h : r = anf k q0 q1 q2 q3) (c : r = 0) : (-102 : Int32) = spay k q0 q1 q2 q3 := (if_neg (fun q => absurd (h.symm.trans c) (by rw [q.2]; decide))).symm
theorem an_y {k q0 q1 q2 q3 r : Int32} (h : r = anf k q0 q1 q2 q3) (c : ¬ r = 0) : anf k q0 q1 q2 q3 = 1 := by
  by_cases o : okq k q0 q1 q2 q3
  · exact (an_1 o).symm
  · exact absurd (h.trans (an_0 o).symm) c
theorem sp_y {k q0 q1 q2 q3 : Int32} (h : iw k 0 4 = 1) (c : anf k q0 q1 q2 q3 = 1) : (0 : Int32) = spay k q0 q1 q2 q3 := (if_pos ⟨h, c⟩).symm
theorem kd4 {x : Int32} (h : iw x 0 4 = 1) : x = 0 ∨ x = 1 ∨ x = 2 ∨ x = 3 ∨ x = 4 := by
  have hh : 0 ≤ x ∧ x ≤ 4 := by
    unfold iw at h
    by_cases q : 0 ≤ x ∧ x ≤ 4
    · exact q
    · rw [if_neg q] at h; exact absurd h (by decide)
  have e0 : (0 : Int32).toInt = 0 := rfl
  have e1 : (1 : Int32).toInt = 1 := rfl
  have e2 : (2 : Int32).toInt = 2 := rfl
  have e3 : (3 : Int32).toInt = 3 := rfl
  have e4 : (4 : Int32).toInt = 4 := rfl
  simp only [fa_le, e0, e4] at hh
  simp only [fa_eq, e0, e1, e2, e3, e4]
  omega
end
section
theorem dX11_blank_0 : decode cX11_blank 0 = .ok (.aload_n 0, 1) := by decide +kernel
theorem dX11_blank_1 : decode cX11_blank 1 = .ok (.getfield 10, 3) := by decide +kernel
theorem dX11_blank_4 : decode cX11_blank 4 = .ok (.getfield 63, 3) := by decide +kernel
theorem dX11_blank_7 : decode cX11_blank 7 = .ok (.istore_n 1, 1) := by decide +kernel
theorem dX11_blank_8 : decode cX11_blank 8 = .ok (.aload_n 0, 1) := by decide +kernel
theorem dX11_blank_9 : decode cX11_blank 9 = .ok (.getfield 10, 3) := by decide +kernel
theorem dX11_blank_12 : decode cX11_blank 12 = .ok (.iconst 0, 1) := by decide +kernel
theorem dX11_blank_13 : decode cX11_blank 13 = .ok (.putfield 63, 3) := by decide +kernel
theorem dX11_blank_16 : decode cX11_blank 16 = .ok (.iload_n 1, 1) := by decide +kernel
theorem dX11_blank_17 : decode cX11_blank 17 = .ok (.ireturn, 1) := by decide +kernel

set_option maxHeartbeats 4000000 in
set_option maxRecDepth 100000 in
theorem x_blank (l : Launch) (D : va_G) (x0 : Nat) (pg : Nat) (rd : Nat) (aq : Nat) (py : Nat) (pl : Nat) (ch : Nat) (ro : Nat) (cd : Nat) (sz : Nat) : Met l yX11_blank (Cond.code yX11_blank cX11_blank 2 (some .int) :: gw_tbl) ({ frames := 0, cells := 0, slots := 0, locals := 0 }) (pc_M D [] [(x0, .inr (11, [.ref pg, .ref rd, .ref aq, .ref py, .ref pl, .ref ch, .ref ro, .int 0, .int 0])), (pg, .inr (2, [.ref cd, .int 0]))] sz [.ref x0]) (va_Qi (fun (r : Int32) (u : Unit) => r = 0) (fun _ _ => True) (va_A [(x0, .inr (11, [.ref pg, .ref rd, .ref aq, .ref py, .ref pl, .ref ch, .ref ro, .int 0, .int 0])), (pg, .inr (2, [.ref cd, .int 0]))] sz)) 0 0 (va_A [(x0, .inr (11, [.ref pg, .ref rd, .ref aq, .ref py, .ref pl, .ref ch, .ref ro, .int 0, .int 0])), (pg, .inr (2, [.ref cd, .int 0]))] sz) := by
  refine Met.ofW (cc := cX11_blank) (maxL := 2) (ret := (some .int)) (by decide) rfl ?_
  intro p e s m args below meth c s₁ B hml hv
  obtain ⟨hargs, hsz, hP, hK, hD0⟩ := hv
  have hx := B.exec
  have hb := B.bytes
  have hr := B.returns
  have hts := atoms_spec (ws := Cond.code yX11_blank cX11_blank 2 (some .int) :: gw_tbl) B.pre
  have hg := fun (w : Cond) (h : w ∈ gw_tbl) => hts w (List.mem_cons_of_mem _ h)
  have hown : s.vm.findClass RX11 = some m.cls := findClass_of_methodNamed B.named
  have hlocks := B.notSynchronized
  subst hsz
  have hD := hD0.self (sz := s.heap.size)
  generalize hAe : va_A [(x0, .inr (11, [.ref pg, .ref rd, .ref aq, .ref py, .ref pl, .ref ch, .ref ro, .int 0, .int 0])), (pg, .inr (2, [.ref cd, .int 0]))] s.heap.size = A at hD ⊢
  have hA : ∀ q : Nat, s.heap.size ≤ q → A q := fun q h => by rw [← hAe]; exact Or.inr h
  have hS : va_S A s.heap s.heap [] := va_S.rf
  have hP : va_P D vwCl [(x0, .inr (11, [.ref pg, .ref rd, .ref aq, .ref py, .ref pl, .ref ch, .ref ro, .int 0, .int 0])), (pg, .inr (2, [.ref cd, .int 0]))] s.heap := hP
  have hl := lv_entry ([.ref x0]) (n := 2) (Nat.le_of_ble_eq_true rfl)
  rw [show entryFrame m args 2 = F0 m 0 (lg_sl ([.ref x0]) ++ List.replicate (2 - (lg_sl ([.ref x0])).length) Slot.unset).toArray [] from by rw [hargs]; exact lg_entry_eq ..]
  generalize (lg_sl ([.ref x0]) ++ List.replicate (2 - (lg_sl ([.ref x0])).length) Slot.unset).toArray = ls at hl ⊢
  have hl : lv_has ls 2 [(0, .ref x0)] := hl
  refine W_genQ (fun Q hQ => ?_)
  refine lv_aload_n hx hb dX11_blank_0 rfl (lv_at hl 0 rfl) ?_
  refine va_get (D := D) (ci := 11) (v := .ref pg) (C := RX11) (T := TX11) (N := 9) hx hb hg gwX11 hown hK hP 0 rfl rfl 0 (by decide) (hg _ kw_36) (fun _ h9 => h9) rfl dX11_blank_1 ?_
  refine va_get (D := D) (ci := 2) (v := .int 0) (C := RX2) (T := TX2) (N := 2) hx hb hg gwX2 hown hK hP 1 rfl rfl 1 (by decide) (hg _ kw_37) (fun _ h9 => h9) rfl dX11_blank_4 ?_
  refine lv_istore_n (lv' := [(1, .int 0), (0, .ref x0)]) hx hb dX11_blank_7 rfl hl (by decide) rfl (fun ls hl => ?_)
  refine lv_aload_n hx hb dX11_blank_8 rfl (lv_at hl 1 rfl) ?_
  refine va_get (D := D) (ci := 11) (v := .ref pg) (C := RX11) (T := TX11) (N := 9) hx hb hg gwX11 hown hK hP 0 rfl rfl 0 (by decide) (hg _ kw_36) (fun _ h9 => h9) rfl dX11_blank_9 ?_
  refine lv_iconst (v := 0) hx hb dX11_blank_12 (by decide) ?_
  refine va_put (D := D) (ci := 2) (v := .int 0) (ty := .int) (C := RX2) (T := TX2) (N := 2) hx hb hg gwX2 tyX2 tyX2_ok nmX2 hown hK hP hD hS 1 rfl rfl 1 (by decide) (hg _ kw_37) (fun _ h9 => h9) rfl (by decide +kernel) rfl rfl (Nat.le_of_ble_eq_true rfl) dX11_blank_13 (fun H locs hP hD hS => ?_)
  have hP : va_P D vwCl [(x0, .inr (11, [.ref pg, .ref rd, .ref aq, .ref py, .ref pl, .ref ch, .ref ro, .int 0, .int 0])), (pg, .inr (2, [.ref cd, .int 0]))] H := hP
  have hD : va_D A [(x0, .inr (11, [.ref pg, .ref rd, .ref aq, .ref py, .ref pl, .ref ch, .ref ro, .int 0, .int 0])), (pg, .inr (2, [.ref cd, .int 0]))] := hD
  refine lv_iload_n hx hb dX11_blank_16 rfl (lv_at hl 0 rfl) ?_
  subst hQ
  refine W.widen (k := 0) (n := 0) (Nat.le_of_ble_eq_true rfl) (Nat.le_of_ble_eq_true rfl) ?_
  exact W.iret (v := 0) hx hb hr (fun t ht hW => ⟨⟨0, (), rfl, rfl, trivial⟩, hS.F ht⟩) hS.2.2 dX11_blank_17

theorem dX7_beginCase_0 : decode cX7_beginCase 0 = .ok (.aload_n 0, 1) := by decide +kernel
theorem dX7_beginCase_1 : decode cX7_beginCase 1 = .ok (.dup, 1) := by decide +kernel
theorem dX7_beginCase_2 : decode cX7_beginCase 2 = .ok (.getfield 24, 3) := by decide +kernel
theorem dX7_beginCase_5 : decode cX7_beginCase 5 = .ok (.iconst 1, 1) := by decide +kernel
theorem dX7_beginCase_6 : decode cX7_beginCase 6 = .ok (.iadd, 1) := by decide +kernel
theorem dX7_beginCase_7 : decode cX7_beginCase 7 = .ok (.putfield 24, 3) := by decide +kernel
theorem dX7_beginCase_10 : decode cX7_beginCase 10 = .ok (.aload_n 0, 1) := by decide +kernel
theorem dX7_beginCase_11 : decode cX7_beginCase 11 = .ok (.iconst 0, 1) := by decide +kernel
theorem dX7_beginCase_12 : decode cX7_beginCase 12 = .ok (.putfield 42, 3) := by decide +kernel
theorem dX7_beginCase_15 : decode cX7_beginCase 15 = .ok (.aload_n 0, 1) := by decide +kernel
theorem dX7_beginCase_16 : decode cX7_beginCase 16 = .ok (.iconst 0, 1) := by decide +kernel
theorem dX7_beginCase_17 : decode cX7_beginCase 17 = .ok (.putfield 45, 3) := by decide +kernel
theorem dX7_beginCase_20 : decode cX7_beginCase 20 = .ok (.aload_n 0, 1) := by decide +kernel
theorem dX7_beginCase_21 : decode cX7_beginCase 21 = .ok (.iconst 0, 1) := by decide +kernel
theorem dX7_beginCase_22 : decode cX7_beginCase 22 = .ok (.putfield 67, 3) := by decide +kernel
theorem dX7_beginCase_25 : decode cX7_beginCase 25 = .ok (.return_, 1) := by decide +kernel
theorem kw_60 : (.fieldLink RX7 24 "NobodyChecks$Reader" "cases" "I" : Cond) ∈ gw_tbl := gw_in (by decide +kernel) (by decide +kernel)
theorem kw_61 : (.fieldLink RX7 42 "NobodyChecks$Reader" "persons" "I" : Cond) ∈ gw_tbl := gw_in (by decide +kernel) (by decide +kernel)
theorem kw_62 : (.fieldLink RX7 45 "NobodyChecks$Reader" "digits" "I" : Cond) ∈ gw_tbl := gw_in (by decide +kernel) (by decide +kernel)
theorem kw_63 : (.fieldLink RX7 67 "NobodyChecks$Reader" "value" "I" : Cond) ∈ gw_tbl := gw_in (by decide +kernel) (by decide +kernel)

set_option maxHeartbeats 4000000 in
set_option maxRecDepth 100000 in
theorem r_beginCase (l : Launch) (D : va_G) (rd : Nat) (rw : Nat) (rc : Nat) (sz : Nat) : Met l yX7_beginCase (Cond.code yX7_beginCase cX7_beginCase 1 none :: gw_tbl) ({ frames := 0, cells := 0, slots := 0, locals := 0 }) (pc_M D [] [(rd, .inr (7, [.ref rw, .ref rc, .int 0, .int 0, .int 0, .int 0, .int 0]))] sz [.ref rd]) (va_Qv (fun (u : Unit) => True) (fun _ t => va_P D vwCl [(rd, .inr (7, [.ref rw, .ref rc, .int 1, .int 0, .int 0, .int 0, .int 0]))] t.heap ∧ va_K D vwCl [] t ∧ va_D (va_A [(rd, .inr (7, [.ref rw, .ref rc, .int 0, .int 0, .int 0, .int 0, .int 0]))] sz) [(rd, .inr (7, [.ref rw, .ref rc, .int 1, .int 0, .int 0, .int 0, .int 0]))]) (va_A [(rd, .inr (7, [.ref rw, .ref rc, .int 0, .int 0, .int 0, .int 0, .int 0]))] sz)) 0 0 (va_A [(rd, .inr (7, [.ref rw, .ref rc, .int 0, .int 0, .int 0, .int 0, .int 0]))] sz) := by
  refine Met.ofW (cc := cX7_beginCase) (maxL := 1) (ret := none) (by decide) rfl ?_
  intro p e s m args below meth c s₁ B hml hv
  obtain ⟨hargs, hsz, hP, hK, hD0⟩ := hv
  have hx := B.exec
  have hb := B.bytes
  have hr := B.returns
  have hts := atoms_spec (ws := Cond.code yX7_beginCase cX7_beginCase 1 none :: gw_tbl) B.pre
  have hg := fun (w : Cond) (h : w ∈ gw_tbl) => hts w (List.mem_cons_of_mem _ h)
  have hown : s.vm.findClass RX7 = some m.cls := findClass_of_methodNamed B.named
  have hlocks := B.notSynchronized
  subst hsz
  have hD := hD0.self (sz := s.heap.size)
  generalize hAe : va_A [(rd, .inr (7, [.ref rw, .ref rc, .int 0, .int 0, .int 0, .int 0, .int 0]))] s.heap.size = A at hD ⊢
  have hA : ∀ q : Nat, s.heap.size ≤ q → A q := fun q h => by rw [← hAe]; exact Or.inr h
  have hS : va_S A s.heap s.heap [] := va_S.rf
  have hP : va_P D vwCl [(rd, .inr (7, [.ref rw, .ref rc, .int 0, .int 0, .int 0, .int 0, .int 0]))] s.heap := hP
  have hl := lv_entry ([.ref rd]) (n := 1) (Nat.le_of_ble_eq_true rfl)
  rw [show entryFrame m args 1 = F0 m 0 (lg_sl ([.ref rd]) ++ List.replicate (1 - (lg_sl ([.ref rd])).length) Slot.unset).toArray [] from by rw [hargs]; exact lg_entry_eq ..]
  generalize (lg_sl ([.ref rd]) ++ List.replicate (1 - (lg_sl ([.ref rd])).length) Slot.unset).toArray = ls at hl ⊢
  have hl : lv_has ls 1 [(0, .ref rd)] := hl
  refine W_genQ (fun Q hQ => ?_)
  refine lv_aload_n hx hb dX7_beginCase_0 rfl (lv_at hl 0 rfl) ?_
  refine lv_dup hx hb dX7_beginCase_1 rfl ?_
  refine va_get (D := D) (ci := 7) (v := .int 0) (C := RX7) (T := TX7) (N := 7) hx hb hg gwX7 hown hK hP 0 rfl rfl 2 (by decide) (hg _ kw_60) (fun _ h9 => h9) rfl dX7_beginCase_2 ?_
  refine lv_iconst (v := 1) hx hb dX7_beginCase_5 (by decide) ?_
  refine lv_iadd hx hb dX7_beginCase_6 ?_
  refine lv_topi (fun z_6 e_6 => ?_)
  obtain rfl : z_6 = (1 : Int32) := e_6.trans (by decide)
  refine va_put (D := D) (ci := 7) (v := .int 1) (ty := .int) (C := RX7) (T := TX7) (N := 7) hx hb hg gwX7 tyX7 tyX7_ok nmX7 hown hK hP hD hS 0 rfl rfl 2 (by decide) (hg _ kw_60) (fun _ h9 => h9) rfl (by decide +kernel) rfl rfl (Nat.le_of_ble_eq_true rfl) dX7_beginCase_7 (fun H locs hP hD hS => ?_)
  have hP : va_P D vwCl [(rd, .inr (7, [.ref rw, .ref rc, .int 1, .int 0, .int 0, .int 0, .int 0]))] H := hP
  have hD : va_D A [(rd, .inr (7, [.ref rw, .ref rc, .int 1, .int 0, .int 0, .int 0, .int 0]))] := hD
  refine lv_aload_n hx hb dX7_beginCase_10 rfl (lv_at hl 0 rfl) ?_
  refine lv_iconst (v := 0) hx hb dX7_beginCase_11 (by decide) ?_
  refine va_put (D := D) (ci := 7) (v := .int 0) (ty := .int) (C := RX7) (T := TX7) (N := 7) hx hb hg gwX7 tyX7 tyX7_ok nmX7 hown hK hP hD hS 0 rfl rfl 3 (by decide) (hg _ kw_61) (fun _ h9 => h9) rfl (by decide +kernel) rfl rfl (Nat.le_of_ble_eq_true rfl) dX7_beginCase_12 (fun H locs hP hD hS => ?_)
  have hP : va_P D vwCl [(rd, .inr (7, [.ref rw, .ref rc, .int 1, .int 0, .int 0, .int 0, .int 0]))] H := hP
  have hD : va_D A [(rd, .inr (7, [.ref rw, .ref rc, .int 1, .int 0, .int 0, .int 0, .int 0]))] := hD
  refine lv_aload_n hx hb dX7_beginCase_15 rfl (lv_at hl 0 rfl) ?_
  refine lv_iconst (v := 0) hx hb dX7_beginCase_16 (by decide) ?_
  refine va_put (D := D) (ci := 7) (v := .int 0) (ty := .int) (C := RX7) (T := TX7) (N := 7) hx hb hg gwX7 tyX7 tyX7_ok nmX7 hown hK hP hD hS 0 rfl rfl 5 (by decide) (hg _ kw_62) (fun _ h9 => h9) rfl (by decide +kernel) rfl rfl (Nat.le_of_ble_eq_true rfl) dX7_beginCase_17 (fun H locs hP hD hS => ?_)
  have hP : va_P D vwCl [(rd, .inr (7, [.ref rw, .ref rc, .int 1, .int 0, .int 0, .int 0, .int 0]))] H := hP
  have hD : va_D A [(rd, .inr (7, [.ref rw, .ref rc, .int 1, .int 0, .int 0, .int 0, .int 0]))] := hD
  refine lv_aload_n hx hb dX7_beginCase_20 rfl (lv_at hl 0 rfl) ?_
  refine lv_iconst (v := 0) hx hb dX7_beginCase_21 (by decide) ?_
  refine va_put (D := D) (ci := 7) (v := .int 0) (ty := .int) (C := RX7) (T := TX7) (N := 7) hx hb hg gwX7 tyX7 tyX7_ok nmX7 hown hK hP hD hS 0 rfl rfl 6 (by decide) (hg _ kw_63) (fun _ h9 => h9) rfl (by decide +kernel) rfl rfl (Nat.le_of_ble_eq_true rfl) dX7_beginCase_22 (fun H locs hP hD hS => ?_)
  have hP : va_P D vwCl [(rd, .inr (7, [.ref rw, .ref rc, .int 1, .int 0, .int 0, .int 0, .int 0]))] H := hP
  have hD : va_D A [(rd, .inr (7, [.ref rw, .ref rc, .int 1, .int 0, .int 0, .int 0, .int 0]))] := hD
  subst hQ
  refine W.widen (k := 0) (n := 0) (Nat.le_of_ble_eq_true rfl) (Nat.le_of_ble_eq_true rfl) ?_
  have hP9 := hP.sub (ws' := [(rd, .inr (7, [.ref rw, .ref rc, .int 1, .int 0, .int 0, .int 0, .int 0]))]) [0] rfl
  have hD9 := hD.sub (ws' := [(rd, .inr (7, [.ref rw, .ref rc, .int 1, .int 0, .int 0, .int 0, .int 0]))]) [0] (by decide) rfl
  have hK9 := hK.sub (tys' := []) [] rfl
  exact W.vret hx hb hr (fun t ht hW => ⟨⟨(), rfl, trivial, ⟨by rw [ht]; exact hP9, va_K.moved hW.alike hK9, hD9⟩⟩, hS.F ht⟩) hS.2.2 dX7_beginCase_25

theorem dX7_readUntilFault_0 : decode cX7_readUntilFault 0 = .ok (.aload_n 0, 1) := by decide +kernel
theorem dX7_readUntilFault_1 : decode cX7_readUntilFault 1 = .ok (.iconst 0, 1) := by decide +kernel
theorem dX7_readUntilFault_2 : decode cX7_readUntilFault 2 = .ok (.putfield 20, 3) := by decide +kernel
theorem dX7_readUntilFault_5 : decode cX7_readUntilFault 5 = .ok (.aload_n 0, 1) := by decide +kernel
theorem dX7_readUntilFault_6 : decode cX7_readUntilFault 6 = .ok (.iconst 0, 1) := by decide +kernel
theorem dX7_readUntilFault_7 : decode cX7_readUntilFault 7 = .ok (.putfield 24, 3) := by decide +kernel
theorem dX7_readUntilFault_10 : decode cX7_readUntilFault 10 = .ok (.aload_n 0, 1) := by decide +kernel
theorem dX7_readUntilFault_11 : decode cX7_readUntilFault 11 = .ok (.invokevirtual 27, 3) := by decide +kernel
theorem dX7_readUntilFault_14 : decode cX7_readUntilFault 14 = .ok (.iconst 0, 1) := by decide +kernel
theorem dX7_readUntilFault_15 : decode cX7_readUntilFault 15 = .ok (.istore_n 2, 1) := by decide +kernel
theorem dX7_readUntilFault_16 : decode cX7_readUntilFault 16 = .ok (.iload_n 2, 1) := by decide +kernel
theorem dX7_readUntilFault_17 : decode cX7_readUntilFault 17 = .ok (.aload_n 1, 1) := by decide +kernel
theorem dX7_readUntilFault_18 : decode cX7_readUntilFault 18 = .ok (.getfield 30, 3) := by decide +kernel
theorem dX7_readUntilFault_21 : decode cX7_readUntilFault 21 = .ok (.if_icmp .ge 24, 3) := by decide +kernel
theorem dX7_readUntilFault_24 : decode cX7_readUntilFault 24 = .ok (.aload_n 0, 1) := by decide +kernel
theorem dX7_readUntilFault_25 : decode cX7_readUntilFault 25 = .ok (.aload_n 1, 1) := by decide +kernel
theorem dX7_readUntilFault_26 : decode cX7_readUntilFault 26 = .ok (.getfield 35, 3) := by decide +kernel
theorem dX7_readUntilFault_29 : decode cX7_readUntilFault 29 = .ok (.iload_n 2, 1) := by decide +kernel
theorem dX7_readUntilFault_30 : decode cX7_readUntilFault 30 = .ok (.iaload, 1) := by decide +kernel
theorem dX7_readUntilFault_31 : decode cX7_readUntilFault 31 = .ok (.invokevirtual 38, 3) := by decide +kernel
theorem dX7_readUntilFault_34 : decode cX7_readUntilFault 34 = .ok (.ifCond .ne 5, 3) := by decide +kernel
theorem dX7_readUntilFault_37 : decode cX7_readUntilFault 37 = .ok (.iload_n 2, 1) := by decide +kernel
theorem dX7_readUntilFault_38 : decode cX7_readUntilFault 38 = .ok (.ireturn, 1) := by decide +kernel
theorem dX7_readUntilFault_39 : decode cX7_readUntilFault 39 = .ok (.iinc 2 1, 3) := by decide +kernel
theorem dX7_readUntilFault_42 : decode cX7_readUntilFault 42 = .ok (.goto (-26), 3) := by decide +kernel
theorem dX7_readUntilFault_45 : decode cX7_readUntilFault 45 = .ok (.aload_n 1, 1) := by decide +kernel
theorem dX7_readUntilFault_46 : decode cX7_readUntilFault 46 = .ok (.getfield 30, 3) := by decide +kernel
theorem dX7_readUntilFault_49 : decode cX7_readUntilFault 49 = .ok (.ireturn, 1) := by decide +kernel
theorem kw_64 : (.fieldLink RX7 20 "NobodyChecks$Reader" "agreed" "I" : Cond) ∈ gw_tbl := gw_in (by decide +kernel) (by decide +kernel)
theorem kw_65 : (.code yX7_beginCase cX7_beginCase 1 none : Cond) ∈ gw_tbl := gw_in (by decide +kernel) (by decide +kernel)
theorem kw_66 : (.methodLink RX7 27 yX7_beginCase : Cond) ∈ gw_tbl := gw_in (by decide +kernel) (by decide +kernel)
theorem kw_67 : (.instanceMethod yX7_beginCase : Cond) ∈ gw_tbl := gw_in (by decide +kernel) (by decide +kernel)
theorem kw_68 : (.selects RX7 yX7_beginCase yX7_beginCase : Cond) ∈ gw_tbl := gw_in (by decide +kernel) (by decide +kernel)
theorem kw_69 : (.initialized RX7 : Cond) ∈ gw_tbl := gw_in (by decide +kernel) (by decide +kernel)
theorem kw_70 : (.fieldLink RX7 30 "NobodyChecks$Page" "size" "I" : Cond) ∈ gw_tbl := gw_in (by decide +kernel) (by decide +kernel)

set_option maxHeartbeats 4000000 in
set_option maxRecDepth 100000 in
theorem r_readUntilFault (l : Launch) (D : va_G) (rd : Nat) (rw : Nat) (rc : Nat) (pg : Nat) (cd : Nat) (sz : Nat) : Met l yX7_readUntilFault (Cond.code yX7_readUntilFault cX7_readUntilFault 3 (some .int) :: gw_tbl) ({ frames := 1, cells := 0, slots := 0, locals := 20 }) (pc_M D [] [(rd, .inr (7, [.ref rw, .ref rc, .int 0, .int 0, .int 0, .int 0, .int 0])), (pg, .inr (2, [.ref cd, .int 0]))] sz [.ref rd, .ref pg]) (va_Qi (fun (r : Int32) (u : Unit) => r = 0) (fun _ t => va_P D vwCl [(rd, .inr (7, [.ref rw, .ref rc, .int 1, .int 0, .int 0, .int 0, .int 0])), (pg, .inr (2, [.ref cd, .int 0]))] t.heap ∧ va_K D vwCl [] t ∧ va_D (va_A [(rd, .inr (7, [.ref rw, .ref rc, .int 0, .int 0, .int 0, .int 0, .int 0])), (pg, .inr (2, [.ref cd, .int 0]))] sz) [(rd, .inr (7, [.ref rw, .ref rc, .int 1, .int 0, .int 0, .int 0, .int 0])), (pg, .inr (2, [.ref cd, .int 0]))]) (va_A [(rd, .inr (7, [.ref rw, .ref rc, .int 0, .int 0, .int 0, .int 0, .int 0])), (pg, .inr (2, [.ref cd, .int 0]))] sz)) 0 0 (va_A [(rd, .inr (7, [.ref rw, .ref rc, .int 0, .int 0, .int 0, .int 0, .int 0])), (pg, .inr (2, [.ref cd, .int 0]))] sz) := by
  refine Met.ofW (cc := cX7_readUntilFault) (maxL := 3) (ret := (some .int)) (by decide) rfl ?_
  intro p e s m args below meth c s₁ B hml hv
  obtain ⟨hargs, hsz, hP, hK, hD0⟩ := hv
  have hx := B.exec
  have hb := B.bytes
  have hr := B.returns
  have hts := atoms_spec (ws := Cond.code yX7_readUntilFault cX7_readUntilFault 3 (some .int) :: gw_tbl) B.pre
  have hg := fun (w : Cond) (h : w ∈ gw_tbl) => hts w (List.mem_cons_of_mem _ h)
  have hown : s.vm.findClass RX7 = some m.cls := findClass_of_methodNamed B.named
  have hlocks := B.notSynchronized
  subst hsz
  have hD := hD0.self (sz := s.heap.size)
  generalize hAe : va_A [(rd, .inr (7, [.ref rw, .ref rc, .int 0, .int 0, .int 0, .int 0, .int 0])), (pg, .inr (2, [.ref cd, .int 0]))] s.heap.size = A at hD ⊢
  have hA : ∀ q : Nat, s.heap.size ≤ q → A q := fun q h => by rw [← hAe]; exact Or.inr h
  have hS : va_S A s.heap s.heap [] := va_S.rf
  have hP : va_P D vwCl [(rd, .inr (7, [.ref rw, .ref rc, .int 0, .int 0, .int 0, .int 0, .int 0])), (pg, .inr (2, [.ref cd, .int 0]))] s.heap := hP
  have hl := lv_entry ([.ref rd, .ref pg]) (n := 3) (Nat.le_of_ble_eq_true rfl)
  rw [show entryFrame m args 3 = F0 m 0 (lg_sl ([.ref rd, .ref pg]) ++ List.replicate (3 - (lg_sl ([.ref rd, .ref pg])).length) Slot.unset).toArray [] from by rw [hargs]; exact lg_entry_eq ..]
  generalize (lg_sl ([.ref rd, .ref pg]) ++ List.replicate (3 - (lg_sl ([.ref rd, .ref pg])).length) Slot.unset).toArray = ls at hl ⊢
  have hl : lv_has ls 3 [(0, .ref rd), (1, .ref pg)] := hl
  refine W_genQ (fun Q hQ => ?_)
  refine lv_aload_n hx hb dX7_readUntilFault_0 rfl (lv_at hl 0 rfl) ?_
  refine lv_iconst (v := 0) hx hb dX7_readUntilFault_1 (by decide) ?_
  refine va_put (D := D) (ci := 7) (v := .int 0) (ty := .int) (C := RX7) (T := TX7) (N := 7) hx hb hg gwX7 tyX7 tyX7_ok nmX7 hown hK hP hD hS 0 rfl rfl 4 (by decide) (hg _ kw_64) (fun _ h9 => h9) rfl (by decide +kernel) rfl rfl (Nat.le_of_ble_eq_true rfl) dX7_readUntilFault_2 (fun H locs hP hD hS => ?_)
  have hP : va_P D vwCl [(rd, .inr (7, [.ref rw, .ref rc, .int 0, .int 0, .int 0, .int 0, .int 0])), (pg, .inr (2, [.ref cd, .int 0]))] H := hP
  have hD : va_D A [(rd, .inr (7, [.ref rw, .ref rc, .int 0, .int 0, .int 0, .int 0, .int 0])), (pg, .inr (2, [.ref cd, .int 0]))] := hD
  refine lv_aload_n hx hb dX7_readUntilFault_5 rfl (lv_at hl 0 rfl) ?_
  refine lv_iconst (v := 0) hx hb dX7_readUntilFault_6 (by decide) ?_
  refine va_put (D := D) (ci := 7) (v := .int 0) (ty := .int) (C := RX7) (T := TX7) (N := 7) hx hb hg gwX7 tyX7 tyX7_ok nmX7 hown hK hP hD hS 0 rfl rfl 2 (by decide) (hg _ kw_60) (fun _ h9 => h9) rfl (by decide +kernel) rfl rfl (Nat.le_of_ble_eq_true rfl) dX7_readUntilFault_7 (fun H locs hP hD hS => ?_)
  have hP : va_P D vwCl [(rd, .inr (7, [.ref rw, .ref rc, .int 0, .int 0, .int 0, .int 0, .int 0])), (pg, .inr (2, [.ref cd, .int 0]))] H := hP
  have hD : va_D A [(rd, .inr (7, [.ref rw, .ref rc, .int 0, .int 0, .int 0, .int 0, .int 0])), (pg, .inr (2, [.ref cd, .int 0]))] := hD
  refine lv_aload_n hx hb dX7_readUntilFault_10 rfl (lv_at hl 0 rfl) ?_
  have hPc := hP.sub (ws' := [(rd, .inr (7, [.ref rw, .ref rc, .int 0, .int 0, .int 0, .int 0, .int 0]))]) [0] rfl
  have hKc := hK.sub (tys' := []) [] rfl
  have hDc := hD.sub (ws' := [(rd, .inr (7, [.ref rw, .ref rc, .int 0, .int 0, .int 0, .int 0, .int 0]))]) [0] (by decide) rfl
  have hFc := va_free (wc := [(rd, .inr (7, [.ref rw, .ref rc, .int 0, .int 0, .int 0, .int 0, .int 0]))]) hD hS hA [0] rfl
  refine va_callv (va_runV (As := []) (rest := []) ⟨hx, hb, hml, hown, hg⟩ (r_beginCase l D rd rw rc _) (cwV 0 hg (gw_V kw_66 kw_67 kw_68 kw_69 kw_65) rfl rfl rfl (by decide +kernel) ⟨Nat.le_of_ble_eq_true rfl, Nat.le_of_ble_eq_true rfl⟩) (pr_MV (q := (RX7, TX7, 7)) 7 0 hKc hPc hDc rfl rfl) rfl rfl hl.1 rfl (lv_room (Nat.le_of_ble_eq_true rfl)) dX7_readUntilFault_11 ⟨Nat.le_of_ble_eq_true rfl, Nat.le_of_ble_eq_true rfl⟩) hS (fun q _ h => hFc q h) hFc (fun u t H1 locs ht hvm h_11 hB hz1 hk1 hS => ?_)
  obtain ⟨hP1, hK1, hD1⟩ := hB
  rw [ht] at hP1
  have hK1 := va_K.moved hvm.symm hK1
  obtain ⟨hP, hD⟩ := va_join (wr := [(pg, .inr (2, [.ref cd, .int 0]))]) (w1 := [(rd, .inr (7, [.ref rw, .ref rc, .int 1, .int 0, .int 0, .int 0, .int 0]))]) hP hD [0] [1] rfl rfl (by decide) (by decide) hk1 hFc hP1 hD1
  have hK := hK.app hK1
  generalize H1 = H at hP hS ⊢
  have hP : va_P D vwCl [(pg, .inr (2, [.ref cd, .int 0])), (rd, .inr (7, [.ref rw, .ref rc, .int 1, .int 0, .int 0, .int 0, .int 0]))] H := hP
  have hD : va_D A [(pg, .inr (2, [.ref cd, .int 0])), (rd, .inr (7, [.ref rw, .ref rc, .int 1, .int 0, .int 0, .int 0, .int 0]))] := hD
  have hK : va_K D vwCl [] s := hK
  refine W.cs (cells' := 0) (slots' := 0) rfl rfl ?_
  try dsimp only at h_11
  refine lv_iconst (v := 0) hx hb dX7_readUntilFault_14 (by decide) ?_
  refine lv_istore_n (lv' := [(2, .int 0), (0, .ref rd), (1, .ref pg)]) hx hb dX7_readUntilFault_15 rfl hl (by decide) rfl (fun ls hl => ?_)
  refine lv_iload_n hx hb dX7_readUntilFault_16 rfl (lv_at hl 0 rfl) ?_
  refine lv_aload_n hx hb dX7_readUntilFault_17 rfl (lv_at hl 2 rfl) ?_
  refine va_get (D := D) (ci := 2) (v := .int 0) (C := RX2) (T := TX2) (N := 2) hx hb hg gwX2 hown hK hP 0 rfl rfl 1 (by decide) (hg _ kw_70) (fun _ h9 => h9) rfl dX7_readUntilFault_18 ?_
  refine lv_icmp_ge (tgt := 45) hx hb dX7_readUntilFault_21 (by decide) (fun c_21 => ?_) (fun c_21 => absurd (by decide) c_21)
  refine lv_aload_n hx hb dX7_readUntilFault_45 rfl (lv_at hl 2 rfl) ?_
  refine va_get (D := D) (ci := 2) (v := .int 0) (C := RX2) (T := TX2) (N := 2) hx hb hg gwX2 hown hK hP 0 rfl rfl 1 (by decide) (hg _ kw_70) (fun _ h9 => h9) rfl dX7_readUntilFault_46 ?_
  subst hQ
  refine W.widen (k := 0) (n := 0) (Nat.le_of_ble_eq_true rfl) (Nat.le_of_ble_eq_true rfl) ?_
  have hP9 := hP.sub (ws' := [(rd, .inr (7, [.ref rw, .ref rc, .int 1, .int 0, .int 0, .int 0, .int 0])), (pg, .inr (2, [.ref cd, .int 0]))]) [1, 0] rfl
  have hD9 := hD.sub (ws' := [(rd, .inr (7, [.ref rw, .ref rc, .int 1, .int 0, .int 0, .int 0, .int 0])), (pg, .inr (2, [.ref cd, .int 0]))]) [1, 0] (by decide) rfl
  have hK9 := hK.sub (tys' := []) [] rfl
  exact W.iret (v := 0) hx hb hr (fun t ht hW => ⟨⟨0, (), rfl, rfl, ⟨by rw [ht]; exact hP9, va_K.moved hW.alike hK9, hD9⟩⟩, hS.F ht⟩) hS.2.2 dX7_readUntilFault_49

theorem dX11_fault_0 : decode cX11_fault 0 = .ok (.aload_n 0, 1) := by decide +kernel
theorem dX11_fault_1 : decode cX11_fault 1 = .ok (.getfield 19, 3) := by decide +kernel
theorem dX11_fault_4 : decode cX11_fault 4 = .ok (.aload_n 0, 1) := by decide +kernel
theorem dX11_fault_5 : decode cX11_fault 5 = .ok (.getfield 10, 3) := by decide +kernel
theorem dX11_fault_8 : decode cX11_fault 8 = .ok (.invokevirtual 71, 3) := by decide +kernel
theorem dX11_fault_11 : decode cX11_fault 11 = .ok (.ireturn, 1) := by decide +kernel
theorem kw_71 : (.fieldLink RX11 19 "NobodyChecks" "reader" "LNobodyChecks$Reader;" : Cond) ∈ gw_tbl := gw_in (by decide +kernel) (by decide +kernel)
theorem kw_72 : (.code yX7_readUntilFault cX7_readUntilFault 3 (some .int) : Cond) ∈ gw_tbl := gw_in (by decide +kernel) (by decide +kernel)
theorem kw_73 : (.methodLink RX11 71 yX7_readUntilFault : Cond) ∈ gw_tbl := gw_in (by decide +kernel) (by decide +kernel)
theorem kw_74 : (.instanceMethod yX7_readUntilFault : Cond) ∈ gw_tbl := gw_in (by decide +kernel) (by decide +kernel)
theorem kw_75 : (.selects RX7 yX7_readUntilFault yX7_readUntilFault : Cond) ∈ gw_tbl := gw_in (by decide +kernel) (by decide +kernel)

set_option maxHeartbeats 4000000 in
set_option maxRecDepth 100000 in
theorem x_fault (l : Launch) (D : va_G) (x0 : Nat) (pg : Nat) (rd : Nat) (aq : Nat) (py : Nat) (pl : Nat) (ch : Nat) (ro : Nat) (rw : Nat) (rc : Nat) (cd : Nat) (sz : Nat) : Met l yX11_fault (Cond.code yX11_fault cX11_fault 1 (some .int) :: gw_tbl) ({ frames := 2, cells := 0, slots := 0, locals := 42 }) (pc_M D [] [(x0, .inr (11, [.ref pg, .ref rd, .ref aq, .ref py, .ref pl, .ref ch, .ref ro, .int 0, .int 0])), (rd, .inr (7, [.ref rw, .ref rc, .int 0, .int 0, .int 0, .int 0, .int 0])), (pg, .inr (2, [.ref cd, .int 0]))] sz [.ref x0]) (va_Qi (fun (r : Int32) (u : Unit) => r = 0) (fun _ _ => True) (va_A [(x0, .inr (11, [.ref pg, .ref rd, .ref aq, .ref py, .ref pl, .ref ch, .ref ro, .int 0, .int 0])), (rd, .inr (7, [.ref rw, .ref rc, .int 0, .int 0, .int 0, .int 0, .int 0])), (pg, .inr (2, [.ref cd, .int 0]))] sz)) 0 0 (va_A [(x0, .inr (11, [.ref pg, .ref rd, .ref aq, .ref py, .ref pl, .ref ch, .ref ro, .int 0, .int 0])), (rd, .inr (7, [.ref rw, .ref rc, .int 0, .int 0, .int 0, .int 0, .int 0])), (pg, .inr (2, [.ref cd, .int 0]))] sz) := by
  refine Met.ofW (cc := cX11_fault) (maxL := 1) (ret := (some .int)) (by decide) rfl ?_
  intro p e s m args below meth c s₁ B hml hv
  obtain ⟨hargs, hsz, hP, hK, hD0⟩ := hv
  have hx := B.exec
  have hb := B.bytes
  have hr := B.returns
  have hts := atoms_spec (ws := Cond.code yX11_fault cX11_fault 1 (some .int) :: gw_tbl) B.pre
  have hg := fun (w : Cond) (h : w ∈ gw_tbl) => hts w (List.mem_cons_of_mem _ h)
  have hown : s.vm.findClass RX11 = some m.cls := findClass_of_methodNamed B.named
  have hlocks := B.notSynchronized
  subst hsz
  have hD := hD0.self (sz := s.heap.size)
  generalize hAe : va_A [(x0, .inr (11, [.ref pg, .ref rd, .ref aq, .ref py, .ref pl, .ref ch, .ref ro, .int 0, .int 0])), (rd, .inr (7, [.ref rw, .ref rc, .int 0, .int 0, .int 0, .int 0, .int 0])), (pg, .inr (2, [.ref cd, .int 0]))] s.heap.size = A at hD ⊢
  have hA : ∀ q : Nat, s.heap.size ≤ q → A q := fun q h => by rw [← hAe]; exact Or.inr h
  have hS : va_S A s.heap s.heap [] := va_S.rf
  have hP : va_P D vwCl [(x0, .inr (11, [.ref pg, .ref rd, .ref aq, .ref py, .ref pl, .ref ch, .ref ro, .int 0, .int 0])), (rd, .inr (7, [.ref rw, .ref rc, .int 0, .int 0, .int 0, .int 0, .int 0])), (pg, .inr (2, [.ref cd, .int 0]))] s.heap := hP
  have hl := lv_entry ([.ref x0]) (n := 1) (Nat.le_of_ble_eq_true rfl)
  rw [show entryFrame m args 1 = F0 m 0 (lg_sl ([.ref x0]) ++ List.replicate (1 - (lg_sl ([.ref x0])).length) Slot.unset).toArray [] from by rw [hargs]; exact lg_entry_eq ..]
  generalize (lg_sl ([.ref x0]) ++ List.replicate (1 - (lg_sl ([.ref x0])).length) Slot.unset).toArray = ls at hl ⊢
  have hl : lv_has ls 1 [(0, .ref x0)] := hl
  refine W_genQ (fun Q hQ => ?_)
  refine lv_aload_n hx hb dX11_fault_0 rfl (lv_at hl 0 rfl) ?_
  refine va_get (D := D) (ci := 11) (v := .ref rd) (C := RX11) (T := TX11) (N := 9) hx hb hg gwX11 hown hK hP 0 rfl rfl 1 (by decide) (hg _ kw_71) (fun _ h9 => h9) rfl dX11_fault_1 ?_
  refine lv_aload_n hx hb dX11_fault_4 rfl (lv_at hl 0 rfl) ?_
  refine va_get (D := D) (ci := 11) (v := .ref pg) (C := RX11) (T := TX11) (N := 9) hx hb hg gwX11 hown hK hP 0 rfl rfl 0 (by decide) (hg _ kw_36) (fun _ h9 => h9) rfl dX11_fault_5 ?_
  have hPc := hP.sub (ws' := [(rd, .inr (7, [.ref rw, .ref rc, .int 0, .int 0, .int 0, .int 0, .int 0])), (pg, .inr (2, [.ref cd, .int 0]))]) [1, 2] rfl
  have hKc := hK.sub (tys' := []) [] rfl
  have hDc := hD.sub (ws' := [(rd, .inr (7, [.ref rw, .ref rc, .int 0, .int 0, .int 0, .int 0, .int 0])), (pg, .inr (2, [.ref cd, .int 0]))]) [1, 2] (by decide) rfl
  have hFc := va_free (wc := [(rd, .inr (7, [.ref rw, .ref rc, .int 0, .int 0, .int 0, .int 0, .int 0])), (pg, .inr (2, [.ref cd, .int 0]))]) hD hS hA [1, 2] rfl
  refine va_calli (va_runV (As := [.ref pg]) (rest := []) ⟨hx, hb, hml, hown, hg⟩ (r_readUntilFault l D rd rw rc pg cd _) (cwV 1 hg (gw_V kw_73 kw_74 kw_75 kw_69 kw_72) rfl rfl rfl (by decide +kernel) ⟨Nat.le_of_ble_eq_true rfl, Nat.le_of_ble_eq_true rfl⟩) (pr_MV (q := (RX7, TX7, 7)) 7 0 hKc hPc hDc rfl rfl) rfl rfl hl.1 rfl (lv_room (Nat.le_of_ble_eq_true rfl)) dX11_fault_8 ⟨Nat.le_of_ble_eq_true rfl, Nat.le_of_ble_eq_true rfl⟩) hS (fun q _ h => hFc q h) hFc (fun r_8 u t H1 locs ht hvm h_8 hB hz1 hk1 hS => ?_)
  obtain ⟨hP1, hK1, hD1⟩ := hB
  rw [ht] at hP1
  have hK1 := va_K.moved hvm.symm hK1
  obtain ⟨hP, hD⟩ := va_join (wr := [(x0, .inr (11, [.ref pg, .ref rd, .ref aq, .ref py, .ref pl, .ref ch, .ref ro, .int 0, .int 0]))]) (w1 := [(rd, .inr (7, [.ref rw, .ref rc, .int 1, .int 0, .int 0, .int 0, .int 0])), (pg, .inr (2, [.ref cd, .int 0]))]) hP hD [1, 2] [0] rfl rfl (by decide) (by decide) hk1 hFc hP1 hD1
  have hK := hK.app hK1
  generalize H1 = H at hP hS ⊢
  have hP : va_P D vwCl [(x0, .inr (11, [.ref pg, .ref rd, .ref aq, .ref py, .ref pl, .ref ch, .ref ro, .int 0, .int 0])), (rd, .inr (7, [.ref rw, .ref rc, .int 1, .int 0, .int 0, .int 0, .int 0])), (pg, .inr (2, [.ref cd, .int 0]))] H := hP
  have hD : va_D A [(x0, .inr (11, [.ref pg, .ref rd, .ref aq, .ref py, .ref pl, .ref ch, .ref ro, .int 0, .int 0])), (rd, .inr (7, [.ref rw, .ref rc, .int 1, .int 0, .int 0, .int 0, .int 0])), (pg, .inr (2, [.ref cd, .int 0]))] := hD
  have hK : va_K D vwCl [] s := hK
  refine W.cs (cells' := 0) (slots' := 0) rfl rfl ?_
  obtain rfl : r_8 = (0 : Int32) := h_8
  subst hQ
  refine W.widen (k := 0) (n := 0) (Nat.le_of_ble_eq_true rfl) (Nat.le_of_ble_eq_true rfl) ?_
  exact W.iret (v := 0) hx hb hr (fun t ht hW => ⟨⟨0, (), rfl, rfl, trivial⟩, hS.F ht⟩) hS.2.2 dX11_fault_11

theorem dX7_isWhole_0 : decode cX7_isWhole 0 = .ok (.aload_n 0, 1) := by decide +kernel
theorem dX7_isWhole_1 : decode cX7_isWhole 1 = .ok (.getfield 42, 3) := by decide +kernel
theorem dX7_isWhole_4 : decode cX7_isWhole 4 = .ok (.ifCond .le 21, 3) := by decide +kernel
theorem dX7_isWhole_7 : decode cX7_isWhole 7 = .ok (.aload_n 0, 1) := by decide +kernel
theorem dX7_isWhole_8 : decode cX7_isWhole 8 = .ok (.getfield 45, 3) := by decide +kernel
theorem dX7_isWhole_11 : decode cX7_isWhole 11 = .ok (.ifCond .le 14, 3) := by decide +kernel
theorem dX7_isWhole_14 : decode cX7_isWhole 14 = .ok (.aload_n 0, 1) := by decide +kernel
theorem dX7_isWhole_15 : decode cX7_isWhole 15 = .ok (.invokevirtual 48, 3) := by decide +kernel
theorem dX7_isWhole_18 : decode cX7_isWhole 18 = .ok (.ifCond .eq 7, 3) := by decide +kernel
theorem dX7_isWhole_21 : decode cX7_isWhole 21 = .ok (.iconst 1, 1) := by decide +kernel
theorem dX7_isWhole_22 : decode cX7_isWhole 22 = .ok (.goto 4, 3) := by decide +kernel
theorem dX7_isWhole_25 : decode cX7_isWhole 25 = .ok (.iconst 0, 1) := by decide +kernel
theorem dX7_isWhole_26 : decode cX7_isWhole 26 = .ok (.ireturn, 1) := by decide +kernel

set_option maxHeartbeats 4000000 in
set_option maxRecDepth 100000 in
theorem r_isWhole (l : Launch) (D : va_G) (rd : Nat) (rw : Nat) (rc : Nat) : Met l yX7_isWhole (Cond.code yX7_isWhole cX7_isWhole 1 (some .boolean) :: gw_tbl) ({ frames := 0, cells := 0, slots := 0, locals := 0 }) (pc_S D [] [(rd, .inr (7, [.ref rw, .ref rc, .int 1, .int 0, .int 0, .int 0, .int 0]))] [.ref rd]) (vp_Si (fun r => r = 0)) 0 0 (fun _ => False) := by
  refine Met.ofW (cc := cX7_isWhole) (maxL := 1) (ret := (some .boolean)) (by decide) rfl ?_
  intro p e s m args below meth c s₁ B hml hv
  obtain ⟨hargs, hP, hK⟩ := hv
  have hx := B.exec
  have hb := B.bytes
  have hr := B.returns
  have hts := atoms_spec (ws := Cond.code yX7_isWhole cX7_isWhole 1 (some .boolean) :: gw_tbl) B.pre
  have hg := fun (w : Cond) (h : w ∈ gw_tbl) => hts w (List.mem_cons_of_mem _ h)
  have hown : s.vm.findClass RX7 = some m.cls := findClass_of_methodNamed B.named
  have hlocks := B.notSynchronized
  have hl := lv_entry ([.ref rd]) (n := 1) (Nat.le_of_ble_eq_true rfl)
  rw [show entryFrame m args 1 = F0 m 0 (lg_sl ([.ref rd]) ++ List.replicate (1 - (lg_sl ([.ref rd])).length) Slot.unset).toArray [] from by rw [hargs]; exact lg_entry_eq ..]
  generalize (lg_sl ([.ref rd]) ++ List.replicate (1 - (lg_sl ([.ref rd])).length) Slot.unset).toArray = ls at hl ⊢
  have hl : lv_has ls 1 [(0, .ref rd)] := hl
  refine W_genQ (fun Q hQ => ?_)
  refine lv_aload_n hx hb dX7_isWhole_0 rfl (lv_at hl 0 rfl) ?_
  refine va_get (D := D) (ci := 7) (v := .int 0) (C := RX7) (T := TX7) (N := 7) hx hb hg gwX7 hown hK hP 0 rfl rfl 3 (by decide) (hg _ kw_61) (fun _ h9 => h9) rfl dX7_isWhole_1 ?_
  refine lv_if_le (tgt := 25) hx hb dX7_isWhole_4 (by decide) (fun c_4 => ?_) (fun c_4 => absurd (by decide) c_4)
  refine lv_iconst (v := 0) hx hb dX7_isWhole_25 (by decide) ?_
  subst hQ
  exact W.zret (v := 0) hx hb hr (by decide) (fun t ht hW => ⟨0, rfl, rfl, ht⟩) (fun _ h => absurd h List.not_mem_nil) dX7_isWhole_26

theorem dX11_question_0 : decode cX11_question 0 = .ok (.aload_n 0, 1) := by decide +kernel
theorem dX11_question_1 : decode cX11_question 1 = .ok (.getfield 19, 3) := by decide +kernel
theorem dX11_question_4 : decode cX11_question 4 = .ok (.aload_n 0, 1) := by decide +kernel
theorem dX11_question_5 : decode cX11_question 5 = .ok (.getfield 10, 3) := by decide +kernel
theorem dX11_question_8 : decode cX11_question 8 = .ok (.invokevirtual 71, 3) := by decide +kernel
theorem dX11_question_11 : decode cX11_question 11 = .ok (.istore_n 1, 1) := by decide +kernel
theorem dX11_question_12 : decode cX11_question 12 = .ok (.iload_n 1, 1) := by decide +kernel
theorem dX11_question_13 : decode cX11_question 13 = .ok (.aload_n 0, 1) := by decide +kernel
theorem dX11_question_14 : decode cX11_question 14 = .ok (.getfield 10, 3) := by decide +kernel
theorem dX11_question_17 : decode cX11_question 17 = .ok (.getfield 63, 3) := by decide +kernel
theorem dX11_question_20 : decode cX11_question 20 = .ok (.if_icmp .lt 13, 3) := by decide +kernel
theorem dX11_question_23 : decode cX11_question 23 = .ok (.aload_n 0, 1) := by decide +kernel
theorem dX11_question_24 : decode cX11_question 24 = .ok (.getfield 19, 3) := by decide +kernel
theorem dX11_question_27 : decode cX11_question 27 = .ok (.invokevirtual 75, 3) := by decide +kernel
theorem dX11_question_30 : decode cX11_question 30 = .ok (.ifCond .ne 6, 3) := by decide +kernel
theorem dX11_question_33 : decode cX11_question 33 = .ok (.bipush (-103), 2) := by decide +kernel
theorem dX11_question_35 : decode cX11_question 35 = .ok (.ireturn, 1) := by decide +kernel
theorem dX11_question_36 : decode cX11_question 36 = .ok (.aload_n 0, 1) := by decide +kernel
theorem dX11_question_37 : decode cX11_question 37 = .ok (.getfield 26, 3) := by decide +kernel
theorem dX11_question_40 : decode cX11_question 40 = .ok (.aload_n 0, 1) := by decide +kernel
theorem dX11_question_41 : decode cX11_question 41 = .ok (.getfield 19, 3) := by decide +kernel
theorem dX11_question_44 : decode cX11_question 44 = .ok (.invokevirtual 79, 3) := by decide +kernel
theorem dX11_question_47 : decode cX11_question 47 = .ok (.aload_n 0, 1) := by decide +kernel
theorem dX11_question_48 : decode cX11_question 48 = .ok (.getfield 55, 3) := by decide +kernel
theorem dX11_question_51 : decode cX11_question 51 = .ok (.iconst 0, 1) := by decide +kernel
theorem dX11_question_52 : decode cX11_question 52 = .ok (.putfield 83, 3) := by decide +kernel
theorem dX11_question_55 : decode cX11_question 55 = .ok (.aload_n 0, 1) := by decide +kernel
theorem dX11_question_56 : decode cX11_question 56 = .ok (.getfield 10, 3) := by decide +kernel
theorem dX11_question_59 : decode cX11_question 59 = .ok (.iconst 0, 1) := by decide +kernel
theorem dX11_question_60 : decode cX11_question 60 = .ok (.putfield 63, 3) := by decide +kernel
theorem dX11_question_63 : decode cX11_question 63 = .ok (.aload_n 0, 1) := by decide +kernel
theorem dX11_question_64 : decode cX11_question 64 = .ok (.invokevirtual 84, 3) := by decide +kernel
theorem dX11_question_67 : decode cX11_question 67 = .ok (.aload_n 0, 1) := by decide +kernel
theorem dX11_question_68 : decode cX11_question 68 = .ok (.getfield 26, 3) := by decide +kernel
theorem dX11_question_71 : decode cX11_question 71 = .ok (.getfield 87, 3) := by decide +kernel
theorem dX11_question_74 : decode cX11_question 74 = .ok (.ireturn, 1) := by decide +kernel
theorem kw_76 : (.code yX7_isWhole cX7_isWhole 1 (some .boolean) : Cond) ∈ gw_tbl := gw_in (by decide +kernel) (by decide +kernel)
theorem kw_77 : (.methodLink RX11 75 yX7_isWhole : Cond) ∈ gw_tbl := gw_in (by decide +kernel) (by decide +kernel)
theorem kw_78 : (.instanceMethod yX7_isWhole : Cond) ∈ gw_tbl := gw_in (by decide +kernel) (by decide +kernel)
theorem kw_79 : (.selects RX7 yX7_isWhole yX7_isWhole : Cond) ∈ gw_tbl := gw_in (by decide +kernel) (by decide +kernel)

set_option maxHeartbeats 4000000 in
set_option maxRecDepth 100000 in
theorem x_question (l : Launch) (D : va_G) (x0 : Nat) (pg : Nat) (rd : Nat) (aq : Nat) (py : Nat) (pl : Nat) (ch : Nat) (ro : Nat) (rw : Nat) (rc : Nat) (cd : Nat) (sz : Nat) : Met l yX11_question (Cond.code yX11_question cX11_question 2 (some .int) :: gw_tbl) ({ frames := 2, cells := 0, slots := 0, locals := 42 }) (pc_M D [] [(x0, .inr (11, [.ref pg, .ref rd, .ref aq, .ref py, .ref pl, .ref ch, .ref ro, .int 0, .int 0])), (rd, .inr (7, [.ref rw, .ref rc, .int 0, .int 0, .int 0, .int 0, .int 0])), (pg, .inr (2, [.ref cd, .int 0]))] sz [.ref x0]) (va_Qi (fun (r : Int32) (u : Unit) => r = -103) (fun _ _ => True) (va_A [(x0, .inr (11, [.ref pg, .ref rd, .ref aq, .ref py, .ref pl, .ref ch, .ref ro, .int 0, .int 0])), (rd, .inr (7, [.ref rw, .ref rc, .int 0, .int 0, .int 0, .int 0, .int 0])), (pg, .inr (2, [.ref cd, .int 0]))] sz)) 0 0 (va_A [(x0, .inr (11, [.ref pg, .ref rd, .ref aq, .ref py, .ref pl, .ref ch, .ref ro, .int 0, .int 0])), (rd, .inr (7, [.ref rw, .ref rc, .int 0, .int 0, .int 0, .int 0, .int 0])), (pg, .inr (2, [.ref cd, .int 0]))] sz) := by
  refine Met.ofW (cc := cX11_question) (maxL := 2) (ret := (some .int)) (by decide) rfl ?_
  intro p e s m args below meth c s₁ B hml hv
  obtain ⟨hargs, hsz, hP, hK, hD0⟩ := hv
  have hx := B.exec
  have hb := B.bytes
  have hr := B.returns
  have hts := atoms_spec (ws := Cond.code yX11_question cX11_question 2 (some .int) :: gw_tbl) B.pre
  have hg := fun (w : Cond) (h : w ∈ gw_tbl) => hts w (List.mem_cons_of_mem _ h)
  have hown : s.vm.findClass RX11 = some m.cls := findClass_of_methodNamed B.named
  have hlocks := B.notSynchronized
  subst hsz
  have hD := hD0.self (sz := s.heap.size)
  generalize hAe : va_A [(x0, .inr (11, [.ref pg, .ref rd, .ref aq, .ref py, .ref pl, .ref ch, .ref ro, .int 0, .int 0])), (rd, .inr (7, [.ref rw, .ref rc, .int 0, .int 0, .int 0, .int 0, .int 0])), (pg, .inr (2, [.ref cd, .int 0]))] s.heap.size = A at hD ⊢
  have hA : ∀ q : Nat, s.heap.size ≤ q → A q := fun q h => by rw [← hAe]; exact Or.inr h
  have hS : va_S A s.heap s.heap [] := va_S.rf
  have hP : va_P D vwCl [(x0, .inr (11, [.ref pg, .ref rd, .ref aq, .ref py, .ref pl, .ref ch, .ref ro, .int 0, .int 0])), (rd, .inr (7, [.ref rw, .ref rc, .int 0, .int 0, .int 0, .int 0, .int 0])), (pg, .inr (2, [.ref cd, .int 0]))] s.heap := hP
  have hl := lv_entry ([.ref x0]) (n := 2) (Nat.le_of_ble_eq_true rfl)
  rw [show entryFrame m args 2 = F0 m 0 (lg_sl ([.ref x0]) ++ List.replicate (2 - (lg_sl ([.ref x0])).length) Slot.unset).toArray [] from by rw [hargs]; exact lg_entry_eq ..]
  generalize (lg_sl ([.ref x0]) ++ List.replicate (2 - (lg_sl ([.ref x0])).length) Slot.unset).toArray = ls at hl ⊢
  have hl : lv_has ls 2 [(0, .ref x0)] := hl
  refine W_genQ (fun Q hQ => ?_)
  refine lv_aload_n hx hb dX11_question_0 rfl (lv_at hl 0 rfl) ?_
  refine va_get (D := D) (ci := 11) (v := .ref rd) (C := RX11) (T := TX11) (N := 9) hx hb hg gwX11 hown hK hP 0 rfl rfl 1 (by decide) (hg _ kw_71) (fun _ h9 => h9) rfl dX11_question_1 ?_
  refine lv_aload_n hx hb dX11_question_4 rfl (lv_at hl 0 rfl) ?_
  refine va_get (D := D) (ci := 11) (v := .ref pg) (C := RX11) (T := TX11) (N := 9) hx hb hg gwX11 hown hK hP 0 rfl rfl 0 (by decide) (hg _ kw_36) (fun _ h9 => h9) rfl dX11_question_5 ?_
  have hPc := hP.sub (ws' := [(rd, .inr (7, [.ref rw, .ref rc, .int 0, .int 0, .int 0, .int 0, .int 0])), (pg, .inr (2, [.ref cd, .int 0]))]) [1, 2] rfl
  have hKc := hK.sub (tys' := []) [] rfl
  have hDc := hD.sub (ws' := [(rd, .inr (7, [.ref rw, .ref rc, .int 0, .int 0, .int 0, .int 0, .int 0])), (pg, .inr (2, [.ref cd, .int 0]))]) [1, 2] (by decide) rfl
  have hFc := va_free (wc := [(rd, .inr (7, [.ref rw, .ref rc, .int 0, .int 0, .int 0, .int 0, .int 0])), (pg, .inr (2, [.ref cd, .int 0]))]) hD hS hA [1, 2] rfl
  refine va_calli (va_runV (As := [.ref pg]) (rest := []) ⟨hx, hb, hml, hown, hg⟩ (r_readUntilFault l D rd rw rc pg cd _) (cwV 1 hg (gw_V kw_73 kw_74 kw_75 kw_69 kw_72) rfl rfl rfl (by decide +kernel) ⟨Nat.le_of_ble_eq_true rfl, Nat.le_of_ble_eq_true rfl⟩) (pr_MV (q := (RX7, TX7, 7)) 7 0 hKc hPc hDc rfl rfl) rfl rfl hl.1 rfl (lv_room (Nat.le_of_ble_eq_true rfl)) dX11_question_8 ⟨Nat.le_of_ble_eq_true rfl, Nat.le_of_ble_eq_true rfl⟩) hS (fun q _ h => hFc q h) hFc (fun r_8 u t H1 locs ht hvm h_8 hB hz1 hk1 hS => ?_)
  obtain ⟨hP1, hK1, hD1⟩ := hB
  rw [ht] at hP1
  have hK1 := va_K.moved hvm.symm hK1
  obtain ⟨hP, hD⟩ := va_join (wr := [(x0, .inr (11, [.ref pg, .ref rd, .ref aq, .ref py, .ref pl, .ref ch, .ref ro, .int 0, .int 0]))]) (w1 := [(rd, .inr (7, [.ref rw, .ref rc, .int 1, .int 0, .int 0, .int 0, .int 0])), (pg, .inr (2, [.ref cd, .int 0]))]) hP hD [1, 2] [0] rfl rfl (by decide) (by decide) hk1 hFc hP1 hD1
  have hK := hK.app hK1
  generalize H1 = H at hP hS ⊢
  have hP : va_P D vwCl [(x0, .inr (11, [.ref pg, .ref rd, .ref aq, .ref py, .ref pl, .ref ch, .ref ro, .int 0, .int 0])), (rd, .inr (7, [.ref rw, .ref rc, .int 1, .int 0, .int 0, .int 0, .int 0])), (pg, .inr (2, [.ref cd, .int 0]))] H := hP
  have hD : va_D A [(x0, .inr (11, [.ref pg, .ref rd, .ref aq, .ref py, .ref pl, .ref ch, .ref ro, .int 0, .int 0])), (rd, .inr (7, [.ref rw, .ref rc, .int 1, .int 0, .int 0, .int 0, .int 0])), (pg, .inr (2, [.ref cd, .int 0]))] := hD
  have hK : va_K D vwCl [] s := hK
  refine W.cs (cells' := 0) (slots' := 0) rfl rfl ?_
  obtain rfl : r_8 = (0 : Int32) := h_8
  refine lv_istore_n (lv' := [(1, .int 0), (0, .ref x0)]) hx hb dX11_question_11 rfl hl (by decide) rfl (fun ls hl => ?_)
  refine lv_iload_n hx hb dX11_question_12 rfl (lv_at hl 0 rfl) ?_
  refine lv_aload_n hx hb dX11_question_13 rfl (lv_at hl 1 rfl) ?_
  refine va_get (D := D) (ci := 11) (v := .ref pg) (C := RX11) (T := TX11) (N := 9) hx hb hg gwX11 hown hK hP 0 rfl rfl 0 (by decide) (hg _ kw_36) (fun _ h9 => h9) rfl dX11_question_14 ?_
  refine va_get (D := D) (ci := 2) (v := .int 0) (C := RX2) (T := TX2) (N := 2) hx hb hg gwX2 hown hK hP 2 rfl rfl 1 (by decide) (hg _ kw_37) (fun _ h9 => h9) rfl dX11_question_17 ?_
  refine lv_icmp_lt (tgt := 33) hx hb dX11_question_20 (by decide) (fun c_20 => absurd c_20 (by decide)) (fun c_20 => ?_)
  refine lv_aload_n hx hb dX11_question_23 rfl (lv_at hl 1 rfl) ?_
  refine va_get (D := D) (ci := 11) (v := .ref rd) (C := RX11) (T := TX11) (N := 9) hx hb hg gwX11 hown hK hP 0 rfl rfl 1 (by decide) (hg _ kw_71) (fun _ h9 => h9) rfl dX11_question_24 ?_
  have hPc := hP.sub (ws' := [(rd, .inr (7, [.ref rw, .ref rc, .int 1, .int 0, .int 0, .int 0, .int 0]))]) [1] rfl
  have hKc := hK.sub (tys' := []) [] rfl
  refine vp_callSi (W.runV (As := []) (rest := []) ⟨hx, hb, hml, hown, hg⟩ (r_isWhole l D rd rw rc) (cwV 0 hg (gw_V kw_77 kw_78 kw_79 kw_69 kw_76) rfl rfl rfl (by decide +kernel) ⟨Nat.le_of_ble_eq_true rfl, Nat.le_of_ble_eq_true rfl⟩) (pr_SV (q := (RX7, TX7, 7)) 7 0 hKc hPc rfl rfl) rfl rfl hl.1 rfl (lv_room (Nat.le_of_ble_eq_true rfl)) dX11_question_27 ⟨Nat.le_of_ble_eq_true rfl, Nat.le_of_ble_eq_true rfl⟩) (fun r_27 h_27 => ?_)
  obtain rfl : r_27 = (0 : Int32) := h_27
  refine lv_if_ne (tgt := 36) hx hb dX11_question_30 (by decide) (fun c_30 => absurd c_30 (by decide)) (fun c_30 => ?_)
  refine lv_bipush (v := (-103)) hx hb dX11_question_33 (by decide) ?_
  subst hQ
  refine W.widen (k := 0) (n := 0) (Nat.le_of_ble_eq_true rfl) (Nat.le_of_ble_eq_true rfl) ?_
  exact W.iret (v := (-103)) hx hb hr (fun t ht hW => ⟨⟨(-103), (), rfl, rfl, trivial⟩, hS.F ht⟩) hS.2.2 dX11_question_35

theorem dX2_codeAt_0 : decode cX2_codeAt 0 = .ok (.lload_n 0, 1) := by decide +kernel
theorem dX2_codeAt_1 : decode cX2_codeAt 1 = .ok (.bipush 8, 2) := by decide +kernel
theorem dX2_codeAt_3 : decode cX2_codeAt 3 = .ok (.iload_n 2, 1) := by decide +kernel
theorem dX2_codeAt_4 : decode cX2_codeAt 4 = .ok (.imul, 1) := by decide +kernel
theorem dX2_codeAt_5 : decode cX2_codeAt 5 = .ok (.lushr, 1) := by decide +kernel
theorem dX2_codeAt_6 : decode cX2_codeAt 6 = .ok (.l2i, 1) := by decide +kernel
theorem dX2_codeAt_7 : decode cX2_codeAt 7 = .ok (.sipush 255, 3) := by decide +kernel
theorem dX2_codeAt_10 : decode cX2_codeAt 10 = .ok (.iand, 1) := by decide +kernel
theorem dX2_codeAt_11 : decode cX2_codeAt 11 = .ok (.ireturn, 1) := by decide +kernel

set_option maxHeartbeats 4000000 in
set_option maxRecDepth 100000 in
theorem g_codeAt (l : Launch) (n0 : Nat) (hn0 : n0 < 2 ^ 64) (k : Nat) (hk : k < 8) : Met l yX2_codeAt (Cond.code yX2_codeAt cX2_codeAt 3 (some .int) :: gw_tbl) ({ frames := 0, cells := 0, slots := 0, locals := 0 }) (pc_0 [.long (lN n0), .int (nI k)]) (vp_Si (fun r => r = by8 n0 k)) 0 0 (fun _ => False) := by
  refine Met.ofW (cc := cX2_codeAt) (maxL := 3) (ret := (some .int)) (by decide) rfl ?_
  intro p e s m args below meth c s₁ B hml hv
  obtain ⟨hargs, -⟩ := hv
  have hx := B.exec
  have hb := B.bytes
  have hr := B.returns
  have hts := atoms_spec (ws := Cond.code yX2_codeAt cX2_codeAt 3 (some .int) :: gw_tbl) B.pre
  have hg := fun (w : Cond) (h : w ∈ gw_tbl) => hts w (List.mem_cons_of_mem _ h)
  have hown : s.vm.findClass RX2 = some m.cls := findClass_of_methodNamed B.named
  have hlocks := B.notSynchronized
  have hl := lv_entry ([.long (lN n0), .int (nI k)]) (n := 3) (Nat.le_of_ble_eq_true rfl)
  rw [show entryFrame m args 3 = F0 m 0 (lg_sl ([.long (lN n0), .int (nI k)]) ++ List.replicate (3 - (lg_sl ([.long (lN n0), .int (nI k)])).length) Slot.unset).toArray [] from by rw [hargs]; exact lg_entry_eq ..]
  generalize (lg_sl ([.long (lN n0), .int (nI k)]) ++ List.replicate (3 - (lg_sl ([.long (lN n0), .int (nI k)])).length) Slot.unset).toArray = ls at hl ⊢
  have hl : lv_has ls 3 [(0, .long (lN n0)), (2, .int (nI k))] := hl
  refine W_genQ (fun Q hQ => ?_)
  refine lv_lload_n hx hb dX2_codeAt_0 rfl (lv_at hl 0 rfl) ?_
  refine lv_bipush (v := 8) hx hb dX2_codeAt_1 (by decide) ?_
  refine lv_iload_n hx hb dX2_codeAt_3 rfl (lv_at hl 1 rfl) ?_
  refine lv_imul hx hb dX2_codeAt_4 ?_
  refine lv_topi (fun z_4 e_4 => ?_)
  refine lv_lushr hx hb dX2_codeAt_5 rfl ?_
  refine lv_topl (fun z_5 e_5 => ?_)
  refine lv_l2i hx hb dX2_codeAt_6 rfl ?_
  refine lv_topi (fun z_6 e_6 => ?_)
  refine lv_sipush (v := 255) hx hb dX2_codeAt_7 (by decide) ?_
  refine lv_iand hx hb dX2_codeAt_10 ?_
  refine lv_topi (fun z_10 e_10 => ?_)
  subst hQ
  exact W.iret (v := z_10) hx hb hr (fun t ht hW => ⟨z_10, rfl, (ca_eq hn0 hk e_4 e_5 e_6 e_10), ht⟩) (fun _ h => absurd h List.not_mem_nil) dX2_codeAt_11

theorem dX2_toldBy_0 : decode cX2_toldBy 0 = .ok (.iconst 0, 1) := by decide +kernel
theorem dX2_toldBy_1 : decode cX2_toldBy 1 = .ok (.istore_n 2, 1) := by decide +kernel
theorem dX2_toldBy_2 : decode cX2_toldBy 2 = .ok (.iconst 0, 1) := by decide +kernel
theorem dX2_toldBy_3 : decode cX2_toldBy 3 = .ok (.istore_n 3, 1) := by decide +kernel
theorem dX2_toldBy_4 : decode cX2_toldBy 4 = .ok (.iconst 0, 1) := by decide +kernel
theorem dX2_toldBy_5 : decode cX2_toldBy 5 = .ok (.istore 4, 2) := by decide +kernel
theorem dX2_toldBy_7 : decode cX2_toldBy 7 = .ok (.iload 4, 2) := by decide +kernel
theorem dX2_toldBy_9 : decode cX2_toldBy 9 = .ok (.bipush 8, 2) := by decide +kernel
theorem dX2_toldBy_11 : decode cX2_toldBy 11 = .ok (.if_icmp .ge 48, 3) := by decide +kernel
theorem dX2_toldBy_14 : decode cX2_toldBy 14 = .ok (.lload_n 0, 1) := by decide +kernel
theorem dX2_toldBy_15 : decode cX2_toldBy 15 = .ok (.iload 4, 2) := by decide +kernel
theorem dX2_toldBy_17 : decode cX2_toldBy 17 = .ok (.invokestatic 15, 3) := by decide +kernel
theorem dX2_toldBy_20 : decode cX2_toldBy 20 = .ok (.istore 5, 2) := by decide +kernel
theorem dX2_toldBy_22 : decode cX2_toldBy 22 = .ok (.iload 5, 2) := by decide +kernel
theorem dX2_toldBy_24 : decode cX2_toldBy 24 = .ok (.bipush 126, 2) := by decide +kernel
theorem dX2_toldBy_26 : decode cX2_toldBy 26 = .ok (.if_icmp .gt 12, 3) := by decide +kernel
theorem dX2_toldBy_29 : decode cX2_toldBy 29 = .ok (.iload_n 3, 1) := by decide +kernel
theorem dX2_toldBy_30 : decode cX2_toldBy 30 = .ok (.ifCond .eq 10, 3) := by decide +kernel
theorem dX2_toldBy_33 : decode cX2_toldBy 33 = .ok (.iload 5, 2) := by decide +kernel
theorem dX2_toldBy_35 : decode cX2_toldBy 35 = .ok (.ifCond .eq 5, 3) := by decide +kernel
theorem dX2_toldBy_38 : decode cX2_toldBy 38 = .ok (.iconst (-1), 1) := by decide +kernel
theorem dX2_toldBy_39 : decode cX2_toldBy 39 = .ok (.ireturn, 1) := by decide +kernel
theorem dX2_toldBy_40 : decode cX2_toldBy 40 = .ok (.iload 5, 2) := by decide +kernel
theorem dX2_toldBy_42 : decode cX2_toldBy 42 = .ok (.ifCond .ne 8, 3) := by decide +kernel
theorem dX2_toldBy_45 : decode cX2_toldBy 45 = .ok (.iconst 1, 1) := by decide +kernel
theorem dX2_toldBy_46 : decode cX2_toldBy 46 = .ok (.istore_n 3, 1) := by decide +kernel
theorem dX2_toldBy_47 : decode cX2_toldBy 47 = .ok (.goto 6, 3) := by decide +kernel
theorem dX2_toldBy_50 : decode cX2_toldBy 50 = .ok (.iinc 2 1, 3) := by decide +kernel
theorem dX2_toldBy_53 : decode cX2_toldBy 53 = .ok (.iinc 4 1, 3) := by decide +kernel
theorem dX2_toldBy_56 : decode cX2_toldBy 56 = .ok (.goto (-49), 3) := by decide +kernel
theorem dX2_toldBy_59 : decode cX2_toldBy 59 = .ok (.iload_n 2, 1) := by decide +kernel
theorem dX2_toldBy_60 : decode cX2_toldBy 60 = .ok (.ireturn, 1) := by decide +kernel
theorem kw_80 : (.code yX2_codeAt cX2_codeAt 3 (some .int) : Cond) ∈ gw_tbl := gw_in (by decide +kernel) (by decide +kernel)
theorem kw_81 : (.methodLink RX2 15 yX2_codeAt : Cond) ∈ gw_tbl := gw_in (by decide +kernel) (by decide +kernel)
theorem kw_82 : (.static yX2_codeAt : Cond) ∈ gw_tbl := gw_in (by decide +kernel) (by decide +kernel)
theorem kw_83 : (.initialized RX2 : Cond) ∈ gw_tbl := gw_in (by decide +kernel) (by decide +kernel)

set_option maxHeartbeats 4000000 in
set_option maxRecDepth 100000 in
theorem g_toldBy (l : Launch) (n0 : Nat) (hn0 : n0 < 2 ^ 64) : Met l yX2_toldBy (Cond.code yX2_toldBy cX2_toldBy 6 (some .int) :: gw_tbl) ({ frames := 1, cells := 0, slots := 0, locals := 22 }) (pc_0 [.long (lN n0)]) (vp_Si (fun r => r = sp_told n0)) 0 0 (fun _ => False) := by
  refine Met.ofW (cc := cX2_toldBy) (maxL := 6) (ret := (some .int)) (by decide) rfl ?_
  intro p e s m args below meth c s₁ B hml hv
  obtain ⟨hargs, -⟩ := hv
  have hx := B.exec
  have hb := B.bytes
  have hr := B.returns
  have hts := atoms_spec (ws := Cond.code yX2_toldBy cX2_toldBy 6 (some .int) :: gw_tbl) B.pre
  have hg := fun (w : Cond) (h : w ∈ gw_tbl) => hts w (List.mem_cons_of_mem _ h)
  have hown : s.vm.findClass RX2 = some m.cls := findClass_of_methodNamed B.named
  have hlocks := B.notSynchronized
  have hl := lv_entry ([.long (lN n0)]) (n := 6) (Nat.le_of_ble_eq_true rfl)
  rw [show entryFrame m args 6 = F0 m 0 (lg_sl ([.long (lN n0)]) ++ List.replicate (6 - (lg_sl ([.long (lN n0)])).length) Slot.unset).toArray [] from by rw [hargs]; exact lg_entry_eq ..]
  generalize (lg_sl ([.long (lN n0)]) ++ List.replicate (6 - (lg_sl ([.long (lN n0)])).length) Slot.unset).toArray = ls at hl ⊢
  have hl : lv_has ls 6 [(0, .long (lN n0))] := hl
  refine W_genQ (fun Q hQ => ?_)
  refine lv_iconst (v := 0) hx hb dX2_toldBy_0 (by decide) ?_
  refine lv_istore_n (lv' := [(2, .int 0), (0, .long (lN n0))]) hx hb dX2_toldBy_1 rfl hl (by decide) rfl (fun ls hl => ?_)
  refine lv_iconst (v := 0) hx hb dX2_toldBy_2 (by decide) ?_
  refine lv_istore_n (lv' := [(3, .int 0), (2, .int 0), (0, .long (lN n0))]) hx hb dX2_toldBy_3 rfl hl (by decide) rfl (fun ls hl => ?_)
  refine lv_iconst (v := 0) hx hb dX2_toldBy_4 (by decide) ?_
  refine lv_istore (lv' := [(4, .int 0), (3, .int 0), (2, .int 0), (0, .long (lN n0))]) hx hb dX2_toldBy_5 hl (by decide) rfl (fun ls hl => ?_)
  have LOOP7 : ∀ (n : Nat) (k : Nat) (told : Int32) (en : Int32), k ≤ 8 → 9 ≤ k + n → tb_go n0 (8 - k) k told en = sp_told n0 → ∀ (ls : Array Slot), lv_has ls 6 [(4, .int (nI k)), (3, .int en), (2, .int told), (0, .long (lN n0))] → W p l e ({ frames := 1, cells := 0, slots := 0, locals := 22 } : Room) s m args below meth c s.heap [] 0 0 Q (F0 m 7 ls []) := by
    intro n
    induction n with
    | zero =>
      intro k told en hk hn hI ls hl
      exact absurd hn (by omega)
    | succ n ih7 =>
      intro k told en hk hn hI ls hl
      refine lv_iload hx hb dX2_toldBy_7 (lv_at hl 0 rfl) ?_
      refine lv_bipush (v := 8) hx hb dX2_toldBy_9 (by decide) ?_
      refine lv_icmp_ge (tgt := 59) hx hb dX2_toldBy_11 (by decide) (fun c_11 => ?_) (fun c_11 => ?_)
      · refine lv_iload_n hx hb dX2_toldBy_59 rfl (lv_at hl 2 rfl) ?_
        rw [tb_e (show ¬ k < 8 from fun q => absurd c_11 (nI_ge (b := 8) q (by decide)))] at hI
        subst hQ
        exact W.iret (v := told) hx hb hr (fun t ht hW => ⟨told, rfl, hI, ht⟩) (fun _ h => absurd h List.not_mem_nil) dX2_toldBy_60
      · have hk8 : k < 8 := by
          rcases Nat.lt_or_ge k 8 with q | q
          · exact q
          · exact absurd (show (8 : Int32) ≤ nI k from nI_le (a := 8) q (by omega)) c_11
        refine lv_lload_n hx hb dX2_toldBy_14 rfl (lv_at hl 3 rfl) ?_
        refine lv_iload hx hb dX2_toldBy_15 (lv_at hl 0 rfl) ?_
        refine vp_callSi (W.runS (As := [.long (lN n0), .int (nI k)]) (rest := []) ⟨hx, hb, hml, hown, hg⟩ (g_codeAt l n0 hn0 k hk8) (va_cwS 2 hg (gw_S kw_81 kw_82 kw_83 kw_80) rfl rfl rfl (by decide +kernel) ⟨Nat.le_of_ble_eq_true rfl, Nat.le_of_ble_eq_true rfl⟩) pr_0 rfl rfl hl.1 rfl (lv_room (Nat.le_of_ble_eq_true rfl)) dX2_toldBy_17 ⟨Nat.le_of_ble_eq_true rfl, Nat.le_of_ble_eq_true rfl⟩) (fun r_17 h_17 => ?_)
        try dsimp only at h_17
        refine lv_istore (lv' := [(5, .int r_17), (4, .int (nI k)), (3, .int en), (2, .int told), (0, .long (lN n0))]) hx hb dX2_toldBy_20 hl (by decide) rfl (fun ls hl => ?_)
        refine lv_iload hx hb dX2_toldBy_22 (lv_at hl 0 rfl) ?_
        refine lv_bipush (v := 126) hx hb dX2_toldBy_24 (by decide) ?_
        refine lv_icmp_gt (tgt := 38) hx hb dX2_toldBy_26 (by decide) (fun c_26 => ?_) (fun c_26 => ?_)
        · refine lv_iconst (v := (-1)) hx hb dX2_toldBy_38 (by decide) ?_
          rw [tb_x hk8] at hI
          rw [if_pos (Or.inl (show 126 < by8 n0 k from h_17 ▸ c_26))] at hI
          subst hQ
          exact W.iret (v := (-1)) hx hb hr (fun t ht hW => ⟨(-1), rfl, hI, ht⟩) (fun _ h => absurd h List.not_mem_nil) dX2_toldBy_39
        · refine lv_iload_n hx hb dX2_toldBy_29 rfl (lv_at hl 2 rfl) ?_
          refine lv_if_eq (tgt := 40) hx hb dX2_toldBy_30 (by decide) (fun c_30 => ?_) (fun c_30 => ?_)
          · refine lv_iload hx hb dX2_toldBy_40 (lv_at hl 0 rfl) ?_
            refine lv_if_ne (tgt := 50) hx hb dX2_toldBy_42 (by decide) (fun c_42 => ?_) (fun c_42 => ?_)
            · obtain ⟨z_50, e_50⟩ : ∃ y : Int32, y = told + 1 := ⟨_, rfl⟩
              refine lv_iinc (v := z_50) (lv' := [(2, .int z_50), (5, .int r_17), (4, .int (nI k)), (3, .int en), (0, .long (lN n0))]) hx hb dX2_toldBy_50 hl (k := 3) rfl (by rw [e_50]; rfl) (by decide) rfl (fun ls hl => ?_)
              obtain ⟨z_53, e_53⟩ : ∃ y : Int32, y = (nI k) + 1 := ⟨_, rfl⟩
              refine lv_iinc (v := z_53) (lv' := [(4, .int z_53), (2, .int z_50), (5, .int r_17), (3, .int en), (0, .long (lN n0))]) hx hb dX2_toldBy_53 hl (k := 2) rfl (by rw [e_53]; rfl) (by decide) rfl (fun ls hl => ?_)
              refine lv_goto (tgt := 7) hx hb dX2_toldBy_56 (by decide) ?_
              obtain rfl : z_53 = nI (k + 1) := e_53.trans (nI_1 k)
              rw [tb_x hk8] at hI
              have hnr : ¬ (126 < by8 n0 k ∨ (¬ en = 0 ∧ ¬ by8 n0 k = 0)) := by
                rintro (q | q); · exact c_26 (h_17 ▸ q)
                · exact q.1 c_30
              rw [if_neg hnr] at hI
              rw [if_neg (show ¬ by8 n0 k = 0 from h_17 ▸ c_42)] at hI
              exact ih7 (k + 1) z_50 en (by omega) (by omega) (by rw [e_50]; exact hI) ls (lv_sub hl [0, 3, 1, 4] rfl)
            · refine lv_iconst (v := 1) hx hb dX2_toldBy_45 (by decide) ?_
              refine lv_istore_n (lv' := [(3, .int 1), (5, .int r_17), (4, .int (nI k)), (2, .int told), (0, .long (lN n0))]) hx hb dX2_toldBy_46 rfl hl (by decide) rfl (fun ls hl => ?_)
              refine lv_goto (tgt := 53) hx hb dX2_toldBy_47 (by decide) ?_
              obtain ⟨z_53, e_53⟩ : ∃ y : Int32, y = (nI k) + 1 := ⟨_, rfl⟩
              refine lv_iinc (v := z_53) (lv' := [(4, .int z_53), (3, .int 1), (5, .int r_17), (2, .int told), (0, .long (lN n0))]) hx hb dX2_toldBy_53 hl (k := 2) rfl (by rw [e_53]; rfl) (by decide) rfl (fun ls hl => ?_)
              refine lv_goto (tgt := 7) hx hb dX2_toldBy_56 (by decide) ?_
              obtain rfl : z_53 = nI (k + 1) := e_53.trans (nI_1 k)
              rw [tb_x hk8] at hI
              have hnr : ¬ (126 < by8 n0 k ∨ (¬ en = 0 ∧ ¬ by8 n0 k = 0)) := by
                rintro (q | q); · exact c_26 (h_17 ▸ q)
                · exact q.1 c_30
              rw [if_neg hnr] at hI
              rw [if_pos (show by8 n0 k = 0 from h_17 ▸ c_42)] at hI
              exact ih7 (k + 1) told 1 (by omega) (by omega) hI ls (lv_sub hl [0, 1, 3, 4] rfl)
          · refine lv_iload hx hb dX2_toldBy_33 (lv_at hl 0 rfl) ?_
            refine lv_if_eq (tgt := 40) hx hb dX2_toldBy_35 (by decide) (fun c_35 => ?_) (fun c_35 => ?_)
            · refine lv_iload hx hb dX2_toldBy_40 (lv_at hl 0 rfl) ?_
              refine lv_if_ne (tgt := 50) hx hb dX2_toldBy_42 (by decide) (fun c_42 => ?_) (fun c_42 => ?_)
              · obtain ⟨z_50, e_50⟩ : ∃ y : Int32, y = told + 1 := ⟨_, rfl⟩
                refine lv_iinc (v := z_50) (lv' := [(2, .int z_50), (5, .int r_17), (4, .int (nI k)), (3, .int en), (0, .long (lN n0))]) hx hb dX2_toldBy_50 hl (k := 3) rfl (by rw [e_50]; rfl) (by decide) rfl (fun ls hl => ?_)
                obtain ⟨z_53, e_53⟩ : ∃ y : Int32, y = (nI k) + 1 := ⟨_, rfl⟩
                refine lv_iinc (v := z_53) (lv' := [(4, .int z_53), (2, .int z_50), (5, .int r_17), (3, .int en), (0, .long (lN n0))]) hx hb dX2_toldBy_53 hl (k := 2) rfl (by rw [e_53]; rfl) (by decide) rfl (fun ls hl => ?_)
                refine lv_goto (tgt := 7) hx hb dX2_toldBy_56 (by decide) ?_
                obtain rfl : z_53 = nI (k + 1) := e_53.trans (nI_1 k)
                rw [tb_x hk8] at hI
                have hnr : ¬ (126 < by8 n0 k ∨ (¬ en = 0 ∧ ¬ by8 n0 k = 0)) := by
                  rintro (q | q); · exact c_26 (h_17 ▸ q)
                  · exact q.2 (h_17 ▸ c_35)
                rw [if_neg hnr] at hI
                rw [if_neg (show ¬ by8 n0 k = 0 from h_17 ▸ c_42)] at hI
                exact ih7 (k + 1) z_50 en (by omega) (by omega) (by rw [e_50]; exact hI) ls (lv_sub hl [0, 3, 1, 4] rfl)
              · refine lv_iconst (v := 1) hx hb dX2_toldBy_45 (by decide) ?_
                refine lv_istore_n (lv' := [(3, .int 1), (5, .int r_17), (4, .int (nI k)), (2, .int told), (0, .long (lN n0))]) hx hb dX2_toldBy_46 rfl hl (by decide) rfl (fun ls hl => ?_)
                refine lv_goto (tgt := 53) hx hb dX2_toldBy_47 (by decide) ?_
                obtain ⟨z_53, e_53⟩ : ∃ y : Int32, y = (nI k) + 1 := ⟨_, rfl⟩
                refine lv_iinc (v := z_53) (lv' := [(4, .int z_53), (3, .int 1), (5, .int r_17), (2, .int told), (0, .long (lN n0))]) hx hb dX2_toldBy_53 hl (k := 2) rfl (by rw [e_53]; rfl) (by decide) rfl (fun ls hl => ?_)
                refine lv_goto (tgt := 7) hx hb dX2_toldBy_56 (by decide) ?_
                obtain rfl : z_53 = nI (k + 1) := e_53.trans (nI_1 k)
                rw [tb_x hk8] at hI
                have hnr : ¬ (126 < by8 n0 k ∨ (¬ en = 0 ∧ ¬ by8 n0 k = 0)) := by
                  rintro (q | q); · exact c_26 (h_17 ▸ q)
                  · exact q.2 (h_17 ▸ c_35)
                rw [if_neg hnr] at hI
                rw [if_pos (show by8 n0 k = 0 from h_17 ▸ c_42)] at hI
                exact ih7 (k + 1) told 1 (by omega) (by omega) hI ls (lv_sub hl [0, 1, 3, 4] rfl)
            · refine lv_iconst (v := (-1)) hx hb dX2_toldBy_38 (by decide) ?_
              rw [tb_x hk8] at hI
              rw [if_pos (Or.inr ⟨c_30, show ¬ by8 n0 k = 0 from h_17 ▸ c_35⟩)] at hI
              subst hQ
              exact W.iret (v := (-1)) hx hb hr (fun t ht hW => ⟨(-1), rfl, hI, ht⟩) (fun _ h => absurd h List.not_mem_nil) dX2_toldBy_39
  exact LOOP7 9 0 0 0 (by omega) (by omega) rfl ls (lv_sub hl [0, 1, 2, 3] rfl)

theorem dX2_append_0 : decode cX2_append 0 = .ok (.iconst 0, 1) := by decide +kernel
theorem dX2_append_1 : decode cX2_append 1 = .ok (.istore 4, 2) := by decide +kernel
theorem dX2_append_3 : decode cX2_append 3 = .ok (.iload 4, 2) := by decide +kernel
theorem dX2_append_5 : decode cX2_append 5 = .ok (.iload_n 3, 1) := by decide +kernel
theorem dX2_append_6 : decode cX2_append 6 = .ok (.if_icmp .ge 43, 3) := by decide +kernel
theorem dX2_append_9 : decode cX2_append 9 = .ok (.aload_n 0, 1) := by decide +kernel
theorem dX2_append_10 : decode cX2_append 10 = .ok (.getfield 19, 3) := by decide +kernel
theorem dX2_append_13 : decode cX2_append 13 = .ok (.bipush 90, 2) := by decide +kernel
theorem dX2_append_15 : decode cX2_append 15 = .ok (.if_icmp .ge 34, 3) := by decide +kernel
theorem dX2_append_18 : decode cX2_append 18 = .ok (.aload_n 0, 1) := by decide +kernel
theorem dX2_append_19 : decode cX2_append 19 = .ok (.getfield 9, 3) := by decide +kernel
theorem dX2_append_22 : decode cX2_append 22 = .ok (.aload_n 0, 1) := by decide +kernel
theorem dX2_append_23 : decode cX2_append 23 = .ok (.getfield 19, 3) := by decide +kernel
theorem dX2_append_26 : decode cX2_append 26 = .ok (.lload_n 1, 1) := by decide +kernel
theorem dX2_append_27 : decode cX2_append 27 = .ok (.iload 4, 2) := by decide +kernel
theorem dX2_append_29 : decode cX2_append 29 = .ok (.invokestatic 15, 3) := by decide +kernel
theorem dX2_append_32 : decode cX2_append 32 = .ok (.iastore, 1) := by decide +kernel
theorem dX2_append_33 : decode cX2_append 33 = .ok (.aload_n 0, 1) := by decide +kernel
theorem dX2_append_34 : decode cX2_append 34 = .ok (.dup, 1) := by decide +kernel
theorem dX2_append_35 : decode cX2_append 35 = .ok (.getfield 19, 3) := by decide +kernel
theorem dX2_append_38 : decode cX2_append 38 = .ok (.iconst 1, 1) := by decide +kernel
theorem dX2_append_39 : decode cX2_append 39 = .ok (.iadd, 1) := by decide +kernel
theorem dX2_append_40 : decode cX2_append 40 = .ok (.putfield 19, 3) := by decide +kernel
theorem dX2_append_43 : decode cX2_append 43 = .ok (.iinc 4 1, 3) := by decide +kernel
theorem dX2_append_46 : decode cX2_append 46 = .ok (.goto (-43), 3) := by decide +kernel
theorem dX2_append_49 : decode cX2_append 49 = .ok (.return_, 1) := by decide +kernel
theorem kw_84 : (.fieldLink RX2 19 "NobodyChecks$Page" "size" "I" : Cond) ∈ gw_tbl := gw_in (by decide +kernel) (by decide +kernel)
theorem kw_85 : (.fieldLink RX2 9 "NobodyChecks$Page" "codes" "[I" : Cond) ∈ gw_tbl := gw_in (by decide +kernel) (by decide +kernel)

set_option maxHeartbeats 4000000 in
set_option maxRecDepth 100000 in
theorem g_append (l : Launch) (D : va_G) (pg : Nat) (cd : Nat) (cI : ClassId) (cf : Nat → Int32) (n0 : Nat) (hn0 : n0 < 2 ^ 64) (tt : Nat) (ht8 : tt ≤ 8) (sz : Nat) : Met l yX2_append (Cond.code yX2_append cX2_append 5 none :: gw_tbl) ({ frames := 1, cells := 0, slots := 0, locals := 22 }) (pc_M D [(cI, .int)] [(pg, .inr (2, [.ref cd, .int 0])), (cd, .inl (cI, 90, .inl cf))] sz [.ref pg, .long (lN n0), .int (nI tt)]) (va_Qv (fun (u : Unit) => True) (fun _ t => va_P D vwCl [(pg, .inr (2, [.ref cd, .int (nI tt)]))] t.heap ∧ va_K D vwCl [] t ∧ va_D (va_A [(pg, .inr (2, [.ref cd, .int 0])), (cd, .inl (cI, 90, .inl cf))] sz) [(pg, .inr (2, [.ref cd, .int (nI tt)]))]) (va_A [(pg, .inr (2, [.ref cd, .int 0])), (cd, .inl (cI, 90, .inl cf))] sz)) 0 0 (va_A [(pg, .inr (2, [.ref cd, .int 0])), (cd, .inl (cI, 90, .inl cf))] sz) := by
  refine Met.ofW (cc := cX2_append) (maxL := 5) (ret := none) (by decide) rfl ?_
  intro p e s m args below meth c s₁ B hml hv
  obtain ⟨hargs, hsz, hP, hK, hD0⟩ := hv
  have hx := B.exec
  have hb := B.bytes
  have hr := B.returns
  have hts := atoms_spec (ws := Cond.code yX2_append cX2_append 5 none :: gw_tbl) B.pre
  have hg := fun (w : Cond) (h : w ∈ gw_tbl) => hts w (List.mem_cons_of_mem _ h)
  have hown : s.vm.findClass RX2 = some m.cls := findClass_of_methodNamed B.named
  have hlocks := B.notSynchronized
  subst hsz
  have hD := hD0.self (sz := s.heap.size)
  generalize hAe : va_A [(pg, .inr (2, [.ref cd, .int 0])), (cd, .inl (cI, 90, .inl cf))] s.heap.size = A at hD ⊢
  have hA : ∀ q : Nat, s.heap.size ≤ q → A q := fun q h => by rw [← hAe]; exact Or.inr h
  have hS : va_S A s.heap s.heap [] := va_S.rf
  have hP : va_P D vwCl [(pg, .inr (2, [.ref cd, .int 0])), (cd, .inl (cI, 90, .inl cf))] s.heap := hP
  have hl := lv_entry ([.ref pg, .long (lN n0), .int (nI tt)]) (n := 5) (Nat.le_of_ble_eq_true rfl)
  rw [show entryFrame m args 5 = F0 m 0 (lg_sl ([.ref pg, .long (lN n0), .int (nI tt)]) ++ List.replicate (5 - (lg_sl ([.ref pg, .long (lN n0), .int (nI tt)])).length) Slot.unset).toArray [] from by rw [hargs]; exact lg_entry_eq ..]
  generalize (lg_sl ([.ref pg, .long (lN n0), .int (nI tt)]) ++ List.replicate (5 - (lg_sl ([.ref pg, .long (lN n0), .int (nI tt)])).length) Slot.unset).toArray = ls at hl ⊢
  have hl : lv_has ls 5 [(0, .ref pg), (1, .long (lN n0)), (3, .int (nI tt))] := hl
  refine W_genQ (fun Q hQ => ?_)
  refine lv_iconst (v := 0) hx hb dX2_append_0 (by decide) ?_
  refine lv_istore (lv' := [(4, .int 0), (0, .ref pg), (1, .long (lN n0)), (3, .int (nI tt))]) hx hb dX2_append_1 hl (by decide) rfl (fun ls hl => ?_)
  have LOOP3 : ∀ (n : Nat) (j : Nat) (cf : Nat → Int32), j ≤ tt → tt + 1 ≤ j + n → ∀ (H : Heap) (locs : List Loc) (ls : Array Slot), va_P D vwCl [(pg, .inr (2, [.ref cd, .int (nI j)])), (cd, .inl (cI, 90, .inl cf))] H → va_D A [(pg, .inr (2, [.ref cd, .int (nI j)])), (cd, .inl (cI, 90, .inl cf))] → va_S A s.heap H locs → lv_has ls 5 [(4, .int (nI j)), (0, .ref pg), (1, .long (lN n0)), (3, .int (nI tt))] → W p l e ({ frames := 1, cells := 0, slots := 0, locals := 22 } : Room) s m args below meth c H locs 0 0 Q (F0 m 3 ls []) := by
    intro n
    induction n with
    | zero =>
      intro j cf hj hn H locs ls hP hD hS hl
      exact absurd hn (by omega)
    | succ n ih3 =>
      intro j cf hj hn H locs ls hP hD hS hl
      refine lv_iload hx hb dX2_append_3 (lv_at hl 0 rfl) ?_
      refine lv_iload_n hx hb dX2_append_5 rfl (lv_at hl 3 rfl) ?_
      refine lv_icmp_ge (tgt := 49) hx hb dX2_append_6 (by decide) (fun c_6 => ?_) (fun c_6 => ?_)
      · have hjt : tt = j := by
          rcases Nat.lt_or_ge j tt with q | q
          · exact absurd c_6 (nI_ge q (by omega))
          · omega
        subst hjt
        subst hQ
        refine W.widen (k := 0) (n := 0) (Nat.le_of_ble_eq_true rfl) (Nat.le_of_ble_eq_true rfl) ?_
        have hP9 := hP.sub (ws' := [(pg, .inr (2, [.ref cd, .int (nI tt)]))]) [0] rfl
        have hD9 := hD.sub (ws' := [(pg, .inr (2, [.ref cd, .int (nI tt)]))]) [0] (by decide) rfl
        have hK9 := hK.sub (tys' := []) [] rfl
        exact W.vret hx hb hr (fun t ht hW => ⟨⟨(), rfl, trivial, ⟨by rw [ht]; exact hP9, va_K.moved hW.alike hK9, hD9⟩⟩, hS.F ht⟩) hS.2.2 dX2_append_49
      · have hjt : j < tt := by
          rcases Nat.lt_or_ge j tt with q | q
          · exact q
          · exact absurd (nI_le q (by omega)) c_6
        refine lv_aload_n hx hb dX2_append_9 rfl (lv_at hl 1 rfl) ?_
        refine va_get (D := D) (ci := 2) (v := .int (nI j)) (C := RX2) (T := TX2) (N := 2) hx hb hg gwX2 hown hK hP 0 rfl rfl 1 (by decide) (hg _ kw_84) (fun _ h9 => h9) rfl dX2_append_10 ?_
        refine lv_bipush (v := 90) hx hb dX2_append_13 (by decide) ?_
        refine lv_icmp_ge (tgt := 49) hx hb dX2_append_15 (by decide) (fun c_15 => absurd c_15 (nI_ge (b := 90) (show j < 90 by omega) (by decide))) (fun c_15 => ?_)
        refine lv_aload_n hx hb dX2_append_18 rfl (lv_at hl 1 rfl) ?_
        refine va_get (D := D) (ci := 2) (v := .ref cd) (C := RX2) (T := TX2) (N := 2) hx hb hg gwX2 hown hK hP 0 rfl rfl 0 (by decide) (hg _ kw_85) (fun _ h9 => h9) rfl dX2_append_19 ?_
        refine lv_aload_n hx hb dX2_append_22 rfl (lv_at hl 1 rfl) ?_
        refine va_get (D := D) (ci := 2) (v := .int (nI j)) (C := RX2) (T := TX2) (N := 2) hx hb hg gwX2 hown hK hP 0 rfl rfl 1 (by decide) (hg _ kw_84) (fun _ h9 => h9) rfl dX2_append_23 ?_
        refine lv_lload_n hx hb dX2_append_26 rfl (lv_at hl 2 rfl) ?_
        refine lv_iload hx hb dX2_append_27 (lv_at hl 0 rfl) ?_
        refine vp_callSi (W.runS (As := [.long (lN n0), .int (nI j)]) (rest := [.int (nI j), .ref cd]) ⟨hx, hb, hml, hown, hg⟩ (g_codeAt l n0 hn0 j (by omega)) (va_cwS 2 hg (gw_S kw_81 kw_82 kw_83 kw_80) rfl rfl rfl (by decide +kernel) ⟨Nat.le_of_ble_eq_true rfl, Nat.le_of_ble_eq_true rfl⟩) pr_0 rfl rfl hl.1 rfl (lv_room (Nat.le_of_ble_eq_true rfl)) dX2_append_29 ⟨Nat.le_of_ble_eq_true rfl, Nat.le_of_ble_eq_true rfl⟩) (fun r_29 h_29 => ?_)
        try dsimp only at h_29
        refine va_iast hx hb hK hP hD hS 1 0 rfl rfl (vp_in_nI (show j < 90 by omega) (by decide)) dX2_append_32 (fun H locs hP hD hS => ?_)
        generalize (upd cf (nI j).toNatClampNeg r_29) = f_32 at hP hD
        have hP : va_P D vwCl [(pg, .inr (2, [.ref cd, .int (nI j)])), (cd, .inl (cI, 90, .inl f_32))] H := hP
        have hD : va_D A [(pg, .inr (2, [.ref cd, .int (nI j)])), (cd, .inl (cI, 90, .inl f_32))] := hD
        refine lv_aload_n hx hb dX2_append_33 rfl (lv_at hl 1 rfl) ?_
        refine lv_dup hx hb dX2_append_34 rfl ?_
        refine va_get (D := D) (ci := 2) (v := .int (nI j)) (C := RX2) (T := TX2) (N := 2) hx hb hg gwX2 hown hK hP 0 rfl rfl 1 (by decide) (hg _ kw_84) (fun _ h9 => h9) rfl dX2_append_35 ?_
        refine lv_iconst (v := 1) hx hb dX2_append_38 (by decide) ?_
        refine lv_iadd hx hb dX2_append_39 ?_
        refine lv_topi (fun z_39 e_39 => ?_)
        refine va_put (D := D) (ci := 2) (v := .int z_39) (ty := .int) (C := RX2) (T := TX2) (N := 2) hx hb hg gwX2 tyX2 tyX2_ok nmX2 hown hK hP hD hS 0 rfl rfl 1 (by decide) (hg _ kw_84) (fun _ h9 => h9) rfl (by decide +kernel) rfl rfl (Nat.le_of_ble_eq_true rfl) dX2_append_40 (fun H locs hP hD hS => ?_)
        have hP : va_P D vwCl [(pg, .inr (2, [.ref cd, .int z_39])), (cd, .inl (cI, 90, .inl f_32))] H := hP
        have hD : va_D A [(pg, .inr (2, [.ref cd, .int z_39])), (cd, .inl (cI, 90, .inl f_32))] := hD
        obtain ⟨z_43, e_43⟩ : ∃ y : Int32, y = (nI j) + 1 := ⟨_, rfl⟩
        refine lv_iinc (v := z_43) (lv' := [(4, .int z_43), (0, .ref pg), (1, .long (lN n0)), (3, .int (nI tt))]) hx hb dX2_append_43 hl (k := 0) rfl (by rw [e_43]; rfl) (by decide) rfl (fun ls hl => ?_)
        refine lv_goto (tgt := 3) hx hb dX2_append_46 (by decide) ?_
        obtain rfl : z_43 = nI (j + 1) := e_43.trans (nI_1 j)
        obtain rfl : z_39 = nI (j + 1) := e_39.trans (nI_1 j)
        exact ih3 (j + 1) f_32 (by omega) (by omega) _ _ ls hP hD hS (lv_sub hl [0, 1, 2, 3] rfl)
  exact LOOP3 (tt + 1) 0 cf (by omega) (by omega) _ _ ls hP hD hS (lv_sub hl [0, 1, 2, 3] rfl)

theorem dX11_letters_0 : decode cX11_letters 0 = .ok (.lload_n 1, 1) := by decide +kernel
theorem dX11_letters_1 : decode cX11_letters 1 = .ok (.invokestatic 59, 3) := by decide +kernel
theorem dX11_letters_4 : decode cX11_letters 4 = .ok (.istore_n 3, 1) := by decide +kernel
theorem dX11_letters_5 : decode cX11_letters 5 = .ok (.iload_n 3, 1) := by decide +kernel
theorem dX11_letters_6 : decode cX11_letters 6 = .ok (.iconst (-1), 1) := by decide +kernel
theorem dX11_letters_7 : decode cX11_letters 7 = .ok (.if_icmp .ne 6, 3) := by decide +kernel
theorem dX11_letters_10 : decode cX11_letters 10 = .ok (.bipush (-102), 2) := by decide +kernel
theorem dX11_letters_12 : decode cX11_letters 12 = .ok (.ireturn, 1) := by decide +kernel
theorem dX11_letters_13 : decode cX11_letters 13 = .ok (.aload_n 0, 1) := by decide +kernel
theorem dX11_letters_14 : decode cX11_letters 14 = .ok (.getfield 10, 3) := by decide +kernel
theorem dX11_letters_17 : decode cX11_letters 17 = .ok (.getfield 63, 3) := by decide +kernel
theorem dX11_letters_20 : decode cX11_letters 20 = .ok (.iload_n 3, 1) := by decide +kernel
theorem dX11_letters_21 : decode cX11_letters 21 = .ok (.iadd, 1) := by decide +kernel
theorem dX11_letters_22 : decode cX11_letters 22 = .ok (.bipush 90, 2) := by decide +kernel
theorem dX11_letters_24 : decode cX11_letters 24 = .ok (.if_icmp .le 6, 3) := by decide +kernel
theorem dX11_letters_27 : decode cX11_letters 27 = .ok (.bipush (-104), 2) := by decide +kernel
theorem dX11_letters_29 : decode cX11_letters 29 = .ok (.ireturn, 1) := by decide +kernel
theorem dX11_letters_30 : decode cX11_letters 30 = .ok (.aload_n 0, 1) := by decide +kernel
theorem dX11_letters_31 : decode cX11_letters 31 = .ok (.getfield 10, 3) := by decide +kernel
theorem dX11_letters_34 : decode cX11_letters 34 = .ok (.lload_n 1, 1) := by decide +kernel
theorem dX11_letters_35 : decode cX11_letters 35 = .ok (.iload_n 3, 1) := by decide +kernel
theorem dX11_letters_36 : decode cX11_letters 36 = .ok (.invokevirtual 67, 3) := by decide +kernel
theorem dX11_letters_39 : decode cX11_letters 39 = .ok (.aload_n 0, 1) := by decide +kernel
theorem dX11_letters_40 : decode cX11_letters 40 = .ok (.getfield 10, 3) := by decide +kernel
theorem dX11_letters_43 : decode cX11_letters 43 = .ok (.getfield 63, 3) := by decide +kernel
theorem dX11_letters_46 : decode cX11_letters 46 = .ok (.ireturn, 1) := by decide +kernel
theorem kw_86 : (.code yX2_toldBy cX2_toldBy 6 (some .int) : Cond) ∈ gw_tbl := gw_in (by decide +kernel) (by decide +kernel)
theorem kw_87 : (.methodLink RX11 59 yX2_toldBy : Cond) ∈ gw_tbl := gw_in (by decide +kernel) (by decide +kernel)
theorem kw_88 : (.static yX2_toldBy : Cond) ∈ gw_tbl := gw_in (by decide +kernel) (by decide +kernel)
theorem kw_89 : (.code yX2_append cX2_append 5 none : Cond) ∈ gw_tbl := gw_in (by decide +kernel) (by decide +kernel)
theorem kw_90 : (.methodLink RX11 67 yX2_append : Cond) ∈ gw_tbl := gw_in (by decide +kernel) (by decide +kernel)
theorem kw_91 : (.instanceMethod yX2_append : Cond) ∈ gw_tbl := gw_in (by decide +kernel) (by decide +kernel)
theorem kw_92 : (.selects RX2 yX2_append yX2_append : Cond) ∈ gw_tbl := gw_in (by decide +kernel) (by decide +kernel)

set_option maxHeartbeats 4000000 in
set_option maxRecDepth 100000 in
theorem x_letters (l : Launch) (D : va_G) (x0 : Nat) (pg : Nat) (rd : Nat) (aq : Nat) (py : Nat) (pl : Nat) (ch : Nat) (ro : Nat) (cd : Nat) (cI : ClassId) (cf : Nat → Int32) (n0 : Nat) (hn0 : n0 < 2 ^ 64) (sz : Nat) : Met l yX11_letters (Cond.code yX11_letters cX11_letters 4 (some .int) :: gw_tbl) ({ frames := 2, cells := 0, slots := 0, locals := 47 }) (pc_M D [(cI, .int)] [(x0, .inr (11, [.ref pg, .ref rd, .ref aq, .ref py, .ref pl, .ref ch, .ref ro, .int 0, .int 0])), (pg, .inr (2, [.ref cd, .int 0])), (cd, .inl (cI, 90, .inl cf))] sz [.ref x0, .long (lN n0)]) (va_Qi (fun (r : Int32) (u : Unit) => r = sp_let n0) (fun _ _ => True) (va_A [(x0, .inr (11, [.ref pg, .ref rd, .ref aq, .ref py, .ref pl, .ref ch, .ref ro, .int 0, .int 0])), (pg, .inr (2, [.ref cd, .int 0])), (cd, .inl (cI, 90, .inl cf))] sz)) 0 0 (va_A [(x0, .inr (11, [.ref pg, .ref rd, .ref aq, .ref py, .ref pl, .ref ch, .ref ro, .int 0, .int 0])), (pg, .inr (2, [.ref cd, .int 0])), (cd, .inl (cI, 90, .inl cf))] sz) := by
  refine Met.ofW (cc := cX11_letters) (maxL := 4) (ret := (some .int)) (by decide) rfl ?_
  intro p e s m args below meth c s₁ B hml hv
  obtain ⟨hargs, hsz, hP, hK, hD0⟩ := hv
  have hx := B.exec
  have hb := B.bytes
  have hr := B.returns
  have hts := atoms_spec (ws := Cond.code yX11_letters cX11_letters 4 (some .int) :: gw_tbl) B.pre
  have hg := fun (w : Cond) (h : w ∈ gw_tbl) => hts w (List.mem_cons_of_mem _ h)
  have hown : s.vm.findClass RX11 = some m.cls := findClass_of_methodNamed B.named
  have hlocks := B.notSynchronized
  subst hsz
  have hD := hD0.self (sz := s.heap.size)
  generalize hAe : va_A [(x0, .inr (11, [.ref pg, .ref rd, .ref aq, .ref py, .ref pl, .ref ch, .ref ro, .int 0, .int 0])), (pg, .inr (2, [.ref cd, .int 0])), (cd, .inl (cI, 90, .inl cf))] s.heap.size = A at hD ⊢
  have hA : ∀ q : Nat, s.heap.size ≤ q → A q := fun q h => by rw [← hAe]; exact Or.inr h
  have hS : va_S A s.heap s.heap [] := va_S.rf
  have hP : va_P D vwCl [(x0, .inr (11, [.ref pg, .ref rd, .ref aq, .ref py, .ref pl, .ref ch, .ref ro, .int 0, .int 0])), (pg, .inr (2, [.ref cd, .int 0])), (cd, .inl (cI, 90, .inl cf))] s.heap := hP
  have hl := lv_entry ([.ref x0, .long (lN n0)]) (n := 4) (Nat.le_of_ble_eq_true rfl)
  rw [show entryFrame m args 4 = F0 m 0 (lg_sl ([.ref x0, .long (lN n0)]) ++ List.replicate (4 - (lg_sl ([.ref x0, .long (lN n0)])).length) Slot.unset).toArray [] from by rw [hargs]; exact lg_entry_eq ..]
  generalize (lg_sl ([.ref x0, .long (lN n0)]) ++ List.replicate (4 - (lg_sl ([.ref x0, .long (lN n0)])).length) Slot.unset).toArray = ls at hl ⊢
  have hl : lv_has ls 4 [(0, .ref x0), (1, .long (lN n0))] := hl
  refine W_genQ (fun Q hQ => ?_)
  refine lv_lload_n hx hb dX11_letters_0 rfl (lv_at hl 1 rfl) ?_
  refine vp_callSi (W.runS (As := [.long (lN n0)]) (rest := []) ⟨hx, hb, hml, hown, hg⟩ (g_toldBy l n0 hn0) (va_cwS 1 hg (gw_S kw_87 kw_88 kw_83 kw_86) rfl rfl rfl (by decide +kernel) ⟨Nat.le_of_ble_eq_true rfl, Nat.le_of_ble_eq_true rfl⟩) pr_0 rfl rfl hl.1 rfl (lv_room (Nat.le_of_ble_eq_true rfl)) dX11_letters_1 ⟨Nat.le_of_ble_eq_true rfl, Nat.le_of_ble_eq_true rfl⟩) (fun r_1 h_1 => ?_)
  try dsimp only at h_1
  refine lv_istore_n (lv' := [(3, .int r_1), (0, .ref x0), (1, .long (lN n0))]) hx hb dX11_letters_4 rfl hl (by decide) rfl (fun ls hl => ?_)
  refine lv_iload_n hx hb dX11_letters_5 rfl (lv_at hl 0 rfl) ?_
  refine lv_iconst (v := (-1)) hx hb dX11_letters_6 (by decide) ?_
  refine lv_icmp_ne (tgt := 13) hx hb dX11_letters_7 (by decide) (fun c_7 => ?_) (fun c_7 => ?_)
  · rw [h_1] at c_7
    obtain ⟨tt, ht8, et, el⟩ := sp_rng c_7
    obtain rfl : r_1 = nI tt := h_1.trans et
    refine lv_aload_n hx hb dX11_letters_13 rfl (lv_at hl 1 rfl) ?_
    refine va_get (D := D) (ci := 11) (v := .ref pg) (C := RX11) (T := TX11) (N := 9) hx hb hg gwX11 hown hK hP 0 rfl rfl 0 (by decide) (hg _ kw_36) (fun _ h9 => h9) rfl dX11_letters_14 ?_
    refine va_get (D := D) (ci := 2) (v := .int 0) (C := RX2) (T := TX2) (N := 2) hx hb hg gwX2 hown hK hP 1 rfl rfl 1 (by decide) (hg _ kw_37) (fun _ h9 => h9) rfl dX11_letters_17 ?_
    refine lv_iload_n hx hb dX11_letters_20 rfl (lv_at hl 0 rfl) ?_
    refine lv_iadd hx hb dX11_letters_21 ?_
    refine lv_topi (fun z_21 e_21 => ?_)
    refine lv_bipush (v := 90) hx hb dX11_letters_22 (by decide) ?_
    refine lv_icmp_le (tgt := 30) hx hb dX11_letters_24 (by decide) (fun c_24 => ?_) (fun c_24 => absurd (le90 ht8 e_21) c_24)
    refine lv_aload_n hx hb dX11_letters_30 rfl (lv_at hl 1 rfl) ?_
    refine va_get (D := D) (ci := 11) (v := .ref pg) (C := RX11) (T := TX11) (N := 9) hx hb hg gwX11 hown hK hP 0 rfl rfl 0 (by decide) (hg _ kw_36) (fun _ h9 => h9) rfl dX11_letters_31 ?_
    refine lv_lload_n hx hb dX11_letters_34 rfl (lv_at hl 2 rfl) ?_
    refine lv_iload_n hx hb dX11_letters_35 rfl (lv_at hl 0 rfl) ?_
    have hPc := hP.sub (ws' := [(pg, .inr (2, [.ref cd, .int 0])), (cd, .inl (cI, 90, .inl cf))]) [1, 2] rfl
    have hKc := hK.sub (tys' := [(cI, .int)]) [0] rfl
    have hDc := hD.sub (ws' := [(pg, .inr (2, [.ref cd, .int 0])), (cd, .inl (cI, 90, .inl cf))]) [1, 2] (by decide) rfl
    have hFc := va_free (wc := [(pg, .inr (2, [.ref cd, .int 0])), (cd, .inl (cI, 90, .inl cf))]) hD hS hA [1, 2] rfl
    refine va_callv (va_runV (As := [.long (lN n0), .int (nI tt)]) (rest := []) ⟨hx, hb, hml, hown, hg⟩ (g_append l D pg cd cI cf n0 hn0 tt ht8 _) (cwV 2 hg (gw_V kw_90 kw_91 kw_92 kw_83 kw_89) rfl rfl rfl (by decide +kernel) ⟨Nat.le_of_ble_eq_true rfl, Nat.le_of_ble_eq_true rfl⟩) (pr_MV (q := (RX2, TX2, 2)) 2 0 hKc hPc hDc rfl rfl) rfl rfl hl.1 rfl (lv_room (Nat.le_of_ble_eq_true rfl)) dX11_letters_36 ⟨Nat.le_of_ble_eq_true rfl, Nat.le_of_ble_eq_true rfl⟩) hS (fun q _ h => hFc q h) hFc (fun u t H1 locs ht hvm h_36 hB hz1 hk1 hS => ?_)
    obtain ⟨hP1, hK1, hD1⟩ := hB
    rw [ht] at hP1
    have hK1 := va_K.moved hvm.symm hK1
    obtain ⟨hP, hD⟩ := va_join (wr := [(x0, .inr (11, [.ref pg, .ref rd, .ref aq, .ref py, .ref pl, .ref ch, .ref ro, .int 0, .int 0]))]) (w1 := [(pg, .inr (2, [.ref cd, .int (nI tt)]))]) hP hD [1, 2] [0] rfl rfl (by decide) (by decide) hk1 hFc hP1 hD1
    have hK := hK.app hK1
    generalize H1 = H at hP hS ⊢
    have hP : va_P D vwCl [(x0, .inr (11, [.ref pg, .ref rd, .ref aq, .ref py, .ref pl, .ref ch, .ref ro, .int 0, .int 0])), (pg, .inr (2, [.ref cd, .int (nI tt)]))] H := hP
    have hD : va_D A [(x0, .inr (11, [.ref pg, .ref rd, .ref aq, .ref py, .ref pl, .ref ch, .ref ro, .int 0, .int 0])), (pg, .inr (2, [.ref cd, .int (nI tt)]))] := hD
    have hK : va_K D vwCl [(cI, .int)] s := hK
    refine W.cs (cells' := 0) (slots' := 0) rfl rfl ?_
    try dsimp only at h_36
    refine lv_aload_n hx hb dX11_letters_39 rfl (lv_at hl 1 rfl) ?_
    refine va_get (D := D) (ci := 11) (v := .ref pg) (C := RX11) (T := TX11) (N := 9) hx hb hg gwX11 hown hK hP 0 rfl rfl 0 (by decide) (hg _ kw_36) (fun _ h9 => h9) rfl dX11_letters_40 ?_
    refine va_get (D := D) (ci := 2) (v := .int (nI tt)) (C := RX2) (T := TX2) (N := 2) hx hb hg gwX2 hown hK hP 1 rfl rfl 1 (by decide) (hg _ kw_37) (fun _ h9 => h9) rfl dX11_letters_43 ?_
    subst hQ
    refine W.widen (k := 0) (n := 0) (Nat.le_of_ble_eq_true rfl) (Nat.le_of_ble_eq_true rfl) ?_
    exact W.iret (v := (nI tt)) hx hb hr (fun t ht hW => ⟨⟨(nI tt), (), rfl, el, trivial⟩, hS.F ht⟩) hS.2.2 dX11_letters_46
  · refine lv_bipush (v := (-102)) hx hb dX11_letters_10 (by decide) ?_
    subst hQ
    refine W.widen (k := 0) (n := 0) (Nat.le_of_ble_eq_true rfl) (Nat.le_of_ble_eq_true rfl) ?_
    exact W.iret (v := (-102)) hx hb hr (fun t ht hW => ⟨⟨(-102), (), rfl, (sp_bad h_1 c_7), trivial⟩, hS.F ht⟩) hS.2.2 dX11_letters_12
end
section
theorem dX3_init_0 : decode cX3_init 0 = .ok (.aload_n 0, 1) := by decide +kernel
theorem dX3_init_1 : decode cX3_init 1 = .ok (.invokespecial 3, 3) := by decide +kernel
theorem dX3_init_4 : decode cX3_init 4 = .ok (.aload_n 0, 1) := by decide +kernel
theorem dX3_init_5 : decode cX3_init 5 = .ok (.iconst 4, 1) := by decide +kernel
theorem dX3_init_6 : decode cX3_init 6 = .ok (.newarray .int, 2) := by decide +kernel
theorem dX3_init_8 : decode cX3_init 8 = .ok (.putfield 9, 3) := by decide +kernel
theorem dX3_init_11 : decode cX3_init 11 = .ok (.return_, 1) := by decide +kernel
theorem kw_93 : (.methodLink RX3 3 objectInit : Cond) ∈ gw_tbl := gw_in (by decide +kernel) (by decide +kernel)
theorem kw_94 : (.instanceMethod objectInit : Cond) ∈ gw_tbl := gw_in (by decide +kernel) (by decide +kernel)
theorem kw_95 : (.code objectInit ⟨#[0xb1]⟩ 1 none : Cond) ∈ gw_tbl := gw_in (by decide +kernel) (by decide +kernel)
theorem kw_96 : (.arrayClass .int : Cond) ∈ gw_tbl := gw_in (by decide +kernel) (by decide +kernel)
theorem kw_97 : (.fieldLink RX3 9 "NobodyChecks$Pay" "numbers" "[I" : Cond) ∈ gw_tbl := gw_in (by decide +kernel) (by decide +kernel)

set_option maxHeartbeats 4000000 in
set_option maxRecDepth 100000 in
theorem i_X3_3 (l : Launch) (D : va_G) (h0 : Nat) (sz : Nat) : Met l yX3_init (Cond.code yX3_init cX3_init 1 none :: gw_tbl) ({ frames := 1, cells := 1, slots := 4, locals := 12 }) (pc_C D [] [(h0, .inr (3, [.null, .null, .int 0]))] sz [.ref h0]) (va_Qv (fun (u : Unit) => True) (fun _ t => ∃ (nq : Nat), ∃ (cQ : ClassId), va_P D vwCl [(h0, .inr (3, [.ref nq, .null, .int 0])), (nq, .inl (cQ, 4, .inl (fun _ => 0)))] t.heap ∧ va_K D vwCl [(cQ, .int)] t ∧ va_D (va_A [(h0, .inr (3, [.null, .null, .int 0]))] sz) [(h0, .inr (3, [.ref nq, .null, .int 0])), (nq, .inl (cQ, 4, .inl (fun _ => 0)))]) (va_A [(h0, .inr (3, [.null, .null, .int 0]))] sz)) 1 4 (va_A [(h0, .inr (3, [.null, .null, .int 0]))] sz) := by
  refine Met.ofW (cc := cX3_init) (maxL := 1) (ret := none) (by decide) rfl ?_
  intro p e s m args below meth c s₁ B hml hv
  obtain ⟨hargs, hsz, hP, hK, hD0, hN⟩ := hv
  have hx := B.exec
  have hb := B.bytes
  have hr := B.returns
  have hts := atoms_spec (ws := Cond.code yX3_init cX3_init 1 none :: gw_tbl) B.pre
  have hg := fun (w : Cond) (h : w ∈ gw_tbl) => hts w (List.mem_cons_of_mem _ h)
  have hown : s.vm.findClass RX3 = some m.cls := findClass_of_methodNamed B.named
  have hlocks := B.notSynchronized
  have hin : meth.name = "<init>" := (name_of_methodNamed B.named B.method).1
  subst hsz
  have hD := hD0.self (sz := s.heap.size)
  generalize hAe : va_A [(h0, .inr (3, [.null, .null, .int 0]))] s.heap.size = A at hD ⊢
  have hA : ∀ q : Nat, s.heap.size ≤ q → A q := fun q h => by rw [← hAe]; exact Or.inr h
  have hS : va_S A s.heap s.heap [] := va_S.rf
  have hP : va_P D vwCl [(h0, .inr (3, [.null, .null, .int 0]))] s.heap := hP
  have hl := lv_entry ([.ref h0]) (n := 1) (Nat.le_of_ble_eq_true rfl)
  rw [show entryFrame m args 1 = F0 m 0 (lg_sl ([.ref h0]) ++ List.replicate (1 - (lg_sl ([.ref h0])).length) Slot.unset).toArray [] from by rw [hargs]; exact lg_entry_eq ..]
  generalize (lg_sl ([.ref h0]) ++ List.replicate (1 - (lg_sl ([.ref h0])).length) Slot.unset).toArray = ls at hl ⊢
  have hl : lv_has ls 1 [(0, .ref h0)] := hl
  refine W_genQ (fun Q hQ => ?_)
  refine lv_aload_n hx hb dX3_init_0 rfl (lv_at hl 0 rfl) ?_
  refine W.objInit hx hb hown (hg _ kw_93) (hg _ kw_94) (hg _ kw_95) rfl (by rw [hml]; exact hl.1) rfl dX3_init_1 (Nat.le_of_ble_eq_true rfl) (Nat.le_of_ble_eq_true rfl) ?_
  refine W.eq (g2 := F0 m 4 ls []) rfl ?_
  refine lv_aload_n hx hb dX3_init_4 rfl (lv_at hl 0 rfl) ?_
  refine lv_iconst (v := 4) hx hb dX3_init_5 (by decide) ?_
  refine va_newa (atype := .int) (ty := .int) (N' := 4) (a0 := (4, .inl (fun _ => 0))) hx hb (hg _ kw_96) rfl hK hP hD hS hA (fun _ => rfl) (by decide) (by decide) (by decide) (Nat.le_of_ble_eq_true rfl) (Nat.le_of_ble_eq_true rfl) dX3_init_6 (fun q_6 cA_6 H hK hP hD hS => ?_)
  have hP : va_P D vwCl [(h0, .inr (3, [.null, .null, .int 0])), (q_6, .inl (cA_6, 4, .inl (fun _ => 0)))] H := hP
  have hD : va_D A [(h0, .inr (3, [.null, .null, .int 0])), (q_6, .inl (cA_6, 4, .inl (fun _ => 0)))] := hD
  have hK : va_K D vwCl [(cA_6, .int)] s := hK
  refine W.cs (cells' := 1) (slots' := 4) rfl rfl ?_
  refine va_putF (D := D) (ci := 3) (v := .ref q_6) (ty := .array .int) (C := RX3) (T := TX3) (N := 3) hx hb hg gwX3 tyX3 tyX3_ok nmX3 hown hK hP hD hS 0 rfl rfl 0 (by decide) (hg _ kw_97) (fun _ h9 => h9) rfl hin rfl (by decide +kernel) rfl rfl (Nat.le_of_ble_eq_true rfl) dX3_init_8 (fun H locs hP hD hS => ?_)
  have hP : va_P D vwCl [(h0, .inr (3, [.ref q_6, .null, .int 0])), (q_6, .inl (cA_6, 4, .inl (fun _ => 0)))] H := hP
  have hD : va_D A [(h0, .inr (3, [.ref q_6, .null, .int 0])), (q_6, .inl (cA_6, 4, .inl (fun _ => 0)))] := hD
  subst hQ
  refine W.widen (k := 1) (n := 4) (Nat.le_of_ble_eq_true rfl) (Nat.le_of_ble_eq_true rfl) ?_
  have hP9 := hP.sub (ws' := [(h0, .inr (3, [.ref q_6, .null, .int 0])), (q_6, .inl (cA_6, 4, .inl (fun _ => 0)))]) [0, 1] rfl
  have hD9 := hD.sub (ws' := [(h0, .inr (3, [.ref q_6, .null, .int 0])), (q_6, .inl (cA_6, 4, .inl (fun _ => 0)))]) [0, 1] (by decide) rfl
  have hK9 := hK.sub (tys' := [(cA_6, .int)]) [0] rfl
  exact W.vret hx hb hr (fun t ht hW => ⟨⟨(), rfl, trivial, ⟨q_6, cA_6, by rw [ht]; exact hP9, va_K.moved hW.alike hK9, hD9⟩⟩, hS.F ht⟩) hS.2.2 dX3_init_11

set_option maxHeartbeats 4000000 in
set_option maxRecDepth 100000 in
theorem i_X3_9 (l : Launch) (D : va_G) (h0 : Nat) (sz : Nat) : Met l yX3_init (Cond.code yX3_init cX3_init 1 none :: gw_tbl) ({ frames := 1, cells := 1, slots := 4, locals := 12 }) (pc_C D [] [(h0, .inr (9, [.null, .null, .int 0]))] sz [.ref h0]) (va_Qv (fun (u : Unit) => True) (fun _ t => ∃ (nq : Nat), ∃ (cQ : ClassId), va_P D vwCl [(h0, .inr (9, [.ref nq, .null, .int 0])), (nq, .inl (cQ, 4, .inl (fun _ => 0)))] t.heap ∧ va_K D vwCl [(cQ, .int)] t ∧ va_D (va_A [(h0, .inr (9, [.null, .null, .int 0]))] sz) [(h0, .inr (9, [.ref nq, .null, .int 0])), (nq, .inl (cQ, 4, .inl (fun _ => 0)))]) (va_A [(h0, .inr (9, [.null, .null, .int 0]))] sz)) 1 4 (va_A [(h0, .inr (9, [.null, .null, .int 0]))] sz) := by
  refine Met.ofW (cc := cX3_init) (maxL := 1) (ret := none) (by decide) rfl ?_
  intro p e s m args below meth c s₁ B hml hv
  obtain ⟨hargs, hsz, hP, hK, hD0, hN⟩ := hv
  have hx := B.exec
  have hb := B.bytes
  have hr := B.returns
  have hts := atoms_spec (ws := Cond.code yX3_init cX3_init 1 none :: gw_tbl) B.pre
  have hg := fun (w : Cond) (h : w ∈ gw_tbl) => hts w (List.mem_cons_of_mem _ h)
  have hown : s.vm.findClass RX3 = some m.cls := findClass_of_methodNamed B.named
  have hlocks := B.notSynchronized
  have hin : meth.name = "<init>" := (name_of_methodNamed B.named B.method).1
  subst hsz
  have hD := hD0.self (sz := s.heap.size)
  generalize hAe : va_A [(h0, .inr (9, [.null, .null, .int 0]))] s.heap.size = A at hD ⊢
  have hA : ∀ q : Nat, s.heap.size ≤ q → A q := fun q h => by rw [← hAe]; exact Or.inr h
  have hS : va_S A s.heap s.heap [] := va_S.rf
  have hP : va_P D vwCl [(h0, .inr (9, [.null, .null, .int 0]))] s.heap := hP
  have hl := lv_entry ([.ref h0]) (n := 1) (Nat.le_of_ble_eq_true rfl)
  rw [show entryFrame m args 1 = F0 m 0 (lg_sl ([.ref h0]) ++ List.replicate (1 - (lg_sl ([.ref h0])).length) Slot.unset).toArray [] from by rw [hargs]; exact lg_entry_eq ..]
  generalize (lg_sl ([.ref h0]) ++ List.replicate (1 - (lg_sl ([.ref h0])).length) Slot.unset).toArray = ls at hl ⊢
  have hl : lv_has ls 1 [(0, .ref h0)] := hl
  refine W_genQ (fun Q hQ => ?_)
  refine lv_aload_n hx hb dX3_init_0 rfl (lv_at hl 0 rfl) ?_
  refine W.objInit hx hb hown (hg _ kw_93) (hg _ kw_94) (hg _ kw_95) rfl (by rw [hml]; exact hl.1) rfl dX3_init_1 (Nat.le_of_ble_eq_true rfl) (Nat.le_of_ble_eq_true rfl) ?_
  refine W.eq (g2 := F0 m 4 ls []) rfl ?_
  refine lv_aload_n hx hb dX3_init_4 rfl (lv_at hl 0 rfl) ?_
  refine lv_iconst (v := 4) hx hb dX3_init_5 (by decide) ?_
  refine va_newa (atype := .int) (ty := .int) (N' := 4) (a0 := (4, .inl (fun _ => 0))) hx hb (hg _ kw_96) rfl hK hP hD hS hA (fun _ => rfl) (by decide) (by decide) (by decide) (Nat.le_of_ble_eq_true rfl) (Nat.le_of_ble_eq_true rfl) dX3_init_6 (fun q_6 cA_6 H hK hP hD hS => ?_)
  have hP : va_P D vwCl [(h0, .inr (9, [.null, .null, .int 0])), (q_6, .inl (cA_6, 4, .inl (fun _ => 0)))] H := hP
  have hD : va_D A [(h0, .inr (9, [.null, .null, .int 0])), (q_6, .inl (cA_6, 4, .inl (fun _ => 0)))] := hD
  have hK : va_K D vwCl [(cA_6, .int)] s := hK
  refine W.cs (cells' := 1) (slots' := 4) rfl rfl ?_
  refine va_putF (D := D) (ci := 9) (v := .ref q_6) (ty := .array .int) (C := RX9) (T := TX9) (N := 3) hx hb hg gwX9 tyX9 tyX9_ok nmX9 hown hK hP hD hS 0 rfl rfl 0 (by decide) (hg _ kw_97) (fun _ h9 => h9) rfl hin rfl (by decide +kernel) rfl rfl (Nat.le_of_ble_eq_true rfl) dX3_init_8 (fun H locs hP hD hS => ?_)
  have hP : va_P D vwCl [(h0, .inr (9, [.ref q_6, .null, .int 0])), (q_6, .inl (cA_6, 4, .inl (fun _ => 0)))] H := hP
  have hD : va_D A [(h0, .inr (9, [.ref q_6, .null, .int 0])), (q_6, .inl (cA_6, 4, .inl (fun _ => 0)))] := hD
  subst hQ
  refine W.widen (k := 1) (n := 4) (Nat.le_of_ble_eq_true rfl) (Nat.le_of_ble_eq_true rfl) ?_
  have hP9 := hP.sub (ws' := [(h0, .inr (9, [.ref q_6, .null, .int 0])), (q_6, .inl (cA_6, 4, .inl (fun _ => 0)))]) [0, 1] rfl
  have hD9 := hD.sub (ws' := [(h0, .inr (9, [.ref q_6, .null, .int 0])), (q_6, .inl (cA_6, 4, .inl (fun _ => 0)))]) [0, 1] (by decide) rfl
  have hK9 := hK.sub (tys' := [(cA_6, .int)]) [0] rfl
  exact W.vret hx hb hr (fun t ht hW => ⟨⟨(), rfl, trivial, ⟨q_6, cA_6, by rw [ht]; exact hP9, va_K.moved hW.alike hK9, hD9⟩⟩, hS.F ht⟩) hS.2.2 dX3_init_11

set_option maxHeartbeats 4000000 in
set_option maxRecDepth 100000 in
theorem i_X3_10 (l : Launch) (D : va_G) (h0 : Nat) (sz : Nat) : Met l yX3_init (Cond.code yX3_init cX3_init 1 none :: gw_tbl) ({ frames := 1, cells := 1, slots := 4, locals := 12 }) (pc_C D [] [(h0, .inr (10, [.null, .null, .int 0]))] sz [.ref h0]) (va_Qv (fun (u : Unit) => True) (fun _ t => ∃ (nq : Nat), ∃ (cQ : ClassId), va_P D vwCl [(h0, .inr (10, [.ref nq, .null, .int 0])), (nq, .inl (cQ, 4, .inl (fun _ => 0)))] t.heap ∧ va_K D vwCl [(cQ, .int)] t ∧ va_D (va_A [(h0, .inr (10, [.null, .null, .int 0]))] sz) [(h0, .inr (10, [.ref nq, .null, .int 0])), (nq, .inl (cQ, 4, .inl (fun _ => 0)))]) (va_A [(h0, .inr (10, [.null, .null, .int 0]))] sz)) 1 4 (va_A [(h0, .inr (10, [.null, .null, .int 0]))] sz) := by
  refine Met.ofW (cc := cX3_init) (maxL := 1) (ret := none) (by decide) rfl ?_
  intro p e s m args below meth c s₁ B hml hv
  obtain ⟨hargs, hsz, hP, hK, hD0, hN⟩ := hv
  have hx := B.exec
  have hb := B.bytes
  have hr := B.returns
  have hts := atoms_spec (ws := Cond.code yX3_init cX3_init 1 none :: gw_tbl) B.pre
  have hg := fun (w : Cond) (h : w ∈ gw_tbl) => hts w (List.mem_cons_of_mem _ h)
  have hown : s.vm.findClass RX3 = some m.cls := findClass_of_methodNamed B.named
  have hlocks := B.notSynchronized
  have hin : meth.name = "<init>" := (name_of_methodNamed B.named B.method).1
  subst hsz
  have hD := hD0.self (sz := s.heap.size)
  generalize hAe : va_A [(h0, .inr (10, [.null, .null, .int 0]))] s.heap.size = A at hD ⊢
  have hA : ∀ q : Nat, s.heap.size ≤ q → A q := fun q h => by rw [← hAe]; exact Or.inr h
  have hS : va_S A s.heap s.heap [] := va_S.rf
  have hP : va_P D vwCl [(h0, .inr (10, [.null, .null, .int 0]))] s.heap := hP
  have hl := lv_entry ([.ref h0]) (n := 1) (Nat.le_of_ble_eq_true rfl)
  rw [show entryFrame m args 1 = F0 m 0 (lg_sl ([.ref h0]) ++ List.replicate (1 - (lg_sl ([.ref h0])).length) Slot.unset).toArray [] from by rw [hargs]; exact lg_entry_eq ..]
  generalize (lg_sl ([.ref h0]) ++ List.replicate (1 - (lg_sl ([.ref h0])).length) Slot.unset).toArray = ls at hl ⊢
  have hl : lv_has ls 1 [(0, .ref h0)] := hl
  refine W_genQ (fun Q hQ => ?_)
  refine lv_aload_n hx hb dX3_init_0 rfl (lv_at hl 0 rfl) ?_
  refine W.objInit hx hb hown (hg _ kw_93) (hg _ kw_94) (hg _ kw_95) rfl (by rw [hml]; exact hl.1) rfl dX3_init_1 (Nat.le_of_ble_eq_true rfl) (Nat.le_of_ble_eq_true rfl) ?_
  refine W.eq (g2 := F0 m 4 ls []) rfl ?_
  refine lv_aload_n hx hb dX3_init_4 rfl (lv_at hl 0 rfl) ?_
  refine lv_iconst (v := 4) hx hb dX3_init_5 (by decide) ?_
  refine va_newa (atype := .int) (ty := .int) (N' := 4) (a0 := (4, .inl (fun _ => 0))) hx hb (hg _ kw_96) rfl hK hP hD hS hA (fun _ => rfl) (by decide) (by decide) (by decide) (Nat.le_of_ble_eq_true rfl) (Nat.le_of_ble_eq_true rfl) dX3_init_6 (fun q_6 cA_6 H hK hP hD hS => ?_)
  have hP : va_P D vwCl [(h0, .inr (10, [.null, .null, .int 0])), (q_6, .inl (cA_6, 4, .inl (fun _ => 0)))] H := hP
  have hD : va_D A [(h0, .inr (10, [.null, .null, .int 0])), (q_6, .inl (cA_6, 4, .inl (fun _ => 0)))] := hD
  have hK : va_K D vwCl [(cA_6, .int)] s := hK
  refine W.cs (cells' := 1) (slots' := 4) rfl rfl ?_
  refine va_putF (D := D) (ci := 10) (v := .ref q_6) (ty := .array .int) (C := RX10) (T := TX10) (N := 3) hx hb hg gwX10 tyX10 tyX10_ok nmX10 hown hK hP hD hS 0 rfl rfl 0 (by decide) (hg _ kw_97) (fun _ h9 => h9) rfl hin rfl (by decide +kernel) rfl rfl (Nat.le_of_ble_eq_true rfl) dX3_init_8 (fun H locs hP hD hS => ?_)
  have hP : va_P D vwCl [(h0, .inr (10, [.ref q_6, .null, .int 0])), (q_6, .inl (cA_6, 4, .inl (fun _ => 0)))] H := hP
  have hD : va_D A [(h0, .inr (10, [.ref q_6, .null, .int 0])), (q_6, .inl (cA_6, 4, .inl (fun _ => 0)))] := hD
  subst hQ
  refine W.widen (k := 1) (n := 4) (Nat.le_of_ble_eq_true rfl) (Nat.le_of_ble_eq_true rfl) ?_
  have hP9 := hP.sub (ws' := [(h0, .inr (10, [.ref q_6, .null, .int 0])), (q_6, .inl (cA_6, 4, .inl (fun _ => 0)))]) [0, 1] rfl
  have hD9 := hD.sub (ws' := [(h0, .inr (10, [.ref q_6, .null, .int 0])), (q_6, .inl (cA_6, 4, .inl (fun _ => 0)))]) [0, 1] (by decide) rfl
  have hK9 := hK.sub (tys' := [(cA_6, .int)]) [0] rfl
  exact W.vret hx hb hr (fun t ht hW => ⟨⟨(), rfl, trivial, ⟨q_6, cA_6, by rw [ht]; exact hP9, va_K.moved hW.alike hK9, hD9⟩⟩, hS.F ht⟩) hS.2.2 dX3_init_11

set_option maxHeartbeats 4000000 in
set_option maxRecDepth 100000 in
theorem i_X3_6 (l : Launch) (D : va_G) (h0 : Nat) (sz : Nat) : Met l yX3_init (Cond.code yX3_init cX3_init 1 none :: gw_tbl) ({ frames := 1, cells := 1, slots := 4, locals := 12 }) (pc_C D [] [(h0, .inr (6, [.null, .null, .int 0]))] sz [.ref h0]) (va_Qv (fun (u : Unit) => True) (fun _ t => ∃ (nq : Nat), ∃ (cQ : ClassId), va_P D vwCl [(h0, .inr (6, [.ref nq, .null, .int 0])), (nq, .inl (cQ, 4, .inl (fun _ => 0)))] t.heap ∧ va_K D vwCl [(cQ, .int)] t ∧ va_D (va_A [(h0, .inr (6, [.null, .null, .int 0]))] sz) [(h0, .inr (6, [.ref nq, .null, .int 0])), (nq, .inl (cQ, 4, .inl (fun _ => 0)))]) (va_A [(h0, .inr (6, [.null, .null, .int 0]))] sz)) 1 4 (va_A [(h0, .inr (6, [.null, .null, .int 0]))] sz) := by
  refine Met.ofW (cc := cX3_init) (maxL := 1) (ret := none) (by decide) rfl ?_
  intro p e s m args below meth c s₁ B hml hv
  obtain ⟨hargs, hsz, hP, hK, hD0, hN⟩ := hv
  have hx := B.exec
  have hb := B.bytes
  have hr := B.returns
  have hts := atoms_spec (ws := Cond.code yX3_init cX3_init 1 none :: gw_tbl) B.pre
  have hg := fun (w : Cond) (h : w ∈ gw_tbl) => hts w (List.mem_cons_of_mem _ h)
  have hown : s.vm.findClass RX3 = some m.cls := findClass_of_methodNamed B.named
  have hlocks := B.notSynchronized
  have hin : meth.name = "<init>" := (name_of_methodNamed B.named B.method).1
  subst hsz
  have hD := hD0.self (sz := s.heap.size)
  generalize hAe : va_A [(h0, .inr (6, [.null, .null, .int 0]))] s.heap.size = A at hD ⊢
  have hA : ∀ q : Nat, s.heap.size ≤ q → A q := fun q h => by rw [← hAe]; exact Or.inr h
  have hS : va_S A s.heap s.heap [] := va_S.rf
  have hP : va_P D vwCl [(h0, .inr (6, [.null, .null, .int 0]))] s.heap := hP
  have hl := lv_entry ([.ref h0]) (n := 1) (Nat.le_of_ble_eq_true rfl)
  rw [show entryFrame m args 1 = F0 m 0 (lg_sl ([.ref h0]) ++ List.replicate (1 - (lg_sl ([.ref h0])).length) Slot.unset).toArray [] from by rw [hargs]; exact lg_entry_eq ..]
  generalize (lg_sl ([.ref h0]) ++ List.replicate (1 - (lg_sl ([.ref h0])).length) Slot.unset).toArray = ls at hl ⊢
  have hl : lv_has ls 1 [(0, .ref h0)] := hl
  refine W_genQ (fun Q hQ => ?_)
  refine lv_aload_n hx hb dX3_init_0 rfl (lv_at hl 0 rfl) ?_
  refine W.objInit hx hb hown (hg _ kw_93) (hg _ kw_94) (hg _ kw_95) rfl (by rw [hml]; exact hl.1) rfl dX3_init_1 (Nat.le_of_ble_eq_true rfl) (Nat.le_of_ble_eq_true rfl) ?_
  refine W.eq (g2 := F0 m 4 ls []) rfl ?_
  refine lv_aload_n hx hb dX3_init_4 rfl (lv_at hl 0 rfl) ?_
  refine lv_iconst (v := 4) hx hb dX3_init_5 (by decide) ?_
  refine va_newa (atype := .int) (ty := .int) (N' := 4) (a0 := (4, .inl (fun _ => 0))) hx hb (hg _ kw_96) rfl hK hP hD hS hA (fun _ => rfl) (by decide) (by decide) (by decide) (Nat.le_of_ble_eq_true rfl) (Nat.le_of_ble_eq_true rfl) dX3_init_6 (fun q_6 cA_6 H hK hP hD hS => ?_)
  have hP : va_P D vwCl [(h0, .inr (6, [.null, .null, .int 0])), (q_6, .inl (cA_6, 4, .inl (fun _ => 0)))] H := hP
  have hD : va_D A [(h0, .inr (6, [.null, .null, .int 0])), (q_6, .inl (cA_6, 4, .inl (fun _ => 0)))] := hD
  have hK : va_K D vwCl [(cA_6, .int)] s := hK
  refine W.cs (cells' := 1) (slots' := 4) rfl rfl ?_
  refine va_putF (D := D) (ci := 6) (v := .ref q_6) (ty := .array .int) (C := RX6) (T := TX6) (N := 3) hx hb hg gwX6 tyX6 tyX6_ok nmX6 hown hK hP hD hS 0 rfl rfl 0 (by decide) (hg _ kw_97) (fun _ h9 => h9) rfl hin rfl (by decide +kernel) rfl rfl (Nat.le_of_ble_eq_true rfl) dX3_init_8 (fun H locs hP hD hS => ?_)
  have hP : va_P D vwCl [(h0, .inr (6, [.ref q_6, .null, .int 0])), (q_6, .inl (cA_6, 4, .inl (fun _ => 0)))] H := hP
  have hD : va_D A [(h0, .inr (6, [.ref q_6, .null, .int 0])), (q_6, .inl (cA_6, 4, .inl (fun _ => 0)))] := hD
  subst hQ
  refine W.widen (k := 1) (n := 4) (Nat.le_of_ble_eq_true rfl) (Nat.le_of_ble_eq_true rfl) ?_
  have hP9 := hP.sub (ws' := [(h0, .inr (6, [.ref q_6, .null, .int 0])), (q_6, .inl (cA_6, 4, .inl (fun _ => 0)))]) [0, 1] rfl
  have hD9 := hD.sub (ws' := [(h0, .inr (6, [.ref q_6, .null, .int 0])), (q_6, .inl (cA_6, 4, .inl (fun _ => 0)))]) [0, 1] (by decide) rfl
  have hK9 := hK.sub (tys' := [(cA_6, .int)]) [0] rfl
  exact W.vret hx hb hr (fun t ht hW => ⟨⟨(), rfl, trivial, ⟨q_6, cA_6, by rw [ht]; exact hP9, va_K.moved hW.alike hK9, hD9⟩⟩, hS.F ht⟩) hS.2.2 dX3_init_11

set_option maxHeartbeats 4000000 in
set_option maxRecDepth 100000 in
theorem i_X3_1 (l : Launch) (D : va_G) (h0 : Nat) (sz : Nat) : Met l yX3_init (Cond.code yX3_init cX3_init 1 none :: gw_tbl) ({ frames := 1, cells := 1, slots := 4, locals := 12 }) (pc_C D [] [(h0, .inr (1, [.null, .null, .int 0]))] sz [.ref h0]) (va_Qv (fun (u : Unit) => True) (fun _ t => ∃ (nq : Nat), ∃ (cQ : ClassId), va_P D vwCl [(h0, .inr (1, [.ref nq, .null, .int 0])), (nq, .inl (cQ, 4, .inl (fun _ => 0)))] t.heap ∧ va_K D vwCl [(cQ, .int)] t ∧ va_D (va_A [(h0, .inr (1, [.null, .null, .int 0]))] sz) [(h0, .inr (1, [.ref nq, .null, .int 0])), (nq, .inl (cQ, 4, .inl (fun _ => 0)))]) (va_A [(h0, .inr (1, [.null, .null, .int 0]))] sz)) 1 4 (va_A [(h0, .inr (1, [.null, .null, .int 0]))] sz) := by
  refine Met.ofW (cc := cX3_init) (maxL := 1) (ret := none) (by decide) rfl ?_
  intro p e s m args below meth c s₁ B hml hv
  obtain ⟨hargs, hsz, hP, hK, hD0, hN⟩ := hv
  have hx := B.exec
  have hb := B.bytes
  have hr := B.returns
  have hts := atoms_spec (ws := Cond.code yX3_init cX3_init 1 none :: gw_tbl) B.pre
  have hg := fun (w : Cond) (h : w ∈ gw_tbl) => hts w (List.mem_cons_of_mem _ h)
  have hown : s.vm.findClass RX3 = some m.cls := findClass_of_methodNamed B.named
  have hlocks := B.notSynchronized
  have hin : meth.name = "<init>" := (name_of_methodNamed B.named B.method).1
  subst hsz
  have hD := hD0.self (sz := s.heap.size)
  generalize hAe : va_A [(h0, .inr (1, [.null, .null, .int 0]))] s.heap.size = A at hD ⊢
  have hA : ∀ q : Nat, s.heap.size ≤ q → A q := fun q h => by rw [← hAe]; exact Or.inr h
  have hS : va_S A s.heap s.heap [] := va_S.rf
  have hP : va_P D vwCl [(h0, .inr (1, [.null, .null, .int 0]))] s.heap := hP
  have hl := lv_entry ([.ref h0]) (n := 1) (Nat.le_of_ble_eq_true rfl)
  rw [show entryFrame m args 1 = F0 m 0 (lg_sl ([.ref h0]) ++ List.replicate (1 - (lg_sl ([.ref h0])).length) Slot.unset).toArray [] from by rw [hargs]; exact lg_entry_eq ..]
  generalize (lg_sl ([.ref h0]) ++ List.replicate (1 - (lg_sl ([.ref h0])).length) Slot.unset).toArray = ls at hl ⊢
  have hl : lv_has ls 1 [(0, .ref h0)] := hl
  refine W_genQ (fun Q hQ => ?_)
  refine lv_aload_n hx hb dX3_init_0 rfl (lv_at hl 0 rfl) ?_
  refine W.objInit hx hb hown (hg _ kw_93) (hg _ kw_94) (hg _ kw_95) rfl (by rw [hml]; exact hl.1) rfl dX3_init_1 (Nat.le_of_ble_eq_true rfl) (Nat.le_of_ble_eq_true rfl) ?_
  refine W.eq (g2 := F0 m 4 ls []) rfl ?_
  refine lv_aload_n hx hb dX3_init_4 rfl (lv_at hl 0 rfl) ?_
  refine lv_iconst (v := 4) hx hb dX3_init_5 (by decide) ?_
  refine va_newa (atype := .int) (ty := .int) (N' := 4) (a0 := (4, .inl (fun _ => 0))) hx hb (hg _ kw_96) rfl hK hP hD hS hA (fun _ => rfl) (by decide) (by decide) (by decide) (Nat.le_of_ble_eq_true rfl) (Nat.le_of_ble_eq_true rfl) dX3_init_6 (fun q_6 cA_6 H hK hP hD hS => ?_)
  have hP : va_P D vwCl [(h0, .inr (1, [.null, .null, .int 0])), (q_6, .inl (cA_6, 4, .inl (fun _ => 0)))] H := hP
  have hD : va_D A [(h0, .inr (1, [.null, .null, .int 0])), (q_6, .inl (cA_6, 4, .inl (fun _ => 0)))] := hD
  have hK : va_K D vwCl [(cA_6, .int)] s := hK
  refine W.cs (cells' := 1) (slots' := 4) rfl rfl ?_
  refine va_putF (D := D) (ci := 1) (v := .ref q_6) (ty := .array .int) (C := RX1) (T := TX1) (N := 3) hx hb hg gwX1 tyX1 tyX1_ok nmX1 hown hK hP hD hS 0 rfl rfl 0 (by decide) (hg _ kw_97) (fun _ h9 => h9) rfl hin rfl (by decide +kernel) rfl rfl (Nat.le_of_ble_eq_true rfl) dX3_init_8 (fun H locs hP hD hS => ?_)
  have hP : va_P D vwCl [(h0, .inr (1, [.ref q_6, .null, .int 0])), (q_6, .inl (cA_6, 4, .inl (fun _ => 0)))] H := hP
  have hD : va_D A [(h0, .inr (1, [.ref q_6, .null, .int 0])), (q_6, .inl (cA_6, 4, .inl (fun _ => 0)))] := hD
  subst hQ
  refine W.widen (k := 1) (n := 4) (Nat.le_of_ble_eq_true rfl) (Nat.le_of_ble_eq_true rfl) ?_
  have hP9 := hP.sub (ws' := [(h0, .inr (1, [.ref q_6, .null, .int 0])), (q_6, .inl (cA_6, 4, .inl (fun _ => 0)))]) [0, 1] rfl
  have hD9 := hD.sub (ws' := [(h0, .inr (1, [.ref q_6, .null, .int 0])), (q_6, .inl (cA_6, 4, .inl (fun _ => 0)))]) [0, 1] (by decide) rfl
  have hK9 := hK.sub (tys' := [(cA_6, .int)]) [0] rfl
  exact W.vret hx hb hr (fun t ht hW => ⟨⟨(), rfl, trivial, ⟨q_6, cA_6, by rw [ht]; exact hP9, va_K.moved hW.alike hK9, hD9⟩⟩, hS.F ht⟩) hS.2.2 dX3_init_11

theorem dX9_init_0 : decode cX9_init 0 = .ok (.aload_n 0, 1) := by decide +kernel
theorem dX9_init_1 : decode cX9_init 1 = .ok (.invokespecial 3, 3) := by decide +kernel
theorem dX9_init_4 : decode cX9_init 4 = .ok (.return_, 1) := by decide +kernel
theorem kw_98 : (.code yX3_init cX3_init 1 none : Cond) ∈ gw_tbl := gw_in (by decide +kernel) (by decide +kernel)
theorem kw_99 : (.initialized RX3 : Cond) ∈ gw_tbl := gw_in (by decide +kernel) (by decide +kernel)
theorem kw_100 : (.instanceMethod yX3_init : Cond) ∈ gw_tbl := gw_in (by decide +kernel) (by decide +kernel)

set_option maxHeartbeats 4000000 in
set_option maxRecDepth 100000 in
theorem i_X9_9 (l : Launch) (D : va_G) (h0 : Nat) (sz : Nat) : Met l yX9_init (Cond.code yX9_init cX9_init 1 none :: gw_tbl) ({ frames := 2, cells := 1, slots := 4, locals := 32 }) (pc_C D [] [(h0, .inr (9, [.null, .null, .int 0]))] sz [.ref h0]) (va_Qv (fun (u : Unit) => True) (fun _ t => ∃ (nq : Nat), ∃ (cQ : ClassId), va_P D vwCl [(h0, .inr (9, [.ref nq, .null, .int 0])), (nq, .inl (cQ, 4, .inl (fun _ => 0)))] t.heap ∧ va_K D vwCl [(cQ, .int)] t ∧ va_D (va_A [(h0, .inr (9, [.null, .null, .int 0]))] sz) [(h0, .inr (9, [.ref nq, .null, .int 0])), (nq, .inl (cQ, 4, .inl (fun _ => 0)))]) (va_A [(h0, .inr (9, [.null, .null, .int 0]))] sz)) 1 4 (va_A [(h0, .inr (9, [.null, .null, .int 0]))] sz) := by
  refine Met.ofW (cc := cX9_init) (maxL := 1) (ret := none) (by decide) rfl ?_
  intro p e s m args below meth c s₁ B hml hv
  obtain ⟨hargs, hsz, hP, hK, hD0, hN⟩ := hv
  have hx := B.exec
  have hb := B.bytes
  have hr := B.returns
  have hts := atoms_spec (ws := Cond.code yX9_init cX9_init 1 none :: gw_tbl) B.pre
  have hg := fun (w : Cond) (h : w ∈ gw_tbl) => hts w (List.mem_cons_of_mem _ h)
  have hown : s.vm.findClass RX9 = some m.cls := findClass_of_methodNamed B.named
  have hlocks := B.notSynchronized
  have hin : meth.name = "<init>" := (name_of_methodNamed B.named B.method).1
  subst hsz
  have hD := hD0.self (sz := s.heap.size)
  generalize hAe : va_A [(h0, .inr (9, [.null, .null, .int 0]))] s.heap.size = A at hD ⊢
  have hA : ∀ q : Nat, s.heap.size ≤ q → A q := fun q h => by rw [← hAe]; exact Or.inr h
  have hS : va_S A s.heap s.heap [] := va_S.rf
  have hP : va_P D vwCl [(h0, .inr (9, [.null, .null, .int 0]))] s.heap := hP
  have hl := lv_entry ([.ref h0]) (n := 1) (Nat.le_of_ble_eq_true rfl)
  rw [show entryFrame m args 1 = F0 m 0 (lg_sl ([.ref h0]) ++ List.replicate (1 - (lg_sl ([.ref h0])).length) Slot.unset).toArray [] from by rw [hargs]; exact lg_entry_eq ..]
  generalize (lg_sl ([.ref h0]) ++ List.replicate (1 - (lg_sl ([.ref h0])).length) Slot.unset).toArray = ls at hl ⊢
  have hl : lv_has ls 1 [(0, .ref h0)] := hl
  refine W_genQ (fun Q hQ => ?_)
  refine lv_aload_n hx hb dX9_init_0 rfl (lv_at hl 0 rfl) ?_
  have hPc := hP.sub (ws' := [(h0, .inr (9, [.null, .null, .int 0]))]) [0] rfl
  have hKc := hK.sub (tys' := []) [] rfl
  have hDc := hD.sub (ws' := [(h0, .inr (9, [.null, .null, .int 0]))]) [0] (by decide) rfl
  have hFc := va_free (wc := [(h0, .inr (9, [.null, .null, .int 0]))]) hD hS hA [0] rfl
  refine va_callv (va_runIN (As := []) (rest := []) ⟨hx, hb, hml, hown, hg⟩ (i_X3_9 l D h0 _) ⟨va_cnB 0 hg (gw_I kw_98) rfl rfl rfl (hN.1 (RX9, 3, yX3_init) (by decide +kernel)) (hg _ kw_99) (by decide +kernel) ⟨Nat.le_of_ble_eq_true rfl, Nat.le_of_ble_eq_true rfl⟩, rfl, hg _ kw_100⟩ (pr_C hKc hPc hDc hN) rfl rfl hl.1 rfl (lv_room (Nat.le_of_ble_eq_true rfl)) dX9_init_1 ⟨Nat.le_of_ble_eq_true rfl, Nat.le_of_ble_eq_true rfl⟩) hS (fun q _ h => hFc q h) hFc (fun u t H1 locs ht hvm h_1 hB hz1 hk1 hS => ?_)
  obtain ⟨nq_1, cQ_1, hP1, hK1, hD1⟩ := hB
  rw [ht] at hP1
  have hK1 := va_K.moved hvm.symm hK1
  obtain ⟨hP, hD⟩ := va_join (wr := []) (w1 := [(h0, .inr (9, [.ref nq_1, .null, .int 0])), (nq_1, .inl (cQ_1, 4, .inl (fun _ => 0)))]) hP hD [0] [] rfl rfl (by decide) (by decide) hk1 hFc hP1 hD1
  have hK := hK.app hK1
  generalize H1 = H at hP hS ⊢
  have hP : va_P D vwCl [(h0, .inr (9, [.ref nq_1, .null, .int 0])), (nq_1, .inl (cQ_1, 4, .inl (fun _ => 0)))] H := hP
  have hD : va_D A [(h0, .inr (9, [.ref nq_1, .null, .int 0])), (nq_1, .inl (cQ_1, 4, .inl (fun _ => 0)))] := hD
  have hK : va_K D vwCl [(cQ_1, .int)] s := hK
  refine W.cs (cells' := 1) (slots' := 4) rfl rfl ?_
  try dsimp only at h_1
  subst hQ
  refine W.widen (k := 1) (n := 4) (Nat.le_of_ble_eq_true rfl) (Nat.le_of_ble_eq_true rfl) ?_
  have hP9 := hP.sub (ws' := [(h0, .inr (9, [.ref nq_1, .null, .int 0])), (nq_1, .inl (cQ_1, 4, .inl (fun _ => 0)))]) [0, 1] rfl
  have hD9 := hD.sub (ws' := [(h0, .inr (9, [.ref nq_1, .null, .int 0])), (nq_1, .inl (cQ_1, 4, .inl (fun _ => 0)))]) [0, 1] (by decide) rfl
  have hK9 := hK.sub (tys' := [(cQ_1, .int)]) [0] rfl
  exact W.vret hx hb hr (fun t ht hW => ⟨⟨(), rfl, trivial, ⟨nq_1, cQ_1, by rw [ht]; exact hP9, va_K.moved hW.alike hK9, hD9⟩⟩, hS.F ht⟩) hS.2.2 dX9_init_4

set_option maxHeartbeats 4000000 in
set_option maxRecDepth 100000 in
theorem i_X9_1 (l : Launch) (D : va_G) (h0 : Nat) (sz : Nat) : Met l yX9_init (Cond.code yX9_init cX9_init 1 none :: gw_tbl) ({ frames := 2, cells := 1, slots := 4, locals := 32 }) (pc_C D [] [(h0, .inr (1, [.null, .null, .int 0]))] sz [.ref h0]) (va_Qv (fun (u : Unit) => True) (fun _ t => ∃ (nq : Nat), ∃ (cQ : ClassId), va_P D vwCl [(h0, .inr (1, [.ref nq, .null, .int 0])), (nq, .inl (cQ, 4, .inl (fun _ => 0)))] t.heap ∧ va_K D vwCl [(cQ, .int)] t ∧ va_D (va_A [(h0, .inr (1, [.null, .null, .int 0]))] sz) [(h0, .inr (1, [.ref nq, .null, .int 0])), (nq, .inl (cQ, 4, .inl (fun _ => 0)))]) (va_A [(h0, .inr (1, [.null, .null, .int 0]))] sz)) 1 4 (va_A [(h0, .inr (1, [.null, .null, .int 0]))] sz) := by
  refine Met.ofW (cc := cX9_init) (maxL := 1) (ret := none) (by decide) rfl ?_
  intro p e s m args below meth c s₁ B hml hv
  obtain ⟨hargs, hsz, hP, hK, hD0, hN⟩ := hv
  have hx := B.exec
  have hb := B.bytes
  have hr := B.returns
  have hts := atoms_spec (ws := Cond.code yX9_init cX9_init 1 none :: gw_tbl) B.pre
  have hg := fun (w : Cond) (h : w ∈ gw_tbl) => hts w (List.mem_cons_of_mem _ h)
  have hown : s.vm.findClass RX9 = some m.cls := findClass_of_methodNamed B.named
  have hlocks := B.notSynchronized
  have hin : meth.name = "<init>" := (name_of_methodNamed B.named B.method).1
  subst hsz
  have hD := hD0.self (sz := s.heap.size)
  generalize hAe : va_A [(h0, .inr (1, [.null, .null, .int 0]))] s.heap.size = A at hD ⊢
  have hA : ∀ q : Nat, s.heap.size ≤ q → A q := fun q h => by rw [← hAe]; exact Or.inr h
  have hS : va_S A s.heap s.heap [] := va_S.rf
  have hP : va_P D vwCl [(h0, .inr (1, [.null, .null, .int 0]))] s.heap := hP
  have hl := lv_entry ([.ref h0]) (n := 1) (Nat.le_of_ble_eq_true rfl)
  rw [show entryFrame m args 1 = F0 m 0 (lg_sl ([.ref h0]) ++ List.replicate (1 - (lg_sl ([.ref h0])).length) Slot.unset).toArray [] from by rw [hargs]; exact lg_entry_eq ..]
  generalize (lg_sl ([.ref h0]) ++ List.replicate (1 - (lg_sl ([.ref h0])).length) Slot.unset).toArray = ls at hl ⊢
  have hl : lv_has ls 1 [(0, .ref h0)] := hl
  refine W_genQ (fun Q hQ => ?_)
  refine lv_aload_n hx hb dX9_init_0 rfl (lv_at hl 0 rfl) ?_
  have hPc := hP.sub (ws' := [(h0, .inr (1, [.null, .null, .int 0]))]) [0] rfl
  have hKc := hK.sub (tys' := []) [] rfl
  have hDc := hD.sub (ws' := [(h0, .inr (1, [.null, .null, .int 0]))]) [0] (by decide) rfl
  have hFc := va_free (wc := [(h0, .inr (1, [.null, .null, .int 0]))]) hD hS hA [0] rfl
  refine va_callv (va_runIN (As := []) (rest := []) ⟨hx, hb, hml, hown, hg⟩ (i_X3_1 l D h0 _) ⟨va_cnB 0 hg (gw_I kw_98) rfl rfl rfl (hN.1 (RX9, 3, yX3_init) (by decide +kernel)) (hg _ kw_99) (by decide +kernel) ⟨Nat.le_of_ble_eq_true rfl, Nat.le_of_ble_eq_true rfl⟩, rfl, hg _ kw_100⟩ (pr_C hKc hPc hDc hN) rfl rfl hl.1 rfl (lv_room (Nat.le_of_ble_eq_true rfl)) dX9_init_1 ⟨Nat.le_of_ble_eq_true rfl, Nat.le_of_ble_eq_true rfl⟩) hS (fun q _ h => hFc q h) hFc (fun u t H1 locs ht hvm h_1 hB hz1 hk1 hS => ?_)
  obtain ⟨nq_1, cQ_1, hP1, hK1, hD1⟩ := hB
  rw [ht] at hP1
  have hK1 := va_K.moved hvm.symm hK1
  obtain ⟨hP, hD⟩ := va_join (wr := []) (w1 := [(h0, .inr (1, [.ref nq_1, .null, .int 0])), (nq_1, .inl (cQ_1, 4, .inl (fun _ => 0)))]) hP hD [0] [] rfl rfl (by decide) (by decide) hk1 hFc hP1 hD1
  have hK := hK.app hK1
  generalize H1 = H at hP hS ⊢
  have hP : va_P D vwCl [(h0, .inr (1, [.ref nq_1, .null, .int 0])), (nq_1, .inl (cQ_1, 4, .inl (fun _ => 0)))] H := hP
  have hD : va_D A [(h0, .inr (1, [.ref nq_1, .null, .int 0])), (nq_1, .inl (cQ_1, 4, .inl (fun _ => 0)))] := hD
  have hK : va_K D vwCl [(cQ_1, .int)] s := hK
  refine W.cs (cells' := 1) (slots' := 4) rfl rfl ?_
  try dsimp only at h_1
  subst hQ
  refine W.widen (k := 1) (n := 4) (Nat.le_of_ble_eq_true rfl) (Nat.le_of_ble_eq_true rfl) ?_
  have hP9 := hP.sub (ws' := [(h0, .inr (1, [.ref nq_1, .null, .int 0])), (nq_1, .inl (cQ_1, 4, .inl (fun _ => 0)))]) [0, 1] rfl
  have hD9 := hD.sub (ws' := [(h0, .inr (1, [.ref nq_1, .null, .int 0])), (nq_1, .inl (cQ_1, 4, .inl (fun _ => 0)))]) [0, 1] (by decide) rfl
  have hK9 := hK.sub (tys' := [(cQ_1, .int)]) [0] rfl
  exact W.vret hx hb hr (fun t ht hW => ⟨⟨(), rfl, trivial, ⟨nq_1, cQ_1, by rw [ht]; exact hP9, va_K.moved hW.alike hK9, hD9⟩⟩, hS.F ht⟩) hS.2.2 dX9_init_4

theorem dX10_init_0 : decode cX10_init 0 = .ok (.aload_n 0, 1) := by decide +kernel
theorem dX10_init_1 : decode cX10_init 1 = .ok (.invokespecial 3, 3) := by decide +kernel
theorem dX10_init_4 : decode cX10_init 4 = .ok (.return_, 1) := by decide +kernel

set_option maxHeartbeats 4000000 in
set_option maxRecDepth 100000 in
theorem i_X10_10 (l : Launch) (D : va_G) (h0 : Nat) (sz : Nat) : Met l yX10_init (Cond.code yX10_init cX10_init 1 none :: gw_tbl) ({ frames := 2, cells := 1, slots := 4, locals := 32 }) (pc_C D [] [(h0, .inr (10, [.null, .null, .int 0]))] sz [.ref h0]) (va_Qv (fun (u : Unit) => True) (fun _ t => ∃ (nq : Nat), ∃ (cQ : ClassId), va_P D vwCl [(h0, .inr (10, [.ref nq, .null, .int 0])), (nq, .inl (cQ, 4, .inl (fun _ => 0)))] t.heap ∧ va_K D vwCl [(cQ, .int)] t ∧ va_D (va_A [(h0, .inr (10, [.null, .null, .int 0]))] sz) [(h0, .inr (10, [.ref nq, .null, .int 0])), (nq, .inl (cQ, 4, .inl (fun _ => 0)))]) (va_A [(h0, .inr (10, [.null, .null, .int 0]))] sz)) 1 4 (va_A [(h0, .inr (10, [.null, .null, .int 0]))] sz) := by
  refine Met.ofW (cc := cX10_init) (maxL := 1) (ret := none) (by decide) rfl ?_
  intro p e s m args below meth c s₁ B hml hv
  obtain ⟨hargs, hsz, hP, hK, hD0, hN⟩ := hv
  have hx := B.exec
  have hb := B.bytes
  have hr := B.returns
  have hts := atoms_spec (ws := Cond.code yX10_init cX10_init 1 none :: gw_tbl) B.pre
  have hg := fun (w : Cond) (h : w ∈ gw_tbl) => hts w (List.mem_cons_of_mem _ h)
  have hown : s.vm.findClass RX10 = some m.cls := findClass_of_methodNamed B.named
  have hlocks := B.notSynchronized
  have hin : meth.name = "<init>" := (name_of_methodNamed B.named B.method).1
  subst hsz
  have hD := hD0.self (sz := s.heap.size)
  generalize hAe : va_A [(h0, .inr (10, [.null, .null, .int 0]))] s.heap.size = A at hD ⊢
  have hA : ∀ q : Nat, s.heap.size ≤ q → A q := fun q h => by rw [← hAe]; exact Or.inr h
  have hS : va_S A s.heap s.heap [] := va_S.rf
  have hP : va_P D vwCl [(h0, .inr (10, [.null, .null, .int 0]))] s.heap := hP
  have hl := lv_entry ([.ref h0]) (n := 1) (Nat.le_of_ble_eq_true rfl)
  rw [show entryFrame m args 1 = F0 m 0 (lg_sl ([.ref h0]) ++ List.replicate (1 - (lg_sl ([.ref h0])).length) Slot.unset).toArray [] from by rw [hargs]; exact lg_entry_eq ..]
  generalize (lg_sl ([.ref h0]) ++ List.replicate (1 - (lg_sl ([.ref h0])).length) Slot.unset).toArray = ls at hl ⊢
  have hl : lv_has ls 1 [(0, .ref h0)] := hl
  refine W_genQ (fun Q hQ => ?_)
  refine lv_aload_n hx hb dX10_init_0 rfl (lv_at hl 0 rfl) ?_
  have hPc := hP.sub (ws' := [(h0, .inr (10, [.null, .null, .int 0]))]) [0] rfl
  have hKc := hK.sub (tys' := []) [] rfl
  have hDc := hD.sub (ws' := [(h0, .inr (10, [.null, .null, .int 0]))]) [0] (by decide) rfl
  have hFc := va_free (wc := [(h0, .inr (10, [.null, .null, .int 0]))]) hD hS hA [0] rfl
  refine va_callv (va_runIN (As := []) (rest := []) ⟨hx, hb, hml, hown, hg⟩ (i_X3_10 l D h0 _) ⟨va_cnB 0 hg (gw_I kw_98) rfl rfl rfl (hN.1 (RX10, 3, yX3_init) (by decide +kernel)) (hg _ kw_99) (by decide +kernel) ⟨Nat.le_of_ble_eq_true rfl, Nat.le_of_ble_eq_true rfl⟩, rfl, hg _ kw_100⟩ (pr_C hKc hPc hDc hN) rfl rfl hl.1 rfl (lv_room (Nat.le_of_ble_eq_true rfl)) dX10_init_1 ⟨Nat.le_of_ble_eq_true rfl, Nat.le_of_ble_eq_true rfl⟩) hS (fun q _ h => hFc q h) hFc (fun u t H1 locs ht hvm h_1 hB hz1 hk1 hS => ?_)
  obtain ⟨nq_1, cQ_1, hP1, hK1, hD1⟩ := hB
  rw [ht] at hP1
  have hK1 := va_K.moved hvm.symm hK1
  obtain ⟨hP, hD⟩ := va_join (wr := []) (w1 := [(h0, .inr (10, [.ref nq_1, .null, .int 0])), (nq_1, .inl (cQ_1, 4, .inl (fun _ => 0)))]) hP hD [0] [] rfl rfl (by decide) (by decide) hk1 hFc hP1 hD1
  have hK := hK.app hK1
  generalize H1 = H at hP hS ⊢
  have hP : va_P D vwCl [(h0, .inr (10, [.ref nq_1, .null, .int 0])), (nq_1, .inl (cQ_1, 4, .inl (fun _ => 0)))] H := hP
  have hD : va_D A [(h0, .inr (10, [.ref nq_1, .null, .int 0])), (nq_1, .inl (cQ_1, 4, .inl (fun _ => 0)))] := hD
  have hK : va_K D vwCl [(cQ_1, .int)] s := hK
  refine W.cs (cells' := 1) (slots' := 4) rfl rfl ?_
  try dsimp only at h_1
  subst hQ
  refine W.widen (k := 1) (n := 4) (Nat.le_of_ble_eq_true rfl) (Nat.le_of_ble_eq_true rfl) ?_
  have hP9 := hP.sub (ws' := [(h0, .inr (10, [.ref nq_1, .null, .int 0])), (nq_1, .inl (cQ_1, 4, .inl (fun _ => 0)))]) [0, 1] rfl
  have hD9 := hD.sub (ws' := [(h0, .inr (10, [.ref nq_1, .null, .int 0])), (nq_1, .inl (cQ_1, 4, .inl (fun _ => 0)))]) [0, 1] (by decide) rfl
  have hK9 := hK.sub (tys' := [(cQ_1, .int)]) [0] rfl
  exact W.vret hx hb hr (fun t ht hW => ⟨⟨(), rfl, trivial, ⟨nq_1, cQ_1, by rw [ht]; exact hP9, va_K.moved hW.alike hK9, hD9⟩⟩, hS.F ht⟩) hS.2.2 dX10_init_4

set_option maxHeartbeats 4000000 in
set_option maxRecDepth 100000 in
theorem i_X10_6 (l : Launch) (D : va_G) (h0 : Nat) (sz : Nat) : Met l yX10_init (Cond.code yX10_init cX10_init 1 none :: gw_tbl) ({ frames := 2, cells := 1, slots := 4, locals := 32 }) (pc_C D [] [(h0, .inr (6, [.null, .null, .int 0]))] sz [.ref h0]) (va_Qv (fun (u : Unit) => True) (fun _ t => ∃ (nq : Nat), ∃ (cQ : ClassId), va_P D vwCl [(h0, .inr (6, [.ref nq, .null, .int 0])), (nq, .inl (cQ, 4, .inl (fun _ => 0)))] t.heap ∧ va_K D vwCl [(cQ, .int)] t ∧ va_D (va_A [(h0, .inr (6, [.null, .null, .int 0]))] sz) [(h0, .inr (6, [.ref nq, .null, .int 0])), (nq, .inl (cQ, 4, .inl (fun _ => 0)))]) (va_A [(h0, .inr (6, [.null, .null, .int 0]))] sz)) 1 4 (va_A [(h0, .inr (6, [.null, .null, .int 0]))] sz) := by
  refine Met.ofW (cc := cX10_init) (maxL := 1) (ret := none) (by decide) rfl ?_
  intro p e s m args below meth c s₁ B hml hv
  obtain ⟨hargs, hsz, hP, hK, hD0, hN⟩ := hv
  have hx := B.exec
  have hb := B.bytes
  have hr := B.returns
  have hts := atoms_spec (ws := Cond.code yX10_init cX10_init 1 none :: gw_tbl) B.pre
  have hg := fun (w : Cond) (h : w ∈ gw_tbl) => hts w (List.mem_cons_of_mem _ h)
  have hown : s.vm.findClass RX10 = some m.cls := findClass_of_methodNamed B.named
  have hlocks := B.notSynchronized
  have hin : meth.name = "<init>" := (name_of_methodNamed B.named B.method).1
  subst hsz
  have hD := hD0.self (sz := s.heap.size)
  generalize hAe : va_A [(h0, .inr (6, [.null, .null, .int 0]))] s.heap.size = A at hD ⊢
  have hA : ∀ q : Nat, s.heap.size ≤ q → A q := fun q h => by rw [← hAe]; exact Or.inr h
  have hS : va_S A s.heap s.heap [] := va_S.rf
  have hP : va_P D vwCl [(h0, .inr (6, [.null, .null, .int 0]))] s.heap := hP
  have hl := lv_entry ([.ref h0]) (n := 1) (Nat.le_of_ble_eq_true rfl)
  rw [show entryFrame m args 1 = F0 m 0 (lg_sl ([.ref h0]) ++ List.replicate (1 - (lg_sl ([.ref h0])).length) Slot.unset).toArray [] from by rw [hargs]; exact lg_entry_eq ..]
  generalize (lg_sl ([.ref h0]) ++ List.replicate (1 - (lg_sl ([.ref h0])).length) Slot.unset).toArray = ls at hl ⊢
  have hl : lv_has ls 1 [(0, .ref h0)] := hl
  refine W_genQ (fun Q hQ => ?_)
  refine lv_aload_n hx hb dX10_init_0 rfl (lv_at hl 0 rfl) ?_
  have hPc := hP.sub (ws' := [(h0, .inr (6, [.null, .null, .int 0]))]) [0] rfl
  have hKc := hK.sub (tys' := []) [] rfl
  have hDc := hD.sub (ws' := [(h0, .inr (6, [.null, .null, .int 0]))]) [0] (by decide) rfl
  have hFc := va_free (wc := [(h0, .inr (6, [.null, .null, .int 0]))]) hD hS hA [0] rfl
  refine va_callv (va_runIN (As := []) (rest := []) ⟨hx, hb, hml, hown, hg⟩ (i_X3_6 l D h0 _) ⟨va_cnB 0 hg (gw_I kw_98) rfl rfl rfl (hN.1 (RX10, 3, yX3_init) (by decide +kernel)) (hg _ kw_99) (by decide +kernel) ⟨Nat.le_of_ble_eq_true rfl, Nat.le_of_ble_eq_true rfl⟩, rfl, hg _ kw_100⟩ (pr_C hKc hPc hDc hN) rfl rfl hl.1 rfl (lv_room (Nat.le_of_ble_eq_true rfl)) dX10_init_1 ⟨Nat.le_of_ble_eq_true rfl, Nat.le_of_ble_eq_true rfl⟩) hS (fun q _ h => hFc q h) hFc (fun u t H1 locs ht hvm h_1 hB hz1 hk1 hS => ?_)
  obtain ⟨nq_1, cQ_1, hP1, hK1, hD1⟩ := hB
  rw [ht] at hP1
  have hK1 := va_K.moved hvm.symm hK1
  obtain ⟨hP, hD⟩ := va_join (wr := []) (w1 := [(h0, .inr (6, [.ref nq_1, .null, .int 0])), (nq_1, .inl (cQ_1, 4, .inl (fun _ => 0)))]) hP hD [0] [] rfl rfl (by decide) (by decide) hk1 hFc hP1 hD1
  have hK := hK.app hK1
  generalize H1 = H at hP hS ⊢
  have hP : va_P D vwCl [(h0, .inr (6, [.ref nq_1, .null, .int 0])), (nq_1, .inl (cQ_1, 4, .inl (fun _ => 0)))] H := hP
  have hD : va_D A [(h0, .inr (6, [.ref nq_1, .null, .int 0])), (nq_1, .inl (cQ_1, 4, .inl (fun _ => 0)))] := hD
  have hK : va_K D vwCl [(cQ_1, .int)] s := hK
  refine W.cs (cells' := 1) (slots' := 4) rfl rfl ?_
  try dsimp only at h_1
  subst hQ
  refine W.widen (k := 1) (n := 4) (Nat.le_of_ble_eq_true rfl) (Nat.le_of_ble_eq_true rfl) ?_
  have hP9 := hP.sub (ws' := [(h0, .inr (6, [.ref nq_1, .null, .int 0])), (nq_1, .inl (cQ_1, 4, .inl (fun _ => 0)))]) [0, 1] rfl
  have hD9 := hD.sub (ws' := [(h0, .inr (6, [.ref nq_1, .null, .int 0])), (nq_1, .inl (cQ_1, 4, .inl (fun _ => 0)))]) [0, 1] (by decide) rfl
  have hK9 := hK.sub (tys' := [(cQ_1, .int)]) [0] rfl
  exact W.vret hx hb hr (fun t ht hW => ⟨⟨(), rfl, trivial, ⟨nq_1, cQ_1, by rw [ht]; exact hP9, va_K.moved hW.alike hK9, hD9⟩⟩, hS.F ht⟩) hS.2.2 dX10_init_4

theorem dX1_init_0 : decode cX1_init 0 = .ok (.aload_n 0, 1) := by decide +kernel
theorem dX1_init_1 : decode cX1_init 1 = .ok (.invokespecial 3, 3) := by decide +kernel
theorem dX1_init_4 : decode cX1_init 4 = .ok (.return_, 1) := by decide +kernel
theorem kw_101 : (.code yX9_init cX9_init 1 none : Cond) ∈ gw_tbl := gw_in (by decide +kernel) (by decide +kernel)
theorem kw_102 : (.initialized RX9 : Cond) ∈ gw_tbl := gw_in (by decide +kernel) (by decide +kernel)
theorem kw_103 : (.instanceMethod yX9_init : Cond) ∈ gw_tbl := gw_in (by decide +kernel) (by decide +kernel)

set_option maxHeartbeats 4000000 in
set_option maxRecDepth 100000 in
theorem i_X1_1 (l : Launch) (D : va_G) (h0 : Nat) (sz : Nat) : Met l yX1_init (Cond.code yX1_init cX1_init 1 none :: gw_tbl) ({ frames := 3, cells := 1, slots := 4, locals := 52 }) (pc_C D [] [(h0, .inr (1, [.null, .null, .int 0]))] sz [.ref h0]) (va_Qv (fun (u : Unit) => True) (fun _ t => ∃ (nq : Nat), ∃ (cQ : ClassId), va_P D vwCl [(h0, .inr (1, [.ref nq, .null, .int 0])), (nq, .inl (cQ, 4, .inl (fun _ => 0)))] t.heap ∧ va_K D vwCl [(cQ, .int)] t ∧ va_D (va_A [(h0, .inr (1, [.null, .null, .int 0]))] sz) [(h0, .inr (1, [.ref nq, .null, .int 0])), (nq, .inl (cQ, 4, .inl (fun _ => 0)))]) (va_A [(h0, .inr (1, [.null, .null, .int 0]))] sz)) 1 4 (va_A [(h0, .inr (1, [.null, .null, .int 0]))] sz) := by
  refine Met.ofW (cc := cX1_init) (maxL := 1) (ret := none) (by decide) rfl ?_
  intro p e s m args below meth c s₁ B hml hv
  obtain ⟨hargs, hsz, hP, hK, hD0, hN⟩ := hv
  have hx := B.exec
  have hb := B.bytes
  have hr := B.returns
  have hts := atoms_spec (ws := Cond.code yX1_init cX1_init 1 none :: gw_tbl) B.pre
  have hg := fun (w : Cond) (h : w ∈ gw_tbl) => hts w (List.mem_cons_of_mem _ h)
  have hown : s.vm.findClass RX1 = some m.cls := findClass_of_methodNamed B.named
  have hlocks := B.notSynchronized
  have hin : meth.name = "<init>" := (name_of_methodNamed B.named B.method).1
  subst hsz
  have hD := hD0.self (sz := s.heap.size)
  generalize hAe : va_A [(h0, .inr (1, [.null, .null, .int 0]))] s.heap.size = A at hD ⊢
  have hA : ∀ q : Nat, s.heap.size ≤ q → A q := fun q h => by rw [← hAe]; exact Or.inr h
  have hS : va_S A s.heap s.heap [] := va_S.rf
  have hP : va_P D vwCl [(h0, .inr (1, [.null, .null, .int 0]))] s.heap := hP
  have hl := lv_entry ([.ref h0]) (n := 1) (Nat.le_of_ble_eq_true rfl)
  rw [show entryFrame m args 1 = F0 m 0 (lg_sl ([.ref h0]) ++ List.replicate (1 - (lg_sl ([.ref h0])).length) Slot.unset).toArray [] from by rw [hargs]; exact lg_entry_eq ..]
  generalize (lg_sl ([.ref h0]) ++ List.replicate (1 - (lg_sl ([.ref h0])).length) Slot.unset).toArray = ls at hl ⊢
  have hl : lv_has ls 1 [(0, .ref h0)] := hl
  refine W_genQ (fun Q hQ => ?_)
  refine lv_aload_n hx hb dX1_init_0 rfl (lv_at hl 0 rfl) ?_
  have hPc := hP.sub (ws' := [(h0, .inr (1, [.null, .null, .int 0]))]) [0] rfl
  have hKc := hK.sub (tys' := []) [] rfl
  have hDc := hD.sub (ws' := [(h0, .inr (1, [.null, .null, .int 0]))]) [0] (by decide) rfl
  have hFc := va_free (wc := [(h0, .inr (1, [.null, .null, .int 0]))]) hD hS hA [0] rfl
  refine va_callv (va_runIN (As := []) (rest := []) ⟨hx, hb, hml, hown, hg⟩ (i_X9_1 l D h0 _) ⟨va_cnB 0 hg (gw_I kw_101) rfl rfl rfl (hN.1 (RX1, 3, yX9_init) (by decide +kernel)) (hg _ kw_102) (by decide +kernel) ⟨Nat.le_of_ble_eq_true rfl, Nat.le_of_ble_eq_true rfl⟩, rfl, hg _ kw_103⟩ (pr_C hKc hPc hDc hN) rfl rfl hl.1 rfl (lv_room (Nat.le_of_ble_eq_true rfl)) dX1_init_1 ⟨Nat.le_of_ble_eq_true rfl, Nat.le_of_ble_eq_true rfl⟩) hS (fun q _ h => hFc q h) hFc (fun u t H1 locs ht hvm h_1 hB hz1 hk1 hS => ?_)
  obtain ⟨nq_1, cQ_1, hP1, hK1, hD1⟩ := hB
  rw [ht] at hP1
  have hK1 := va_K.moved hvm.symm hK1
  obtain ⟨hP, hD⟩ := va_join (wr := []) (w1 := [(h0, .inr (1, [.ref nq_1, .null, .int 0])), (nq_1, .inl (cQ_1, 4, .inl (fun _ => 0)))]) hP hD [0] [] rfl rfl (by decide) (by decide) hk1 hFc hP1 hD1
  have hK := hK.app hK1
  generalize H1 = H at hP hS ⊢
  have hP : va_P D vwCl [(h0, .inr (1, [.ref nq_1, .null, .int 0])), (nq_1, .inl (cQ_1, 4, .inl (fun _ => 0)))] H := hP
  have hD : va_D A [(h0, .inr (1, [.ref nq_1, .null, .int 0])), (nq_1, .inl (cQ_1, 4, .inl (fun _ => 0)))] := hD
  have hK : va_K D vwCl [(cQ_1, .int)] s := hK
  refine W.cs (cells' := 1) (slots' := 4) rfl rfl ?_
  try dsimp only at h_1
  subst hQ
  refine W.widen (k := 1) (n := 4) (Nat.le_of_ble_eq_true rfl) (Nat.le_of_ble_eq_true rfl) ?_
  have hP9 := hP.sub (ws' := [(h0, .inr (1, [.ref nq_1, .null, .int 0])), (nq_1, .inl (cQ_1, 4, .inl (fun _ => 0)))]) [0, 1] rfl
  have hD9 := hD.sub (ws' := [(h0, .inr (1, [.ref nq_1, .null, .int 0])), (nq_1, .inl (cQ_1, 4, .inl (fun _ => 0)))]) [0, 1] (by decide) rfl
  have hK9 := hK.sub (tys' := [(cQ_1, .int)]) [0] rfl
  exact W.vret hx hb hr (fun t ht hW => ⟨⟨(), rfl, trivial, ⟨nq_1, cQ_1, by rw [ht]; exact hP9, va_K.moved hW.alike hK9, hD9⟩⟩, hS.F ht⟩) hS.2.2 dX1_init_4

theorem dX6_init_0 : decode cX6_init 0 = .ok (.aload_n 0, 1) := by decide +kernel
theorem dX6_init_1 : decode cX6_init 1 = .ok (.invokespecial 3, 3) := by decide +kernel
theorem dX6_init_4 : decode cX6_init 4 = .ok (.return_, 1) := by decide +kernel
theorem kw_104 : (.code yX10_init cX10_init 1 none : Cond) ∈ gw_tbl := gw_in (by decide +kernel) (by decide +kernel)
theorem kw_105 : (.initialized RX10 : Cond) ∈ gw_tbl := gw_in (by decide +kernel) (by decide +kernel)
theorem kw_106 : (.instanceMethod yX10_init : Cond) ∈ gw_tbl := gw_in (by decide +kernel) (by decide +kernel)

set_option maxHeartbeats 4000000 in
set_option maxRecDepth 100000 in
theorem i_X6_6 (l : Launch) (D : va_G) (h0 : Nat) (sz : Nat) : Met l yX6_init (Cond.code yX6_init cX6_init 1 none :: gw_tbl) ({ frames := 3, cells := 1, slots := 4, locals := 52 }) (pc_C D [] [(h0, .inr (6, [.null, .null, .int 0]))] sz [.ref h0]) (va_Qv (fun (u : Unit) => True) (fun _ t => ∃ (nq : Nat), ∃ (cQ : ClassId), va_P D vwCl [(h0, .inr (6, [.ref nq, .null, .int 0])), (nq, .inl (cQ, 4, .inl (fun _ => 0)))] t.heap ∧ va_K D vwCl [(cQ, .int)] t ∧ va_D (va_A [(h0, .inr (6, [.null, .null, .int 0]))] sz) [(h0, .inr (6, [.ref nq, .null, .int 0])), (nq, .inl (cQ, 4, .inl (fun _ => 0)))]) (va_A [(h0, .inr (6, [.null, .null, .int 0]))] sz)) 1 4 (va_A [(h0, .inr (6, [.null, .null, .int 0]))] sz) := by
  refine Met.ofW (cc := cX6_init) (maxL := 1) (ret := none) (by decide) rfl ?_
  intro p e s m args below meth c s₁ B hml hv
  obtain ⟨hargs, hsz, hP, hK, hD0, hN⟩ := hv
  have hx := B.exec
  have hb := B.bytes
  have hr := B.returns
  have hts := atoms_spec (ws := Cond.code yX6_init cX6_init 1 none :: gw_tbl) B.pre
  have hg := fun (w : Cond) (h : w ∈ gw_tbl) => hts w (List.mem_cons_of_mem _ h)
  have hown : s.vm.findClass RX6 = some m.cls := findClass_of_methodNamed B.named
  have hlocks := B.notSynchronized
  have hin : meth.name = "<init>" := (name_of_methodNamed B.named B.method).1
  subst hsz
  have hD := hD0.self (sz := s.heap.size)
  generalize hAe : va_A [(h0, .inr (6, [.null, .null, .int 0]))] s.heap.size = A at hD ⊢
  have hA : ∀ q : Nat, s.heap.size ≤ q → A q := fun q h => by rw [← hAe]; exact Or.inr h
  have hS : va_S A s.heap s.heap [] := va_S.rf
  have hP : va_P D vwCl [(h0, .inr (6, [.null, .null, .int 0]))] s.heap := hP
  have hl := lv_entry ([.ref h0]) (n := 1) (Nat.le_of_ble_eq_true rfl)
  rw [show entryFrame m args 1 = F0 m 0 (lg_sl ([.ref h0]) ++ List.replicate (1 - (lg_sl ([.ref h0])).length) Slot.unset).toArray [] from by rw [hargs]; exact lg_entry_eq ..]
  generalize (lg_sl ([.ref h0]) ++ List.replicate (1 - (lg_sl ([.ref h0])).length) Slot.unset).toArray = ls at hl ⊢
  have hl : lv_has ls 1 [(0, .ref h0)] := hl
  refine W_genQ (fun Q hQ => ?_)
  refine lv_aload_n hx hb dX6_init_0 rfl (lv_at hl 0 rfl) ?_
  have hPc := hP.sub (ws' := [(h0, .inr (6, [.null, .null, .int 0]))]) [0] rfl
  have hKc := hK.sub (tys' := []) [] rfl
  have hDc := hD.sub (ws' := [(h0, .inr (6, [.null, .null, .int 0]))]) [0] (by decide) rfl
  have hFc := va_free (wc := [(h0, .inr (6, [.null, .null, .int 0]))]) hD hS hA [0] rfl
  refine va_callv (va_runIN (As := []) (rest := []) ⟨hx, hb, hml, hown, hg⟩ (i_X10_6 l D h0 _) ⟨va_cnB 0 hg (gw_I kw_104) rfl rfl rfl (hN.1 (RX6, 3, yX10_init) (by decide +kernel)) (hg _ kw_105) (by decide +kernel) ⟨Nat.le_of_ble_eq_true rfl, Nat.le_of_ble_eq_true rfl⟩, rfl, hg _ kw_106⟩ (pr_C hKc hPc hDc hN) rfl rfl hl.1 rfl (lv_room (Nat.le_of_ble_eq_true rfl)) dX6_init_1 ⟨Nat.le_of_ble_eq_true rfl, Nat.le_of_ble_eq_true rfl⟩) hS (fun q _ h => hFc q h) hFc (fun u t H1 locs ht hvm h_1 hB hz1 hk1 hS => ?_)
  obtain ⟨nq_1, cQ_1, hP1, hK1, hD1⟩ := hB
  rw [ht] at hP1
  have hK1 := va_K.moved hvm.symm hK1
  obtain ⟨hP, hD⟩ := va_join (wr := []) (w1 := [(h0, .inr (6, [.ref nq_1, .null, .int 0])), (nq_1, .inl (cQ_1, 4, .inl (fun _ => 0)))]) hP hD [0] [] rfl rfl (by decide) (by decide) hk1 hFc hP1 hD1
  have hK := hK.app hK1
  generalize H1 = H at hP hS ⊢
  have hP : va_P D vwCl [(h0, .inr (6, [.ref nq_1, .null, .int 0])), (nq_1, .inl (cQ_1, 4, .inl (fun _ => 0)))] H := hP
  have hD : va_D A [(h0, .inr (6, [.ref nq_1, .null, .int 0])), (nq_1, .inl (cQ_1, 4, .inl (fun _ => 0)))] := hD
  have hK : va_K D vwCl [(cQ_1, .int)] s := hK
  refine W.cs (cells' := 1) (slots' := 4) rfl rfl ?_
  try dsimp only at h_1
  subst hQ
  refine W.widen (k := 1) (n := 4) (Nat.le_of_ble_eq_true rfl) (Nat.le_of_ble_eq_true rfl) ?_
  have hP9 := hP.sub (ws' := [(h0, .inr (6, [.ref nq_1, .null, .int 0])), (nq_1, .inl (cQ_1, 4, .inl (fun _ => 0)))]) [0, 1] rfl
  have hD9 := hD.sub (ws' := [(h0, .inr (6, [.ref nq_1, .null, .int 0])), (nq_1, .inl (cQ_1, 4, .inl (fun _ => 0)))]) [0, 1] (by decide) rfl
  have hK9 := hK.sub (tys' := [(cQ_1, .int)]) [0] rfl
  exact W.vret hx hb hr (fun t ht hW => ⟨⟨(), rfl, trivial, ⟨nq_1, cQ_1, by rw [ht]; exact hP9, va_K.moved hW.alike hK9, hD9⟩⟩, hS.F ht⟩) hS.2.2 dX6_init_4

theorem dX11_madeOf_0 : decode cX11_madeOf 0 = .ok (.iload_n 0, 1) := by decide +kernel
theorem dX11_madeOf_1 : decode cX11_madeOf 1 = .ok (.tableswitch 63 1 4 #[31, 39, 47, 55], 31) := by decide +kernel
theorem dX11_madeOf_32 : decode cX11_madeOf 32 = .ok (.new 334, 3) := by decide +kernel
theorem dX11_madeOf_35 : decode cX11_madeOf 35 = .ok (.dup, 1) := by decide +kernel
theorem dX11_madeOf_36 : decode cX11_madeOf 36 = .ok (.invokespecial 336, 3) := by decide +kernel
theorem dX11_madeOf_39 : decode cX11_madeOf 39 = .ok (.areturn, 1) := by decide +kernel
theorem dX11_madeOf_40 : decode cX11_madeOf 40 = .ok (.new 337, 3) := by decide +kernel
theorem dX11_madeOf_43 : decode cX11_madeOf 43 = .ok (.dup, 1) := by decide +kernel
theorem dX11_madeOf_44 : decode cX11_madeOf 44 = .ok (.invokespecial 339, 3) := by decide +kernel
theorem dX11_madeOf_47 : decode cX11_madeOf 47 = .ok (.areturn, 1) := by decide +kernel
theorem dX11_madeOf_48 : decode cX11_madeOf 48 = .ok (.new 340, 3) := by decide +kernel
theorem dX11_madeOf_51 : decode cX11_madeOf 51 = .ok (.dup, 1) := by decide +kernel
theorem dX11_madeOf_52 : decode cX11_madeOf 52 = .ok (.invokespecial 342, 3) := by decide +kernel
theorem dX11_madeOf_55 : decode cX11_madeOf 55 = .ok (.areturn, 1) := by decide +kernel
theorem dX11_madeOf_56 : decode cX11_madeOf 56 = .ok (.new 343, 3) := by decide +kernel
theorem dX11_madeOf_59 : decode cX11_madeOf 59 = .ok (.dup, 1) := by decide +kernel
theorem dX11_madeOf_60 : decode cX11_madeOf 60 = .ok (.invokespecial 345, 3) := by decide +kernel
theorem dX11_madeOf_63 : decode cX11_madeOf 63 = .ok (.areturn, 1) := by decide +kernel
theorem dX11_madeOf_64 : decode cX11_madeOf 64 = .ok (.new 30, 3) := by decide +kernel
theorem dX11_madeOf_67 : decode cX11_madeOf 67 = .ok (.dup, 1) := by decide +kernel
theorem dX11_madeOf_68 : decode cX11_madeOf 68 = .ok (.invokespecial 346, 3) := by decide +kernel
theorem dX11_madeOf_71 : decode cX11_madeOf 71 = .ok (.areturn, 1) := by decide +kernel
theorem kw_107 : (.classLink RX11 30 RX3 : Cond) ∈ gw_tbl := gw_in (by decide +kernel) (by decide +kernel)
theorem kw_108 : (.instantiable RX3 3 : Cond) ∈ gw_tbl := gw_in (by decide +kernel) (by decide +kernel)

set_option maxHeartbeats 4000000 in
set_option maxRecDepth 100000 in
theorem x_madeOf_0 (l : Launch) (D : va_G) (sz : Nat) : Met l yX11_madeOf (Cond.code yX11_madeOf cX11_madeOf 1 (some (.object "NobodyChecks$Pay")) :: gw_tbl) ({ frames := 2, cells := 2, slots := 7, locals := 32 }) (pc_C D [] [] sz [.int 0]) (va_Qr (fun (u : Unit) => True) (fun _ ra t => ∃ (nq : Nat), ∃ (cQ : ClassId), va_P D vwCl [(ra, .inr (3, [.ref nq, .null, .int 0])), (nq, .inl (cQ, 4, .inl (fun _ => 0)))] t.heap ∧ va_K D vwCl [(cQ, .int)] t ∧ va_D (va_A [] sz) [(ra, .inr (3, [.ref nq, .null, .int 0])), (nq, .inl (cQ, 4, .inl (fun _ => 0)))]) (va_A [] sz)) 2 7 (va_A [] sz) := by
  refine Met.ofW (cc := cX11_madeOf) (maxL := 1) (ret := (some (.object "NobodyChecks$Pay"))) (by decide) rfl ?_
  intro p e s m args below meth c s₁ B hml hv
  obtain ⟨hargs, hsz, hP, hK, hD0, hN⟩ := hv
  have hx := B.exec
  have hb := B.bytes
  have hr := B.returns
  have hts := atoms_spec (ws := Cond.code yX11_madeOf cX11_madeOf 1 (some (.object "NobodyChecks$Pay")) :: gw_tbl) B.pre
  have hg := fun (w : Cond) (h : w ∈ gw_tbl) => hts w (List.mem_cons_of_mem _ h)
  have hown : s.vm.findClass RX11 = some m.cls := findClass_of_methodNamed B.named
  have hlocks := B.notSynchronized
  subst hsz
  have hD := hD0.self (sz := s.heap.size)
  generalize hAe : va_A [] s.heap.size = A at hD ⊢
  have hA : ∀ q : Nat, s.heap.size ≤ q → A q := fun q h => by rw [← hAe]; exact Or.inr h
  have hS : va_S A s.heap s.heap [] := va_S.rf
  have hP : va_P D vwCl [] s.heap := hP
  have hl := lv_entry ([.int 0]) (n := 1) (Nat.le_of_ble_eq_true rfl)
  rw [show entryFrame m args 1 = F0 m 0 (lg_sl ([.int 0]) ++ List.replicate (1 - (lg_sl ([.int 0])).length) Slot.unset).toArray [] from by rw [hargs]; exact lg_entry_eq ..]
  generalize (lg_sl ([.int 0]) ++ List.replicate (1 - (lg_sl ([.int 0])).length) Slot.unset).toArray = ls at hl ⊢
  have hl : lv_has ls 1 [(0, .int 0)] := hl
  refine W_genQ (fun Q hQ => ?_)
  refine lv_iload_n hx hb dX11_madeOf_0 rfl (lv_at hl 0 rfl) ?_
  refine lv_tableOut (tgt := 64) hx hb dX11_madeOf_1 (by decide) (by decide) ?_
  refine va_new (ci := 3) (fs := [.null, .null, .int 0]) (C := RX3) (T := TX3) (N := 3) hx hb hg gwX3 tyX3 tyX3_ok hown (hg _ kw_107) (hg _ kw_108) (hg _ kw_99) hK hP hD hS hA rfl (by decide +kernel) (Nat.le_of_ble_eq_true rfl) (Nat.le_of_ble_eq_true rfl) dX11_madeOf_64 (fun q_64 H hP hD hS => ?_)
  have hP : va_P D vwCl [(q_64, .inr (3, [.null, .null, .int 0]))] H := hP
  have hD : va_D A [(q_64, .inr (3, [.null, .null, .int 0]))] := hD
  refine W.cs (cells' := 1) (slots' := 3) rfl rfl ?_
  refine lv_dup hx hb dX11_madeOf_67 rfl ?_
  have hPc := hP.sub (ws' := [(q_64, .inr (3, [.null, .null, .int 0]))]) [0] rfl
  have hKc := hK.sub (tys' := []) [] rfl
  have hDc := hD.sub (ws' := [(q_64, .inr (3, [.null, .null, .int 0]))]) [0] (by decide) rfl
  have hFc := va_free (wc := [(q_64, .inr (3, [.null, .null, .int 0]))]) hD hS hA [0] rfl
  refine va_callv (va_runIN (As := []) (rest := [.ref q_64]) ⟨hx, hb, hml, hown, hg⟩ (i_X3_3 l D q_64 _) ⟨va_cnB 0 hg (gw_I kw_98) rfl rfl rfl (hN.1 (RX11, 346, yX3_init) (by decide +kernel)) (hg _ kw_99) (by decide +kernel) ⟨Nat.le_of_ble_eq_true rfl, Nat.le_of_ble_eq_true rfl⟩, rfl, hg _ kw_100⟩ (pr_C hKc hPc hDc hN) rfl rfl hl.1 rfl (lv_room (Nat.le_of_ble_eq_true rfl)) dX11_madeOf_68 ⟨Nat.le_of_ble_eq_true rfl, Nat.le_of_ble_eq_true rfl⟩) hS (fun q _ h => hFc q h) hFc (fun u t H1 locs ht hvm h_68 hB hz1 hk1 hS => ?_)
  obtain ⟨nq_68, cQ_68, hP1, hK1, hD1⟩ := hB
  rw [ht] at hP1
  have hK1 := va_K.moved hvm.symm hK1
  obtain ⟨hP, hD⟩ := va_join (wr := []) (w1 := [(q_64, .inr (3, [.ref nq_68, .null, .int 0])), (nq_68, .inl (cQ_68, 4, .inl (fun _ => 0)))]) hP hD [0] [] rfl rfl (by decide) (by decide) hk1 hFc hP1 hD1
  have hK := hK.app hK1
  generalize H1 = H at hP hS ⊢
  have hP : va_P D vwCl [(q_64, .inr (3, [.ref nq_68, .null, .int 0])), (nq_68, .inl (cQ_68, 4, .inl (fun _ => 0)))] H := hP
  have hD : va_D A [(q_64, .inr (3, [.ref nq_68, .null, .int 0])), (nq_68, .inl (cQ_68, 4, .inl (fun _ => 0)))] := hD
  have hK : va_K D vwCl [(cQ_68, .int)] s := hK
  refine W.cs (cells' := 2) (slots' := 7) rfl rfl ?_
  try dsimp only at h_68
  subst hQ
  refine W.widen (k := 2) (n := 7) (Nat.le_of_ble_eq_true rfl) (Nat.le_of_ble_eq_true rfl) ?_
  have hP9 := hP.sub (ws' := [(q_64, .inr (3, [.ref nq_68, .null, .int 0])), (nq_68, .inl (cQ_68, 4, .inl (fun _ => 0)))]) [0, 1] rfl
  have hD9 := hD.sub (ws' := [(q_64, .inr (3, [.ref nq_68, .null, .int 0])), (nq_68, .inl (cQ_68, 4, .inl (fun _ => 0)))]) [0, 1] (by decide) rfl
  have hK9 := hK.sub (tys' := [(cQ_68, .int)]) [0] rfl
  exact W.aret (v := .ref q_64) hx hb hr (Or.inl ⟨_, rfl⟩) (Or.inr ⟨_, rfl⟩) (fun t ht hW => ⟨⟨(), q_64, rfl, trivial, ⟨nq_68, cQ_68, by rw [ht]; exact hP9, va_K.moved hW.alike hK9, hD9⟩⟩, hS.F ht⟩) hS.2.2 dX11_madeOf_71

theorem dX3_become_0 : decode cX3_become 0 = .ok (.aload_n 0, 1) := by decide +kernel
theorem dX3_become_1 : decode cX3_become 1 = .ok (.getfield 9, 3) := by decide +kernel
theorem dX3_become_4 : decode cX3_become 4 = .ok (.iconst 0, 1) := by decide +kernel
theorem dX3_become_5 : decode cX3_become 5 = .ok (.iload_n 1, 1) := by decide +kernel
theorem dX3_become_6 : decode cX3_become 6 = .ok (.iastore, 1) := by decide +kernel
theorem dX3_become_7 : decode cX3_become 7 = .ok (.aload_n 0, 1) := by decide +kernel
theorem dX3_become_8 : decode cX3_become 8 = .ok (.getfield 9, 3) := by decide +kernel
theorem dX3_become_11 : decode cX3_become 11 = .ok (.iconst 1, 1) := by decide +kernel
theorem dX3_become_12 : decode cX3_become 12 = .ok (.iload_n 2, 1) := by decide +kernel
theorem dX3_become_13 : decode cX3_become 13 = .ok (.iastore, 1) := by decide +kernel
theorem dX3_become_14 : decode cX3_become 14 = .ok (.aload_n 0, 1) := by decide +kernel
theorem dX3_become_15 : decode cX3_become 15 = .ok (.getfield 9, 3) := by decide +kernel
theorem dX3_become_18 : decode cX3_become 18 = .ok (.iconst 2, 1) := by decide +kernel
theorem dX3_become_19 : decode cX3_become 19 = .ok (.iload_n 3, 1) := by decide +kernel
theorem dX3_become_20 : decode cX3_become 20 = .ok (.iastore, 1) := by decide +kernel
theorem dX3_become_21 : decode cX3_become 21 = .ok (.aload_n 0, 1) := by decide +kernel
theorem dX3_become_22 : decode cX3_become 22 = .ok (.getfield 9, 3) := by decide +kernel
theorem dX3_become_25 : decode cX3_become 25 = .ok (.iconst 3, 1) := by decide +kernel
theorem dX3_become_26 : decode cX3_become 26 = .ok (.iload 4, 2) := by decide +kernel
theorem dX3_become_28 : decode cX3_become 28 = .ok (.iastore, 1) := by decide +kernel
theorem dX3_become_29 : decode cX3_become 29 = .ok (.return_, 1) := by decide +kernel

set_option maxHeartbeats 4000000 in
set_option maxRecDepth 100000 in
theorem p_become_3 (l : Launch) (D : va_G) (h0 : Nat) (nq : Nat) (cQ : ClassId) (nf : Nat → Int32) (p1 : Int32) (p2 : Int32) (p3 : Int32) (p4 : Int32) (sz : Nat) : Met l yX3_become (Cond.code yX3_become cX3_become 5 none :: gw_tbl) ({ frames := 0, cells := 0, slots := 0, locals := 0 }) (pc_M D [(cQ, .int)] [(h0, .inr (3, [.ref nq, .null, .int 0])), (nq, .inl (cQ, 4, .inl nf))] sz [.ref h0, .int p1, .int p2, .int p3, .int p4]) (va_Qv (fun (u : Unit) => True) (fun _ t => ∃ (nf2 : Nat → Int32), va_P D vwCl [(h0, .inr (3, [.ref nq, .null, .int 0])), (nq, .inl (cQ, 4, .inl nf2))] t.heap ∧ va_K D vwCl [] t ∧ va_D (va_A [(h0, .inr (3, [.ref nq, .null, .int 0])), (nq, .inl (cQ, 4, .inl nf))] sz) [(h0, .inr (3, [.ref nq, .null, .int 0])), (nq, .inl (cQ, 4, .inl nf2))]) (va_A [(h0, .inr (3, [.ref nq, .null, .int 0])), (nq, .inl (cQ, 4, .inl nf))] sz)) 0 0 (va_A [(h0, .inr (3, [.ref nq, .null, .int 0])), (nq, .inl (cQ, 4, .inl nf))] sz) := by
  refine Met.ofW (cc := cX3_become) (maxL := 5) (ret := none) (by decide) rfl ?_
  intro p e s m args below meth c s₁ B hml hv
  obtain ⟨hargs, hsz, hP, hK, hD0⟩ := hv
  have hx := B.exec
  have hb := B.bytes
  have hr := B.returns
  have hts := atoms_spec (ws := Cond.code yX3_become cX3_become 5 none :: gw_tbl) B.pre
  have hg := fun (w : Cond) (h : w ∈ gw_tbl) => hts w (List.mem_cons_of_mem _ h)
  have hown : s.vm.findClass RX3 = some m.cls := findClass_of_methodNamed B.named
  have hlocks := B.notSynchronized
  subst hsz
  have hD := hD0.self (sz := s.heap.size)
  generalize hAe : va_A [(h0, .inr (3, [.ref nq, .null, .int 0])), (nq, .inl (cQ, 4, .inl nf))] s.heap.size = A at hD ⊢
  have hA : ∀ q : Nat, s.heap.size ≤ q → A q := fun q h => by rw [← hAe]; exact Or.inr h
  have hS : va_S A s.heap s.heap [] := va_S.rf
  have hP : va_P D vwCl [(h0, .inr (3, [.ref nq, .null, .int 0])), (nq, .inl (cQ, 4, .inl nf))] s.heap := hP
  have hl := lv_entry ([.ref h0, .int p1, .int p2, .int p3, .int p4]) (n := 5) (Nat.le_of_ble_eq_true rfl)
  rw [show entryFrame m args 5 = F0 m 0 (lg_sl ([.ref h0, .int p1, .int p2, .int p3, .int p4]) ++ List.replicate (5 - (lg_sl ([.ref h0, .int p1, .int p2, .int p3, .int p4])).length) Slot.unset).toArray [] from by rw [hargs]; exact lg_entry_eq ..]
  generalize (lg_sl ([.ref h0, .int p1, .int p2, .int p3, .int p4]) ++ List.replicate (5 - (lg_sl ([.ref h0, .int p1, .int p2, .int p3, .int p4])).length) Slot.unset).toArray = ls at hl ⊢
  have hl : lv_has ls 5 [(0, .ref h0), (1, .int p1), (2, .int p2), (3, .int p3), (4, .int p4)] := hl
  refine W_genQ (fun Q hQ => ?_)
  refine lv_aload_n hx hb dX3_become_0 rfl (lv_at hl 0 rfl) ?_
  refine va_get (D := D) (ci := 3) (v := .ref nq) (C := RX3) (T := TX3) (N := 3) hx hb hg gwX3 hown hK hP 0 rfl rfl 0 (by decide) (hg _ kw_97) (fun _ h9 => h9) rfl dX3_become_1 ?_
  refine lv_iconst (v := 0) hx hb dX3_become_4 (by decide) ?_
  refine lv_iload_n hx hb dX3_become_5 rfl (lv_at hl 1 rfl) ?_
  refine va_iast hx hb hK hP hD hS 1 0 rfl rfl (show ¬ ((0 : Int32) < 0 ∨ 4 ≤ (0 : Int32).toNatClampNeg) by decide) dX3_become_6 (fun H locs hP hD hS => ?_)
  generalize (upd nf (0 : Int32).toNatClampNeg p1) = f_6 at hP hD
  have hP : va_P D vwCl [(h0, .inr (3, [.ref nq, .null, .int 0])), (nq, .inl (cQ, 4, .inl f_6))] H := hP
  have hD : va_D A [(h0, .inr (3, [.ref nq, .null, .int 0])), (nq, .inl (cQ, 4, .inl f_6))] := hD
  refine lv_aload_n hx hb dX3_become_7 rfl (lv_at hl 0 rfl) ?_
  refine va_get (D := D) (ci := 3) (v := .ref nq) (C := RX3) (T := TX3) (N := 3) hx hb hg gwX3 hown hK hP 0 rfl rfl 0 (by decide) (hg _ kw_97) (fun _ h9 => h9) rfl dX3_become_8 ?_
  refine lv_iconst (v := 1) hx hb dX3_become_11 (by decide) ?_
  refine lv_iload_n hx hb dX3_become_12 rfl (lv_at hl 2 rfl) ?_
  refine va_iast hx hb hK hP hD hS 1 0 rfl rfl (show ¬ ((1 : Int32) < 0 ∨ 4 ≤ (1 : Int32).toNatClampNeg) by decide) dX3_become_13 (fun H locs hP hD hS => ?_)
  generalize (upd f_6 (1 : Int32).toNatClampNeg p2) = f_13 at hP hD
  have hP : va_P D vwCl [(h0, .inr (3, [.ref nq, .null, .int 0])), (nq, .inl (cQ, 4, .inl f_13))] H := hP
  have hD : va_D A [(h0, .inr (3, [.ref nq, .null, .int 0])), (nq, .inl (cQ, 4, .inl f_13))] := hD
  refine lv_aload_n hx hb dX3_become_14 rfl (lv_at hl 0 rfl) ?_
  refine va_get (D := D) (ci := 3) (v := .ref nq) (C := RX3) (T := TX3) (N := 3) hx hb hg gwX3 hown hK hP 0 rfl rfl 0 (by decide) (hg _ kw_97) (fun _ h9 => h9) rfl dX3_become_15 ?_
  refine lv_iconst (v := 2) hx hb dX3_become_18 (by decide) ?_
  refine lv_iload_n hx hb dX3_become_19 rfl (lv_at hl 3 rfl) ?_
  refine va_iast hx hb hK hP hD hS 1 0 rfl rfl (show ¬ ((2 : Int32) < 0 ∨ 4 ≤ (2 : Int32).toNatClampNeg) by decide) dX3_become_20 (fun H locs hP hD hS => ?_)
  generalize (upd f_13 (2 : Int32).toNatClampNeg p3) = f_20 at hP hD
  have hP : va_P D vwCl [(h0, .inr (3, [.ref nq, .null, .int 0])), (nq, .inl (cQ, 4, .inl f_20))] H := hP
  have hD : va_D A [(h0, .inr (3, [.ref nq, .null, .int 0])), (nq, .inl (cQ, 4, .inl f_20))] := hD
  refine lv_aload_n hx hb dX3_become_21 rfl (lv_at hl 0 rfl) ?_
  refine va_get (D := D) (ci := 3) (v := .ref nq) (C := RX3) (T := TX3) (N := 3) hx hb hg gwX3 hown hK hP 0 rfl rfl 0 (by decide) (hg _ kw_97) (fun _ h9 => h9) rfl dX3_become_22 ?_
  refine lv_iconst (v := 3) hx hb dX3_become_25 (by decide) ?_
  refine lv_iload hx hb dX3_become_26 (lv_at hl 4 rfl) ?_
  refine va_iast hx hb hK hP hD hS 1 0 rfl rfl (show ¬ ((3 : Int32) < 0 ∨ 4 ≤ (3 : Int32).toNatClampNeg) by decide) dX3_become_28 (fun H locs hP hD hS => ?_)
  generalize (upd f_20 (3 : Int32).toNatClampNeg p4) = f_28 at hP hD
  have hP : va_P D vwCl [(h0, .inr (3, [.ref nq, .null, .int 0])), (nq, .inl (cQ, 4, .inl f_28))] H := hP
  have hD : va_D A [(h0, .inr (3, [.ref nq, .null, .int 0])), (nq, .inl (cQ, 4, .inl f_28))] := hD
  subst hQ
  refine W.widen (k := 0) (n := 0) (Nat.le_of_ble_eq_true rfl) (Nat.le_of_ble_eq_true rfl) ?_
  have hP9 := hP.sub (ws' := [(h0, .inr (3, [.ref nq, .null, .int 0])), (nq, .inl (cQ, 4, .inl f_28))]) [0, 1] rfl
  have hD9 := hD.sub (ws' := [(h0, .inr (3, [.ref nq, .null, .int 0])), (nq, .inl (cQ, 4, .inl f_28))]) [0, 1] (by decide) rfl
  have hK9 := hK.sub (tys' := []) [] rfl
  exact W.vret hx hb hr (fun t ht hW => ⟨⟨(), rfl, trivial, ⟨f_28, by rw [ht]; exact hP9, va_K.moved hW.alike hK9, hD9⟩⟩, hS.F ht⟩) hS.2.2 dX3_become_29

theorem kw_109 : (.classLink RX11 334 RX9 : Cond) ∈ gw_tbl := gw_in (by decide +kernel) (by decide +kernel)
theorem kw_110 : (.instantiable RX9 3 : Cond) ∈ gw_tbl := gw_in (by decide +kernel) (by decide +kernel)

set_option maxHeartbeats 4000000 in
set_option maxRecDepth 100000 in
theorem x_madeOf_1 (l : Launch) (D : va_G) (sz : Nat) : Met l yX11_madeOf (Cond.code yX11_madeOf cX11_madeOf 1 (some (.object "NobodyChecks$Pay")) :: gw_tbl) ({ frames := 3, cells := 2, slots := 7, locals := 52 }) (pc_C D [] [] sz [.int 1]) (va_Qr (fun (u : Unit) => True) (fun _ ra t => ∃ (nq : Nat), ∃ (cQ : ClassId), va_P D vwCl [(ra, .inr (9, [.ref nq, .null, .int 0])), (nq, .inl (cQ, 4, .inl (fun _ => 0)))] t.heap ∧ va_K D vwCl [(cQ, .int)] t ∧ va_D (va_A [] sz) [(ra, .inr (9, [.ref nq, .null, .int 0])), (nq, .inl (cQ, 4, .inl (fun _ => 0)))]) (va_A [] sz)) 2 7 (va_A [] sz) := by
  refine Met.ofW (cc := cX11_madeOf) (maxL := 1) (ret := (some (.object "NobodyChecks$Pay"))) (by decide) rfl ?_
  intro p e s m args below meth c s₁ B hml hv
  obtain ⟨hargs, hsz, hP, hK, hD0, hN⟩ := hv
  have hx := B.exec
  have hb := B.bytes
  have hr := B.returns
  have hts := atoms_spec (ws := Cond.code yX11_madeOf cX11_madeOf 1 (some (.object "NobodyChecks$Pay")) :: gw_tbl) B.pre
  have hg := fun (w : Cond) (h : w ∈ gw_tbl) => hts w (List.mem_cons_of_mem _ h)
  have hown : s.vm.findClass RX11 = some m.cls := findClass_of_methodNamed B.named
  have hlocks := B.notSynchronized
  subst hsz
  have hD := hD0.self (sz := s.heap.size)
  generalize hAe : va_A [] s.heap.size = A at hD ⊢
  have hA : ∀ q : Nat, s.heap.size ≤ q → A q := fun q h => by rw [← hAe]; exact Or.inr h
  have hS : va_S A s.heap s.heap [] := va_S.rf
  have hP : va_P D vwCl [] s.heap := hP
  have hl := lv_entry ([.int 1]) (n := 1) (Nat.le_of_ble_eq_true rfl)
  rw [show entryFrame m args 1 = F0 m 0 (lg_sl ([.int 1]) ++ List.replicate (1 - (lg_sl ([.int 1])).length) Slot.unset).toArray [] from by rw [hargs]; exact lg_entry_eq ..]
  generalize (lg_sl ([.int 1]) ++ List.replicate (1 - (lg_sl ([.int 1])).length) Slot.unset).toArray = ls at hl ⊢
  have hl : lv_has ls 1 [(0, .int 1)] := hl
  refine W_genQ (fun Q hQ => ?_)
  refine lv_iload_n hx hb dX11_madeOf_0 rfl (lv_at hl 0 rfl) ?_
  refine lv_tableIn (tgt := 32) hx hb dX11_madeOf_1 (by decide) (by decide) rfl (by decide) ?_
  refine va_new (ci := 9) (fs := [.null, .null, .int 0]) (C := RX9) (T := TX9) (N := 3) hx hb hg gwX9 tyX9 tyX9_ok hown (hg _ kw_109) (hg _ kw_110) (hg _ kw_102) hK hP hD hS hA rfl (by decide +kernel) (Nat.le_of_ble_eq_true rfl) (Nat.le_of_ble_eq_true rfl) dX11_madeOf_32 (fun q_32 H hP hD hS => ?_)
  have hP : va_P D vwCl [(q_32, .inr (9, [.null, .null, .int 0]))] H := hP
  have hD : va_D A [(q_32, .inr (9, [.null, .null, .int 0]))] := hD
  refine W.cs (cells' := 1) (slots' := 3) rfl rfl ?_
  refine lv_dup hx hb dX11_madeOf_35 rfl ?_
  have hPc := hP.sub (ws' := [(q_32, .inr (9, [.null, .null, .int 0]))]) [0] rfl
  have hKc := hK.sub (tys' := []) [] rfl
  have hDc := hD.sub (ws' := [(q_32, .inr (9, [.null, .null, .int 0]))]) [0] (by decide) rfl
  have hFc := va_free (wc := [(q_32, .inr (9, [.null, .null, .int 0]))]) hD hS hA [0] rfl
  refine va_callv (va_runIN (As := []) (rest := [.ref q_32]) ⟨hx, hb, hml, hown, hg⟩ (i_X9_9 l D q_32 _) ⟨va_cnB 0 hg (gw_I kw_101) rfl rfl rfl (hN.1 (RX11, 336, yX9_init) (by decide +kernel)) (hg _ kw_102) (by decide +kernel) ⟨Nat.le_of_ble_eq_true rfl, Nat.le_of_ble_eq_true rfl⟩, rfl, hg _ kw_103⟩ (pr_C hKc hPc hDc hN) rfl rfl hl.1 rfl (lv_room (Nat.le_of_ble_eq_true rfl)) dX11_madeOf_36 ⟨Nat.le_of_ble_eq_true rfl, Nat.le_of_ble_eq_true rfl⟩) hS (fun q _ h => hFc q h) hFc (fun u t H1 locs ht hvm h_36 hB hz1 hk1 hS => ?_)
  obtain ⟨nq_36, cQ_36, hP1, hK1, hD1⟩ := hB
  rw [ht] at hP1
  have hK1 := va_K.moved hvm.symm hK1
  obtain ⟨hP, hD⟩ := va_join (wr := []) (w1 := [(q_32, .inr (9, [.ref nq_36, .null, .int 0])), (nq_36, .inl (cQ_36, 4, .inl (fun _ => 0)))]) hP hD [0] [] rfl rfl (by decide) (by decide) hk1 hFc hP1 hD1
  have hK := hK.app hK1
  generalize H1 = H at hP hS ⊢
  have hP : va_P D vwCl [(q_32, .inr (9, [.ref nq_36, .null, .int 0])), (nq_36, .inl (cQ_36, 4, .inl (fun _ => 0)))] H := hP
  have hD : va_D A [(q_32, .inr (9, [.ref nq_36, .null, .int 0])), (nq_36, .inl (cQ_36, 4, .inl (fun _ => 0)))] := hD
  have hK : va_K D vwCl [(cQ_36, .int)] s := hK
  refine W.cs (cells' := 2) (slots' := 7) rfl rfl ?_
  try dsimp only at h_36
  subst hQ
  refine W.widen (k := 2) (n := 7) (Nat.le_of_ble_eq_true rfl) (Nat.le_of_ble_eq_true rfl) ?_
  have hP9 := hP.sub (ws' := [(q_32, .inr (9, [.ref nq_36, .null, .int 0])), (nq_36, .inl (cQ_36, 4, .inl (fun _ => 0)))]) [0, 1] rfl
  have hD9 := hD.sub (ws' := [(q_32, .inr (9, [.ref nq_36, .null, .int 0])), (nq_36, .inl (cQ_36, 4, .inl (fun _ => 0)))]) [0, 1] (by decide) rfl
  have hK9 := hK.sub (tys' := [(cQ_36, .int)]) [0] rfl
  exact W.aret (v := .ref q_32) hx hb hr (Or.inl ⟨_, rfl⟩) (Or.inr ⟨_, rfl⟩) (fun t ht hW => ⟨⟨(), q_32, rfl, trivial, ⟨nq_36, cQ_36, by rw [ht]; exact hP9, va_K.moved hW.alike hK9, hD9⟩⟩, hS.F ht⟩) hS.2.2 dX11_madeOf_39

set_option maxHeartbeats 4000000 in
set_option maxRecDepth 100000 in
theorem p_become_9 (l : Launch) (D : va_G) (h0 : Nat) (nq : Nat) (cQ : ClassId) (nf : Nat → Int32) (p1 : Int32) (p2 : Int32) (p3 : Int32) (p4 : Int32) (sz : Nat) : Met l yX3_become (Cond.code yX3_become cX3_become 5 none :: gw_tbl) ({ frames := 0, cells := 0, slots := 0, locals := 0 }) (pc_M D [(cQ, .int)] [(h0, .inr (9, [.ref nq, .null, .int 0])), (nq, .inl (cQ, 4, .inl nf))] sz [.ref h0, .int p1, .int p2, .int p3, .int p4]) (va_Qv (fun (u : Unit) => True) (fun _ t => ∃ (nf2 : Nat → Int32), va_P D vwCl [(h0, .inr (9, [.ref nq, .null, .int 0])), (nq, .inl (cQ, 4, .inl nf2))] t.heap ∧ va_K D vwCl [] t ∧ va_D (va_A [(h0, .inr (9, [.ref nq, .null, .int 0])), (nq, .inl (cQ, 4, .inl nf))] sz) [(h0, .inr (9, [.ref nq, .null, .int 0])), (nq, .inl (cQ, 4, .inl nf2))]) (va_A [(h0, .inr (9, [.ref nq, .null, .int 0])), (nq, .inl (cQ, 4, .inl nf))] sz)) 0 0 (va_A [(h0, .inr (9, [.ref nq, .null, .int 0])), (nq, .inl (cQ, 4, .inl nf))] sz) := by
  refine Met.ofW (cc := cX3_become) (maxL := 5) (ret := none) (by decide) rfl ?_
  intro p e s m args below meth c s₁ B hml hv
  obtain ⟨hargs, hsz, hP, hK, hD0⟩ := hv
  have hx := B.exec
  have hb := B.bytes
  have hr := B.returns
  have hts := atoms_spec (ws := Cond.code yX3_become cX3_become 5 none :: gw_tbl) B.pre
  have hg := fun (w : Cond) (h : w ∈ gw_tbl) => hts w (List.mem_cons_of_mem _ h)
  have hown : s.vm.findClass RX3 = some m.cls := findClass_of_methodNamed B.named
  have hlocks := B.notSynchronized
  subst hsz
  have hD := hD0.self (sz := s.heap.size)
  generalize hAe : va_A [(h0, .inr (9, [.ref nq, .null, .int 0])), (nq, .inl (cQ, 4, .inl nf))] s.heap.size = A at hD ⊢
  have hA : ∀ q : Nat, s.heap.size ≤ q → A q := fun q h => by rw [← hAe]; exact Or.inr h
  have hS : va_S A s.heap s.heap [] := va_S.rf
  have hP : va_P D vwCl [(h0, .inr (9, [.ref nq, .null, .int 0])), (nq, .inl (cQ, 4, .inl nf))] s.heap := hP
  have hl := lv_entry ([.ref h0, .int p1, .int p2, .int p3, .int p4]) (n := 5) (Nat.le_of_ble_eq_true rfl)
  rw [show entryFrame m args 5 = F0 m 0 (lg_sl ([.ref h0, .int p1, .int p2, .int p3, .int p4]) ++ List.replicate (5 - (lg_sl ([.ref h0, .int p1, .int p2, .int p3, .int p4])).length) Slot.unset).toArray [] from by rw [hargs]; exact lg_entry_eq ..]
  generalize (lg_sl ([.ref h0, .int p1, .int p2, .int p3, .int p4]) ++ List.replicate (5 - (lg_sl ([.ref h0, .int p1, .int p2, .int p3, .int p4])).length) Slot.unset).toArray = ls at hl ⊢
  have hl : lv_has ls 5 [(0, .ref h0), (1, .int p1), (2, .int p2), (3, .int p3), (4, .int p4)] := hl
  refine W_genQ (fun Q hQ => ?_)
  refine lv_aload_n hx hb dX3_become_0 rfl (lv_at hl 0 rfl) ?_
  refine va_get (D := D) (ci := 9) (v := .ref nq) (C := RX9) (T := TX9) (N := 3) hx hb hg gwX9 hown hK hP 0 rfl rfl 0 (by decide) (hg _ kw_97) (fun _ h9 => h9) rfl dX3_become_1 ?_
  refine lv_iconst (v := 0) hx hb dX3_become_4 (by decide) ?_
  refine lv_iload_n hx hb dX3_become_5 rfl (lv_at hl 1 rfl) ?_
  refine va_iast hx hb hK hP hD hS 1 0 rfl rfl (show ¬ ((0 : Int32) < 0 ∨ 4 ≤ (0 : Int32).toNatClampNeg) by decide) dX3_become_6 (fun H locs hP hD hS => ?_)
  generalize (upd nf (0 : Int32).toNatClampNeg p1) = f_6 at hP hD
  have hP : va_P D vwCl [(h0, .inr (9, [.ref nq, .null, .int 0])), (nq, .inl (cQ, 4, .inl f_6))] H := hP
  have hD : va_D A [(h0, .inr (9, [.ref nq, .null, .int 0])), (nq, .inl (cQ, 4, .inl f_6))] := hD
  refine lv_aload_n hx hb dX3_become_7 rfl (lv_at hl 0 rfl) ?_
  refine va_get (D := D) (ci := 9) (v := .ref nq) (C := RX9) (T := TX9) (N := 3) hx hb hg gwX9 hown hK hP 0 rfl rfl 0 (by decide) (hg _ kw_97) (fun _ h9 => h9) rfl dX3_become_8 ?_
  refine lv_iconst (v := 1) hx hb dX3_become_11 (by decide) ?_
  refine lv_iload_n hx hb dX3_become_12 rfl (lv_at hl 2 rfl) ?_
  refine va_iast hx hb hK hP hD hS 1 0 rfl rfl (show ¬ ((1 : Int32) < 0 ∨ 4 ≤ (1 : Int32).toNatClampNeg) by decide) dX3_become_13 (fun H locs hP hD hS => ?_)
  generalize (upd f_6 (1 : Int32).toNatClampNeg p2) = f_13 at hP hD
  have hP : va_P D vwCl [(h0, .inr (9, [.ref nq, .null, .int 0])), (nq, .inl (cQ, 4, .inl f_13))] H := hP
  have hD : va_D A [(h0, .inr (9, [.ref nq, .null, .int 0])), (nq, .inl (cQ, 4, .inl f_13))] := hD
  refine lv_aload_n hx hb dX3_become_14 rfl (lv_at hl 0 rfl) ?_
  refine va_get (D := D) (ci := 9) (v := .ref nq) (C := RX9) (T := TX9) (N := 3) hx hb hg gwX9 hown hK hP 0 rfl rfl 0 (by decide) (hg _ kw_97) (fun _ h9 => h9) rfl dX3_become_15 ?_
  refine lv_iconst (v := 2) hx hb dX3_become_18 (by decide) ?_
  refine lv_iload_n hx hb dX3_become_19 rfl (lv_at hl 3 rfl) ?_
  refine va_iast hx hb hK hP hD hS 1 0 rfl rfl (show ¬ ((2 : Int32) < 0 ∨ 4 ≤ (2 : Int32).toNatClampNeg) by decide) dX3_become_20 (fun H locs hP hD hS => ?_)
  generalize (upd f_13 (2 : Int32).toNatClampNeg p3) = f_20 at hP hD
  have hP : va_P D vwCl [(h0, .inr (9, [.ref nq, .null, .int 0])), (nq, .inl (cQ, 4, .inl f_20))] H := hP
  have hD : va_D A [(h0, .inr (9, [.ref nq, .null, .int 0])), (nq, .inl (cQ, 4, .inl f_20))] := hD
  refine lv_aload_n hx hb dX3_become_21 rfl (lv_at hl 0 rfl) ?_
  refine va_get (D := D) (ci := 9) (v := .ref nq) (C := RX9) (T := TX9) (N := 3) hx hb hg gwX9 hown hK hP 0 rfl rfl 0 (by decide) (hg _ kw_97) (fun _ h9 => h9) rfl dX3_become_22 ?_
  refine lv_iconst (v := 3) hx hb dX3_become_25 (by decide) ?_
  refine lv_iload hx hb dX3_become_26 (lv_at hl 4 rfl) ?_
  refine va_iast hx hb hK hP hD hS 1 0 rfl rfl (show ¬ ((3 : Int32) < 0 ∨ 4 ≤ (3 : Int32).toNatClampNeg) by decide) dX3_become_28 (fun H locs hP hD hS => ?_)
  generalize (upd f_20 (3 : Int32).toNatClampNeg p4) = f_28 at hP hD
  have hP : va_P D vwCl [(h0, .inr (9, [.ref nq, .null, .int 0])), (nq, .inl (cQ, 4, .inl f_28))] H := hP
  have hD : va_D A [(h0, .inr (9, [.ref nq, .null, .int 0])), (nq, .inl (cQ, 4, .inl f_28))] := hD
  subst hQ
  refine W.widen (k := 0) (n := 0) (Nat.le_of_ble_eq_true rfl) (Nat.le_of_ble_eq_true rfl) ?_
  have hP9 := hP.sub (ws' := [(h0, .inr (9, [.ref nq, .null, .int 0])), (nq, .inl (cQ, 4, .inl f_28))]) [0, 1] rfl
  have hD9 := hD.sub (ws' := [(h0, .inr (9, [.ref nq, .null, .int 0])), (nq, .inl (cQ, 4, .inl f_28))]) [0, 1] (by decide) rfl
  have hK9 := hK.sub (tys' := []) [] rfl
  exact W.vret hx hb hr (fun t ht hW => ⟨⟨(), rfl, trivial, ⟨f_28, by rw [ht]; exact hP9, va_K.moved hW.alike hK9, hD9⟩⟩, hS.F ht⟩) hS.2.2 dX3_become_29

theorem kw_111 : (.classLink RX11 337 RX10 : Cond) ∈ gw_tbl := gw_in (by decide +kernel) (by decide +kernel)
theorem kw_112 : (.instantiable RX10 3 : Cond) ∈ gw_tbl := gw_in (by decide +kernel) (by decide +kernel)

set_option maxHeartbeats 4000000 in
set_option maxRecDepth 100000 in
theorem x_madeOf_2 (l : Launch) (D : va_G) (sz : Nat) : Met l yX11_madeOf (Cond.code yX11_madeOf cX11_madeOf 1 (some (.object "NobodyChecks$Pay")) :: gw_tbl) ({ frames := 3, cells := 2, slots := 7, locals := 52 }) (pc_C D [] [] sz [.int 2]) (va_Qr (fun (u : Unit) => True) (fun _ ra t => ∃ (nq : Nat), ∃ (cQ : ClassId), va_P D vwCl [(ra, .inr (10, [.ref nq, .null, .int 0])), (nq, .inl (cQ, 4, .inl (fun _ => 0)))] t.heap ∧ va_K D vwCl [(cQ, .int)] t ∧ va_D (va_A [] sz) [(ra, .inr (10, [.ref nq, .null, .int 0])), (nq, .inl (cQ, 4, .inl (fun _ => 0)))]) (va_A [] sz)) 2 7 (va_A [] sz) := by
  refine Met.ofW (cc := cX11_madeOf) (maxL := 1) (ret := (some (.object "NobodyChecks$Pay"))) (by decide) rfl ?_
  intro p e s m args below meth c s₁ B hml hv
  obtain ⟨hargs, hsz, hP, hK, hD0, hN⟩ := hv
  have hx := B.exec
  have hb := B.bytes
  have hr := B.returns
  have hts := atoms_spec (ws := Cond.code yX11_madeOf cX11_madeOf 1 (some (.object "NobodyChecks$Pay")) :: gw_tbl) B.pre
  have hg := fun (w : Cond) (h : w ∈ gw_tbl) => hts w (List.mem_cons_of_mem _ h)
  have hown : s.vm.findClass RX11 = some m.cls := findClass_of_methodNamed B.named
  have hlocks := B.notSynchronized
  subst hsz
  have hD := hD0.self (sz := s.heap.size)
  generalize hAe : va_A [] s.heap.size = A at hD ⊢
  have hA : ∀ q : Nat, s.heap.size ≤ q → A q := fun q h => by rw [← hAe]; exact Or.inr h
  have hS : va_S A s.heap s.heap [] := va_S.rf
  have hP : va_P D vwCl [] s.heap := hP
  have hl := lv_entry ([.int 2]) (n := 1) (Nat.le_of_ble_eq_true rfl)
  rw [show entryFrame m args 1 = F0 m 0 (lg_sl ([.int 2]) ++ List.replicate (1 - (lg_sl ([.int 2])).length) Slot.unset).toArray [] from by rw [hargs]; exact lg_entry_eq ..]
  generalize (lg_sl ([.int 2]) ++ List.replicate (1 - (lg_sl ([.int 2])).length) Slot.unset).toArray = ls at hl ⊢
  have hl : lv_has ls 1 [(0, .int 2)] := hl
  refine W_genQ (fun Q hQ => ?_)
  refine lv_iload_n hx hb dX11_madeOf_0 rfl (lv_at hl 0 rfl) ?_
  refine lv_tableIn (tgt := 40) hx hb dX11_madeOf_1 (by decide) (by decide) rfl (by decide) ?_
  refine va_new (ci := 10) (fs := [.null, .null, .int 0]) (C := RX10) (T := TX10) (N := 3) hx hb hg gwX10 tyX10 tyX10_ok hown (hg _ kw_111) (hg _ kw_112) (hg _ kw_105) hK hP hD hS hA rfl (by decide +kernel) (Nat.le_of_ble_eq_true rfl) (Nat.le_of_ble_eq_true rfl) dX11_madeOf_40 (fun q_40 H hP hD hS => ?_)
  have hP : va_P D vwCl [(q_40, .inr (10, [.null, .null, .int 0]))] H := hP
  have hD : va_D A [(q_40, .inr (10, [.null, .null, .int 0]))] := hD
  refine W.cs (cells' := 1) (slots' := 3) rfl rfl ?_
  refine lv_dup hx hb dX11_madeOf_43 rfl ?_
  have hPc := hP.sub (ws' := [(q_40, .inr (10, [.null, .null, .int 0]))]) [0] rfl
  have hKc := hK.sub (tys' := []) [] rfl
  have hDc := hD.sub (ws' := [(q_40, .inr (10, [.null, .null, .int 0]))]) [0] (by decide) rfl
  have hFc := va_free (wc := [(q_40, .inr (10, [.null, .null, .int 0]))]) hD hS hA [0] rfl
  refine va_callv (va_runIN (As := []) (rest := [.ref q_40]) ⟨hx, hb, hml, hown, hg⟩ (i_X10_10 l D q_40 _) ⟨va_cnB 0 hg (gw_I kw_104) rfl rfl rfl (hN.1 (RX11, 339, yX10_init) (by decide +kernel)) (hg _ kw_105) (by decide +kernel) ⟨Nat.le_of_ble_eq_true rfl, Nat.le_of_ble_eq_true rfl⟩, rfl, hg _ kw_106⟩ (pr_C hKc hPc hDc hN) rfl rfl hl.1 rfl (lv_room (Nat.le_of_ble_eq_true rfl)) dX11_madeOf_44 ⟨Nat.le_of_ble_eq_true rfl, Nat.le_of_ble_eq_true rfl⟩) hS (fun q _ h => hFc q h) hFc (fun u t H1 locs ht hvm h_44 hB hz1 hk1 hS => ?_)
  obtain ⟨nq_44, cQ_44, hP1, hK1, hD1⟩ := hB
  rw [ht] at hP1
  have hK1 := va_K.moved hvm.symm hK1
  obtain ⟨hP, hD⟩ := va_join (wr := []) (w1 := [(q_40, .inr (10, [.ref nq_44, .null, .int 0])), (nq_44, .inl (cQ_44, 4, .inl (fun _ => 0)))]) hP hD [0] [] rfl rfl (by decide) (by decide) hk1 hFc hP1 hD1
  have hK := hK.app hK1
  generalize H1 = H at hP hS ⊢
  have hP : va_P D vwCl [(q_40, .inr (10, [.ref nq_44, .null, .int 0])), (nq_44, .inl (cQ_44, 4, .inl (fun _ => 0)))] H := hP
  have hD : va_D A [(q_40, .inr (10, [.ref nq_44, .null, .int 0])), (nq_44, .inl (cQ_44, 4, .inl (fun _ => 0)))] := hD
  have hK : va_K D vwCl [(cQ_44, .int)] s := hK
  refine W.cs (cells' := 2) (slots' := 7) rfl rfl ?_
  try dsimp only at h_44
  subst hQ
  refine W.widen (k := 2) (n := 7) (Nat.le_of_ble_eq_true rfl) (Nat.le_of_ble_eq_true rfl) ?_
  have hP9 := hP.sub (ws' := [(q_40, .inr (10, [.ref nq_44, .null, .int 0])), (nq_44, .inl (cQ_44, 4, .inl (fun _ => 0)))]) [0, 1] rfl
  have hD9 := hD.sub (ws' := [(q_40, .inr (10, [.ref nq_44, .null, .int 0])), (nq_44, .inl (cQ_44, 4, .inl (fun _ => 0)))]) [0, 1] (by decide) rfl
  have hK9 := hK.sub (tys' := [(cQ_44, .int)]) [0] rfl
  exact W.aret (v := .ref q_40) hx hb hr (Or.inl ⟨_, rfl⟩) (Or.inr ⟨_, rfl⟩) (fun t ht hW => ⟨⟨(), q_40, rfl, trivial, ⟨nq_44, cQ_44, by rw [ht]; exact hP9, va_K.moved hW.alike hK9, hD9⟩⟩, hS.F ht⟩) hS.2.2 dX11_madeOf_47

set_option maxHeartbeats 4000000 in
set_option maxRecDepth 100000 in
theorem p_become_10 (l : Launch) (D : va_G) (h0 : Nat) (nq : Nat) (cQ : ClassId) (nf : Nat → Int32) (p1 : Int32) (p2 : Int32) (p3 : Int32) (p4 : Int32) (sz : Nat) : Met l yX3_become (Cond.code yX3_become cX3_become 5 none :: gw_tbl) ({ frames := 0, cells := 0, slots := 0, locals := 0 }) (pc_M D [(cQ, .int)] [(h0, .inr (10, [.ref nq, .null, .int 0])), (nq, .inl (cQ, 4, .inl nf))] sz [.ref h0, .int p1, .int p2, .int p3, .int p4]) (va_Qv (fun (u : Unit) => True) (fun _ t => ∃ (nf2 : Nat → Int32), va_P D vwCl [(h0, .inr (10, [.ref nq, .null, .int 0])), (nq, .inl (cQ, 4, .inl nf2))] t.heap ∧ va_K D vwCl [] t ∧ va_D (va_A [(h0, .inr (10, [.ref nq, .null, .int 0])), (nq, .inl (cQ, 4, .inl nf))] sz) [(h0, .inr (10, [.ref nq, .null, .int 0])), (nq, .inl (cQ, 4, .inl nf2))]) (va_A [(h0, .inr (10, [.ref nq, .null, .int 0])), (nq, .inl (cQ, 4, .inl nf))] sz)) 0 0 (va_A [(h0, .inr (10, [.ref nq, .null, .int 0])), (nq, .inl (cQ, 4, .inl nf))] sz) := by
  refine Met.ofW (cc := cX3_become) (maxL := 5) (ret := none) (by decide) rfl ?_
  intro p e s m args below meth c s₁ B hml hv
  obtain ⟨hargs, hsz, hP, hK, hD0⟩ := hv
  have hx := B.exec
  have hb := B.bytes
  have hr := B.returns
  have hts := atoms_spec (ws := Cond.code yX3_become cX3_become 5 none :: gw_tbl) B.pre
  have hg := fun (w : Cond) (h : w ∈ gw_tbl) => hts w (List.mem_cons_of_mem _ h)
  have hown : s.vm.findClass RX3 = some m.cls := findClass_of_methodNamed B.named
  have hlocks := B.notSynchronized
  subst hsz
  have hD := hD0.self (sz := s.heap.size)
  generalize hAe : va_A [(h0, .inr (10, [.ref nq, .null, .int 0])), (nq, .inl (cQ, 4, .inl nf))] s.heap.size = A at hD ⊢
  have hA : ∀ q : Nat, s.heap.size ≤ q → A q := fun q h => by rw [← hAe]; exact Or.inr h
  have hS : va_S A s.heap s.heap [] := va_S.rf
  have hP : va_P D vwCl [(h0, .inr (10, [.ref nq, .null, .int 0])), (nq, .inl (cQ, 4, .inl nf))] s.heap := hP
  have hl := lv_entry ([.ref h0, .int p1, .int p2, .int p3, .int p4]) (n := 5) (Nat.le_of_ble_eq_true rfl)
  rw [show entryFrame m args 5 = F0 m 0 (lg_sl ([.ref h0, .int p1, .int p2, .int p3, .int p4]) ++ List.replicate (5 - (lg_sl ([.ref h0, .int p1, .int p2, .int p3, .int p4])).length) Slot.unset).toArray [] from by rw [hargs]; exact lg_entry_eq ..]
  generalize (lg_sl ([.ref h0, .int p1, .int p2, .int p3, .int p4]) ++ List.replicate (5 - (lg_sl ([.ref h0, .int p1, .int p2, .int p3, .int p4])).length) Slot.unset).toArray = ls at hl ⊢
  have hl : lv_has ls 5 [(0, .ref h0), (1, .int p1), (2, .int p2), (3, .int p3), (4, .int p4)] := hl
  refine W_genQ (fun Q hQ => ?_)
  refine lv_aload_n hx hb dX3_become_0 rfl (lv_at hl 0 rfl) ?_
  refine va_get (D := D) (ci := 10) (v := .ref nq) (C := RX10) (T := TX10) (N := 3) hx hb hg gwX10 hown hK hP 0 rfl rfl 0 (by decide) (hg _ kw_97) (fun _ h9 => h9) rfl dX3_become_1 ?_
  refine lv_iconst (v := 0) hx hb dX3_become_4 (by decide) ?_
  refine lv_iload_n hx hb dX3_become_5 rfl (lv_at hl 1 rfl) ?_
  refine va_iast hx hb hK hP hD hS 1 0 rfl rfl (show ¬ ((0 : Int32) < 0 ∨ 4 ≤ (0 : Int32).toNatClampNeg) by decide) dX3_become_6 (fun H locs hP hD hS => ?_)
  generalize (upd nf (0 : Int32).toNatClampNeg p1) = f_6 at hP hD
  have hP : va_P D vwCl [(h0, .inr (10, [.ref nq, .null, .int 0])), (nq, .inl (cQ, 4, .inl f_6))] H := hP
  have hD : va_D A [(h0, .inr (10, [.ref nq, .null, .int 0])), (nq, .inl (cQ, 4, .inl f_6))] := hD
  refine lv_aload_n hx hb dX3_become_7 rfl (lv_at hl 0 rfl) ?_
  refine va_get (D := D) (ci := 10) (v := .ref nq) (C := RX10) (T := TX10) (N := 3) hx hb hg gwX10 hown hK hP 0 rfl rfl 0 (by decide) (hg _ kw_97) (fun _ h9 => h9) rfl dX3_become_8 ?_
  refine lv_iconst (v := 1) hx hb dX3_become_11 (by decide) ?_
  refine lv_iload_n hx hb dX3_become_12 rfl (lv_at hl 2 rfl) ?_
  refine va_iast hx hb hK hP hD hS 1 0 rfl rfl (show ¬ ((1 : Int32) < 0 ∨ 4 ≤ (1 : Int32).toNatClampNeg) by decide) dX3_become_13 (fun H locs hP hD hS => ?_)
  generalize (upd f_6 (1 : Int32).toNatClampNeg p2) = f_13 at hP hD
  have hP : va_P D vwCl [(h0, .inr (10, [.ref nq, .null, .int 0])), (nq, .inl (cQ, 4, .inl f_13))] H := hP
  have hD : va_D A [(h0, .inr (10, [.ref nq, .null, .int 0])), (nq, .inl (cQ, 4, .inl f_13))] := hD
  refine lv_aload_n hx hb dX3_become_14 rfl (lv_at hl 0 rfl) ?_
  refine va_get (D := D) (ci := 10) (v := .ref nq) (C := RX10) (T := TX10) (N := 3) hx hb hg gwX10 hown hK hP 0 rfl rfl 0 (by decide) (hg _ kw_97) (fun _ h9 => h9) rfl dX3_become_15 ?_
  refine lv_iconst (v := 2) hx hb dX3_become_18 (by decide) ?_
  refine lv_iload_n hx hb dX3_become_19 rfl (lv_at hl 3 rfl) ?_
  refine va_iast hx hb hK hP hD hS 1 0 rfl rfl (show ¬ ((2 : Int32) < 0 ∨ 4 ≤ (2 : Int32).toNatClampNeg) by decide) dX3_become_20 (fun H locs hP hD hS => ?_)
  generalize (upd f_13 (2 : Int32).toNatClampNeg p3) = f_20 at hP hD
  have hP : va_P D vwCl [(h0, .inr (10, [.ref nq, .null, .int 0])), (nq, .inl (cQ, 4, .inl f_20))] H := hP
  have hD : va_D A [(h0, .inr (10, [.ref nq, .null, .int 0])), (nq, .inl (cQ, 4, .inl f_20))] := hD
  refine lv_aload_n hx hb dX3_become_21 rfl (lv_at hl 0 rfl) ?_
  refine va_get (D := D) (ci := 10) (v := .ref nq) (C := RX10) (T := TX10) (N := 3) hx hb hg gwX10 hown hK hP 0 rfl rfl 0 (by decide) (hg _ kw_97) (fun _ h9 => h9) rfl dX3_become_22 ?_
  refine lv_iconst (v := 3) hx hb dX3_become_25 (by decide) ?_
  refine lv_iload hx hb dX3_become_26 (lv_at hl 4 rfl) ?_
  refine va_iast hx hb hK hP hD hS 1 0 rfl rfl (show ¬ ((3 : Int32) < 0 ∨ 4 ≤ (3 : Int32).toNatClampNeg) by decide) dX3_become_28 (fun H locs hP hD hS => ?_)
  generalize (upd f_20 (3 : Int32).toNatClampNeg p4) = f_28 at hP hD
  have hP : va_P D vwCl [(h0, .inr (10, [.ref nq, .null, .int 0])), (nq, .inl (cQ, 4, .inl f_28))] H := hP
  have hD : va_D A [(h0, .inr (10, [.ref nq, .null, .int 0])), (nq, .inl (cQ, 4, .inl f_28))] := hD
  subst hQ
  refine W.widen (k := 0) (n := 0) (Nat.le_of_ble_eq_true rfl) (Nat.le_of_ble_eq_true rfl) ?_
  have hP9 := hP.sub (ws' := [(h0, .inr (10, [.ref nq, .null, .int 0])), (nq, .inl (cQ, 4, .inl f_28))]) [0, 1] rfl
  have hD9 := hD.sub (ws' := [(h0, .inr (10, [.ref nq, .null, .int 0])), (nq, .inl (cQ, 4, .inl f_28))]) [0, 1] (by decide) rfl
  have hK9 := hK.sub (tys' := []) [] rfl
  exact W.vret hx hb hr (fun t ht hW => ⟨⟨(), rfl, trivial, ⟨f_28, by rw [ht]; exact hP9, va_K.moved hW.alike hK9, hD9⟩⟩, hS.F ht⟩) hS.2.2 dX3_become_29

theorem kw_113 : (.classLink RX11 340 RX6 : Cond) ∈ gw_tbl := gw_in (by decide +kernel) (by decide +kernel)
theorem kw_114 : (.instantiable RX6 3 : Cond) ∈ gw_tbl := gw_in (by decide +kernel) (by decide +kernel)
theorem kw_115 : (.initialized RX6 : Cond) ∈ gw_tbl := gw_in (by decide +kernel) (by decide +kernel)
theorem kw_116 : (.code yX6_init cX6_init 1 none : Cond) ∈ gw_tbl := gw_in (by decide +kernel) (by decide +kernel)
theorem kw_117 : (.instanceMethod yX6_init : Cond) ∈ gw_tbl := gw_in (by decide +kernel) (by decide +kernel)

set_option maxHeartbeats 4000000 in
set_option maxRecDepth 100000 in
theorem x_madeOf_3 (l : Launch) (D : va_G) (sz : Nat) : Met l yX11_madeOf (Cond.code yX11_madeOf cX11_madeOf 1 (some (.object "NobodyChecks$Pay")) :: gw_tbl) ({ frames := 4, cells := 2, slots := 7, locals := 72 }) (pc_C D [] [] sz [.int 3]) (va_Qr (fun (u : Unit) => True) (fun _ ra t => ∃ (nq : Nat), ∃ (cQ : ClassId), va_P D vwCl [(ra, .inr (6, [.ref nq, .null, .int 0])), (nq, .inl (cQ, 4, .inl (fun _ => 0)))] t.heap ∧ va_K D vwCl [(cQ, .int)] t ∧ va_D (va_A [] sz) [(ra, .inr (6, [.ref nq, .null, .int 0])), (nq, .inl (cQ, 4, .inl (fun _ => 0)))]) (va_A [] sz)) 2 7 (va_A [] sz) := by
  refine Met.ofW (cc := cX11_madeOf) (maxL := 1) (ret := (some (.object "NobodyChecks$Pay"))) (by decide) rfl ?_
  intro p e s m args below meth c s₁ B hml hv
  obtain ⟨hargs, hsz, hP, hK, hD0, hN⟩ := hv
  have hx := B.exec
  have hb := B.bytes
  have hr := B.returns
  have hts := atoms_spec (ws := Cond.code yX11_madeOf cX11_madeOf 1 (some (.object "NobodyChecks$Pay")) :: gw_tbl) B.pre
  have hg := fun (w : Cond) (h : w ∈ gw_tbl) => hts w (List.mem_cons_of_mem _ h)
  have hown : s.vm.findClass RX11 = some m.cls := findClass_of_methodNamed B.named
  have hlocks := B.notSynchronized
  subst hsz
  have hD := hD0.self (sz := s.heap.size)
  generalize hAe : va_A [] s.heap.size = A at hD ⊢
  have hA : ∀ q : Nat, s.heap.size ≤ q → A q := fun q h => by rw [← hAe]; exact Or.inr h
  have hS : va_S A s.heap s.heap [] := va_S.rf
  have hP : va_P D vwCl [] s.heap := hP
  have hl := lv_entry ([.int 3]) (n := 1) (Nat.le_of_ble_eq_true rfl)
  rw [show entryFrame m args 1 = F0 m 0 (lg_sl ([.int 3]) ++ List.replicate (1 - (lg_sl ([.int 3])).length) Slot.unset).toArray [] from by rw [hargs]; exact lg_entry_eq ..]
  generalize (lg_sl ([.int 3]) ++ List.replicate (1 - (lg_sl ([.int 3])).length) Slot.unset).toArray = ls at hl ⊢
  have hl : lv_has ls 1 [(0, .int 3)] := hl
  refine W_genQ (fun Q hQ => ?_)
  refine lv_iload_n hx hb dX11_madeOf_0 rfl (lv_at hl 0 rfl) ?_
  refine lv_tableIn (tgt := 48) hx hb dX11_madeOf_1 (by decide) (by decide) rfl (by decide) ?_
  refine va_new (ci := 6) (fs := [.null, .null, .int 0]) (C := RX6) (T := TX6) (N := 3) hx hb hg gwX6 tyX6 tyX6_ok hown (hg _ kw_113) (hg _ kw_114) (hg _ kw_115) hK hP hD hS hA rfl (by decide +kernel) (Nat.le_of_ble_eq_true rfl) (Nat.le_of_ble_eq_true rfl) dX11_madeOf_48 (fun q_48 H hP hD hS => ?_)
  have hP : va_P D vwCl [(q_48, .inr (6, [.null, .null, .int 0]))] H := hP
  have hD : va_D A [(q_48, .inr (6, [.null, .null, .int 0]))] := hD
  refine W.cs (cells' := 1) (slots' := 3) rfl rfl ?_
  refine lv_dup hx hb dX11_madeOf_51 rfl ?_
  have hPc := hP.sub (ws' := [(q_48, .inr (6, [.null, .null, .int 0]))]) [0] rfl
  have hKc := hK.sub (tys' := []) [] rfl
  have hDc := hD.sub (ws' := [(q_48, .inr (6, [.null, .null, .int 0]))]) [0] (by decide) rfl
  have hFc := va_free (wc := [(q_48, .inr (6, [.null, .null, .int 0]))]) hD hS hA [0] rfl
  refine va_callv (va_runIN (As := []) (rest := [.ref q_48]) ⟨hx, hb, hml, hown, hg⟩ (i_X6_6 l D q_48 _) ⟨va_cnB 0 hg (gw_I kw_116) rfl rfl rfl (hN.1 (RX11, 342, yX6_init) (by decide +kernel)) (hg _ kw_115) (by decide +kernel) ⟨Nat.le_of_ble_eq_true rfl, Nat.le_of_ble_eq_true rfl⟩, rfl, hg _ kw_117⟩ (pr_C hKc hPc hDc hN) rfl rfl hl.1 rfl (lv_room (Nat.le_of_ble_eq_true rfl)) dX11_madeOf_52 ⟨Nat.le_of_ble_eq_true rfl, Nat.le_of_ble_eq_true rfl⟩) hS (fun q _ h => hFc q h) hFc (fun u t H1 locs ht hvm h_52 hB hz1 hk1 hS => ?_)
  obtain ⟨nq_52, cQ_52, hP1, hK1, hD1⟩ := hB
  rw [ht] at hP1
  have hK1 := va_K.moved hvm.symm hK1
  obtain ⟨hP, hD⟩ := va_join (wr := []) (w1 := [(q_48, .inr (6, [.ref nq_52, .null, .int 0])), (nq_52, .inl (cQ_52, 4, .inl (fun _ => 0)))]) hP hD [0] [] rfl rfl (by decide) (by decide) hk1 hFc hP1 hD1
  have hK := hK.app hK1
  generalize H1 = H at hP hS ⊢
  have hP : va_P D vwCl [(q_48, .inr (6, [.ref nq_52, .null, .int 0])), (nq_52, .inl (cQ_52, 4, .inl (fun _ => 0)))] H := hP
  have hD : va_D A [(q_48, .inr (6, [.ref nq_52, .null, .int 0])), (nq_52, .inl (cQ_52, 4, .inl (fun _ => 0)))] := hD
  have hK : va_K D vwCl [(cQ_52, .int)] s := hK
  refine W.cs (cells' := 2) (slots' := 7) rfl rfl ?_
  try dsimp only at h_52
  subst hQ
  refine W.widen (k := 2) (n := 7) (Nat.le_of_ble_eq_true rfl) (Nat.le_of_ble_eq_true rfl) ?_
  have hP9 := hP.sub (ws' := [(q_48, .inr (6, [.ref nq_52, .null, .int 0])), (nq_52, .inl (cQ_52, 4, .inl (fun _ => 0)))]) [0, 1] rfl
  have hD9 := hD.sub (ws' := [(q_48, .inr (6, [.ref nq_52, .null, .int 0])), (nq_52, .inl (cQ_52, 4, .inl (fun _ => 0)))]) [0, 1] (by decide) rfl
  have hK9 := hK.sub (tys' := [(cQ_52, .int)]) [0] rfl
  exact W.aret (v := .ref q_48) hx hb hr (Or.inl ⟨_, rfl⟩) (Or.inr ⟨_, rfl⟩) (fun t ht hW => ⟨⟨(), q_48, rfl, trivial, ⟨nq_52, cQ_52, by rw [ht]; exact hP9, va_K.moved hW.alike hK9, hD9⟩⟩, hS.F ht⟩) hS.2.2 dX11_madeOf_55

set_option maxHeartbeats 4000000 in
set_option maxRecDepth 100000 in
theorem p_become_6 (l : Launch) (D : va_G) (h0 : Nat) (nq : Nat) (cQ : ClassId) (nf : Nat → Int32) (p1 : Int32) (p2 : Int32) (p3 : Int32) (p4 : Int32) (sz : Nat) : Met l yX3_become (Cond.code yX3_become cX3_become 5 none :: gw_tbl) ({ frames := 0, cells := 0, slots := 0, locals := 0 }) (pc_M D [(cQ, .int)] [(h0, .inr (6, [.ref nq, .null, .int 0])), (nq, .inl (cQ, 4, .inl nf))] sz [.ref h0, .int p1, .int p2, .int p3, .int p4]) (va_Qv (fun (u : Unit) => True) (fun _ t => ∃ (nf2 : Nat → Int32), va_P D vwCl [(h0, .inr (6, [.ref nq, .null, .int 0])), (nq, .inl (cQ, 4, .inl nf2))] t.heap ∧ va_K D vwCl [] t ∧ va_D (va_A [(h0, .inr (6, [.ref nq, .null, .int 0])), (nq, .inl (cQ, 4, .inl nf))] sz) [(h0, .inr (6, [.ref nq, .null, .int 0])), (nq, .inl (cQ, 4, .inl nf2))]) (va_A [(h0, .inr (6, [.ref nq, .null, .int 0])), (nq, .inl (cQ, 4, .inl nf))] sz)) 0 0 (va_A [(h0, .inr (6, [.ref nq, .null, .int 0])), (nq, .inl (cQ, 4, .inl nf))] sz) := by
  refine Met.ofW (cc := cX3_become) (maxL := 5) (ret := none) (by decide) rfl ?_
  intro p e s m args below meth c s₁ B hml hv
  obtain ⟨hargs, hsz, hP, hK, hD0⟩ := hv
  have hx := B.exec
  have hb := B.bytes
  have hr := B.returns
  have hts := atoms_spec (ws := Cond.code yX3_become cX3_become 5 none :: gw_tbl) B.pre
  have hg := fun (w : Cond) (h : w ∈ gw_tbl) => hts w (List.mem_cons_of_mem _ h)
  have hown : s.vm.findClass RX3 = some m.cls := findClass_of_methodNamed B.named
  have hlocks := B.notSynchronized
  subst hsz
  have hD := hD0.self (sz := s.heap.size)
  generalize hAe : va_A [(h0, .inr (6, [.ref nq, .null, .int 0])), (nq, .inl (cQ, 4, .inl nf))] s.heap.size = A at hD ⊢
  have hA : ∀ q : Nat, s.heap.size ≤ q → A q := fun q h => by rw [← hAe]; exact Or.inr h
  have hS : va_S A s.heap s.heap [] := va_S.rf
  have hP : va_P D vwCl [(h0, .inr (6, [.ref nq, .null, .int 0])), (nq, .inl (cQ, 4, .inl nf))] s.heap := hP
  have hl := lv_entry ([.ref h0, .int p1, .int p2, .int p3, .int p4]) (n := 5) (Nat.le_of_ble_eq_true rfl)
  rw [show entryFrame m args 5 = F0 m 0 (lg_sl ([.ref h0, .int p1, .int p2, .int p3, .int p4]) ++ List.replicate (5 - (lg_sl ([.ref h0, .int p1, .int p2, .int p3, .int p4])).length) Slot.unset).toArray [] from by rw [hargs]; exact lg_entry_eq ..]
  generalize (lg_sl ([.ref h0, .int p1, .int p2, .int p3, .int p4]) ++ List.replicate (5 - (lg_sl ([.ref h0, .int p1, .int p2, .int p3, .int p4])).length) Slot.unset).toArray = ls at hl ⊢
  have hl : lv_has ls 5 [(0, .ref h0), (1, .int p1), (2, .int p2), (3, .int p3), (4, .int p4)] := hl
  refine W_genQ (fun Q hQ => ?_)
  refine lv_aload_n hx hb dX3_become_0 rfl (lv_at hl 0 rfl) ?_
  refine va_get (D := D) (ci := 6) (v := .ref nq) (C := RX6) (T := TX6) (N := 3) hx hb hg gwX6 hown hK hP 0 rfl rfl 0 (by decide) (hg _ kw_97) (fun _ h9 => h9) rfl dX3_become_1 ?_
  refine lv_iconst (v := 0) hx hb dX3_become_4 (by decide) ?_
  refine lv_iload_n hx hb dX3_become_5 rfl (lv_at hl 1 rfl) ?_
  refine va_iast hx hb hK hP hD hS 1 0 rfl rfl (show ¬ ((0 : Int32) < 0 ∨ 4 ≤ (0 : Int32).toNatClampNeg) by decide) dX3_become_6 (fun H locs hP hD hS => ?_)
  generalize (upd nf (0 : Int32).toNatClampNeg p1) = f_6 at hP hD
  have hP : va_P D vwCl [(h0, .inr (6, [.ref nq, .null, .int 0])), (nq, .inl (cQ, 4, .inl f_6))] H := hP
  have hD : va_D A [(h0, .inr (6, [.ref nq, .null, .int 0])), (nq, .inl (cQ, 4, .inl f_6))] := hD
  refine lv_aload_n hx hb dX3_become_7 rfl (lv_at hl 0 rfl) ?_
  refine va_get (D := D) (ci := 6) (v := .ref nq) (C := RX6) (T := TX6) (N := 3) hx hb hg gwX6 hown hK hP 0 rfl rfl 0 (by decide) (hg _ kw_97) (fun _ h9 => h9) rfl dX3_become_8 ?_
  refine lv_iconst (v := 1) hx hb dX3_become_11 (by decide) ?_
  refine lv_iload_n hx hb dX3_become_12 rfl (lv_at hl 2 rfl) ?_
  refine va_iast hx hb hK hP hD hS 1 0 rfl rfl (show ¬ ((1 : Int32) < 0 ∨ 4 ≤ (1 : Int32).toNatClampNeg) by decide) dX3_become_13 (fun H locs hP hD hS => ?_)
  generalize (upd f_6 (1 : Int32).toNatClampNeg p2) = f_13 at hP hD
  have hP : va_P D vwCl [(h0, .inr (6, [.ref nq, .null, .int 0])), (nq, .inl (cQ, 4, .inl f_13))] H := hP
  have hD : va_D A [(h0, .inr (6, [.ref nq, .null, .int 0])), (nq, .inl (cQ, 4, .inl f_13))] := hD
  refine lv_aload_n hx hb dX3_become_14 rfl (lv_at hl 0 rfl) ?_
  refine va_get (D := D) (ci := 6) (v := .ref nq) (C := RX6) (T := TX6) (N := 3) hx hb hg gwX6 hown hK hP 0 rfl rfl 0 (by decide) (hg _ kw_97) (fun _ h9 => h9) rfl dX3_become_15 ?_
  refine lv_iconst (v := 2) hx hb dX3_become_18 (by decide) ?_
  refine lv_iload_n hx hb dX3_become_19 rfl (lv_at hl 3 rfl) ?_
  refine va_iast hx hb hK hP hD hS 1 0 rfl rfl (show ¬ ((2 : Int32) < 0 ∨ 4 ≤ (2 : Int32).toNatClampNeg) by decide) dX3_become_20 (fun H locs hP hD hS => ?_)
  generalize (upd f_13 (2 : Int32).toNatClampNeg p3) = f_20 at hP hD
  have hP : va_P D vwCl [(h0, .inr (6, [.ref nq, .null, .int 0])), (nq, .inl (cQ, 4, .inl f_20))] H := hP
  have hD : va_D A [(h0, .inr (6, [.ref nq, .null, .int 0])), (nq, .inl (cQ, 4, .inl f_20))] := hD
  refine lv_aload_n hx hb dX3_become_21 rfl (lv_at hl 0 rfl) ?_
  refine va_get (D := D) (ci := 6) (v := .ref nq) (C := RX6) (T := TX6) (N := 3) hx hb hg gwX6 hown hK hP 0 rfl rfl 0 (by decide) (hg _ kw_97) (fun _ h9 => h9) rfl dX3_become_22 ?_
  refine lv_iconst (v := 3) hx hb dX3_become_25 (by decide) ?_
  refine lv_iload hx hb dX3_become_26 (lv_at hl 4 rfl) ?_
  refine va_iast hx hb hK hP hD hS 1 0 rfl rfl (show ¬ ((3 : Int32) < 0 ∨ 4 ≤ (3 : Int32).toNatClampNeg) by decide) dX3_become_28 (fun H locs hP hD hS => ?_)
  generalize (upd f_20 (3 : Int32).toNatClampNeg p4) = f_28 at hP hD
  have hP : va_P D vwCl [(h0, .inr (6, [.ref nq, .null, .int 0])), (nq, .inl (cQ, 4, .inl f_28))] H := hP
  have hD : va_D A [(h0, .inr (6, [.ref nq, .null, .int 0])), (nq, .inl (cQ, 4, .inl f_28))] := hD
  subst hQ
  refine W.widen (k := 0) (n := 0) (Nat.le_of_ble_eq_true rfl) (Nat.le_of_ble_eq_true rfl) ?_
  have hP9 := hP.sub (ws' := [(h0, .inr (6, [.ref nq, .null, .int 0])), (nq, .inl (cQ, 4, .inl f_28))]) [0, 1] rfl
  have hD9 := hD.sub (ws' := [(h0, .inr (6, [.ref nq, .null, .int 0])), (nq, .inl (cQ, 4, .inl f_28))]) [0, 1] (by decide) rfl
  have hK9 := hK.sub (tys' := []) [] rfl
  exact W.vret hx hb hr (fun t ht hW => ⟨⟨(), rfl, trivial, ⟨f_28, by rw [ht]; exact hP9, va_K.moved hW.alike hK9, hD9⟩⟩, hS.F ht⟩) hS.2.2 dX3_become_29

theorem kw_118 : (.classLink RX11 343 RX1 : Cond) ∈ gw_tbl := gw_in (by decide +kernel) (by decide +kernel)
theorem kw_119 : (.instantiable RX1 3 : Cond) ∈ gw_tbl := gw_in (by decide +kernel) (by decide +kernel)
theorem kw_120 : (.initialized RX1 : Cond) ∈ gw_tbl := gw_in (by decide +kernel) (by decide +kernel)
theorem kw_121 : (.code yX1_init cX1_init 1 none : Cond) ∈ gw_tbl := gw_in (by decide +kernel) (by decide +kernel)
theorem kw_122 : (.instanceMethod yX1_init : Cond) ∈ gw_tbl := gw_in (by decide +kernel) (by decide +kernel)

set_option maxHeartbeats 4000000 in
set_option maxRecDepth 100000 in
theorem x_madeOf_4 (l : Launch) (D : va_G) (sz : Nat) : Met l yX11_madeOf (Cond.code yX11_madeOf cX11_madeOf 1 (some (.object "NobodyChecks$Pay")) :: gw_tbl) ({ frames := 4, cells := 2, slots := 7, locals := 72 }) (pc_C D [] [] sz [.int 4]) (va_Qr (fun (u : Unit) => True) (fun _ ra t => ∃ (nq : Nat), ∃ (cQ : ClassId), va_P D vwCl [(ra, .inr (1, [.ref nq, .null, .int 0])), (nq, .inl (cQ, 4, .inl (fun _ => 0)))] t.heap ∧ va_K D vwCl [(cQ, .int)] t ∧ va_D (va_A [] sz) [(ra, .inr (1, [.ref nq, .null, .int 0])), (nq, .inl (cQ, 4, .inl (fun _ => 0)))]) (va_A [] sz)) 2 7 (va_A [] sz) := by
  refine Met.ofW (cc := cX11_madeOf) (maxL := 1) (ret := (some (.object "NobodyChecks$Pay"))) (by decide) rfl ?_
  intro p e s m args below meth c s₁ B hml hv
  obtain ⟨hargs, hsz, hP, hK, hD0, hN⟩ := hv
  have hx := B.exec
  have hb := B.bytes
  have hr := B.returns
  have hts := atoms_spec (ws := Cond.code yX11_madeOf cX11_madeOf 1 (some (.object "NobodyChecks$Pay")) :: gw_tbl) B.pre
  have hg := fun (w : Cond) (h : w ∈ gw_tbl) => hts w (List.mem_cons_of_mem _ h)
  have hown : s.vm.findClass RX11 = some m.cls := findClass_of_methodNamed B.named
  have hlocks := B.notSynchronized
  subst hsz
  have hD := hD0.self (sz := s.heap.size)
  generalize hAe : va_A [] s.heap.size = A at hD ⊢
  have hA : ∀ q : Nat, s.heap.size ≤ q → A q := fun q h => by rw [← hAe]; exact Or.inr h
  have hS : va_S A s.heap s.heap [] := va_S.rf
  have hP : va_P D vwCl [] s.heap := hP
  have hl := lv_entry ([.int 4]) (n := 1) (Nat.le_of_ble_eq_true rfl)
  rw [show entryFrame m args 1 = F0 m 0 (lg_sl ([.int 4]) ++ List.replicate (1 - (lg_sl ([.int 4])).length) Slot.unset).toArray [] from by rw [hargs]; exact lg_entry_eq ..]
  generalize (lg_sl ([.int 4]) ++ List.replicate (1 - (lg_sl ([.int 4])).length) Slot.unset).toArray = ls at hl ⊢
  have hl : lv_has ls 1 [(0, .int 4)] := hl
  refine W_genQ (fun Q hQ => ?_)
  refine lv_iload_n hx hb dX11_madeOf_0 rfl (lv_at hl 0 rfl) ?_
  refine lv_tableIn (tgt := 56) hx hb dX11_madeOf_1 (by decide) (by decide) rfl (by decide) ?_
  refine va_new (ci := 1) (fs := [.null, .null, .int 0]) (C := RX1) (T := TX1) (N := 3) hx hb hg gwX1 tyX1 tyX1_ok hown (hg _ kw_118) (hg _ kw_119) (hg _ kw_120) hK hP hD hS hA rfl (by decide +kernel) (Nat.le_of_ble_eq_true rfl) (Nat.le_of_ble_eq_true rfl) dX11_madeOf_56 (fun q_56 H hP hD hS => ?_)
  have hP : va_P D vwCl [(q_56, .inr (1, [.null, .null, .int 0]))] H := hP
  have hD : va_D A [(q_56, .inr (1, [.null, .null, .int 0]))] := hD
  refine W.cs (cells' := 1) (slots' := 3) rfl rfl ?_
  refine lv_dup hx hb dX11_madeOf_59 rfl ?_
  have hPc := hP.sub (ws' := [(q_56, .inr (1, [.null, .null, .int 0]))]) [0] rfl
  have hKc := hK.sub (tys' := []) [] rfl
  have hDc := hD.sub (ws' := [(q_56, .inr (1, [.null, .null, .int 0]))]) [0] (by decide) rfl
  have hFc := va_free (wc := [(q_56, .inr (1, [.null, .null, .int 0]))]) hD hS hA [0] rfl
  refine va_callv (va_runIN (As := []) (rest := [.ref q_56]) ⟨hx, hb, hml, hown, hg⟩ (i_X1_1 l D q_56 _) ⟨va_cnB 0 hg (gw_I kw_121) rfl rfl rfl (hN.1 (RX11, 345, yX1_init) (by decide +kernel)) (hg _ kw_120) (by decide +kernel) ⟨Nat.le_of_ble_eq_true rfl, Nat.le_of_ble_eq_true rfl⟩, rfl, hg _ kw_122⟩ (pr_C hKc hPc hDc hN) rfl rfl hl.1 rfl (lv_room (Nat.le_of_ble_eq_true rfl)) dX11_madeOf_60 ⟨Nat.le_of_ble_eq_true rfl, Nat.le_of_ble_eq_true rfl⟩) hS (fun q _ h => hFc q h) hFc (fun u t H1 locs ht hvm h_60 hB hz1 hk1 hS => ?_)
  obtain ⟨nq_60, cQ_60, hP1, hK1, hD1⟩ := hB
  rw [ht] at hP1
  have hK1 := va_K.moved hvm.symm hK1
  obtain ⟨hP, hD⟩ := va_join (wr := []) (w1 := [(q_56, .inr (1, [.ref nq_60, .null, .int 0])), (nq_60, .inl (cQ_60, 4, .inl (fun _ => 0)))]) hP hD [0] [] rfl rfl (by decide) (by decide) hk1 hFc hP1 hD1
  have hK := hK.app hK1
  generalize H1 = H at hP hS ⊢
  have hP : va_P D vwCl [(q_56, .inr (1, [.ref nq_60, .null, .int 0])), (nq_60, .inl (cQ_60, 4, .inl (fun _ => 0)))] H := hP
  have hD : va_D A [(q_56, .inr (1, [.ref nq_60, .null, .int 0])), (nq_60, .inl (cQ_60, 4, .inl (fun _ => 0)))] := hD
  have hK : va_K D vwCl [(cQ_60, .int)] s := hK
  refine W.cs (cells' := 2) (slots' := 7) rfl rfl ?_
  try dsimp only at h_60
  subst hQ
  refine W.widen (k := 2) (n := 7) (Nat.le_of_ble_eq_true rfl) (Nat.le_of_ble_eq_true rfl) ?_
  have hP9 := hP.sub (ws' := [(q_56, .inr (1, [.ref nq_60, .null, .int 0])), (nq_60, .inl (cQ_60, 4, .inl (fun _ => 0)))]) [0, 1] rfl
  have hD9 := hD.sub (ws' := [(q_56, .inr (1, [.ref nq_60, .null, .int 0])), (nq_60, .inl (cQ_60, 4, .inl (fun _ => 0)))]) [0, 1] (by decide) rfl
  have hK9 := hK.sub (tys' := [(cQ_60, .int)]) [0] rfl
  exact W.aret (v := .ref q_56) hx hb hr (Or.inl ⟨_, rfl⟩) (Or.inr ⟨_, rfl⟩) (fun t ht hW => ⟨⟨(), q_56, rfl, trivial, ⟨nq_60, cQ_60, by rw [ht]; exact hP9, va_K.moved hW.alike hK9, hD9⟩⟩, hS.F ht⟩) hS.2.2 dX11_madeOf_63

set_option maxHeartbeats 4000000 in
set_option maxRecDepth 100000 in
theorem p_become_1 (l : Launch) (D : va_G) (h0 : Nat) (nq : Nat) (cQ : ClassId) (nf : Nat → Int32) (p1 : Int32) (p2 : Int32) (p3 : Int32) (p4 : Int32) (sz : Nat) : Met l yX3_become (Cond.code yX3_become cX3_become 5 none :: gw_tbl) ({ frames := 0, cells := 0, slots := 0, locals := 0 }) (pc_M D [(cQ, .int)] [(h0, .inr (1, [.ref nq, .null, .int 0])), (nq, .inl (cQ, 4, .inl nf))] sz [.ref h0, .int p1, .int p2, .int p3, .int p4]) (va_Qv (fun (u : Unit) => True) (fun _ t => ∃ (nf2 : Nat → Int32), va_P D vwCl [(h0, .inr (1, [.ref nq, .null, .int 0])), (nq, .inl (cQ, 4, .inl nf2))] t.heap ∧ va_K D vwCl [] t ∧ va_D (va_A [(h0, .inr (1, [.ref nq, .null, .int 0])), (nq, .inl (cQ, 4, .inl nf))] sz) [(h0, .inr (1, [.ref nq, .null, .int 0])), (nq, .inl (cQ, 4, .inl nf2))]) (va_A [(h0, .inr (1, [.ref nq, .null, .int 0])), (nq, .inl (cQ, 4, .inl nf))] sz)) 0 0 (va_A [(h0, .inr (1, [.ref nq, .null, .int 0])), (nq, .inl (cQ, 4, .inl nf))] sz) := by
  refine Met.ofW (cc := cX3_become) (maxL := 5) (ret := none) (by decide) rfl ?_
  intro p e s m args below meth c s₁ B hml hv
  obtain ⟨hargs, hsz, hP, hK, hD0⟩ := hv
  have hx := B.exec
  have hb := B.bytes
  have hr := B.returns
  have hts := atoms_spec (ws := Cond.code yX3_become cX3_become 5 none :: gw_tbl) B.pre
  have hg := fun (w : Cond) (h : w ∈ gw_tbl) => hts w (List.mem_cons_of_mem _ h)
  have hown : s.vm.findClass RX3 = some m.cls := findClass_of_methodNamed B.named
  have hlocks := B.notSynchronized
  subst hsz
  have hD := hD0.self (sz := s.heap.size)
  generalize hAe : va_A [(h0, .inr (1, [.ref nq, .null, .int 0])), (nq, .inl (cQ, 4, .inl nf))] s.heap.size = A at hD ⊢
  have hA : ∀ q : Nat, s.heap.size ≤ q → A q := fun q h => by rw [← hAe]; exact Or.inr h
  have hS : va_S A s.heap s.heap [] := va_S.rf
  have hP : va_P D vwCl [(h0, .inr (1, [.ref nq, .null, .int 0])), (nq, .inl (cQ, 4, .inl nf))] s.heap := hP
  have hl := lv_entry ([.ref h0, .int p1, .int p2, .int p3, .int p4]) (n := 5) (Nat.le_of_ble_eq_true rfl)
  rw [show entryFrame m args 5 = F0 m 0 (lg_sl ([.ref h0, .int p1, .int p2, .int p3, .int p4]) ++ List.replicate (5 - (lg_sl ([.ref h0, .int p1, .int p2, .int p3, .int p4])).length) Slot.unset).toArray [] from by rw [hargs]; exact lg_entry_eq ..]
  generalize (lg_sl ([.ref h0, .int p1, .int p2, .int p3, .int p4]) ++ List.replicate (5 - (lg_sl ([.ref h0, .int p1, .int p2, .int p3, .int p4])).length) Slot.unset).toArray = ls at hl ⊢
  have hl : lv_has ls 5 [(0, .ref h0), (1, .int p1), (2, .int p2), (3, .int p3), (4, .int p4)] := hl
  refine W_genQ (fun Q hQ => ?_)
  refine lv_aload_n hx hb dX3_become_0 rfl (lv_at hl 0 rfl) ?_
  refine va_get (D := D) (ci := 1) (v := .ref nq) (C := RX1) (T := TX1) (N := 3) hx hb hg gwX1 hown hK hP 0 rfl rfl 0 (by decide) (hg _ kw_97) (fun _ h9 => h9) rfl dX3_become_1 ?_
  refine lv_iconst (v := 0) hx hb dX3_become_4 (by decide) ?_
  refine lv_iload_n hx hb dX3_become_5 rfl (lv_at hl 1 rfl) ?_
  refine va_iast hx hb hK hP hD hS 1 0 rfl rfl (show ¬ ((0 : Int32) < 0 ∨ 4 ≤ (0 : Int32).toNatClampNeg) by decide) dX3_become_6 (fun H locs hP hD hS => ?_)
  generalize (upd nf (0 : Int32).toNatClampNeg p1) = f_6 at hP hD
  have hP : va_P D vwCl [(h0, .inr (1, [.ref nq, .null, .int 0])), (nq, .inl (cQ, 4, .inl f_6))] H := hP
  have hD : va_D A [(h0, .inr (1, [.ref nq, .null, .int 0])), (nq, .inl (cQ, 4, .inl f_6))] := hD
  refine lv_aload_n hx hb dX3_become_7 rfl (lv_at hl 0 rfl) ?_
  refine va_get (D := D) (ci := 1) (v := .ref nq) (C := RX1) (T := TX1) (N := 3) hx hb hg gwX1 hown hK hP 0 rfl rfl 0 (by decide) (hg _ kw_97) (fun _ h9 => h9) rfl dX3_become_8 ?_
  refine lv_iconst (v := 1) hx hb dX3_become_11 (by decide) ?_
  refine lv_iload_n hx hb dX3_become_12 rfl (lv_at hl 2 rfl) ?_
  refine va_iast hx hb hK hP hD hS 1 0 rfl rfl (show ¬ ((1 : Int32) < 0 ∨ 4 ≤ (1 : Int32).toNatClampNeg) by decide) dX3_become_13 (fun H locs hP hD hS => ?_)
  generalize (upd f_6 (1 : Int32).toNatClampNeg p2) = f_13 at hP hD
  have hP : va_P D vwCl [(h0, .inr (1, [.ref nq, .null, .int 0])), (nq, .inl (cQ, 4, .inl f_13))] H := hP
  have hD : va_D A [(h0, .inr (1, [.ref nq, .null, .int 0])), (nq, .inl (cQ, 4, .inl f_13))] := hD
  refine lv_aload_n hx hb dX3_become_14 rfl (lv_at hl 0 rfl) ?_
  refine va_get (D := D) (ci := 1) (v := .ref nq) (C := RX1) (T := TX1) (N := 3) hx hb hg gwX1 hown hK hP 0 rfl rfl 0 (by decide) (hg _ kw_97) (fun _ h9 => h9) rfl dX3_become_15 ?_
  refine lv_iconst (v := 2) hx hb dX3_become_18 (by decide) ?_
  refine lv_iload_n hx hb dX3_become_19 rfl (lv_at hl 3 rfl) ?_
  refine va_iast hx hb hK hP hD hS 1 0 rfl rfl (show ¬ ((2 : Int32) < 0 ∨ 4 ≤ (2 : Int32).toNatClampNeg) by decide) dX3_become_20 (fun H locs hP hD hS => ?_)
  generalize (upd f_13 (2 : Int32).toNatClampNeg p3) = f_20 at hP hD
  have hP : va_P D vwCl [(h0, .inr (1, [.ref nq, .null, .int 0])), (nq, .inl (cQ, 4, .inl f_20))] H := hP
  have hD : va_D A [(h0, .inr (1, [.ref nq, .null, .int 0])), (nq, .inl (cQ, 4, .inl f_20))] := hD
  refine lv_aload_n hx hb dX3_become_21 rfl (lv_at hl 0 rfl) ?_
  refine va_get (D := D) (ci := 1) (v := .ref nq) (C := RX1) (T := TX1) (N := 3) hx hb hg gwX1 hown hK hP 0 rfl rfl 0 (by decide) (hg _ kw_97) (fun _ h9 => h9) rfl dX3_become_22 ?_
  refine lv_iconst (v := 3) hx hb dX3_become_25 (by decide) ?_
  refine lv_iload hx hb dX3_become_26 (lv_at hl 4 rfl) ?_
  refine va_iast hx hb hK hP hD hS 1 0 rfl rfl (show ¬ ((3 : Int32) < 0 ∨ 4 ≤ (3 : Int32).toNatClampNeg) by decide) dX3_become_28 (fun H locs hP hD hS => ?_)
  generalize (upd f_20 (3 : Int32).toNatClampNeg p4) = f_28 at hP hD
  have hP : va_P D vwCl [(h0, .inr (1, [.ref nq, .null, .int 0])), (nq, .inl (cQ, 4, .inl f_28))] H := hP
  have hD : va_D A [(h0, .inr (1, [.ref nq, .null, .int 0])), (nq, .inl (cQ, 4, .inl f_28))] := hD
  subst hQ
  refine W.widen (k := 0) (n := 0) (Nat.le_of_ble_eq_true rfl) (Nat.le_of_ble_eq_true rfl) ?_
  have hP9 := hP.sub (ws' := [(h0, .inr (1, [.ref nq, .null, .int 0])), (nq, .inl (cQ, 4, .inl f_28))]) [0, 1] rfl
  have hD9 := hD.sub (ws' := [(h0, .inr (1, [.ref nq, .null, .int 0])), (nq, .inl (cQ, 4, .inl f_28))]) [0, 1] (by decide) rfl
  have hK9 := hK.sub (tys' := []) [] rfl
  exact W.vret hx hb hr (fun t ht hW => ⟨⟨(), rfl, trivial, ⟨f_28, by rw [ht]; exact hP9, va_K.moved hW.alike hK9, hD9⟩⟩, hS.F ht⟩) hS.2.2 dX3_become_29

theorem dX11_areNumbers_0 : decode cX11_areNumbers 0 = .ok (.iload_n 0, 1) := by decide +kernel
theorem dX11_areNumbers_1 : decode cX11_areNumbers 1 = .ok (.iconst 4, 1) := by decide +kernel
theorem dX11_areNumbers_2 : decode cX11_areNumbers 2 = .ok (.if_icmp .ne 8, 3) := by decide +kernel
theorem dX11_areNumbers_5 : decode cX11_areNumbers 5 = .ok (.bipush 100, 2) := by decide +kernel
theorem dX11_areNumbers_7 : decode cX11_areNumbers 7 = .ok (.goto 6, 3) := by decide +kernel
theorem dX11_areNumbers_10 : decode cX11_areNumbers 10 = .ok (.sipush 999, 3) := by decide +kernel
theorem dX11_areNumbers_13 : decode cX11_areNumbers 13 = .ok (.istore 5, 2) := by decide +kernel
theorem dX11_areNumbers_15 : decode cX11_areNumbers 15 = .ok (.iload_n 1, 1) := by decide +kernel
theorem dX11_areNumbers_16 : decode cX11_areNumbers 16 = .ok (.iconst 0, 1) := by decide +kernel
theorem dX11_areNumbers_17 : decode cX11_areNumbers 17 = .ok (.sipush 999, 3) := by decide +kernel
theorem dX11_areNumbers_20 : decode cX11_areNumbers 20 = .ok (.invokestatic 105, 3) := by decide +kernel
theorem dX11_areNumbers_23 : decode cX11_areNumbers 23 = .ok (.ifCond .eq 39, 3) := by decide +kernel
theorem dX11_areNumbers_26 : decode cX11_areNumbers 26 = .ok (.iload_n 2, 1) := by decide +kernel
theorem dX11_areNumbers_27 : decode cX11_areNumbers 27 = .ok (.iconst 0, 1) := by decide +kernel
theorem dX11_areNumbers_28 : decode cX11_areNumbers 28 = .ok (.iload 5, 2) := by decide +kernel
theorem dX11_areNumbers_30 : decode cX11_areNumbers 30 = .ok (.invokestatic 105, 3) := by decide +kernel
theorem dX11_areNumbers_33 : decode cX11_areNumbers 33 = .ok (.ifCond .eq 29, 3) := by decide +kernel
theorem dX11_areNumbers_36 : decode cX11_areNumbers 36 = .ok (.iload_n 3, 1) := by decide +kernel
theorem dX11_areNumbers_37 : decode cX11_areNumbers 37 = .ok (.iconst 0, 1) := by decide +kernel
theorem dX11_areNumbers_38 : decode cX11_areNumbers 38 = .ok (.sipush 999, 3) := by decide +kernel
theorem dX11_areNumbers_41 : decode cX11_areNumbers 41 = .ok (.invokestatic 105, 3) := by decide +kernel
theorem dX11_areNumbers_44 : decode cX11_areNumbers 44 = .ok (.ifCond .eq 18, 3) := by decide +kernel
theorem dX11_areNumbers_47 : decode cX11_areNumbers 47 = .ok (.iload 4, 2) := by decide +kernel
theorem dX11_areNumbers_49 : decode cX11_areNumbers 49 = .ok (.iconst 0, 1) := by decide +kernel
theorem dX11_areNumbers_50 : decode cX11_areNumbers 50 = .ok (.iload 5, 2) := by decide +kernel
theorem dX11_areNumbers_52 : decode cX11_areNumbers 52 = .ok (.invokestatic 105, 3) := by decide +kernel
theorem dX11_areNumbers_55 : decode cX11_areNumbers 55 = .ok (.ifCond .eq 7, 3) := by decide +kernel
theorem dX11_areNumbers_58 : decode cX11_areNumbers 58 = .ok (.iconst 1, 1) := by decide +kernel
theorem dX11_areNumbers_59 : decode cX11_areNumbers 59 = .ok (.goto 4, 3) := by decide +kernel
theorem dX11_areNumbers_62 : decode cX11_areNumbers 62 = .ok (.iconst 0, 1) := by decide +kernel
theorem dX11_areNumbers_63 : decode cX11_areNumbers 63 = .ok (.ireturn, 1) := by decide +kernel

set_option maxHeartbeats 4000000 in
set_option maxRecDepth 100000 in
theorem x_areNumbers (l : Launch) (p1 : Int32) (p2 : Int32) (p3 : Int32) (p4 : Int32) (p5 : Int32) : Met l yX11_areNumbers (Cond.code yX11_areNumbers cX11_areNumbers 6 (some .boolean) :: gw_tbl) ({ frames := 1, cells := 0, slots := 0, locals := 22 }) (pc_0 [.int p1, .int p2, .int p3, .int p4, .int p5]) (vp_Si (fun r => r = anf p1 p2 p3 p4 p5)) 0 0 (fun _ => False) := by
  refine Met.ofW (cc := cX11_areNumbers) (maxL := 6) (ret := (some .boolean)) (by decide) rfl ?_
  intro p e s m args below meth c s₁ B hml hv
  obtain ⟨hargs, -⟩ := hv
  have hx := B.exec
  have hb := B.bytes
  have hr := B.returns
  have hts := atoms_spec (ws := Cond.code yX11_areNumbers cX11_areNumbers 6 (some .boolean) :: gw_tbl) B.pre
  have hg := fun (w : Cond) (h : w ∈ gw_tbl) => hts w (List.mem_cons_of_mem _ h)
  have hown : s.vm.findClass RX11 = some m.cls := findClass_of_methodNamed B.named
  have hlocks := B.notSynchronized
  have hl := lv_entry ([.int p1, .int p2, .int p3, .int p4, .int p5]) (n := 6) (Nat.le_of_ble_eq_true rfl)
  rw [show entryFrame m args 6 = F0 m 0 (lg_sl ([.int p1, .int p2, .int p3, .int p4, .int p5]) ++ List.replicate (6 - (lg_sl ([.int p1, .int p2, .int p3, .int p4, .int p5])).length) Slot.unset).toArray [] from by rw [hargs]; exact lg_entry_eq ..]
  generalize (lg_sl ([.int p1, .int p2, .int p3, .int p4, .int p5]) ++ List.replicate (6 - (lg_sl ([.int p1, .int p2, .int p3, .int p4, .int p5])).length) Slot.unset).toArray = ls at hl ⊢
  have hl : lv_has ls 6 [(0, .int p1), (1, .int p2), (2, .int p3), (3, .int p4), (4, .int p5)] := hl
  refine W_genQ (fun Q hQ => ?_)
  refine lv_iload_n hx hb dX11_areNumbers_0 rfl (lv_at hl 0 rfl) ?_
  refine lv_iconst (v := 4) hx hb dX11_areNumbers_1 (by decide) ?_
  refine lv_icmp_ne (tgt := 10) hx hb dX11_areNumbers_2 (by decide) (fun c_2 => ?_) (fun c_2 => ?_)
  · refine lv_sipush (v := 999) hx hb dX11_areNumbers_10 (by decide) ?_
    refine lv_istore (lv' := [(5, .int 999), (0, .int p1), (1, .int p2), (2, .int p3), (3, .int p4), (4, .int p5)]) hx hb dX11_areNumbers_13 hl (by decide) rfl (fun ls hl => ?_)
    refine lv_iload_n hx hb dX11_areNumbers_15 rfl (lv_at hl 2 rfl) ?_
    refine lv_iconst (v := 0) hx hb dX11_areNumbers_16 (by decide) ?_
    refine lv_sipush (v := 999) hx hb dX11_areNumbers_17 (by decide) ?_
    refine vp_callSi (W.runS (As := [.int p2, .int 0, .int 999]) (rest := []) ⟨hx, hb, hml, hown, hg⟩ (c_isWithin l p2 0 999) (va_cwS 3 hg (gw_S kw_4 kw_5 kw_6 kw_3) rfl rfl rfl (by decide +kernel) ⟨Nat.le_of_ble_eq_true rfl, Nat.le_of_ble_eq_true rfl⟩) pr_0 rfl rfl hl.1 rfl (lv_room (Nat.le_of_ble_eq_true rfl)) dX11_areNumbers_20 ⟨Nat.le_of_ble_eq_true rfl, Nat.le_of_ble_eq_true rfl⟩) (fun r_20 h_20 => ?_)
    try dsimp only at h_20
    refine lv_if_eq (tgt := 62) hx hb dX11_areNumbers_23 (by decide) (fun c_23 => ?_) (fun c_23 => ?_)
    · refine lv_iconst (v := 0) hx hb dX11_areNumbers_62 (by decide) ?_
      have hq : ¬ okq p1 p2 p3 p4 p5 := fun q => by
        replace q := q.1
        exact iw_n h_20 c_23 q
      subst hQ
      exact W.zret (v := 0) hx hb hr (by decide) (fun t ht hW => ⟨0, rfl, (an_0 hq), ht⟩) (fun _ h => absurd h List.not_mem_nil) dX11_areNumbers_63
    · refine lv_iload_n hx hb dX11_areNumbers_26 rfl (lv_at hl 3 rfl) ?_
      refine lv_iconst (v := 0) hx hb dX11_areNumbers_27 (by decide) ?_
      refine lv_iload hx hb dX11_areNumbers_28 (lv_at hl 0 rfl) ?_
      refine vp_callSi (W.runS (As := [.int p3, .int 0, .int 999]) (rest := []) ⟨hx, hb, hml, hown, hg⟩ (c_isWithin l p3 0 999) (va_cwS 3 hg (gw_S kw_4 kw_5 kw_6 kw_3) rfl rfl rfl (by decide +kernel) ⟨Nat.le_of_ble_eq_true rfl, Nat.le_of_ble_eq_true rfl⟩) pr_0 rfl rfl hl.1 rfl (lv_room (Nat.le_of_ble_eq_true rfl)) dX11_areNumbers_30 ⟨Nat.le_of_ble_eq_true rfl, Nat.le_of_ble_eq_true rfl⟩) (fun r_30 h_30 => ?_)
      try dsimp only at h_30
      refine lv_if_eq (tgt := 62) hx hb dX11_areNumbers_33 (by decide) (fun c_33 => ?_) (fun c_33 => ?_)
      · refine lv_iconst (v := 0) hx hb dX11_areNumbers_62 (by decide) ?_
        have hq : ¬ okq p1 p2 p3 p4 p5 := fun q => by
          replace q := q.2.1
          rw [ms4_n c_2] at q
          exact iw_n h_30 c_33 q
        subst hQ
        exact W.zret (v := 0) hx hb hr (by decide) (fun t ht hW => ⟨0, rfl, (an_0 hq), ht⟩) (fun _ h => absurd h List.not_mem_nil) dX11_areNumbers_63
      · refine lv_iload_n hx hb dX11_areNumbers_36 rfl (lv_at hl 4 rfl) ?_
        refine lv_iconst (v := 0) hx hb dX11_areNumbers_37 (by decide) ?_
        refine lv_sipush (v := 999) hx hb dX11_areNumbers_38 (by decide) ?_
        refine vp_callSi (W.runS (As := [.int p4, .int 0, .int 999]) (rest := []) ⟨hx, hb, hml, hown, hg⟩ (c_isWithin l p4 0 999) (va_cwS 3 hg (gw_S kw_4 kw_5 kw_6 kw_3) rfl rfl rfl (by decide +kernel) ⟨Nat.le_of_ble_eq_true rfl, Nat.le_of_ble_eq_true rfl⟩) pr_0 rfl rfl hl.1 rfl (lv_room (Nat.le_of_ble_eq_true rfl)) dX11_areNumbers_41 ⟨Nat.le_of_ble_eq_true rfl, Nat.le_of_ble_eq_true rfl⟩) (fun r_41 h_41 => ?_)
        try dsimp only at h_41
        refine lv_if_eq (tgt := 62) hx hb dX11_areNumbers_44 (by decide) (fun c_44 => ?_) (fun c_44 => ?_)
        · refine lv_iconst (v := 0) hx hb dX11_areNumbers_62 (by decide) ?_
          have hq : ¬ okq p1 p2 p3 p4 p5 := fun q => by
            replace q := q.2.2.1
            exact iw_n h_41 c_44 q
          subst hQ
          exact W.zret (v := 0) hx hb hr (by decide) (fun t ht hW => ⟨0, rfl, (an_0 hq), ht⟩) (fun _ h => absurd h List.not_mem_nil) dX11_areNumbers_63
        · refine lv_iload hx hb dX11_areNumbers_47 (lv_at hl 5 rfl) ?_
          refine lv_iconst (v := 0) hx hb dX11_areNumbers_49 (by decide) ?_
          refine lv_iload hx hb dX11_areNumbers_50 (lv_at hl 0 rfl) ?_
          refine vp_callSi (W.runS (As := [.int p5, .int 0, .int 999]) (rest := []) ⟨hx, hb, hml, hown, hg⟩ (c_isWithin l p5 0 999) (va_cwS 3 hg (gw_S kw_4 kw_5 kw_6 kw_3) rfl rfl rfl (by decide +kernel) ⟨Nat.le_of_ble_eq_true rfl, Nat.le_of_ble_eq_true rfl⟩) pr_0 rfl rfl hl.1 rfl (lv_room (Nat.le_of_ble_eq_true rfl)) dX11_areNumbers_52 ⟨Nat.le_of_ble_eq_true rfl, Nat.le_of_ble_eq_true rfl⟩) (fun r_52 h_52 => ?_)
          try dsimp only at h_52
          refine lv_if_eq (tgt := 62) hx hb dX11_areNumbers_55 (by decide) (fun c_55 => ?_) (fun c_55 => ?_)
          · refine lv_iconst (v := 0) hx hb dX11_areNumbers_62 (by decide) ?_
            have hq : ¬ okq p1 p2 p3 p4 p5 := fun q => by
              replace q := q.2.2.2
              rw [ms4_n c_2] at q
              exact iw_n h_52 c_55 q
            subst hQ
            exact W.zret (v := 0) hx hb hr (by decide) (fun t ht hW => ⟨0, rfl, (an_0 hq), ht⟩) (fun _ h => absurd h List.not_mem_nil) dX11_areNumbers_63
          · refine lv_iconst (v := 1) hx hb dX11_areNumbers_58 (by decide) ?_
            refine lv_goto (tgt := 63) hx hb dX11_areNumbers_59 (by decide) ?_
            have hq : okq p1 p2 p3 p4 p5 := ⟨iw_y h_20 c_23, by rw [ms4_n c_2]; exact iw_y h_30 c_33, iw_y h_41 c_44, by rw [ms4_n c_2]; exact iw_y h_52 c_55⟩
            subst hQ
            exact W.zret (v := 1) hx hb hr (by decide) (fun t ht hW => ⟨1, rfl, (an_1 hq), ht⟩) (fun _ h => absurd h List.not_mem_nil) dX11_areNumbers_63
  · refine lv_bipush (v := 100) hx hb dX11_areNumbers_5 (by decide) ?_
    refine lv_goto (tgt := 13) hx hb dX11_areNumbers_7 (by decide) ?_
    refine lv_istore (lv' := [(5, .int 100), (0, .int p1), (1, .int p2), (2, .int p3), (3, .int p4), (4, .int p5)]) hx hb dX11_areNumbers_13 hl (by decide) rfl (fun ls hl => ?_)
    refine lv_iload_n hx hb dX11_areNumbers_15 rfl (lv_at hl 2 rfl) ?_
    refine lv_iconst (v := 0) hx hb dX11_areNumbers_16 (by decide) ?_
    refine lv_sipush (v := 999) hx hb dX11_areNumbers_17 (by decide) ?_
    refine vp_callSi (W.runS (As := [.int p2, .int 0, .int 999]) (rest := []) ⟨hx, hb, hml, hown, hg⟩ (c_isWithin l p2 0 999) (va_cwS 3 hg (gw_S kw_4 kw_5 kw_6 kw_3) rfl rfl rfl (by decide +kernel) ⟨Nat.le_of_ble_eq_true rfl, Nat.le_of_ble_eq_true rfl⟩) pr_0 rfl rfl hl.1 rfl (lv_room (Nat.le_of_ble_eq_true rfl)) dX11_areNumbers_20 ⟨Nat.le_of_ble_eq_true rfl, Nat.le_of_ble_eq_true rfl⟩) (fun r_20 h_20 => ?_)
    try dsimp only at h_20
    refine lv_if_eq (tgt := 62) hx hb dX11_areNumbers_23 (by decide) (fun c_23 => ?_) (fun c_23 => ?_)
    · refine lv_iconst (v := 0) hx hb dX11_areNumbers_62 (by decide) ?_
      have hq : ¬ okq p1 p2 p3 p4 p5 := fun q => by
        replace q := q.1
        exact iw_n h_20 c_23 q
      subst hQ
      exact W.zret (v := 0) hx hb hr (by decide) (fun t ht hW => ⟨0, rfl, (an_0 hq), ht⟩) (fun _ h => absurd h List.not_mem_nil) dX11_areNumbers_63
    · refine lv_iload_n hx hb dX11_areNumbers_26 rfl (lv_at hl 3 rfl) ?_
      refine lv_iconst (v := 0) hx hb dX11_areNumbers_27 (by decide) ?_
      refine lv_iload hx hb dX11_areNumbers_28 (lv_at hl 0 rfl) ?_
      refine vp_callSi (W.runS (As := [.int p3, .int 0, .int 100]) (rest := []) ⟨hx, hb, hml, hown, hg⟩ (c_isWithin l p3 0 100) (va_cwS 3 hg (gw_S kw_4 kw_5 kw_6 kw_3) rfl rfl rfl (by decide +kernel) ⟨Nat.le_of_ble_eq_true rfl, Nat.le_of_ble_eq_true rfl⟩) pr_0 rfl rfl hl.1 rfl (lv_room (Nat.le_of_ble_eq_true rfl)) dX11_areNumbers_30 ⟨Nat.le_of_ble_eq_true rfl, Nat.le_of_ble_eq_true rfl⟩) (fun r_30 h_30 => ?_)
      try dsimp only at h_30
      refine lv_if_eq (tgt := 62) hx hb dX11_areNumbers_33 (by decide) (fun c_33 => ?_) (fun c_33 => ?_)
      · refine lv_iconst (v := 0) hx hb dX11_areNumbers_62 (by decide) ?_
        have hq : ¬ okq p1 p2 p3 p4 p5 := fun q => by
          replace q := q.2.1
          rw [ms4_y c_2] at q
          exact iw_n h_30 c_33 q
        subst hQ
        exact W.zret (v := 0) hx hb hr (by decide) (fun t ht hW => ⟨0, rfl, (an_0 hq), ht⟩) (fun _ h => absurd h List.not_mem_nil) dX11_areNumbers_63
      · refine lv_iload_n hx hb dX11_areNumbers_36 rfl (lv_at hl 4 rfl) ?_
        refine lv_iconst (v := 0) hx hb dX11_areNumbers_37 (by decide) ?_
        refine lv_sipush (v := 999) hx hb dX11_areNumbers_38 (by decide) ?_
        refine vp_callSi (W.runS (As := [.int p4, .int 0, .int 999]) (rest := []) ⟨hx, hb, hml, hown, hg⟩ (c_isWithin l p4 0 999) (va_cwS 3 hg (gw_S kw_4 kw_5 kw_6 kw_3) rfl rfl rfl (by decide +kernel) ⟨Nat.le_of_ble_eq_true rfl, Nat.le_of_ble_eq_true rfl⟩) pr_0 rfl rfl hl.1 rfl (lv_room (Nat.le_of_ble_eq_true rfl)) dX11_areNumbers_41 ⟨Nat.le_of_ble_eq_true rfl, Nat.le_of_ble_eq_true rfl⟩) (fun r_41 h_41 => ?_)
        try dsimp only at h_41
        refine lv_if_eq (tgt := 62) hx hb dX11_areNumbers_44 (by decide) (fun c_44 => ?_) (fun c_44 => ?_)
        · refine lv_iconst (v := 0) hx hb dX11_areNumbers_62 (by decide) ?_
          have hq : ¬ okq p1 p2 p3 p4 p5 := fun q => by
            replace q := q.2.2.1
            exact iw_n h_41 c_44 q
          subst hQ
          exact W.zret (v := 0) hx hb hr (by decide) (fun t ht hW => ⟨0, rfl, (an_0 hq), ht⟩) (fun _ h => absurd h List.not_mem_nil) dX11_areNumbers_63
        · refine lv_iload hx hb dX11_areNumbers_47 (lv_at hl 5 rfl) ?_
          refine lv_iconst (v := 0) hx hb dX11_areNumbers_49 (by decide) ?_
          refine lv_iload hx hb dX11_areNumbers_50 (lv_at hl 0 rfl) ?_
          refine vp_callSi (W.runS (As := [.int p5, .int 0, .int 100]) (rest := []) ⟨hx, hb, hml, hown, hg⟩ (c_isWithin l p5 0 100) (va_cwS 3 hg (gw_S kw_4 kw_5 kw_6 kw_3) rfl rfl rfl (by decide +kernel) ⟨Nat.le_of_ble_eq_true rfl, Nat.le_of_ble_eq_true rfl⟩) pr_0 rfl rfl hl.1 rfl (lv_room (Nat.le_of_ble_eq_true rfl)) dX11_areNumbers_52 ⟨Nat.le_of_ble_eq_true rfl, Nat.le_of_ble_eq_true rfl⟩) (fun r_52 h_52 => ?_)
          try dsimp only at h_52
          refine lv_if_eq (tgt := 62) hx hb dX11_areNumbers_55 (by decide) (fun c_55 => ?_) (fun c_55 => ?_)
          · refine lv_iconst (v := 0) hx hb dX11_areNumbers_62 (by decide) ?_
            have hq : ¬ okq p1 p2 p3 p4 p5 := fun q => by
              replace q := q.2.2.2
              rw [ms4_y c_2] at q
              exact iw_n h_52 c_55 q
            subst hQ
            exact W.zret (v := 0) hx hb hr (by decide) (fun t ht hW => ⟨0, rfl, (an_0 hq), ht⟩) (fun _ h => absurd h List.not_mem_nil) dX11_areNumbers_63
          · refine lv_iconst (v := 1) hx hb dX11_areNumbers_58 (by decide) ?_
            refine lv_goto (tgt := 63) hx hb dX11_areNumbers_59 (by decide) ?_
            have hq : okq p1 p2 p3 p4 p5 := ⟨iw_y h_20 c_23, by rw [ms4_y c_2]; exact iw_y h_30 c_33, iw_y h_41 c_44, by rw [ms4_y c_2]; exact iw_y h_52 c_55⟩
            subst hQ
            exact W.zret (v := 1) hx hb hr (by decide) (fun t ht hW => ⟨1, rfl, (an_1 hq), ht⟩) (fun _ h => absurd h List.not_mem_nil) dX11_areNumbers_63

theorem dX11_pay_0 : decode cX11_pay 0 = .ok (.iload_n 1, 1) := by decide +kernel
theorem dX11_pay_1 : decode cX11_pay 1 = .ok (.iconst 0, 1) := by decide +kernel
theorem dX11_pay_2 : decode cX11_pay 2 = .ok (.iconst 4, 1) := by decide +kernel
theorem dX11_pay_3 : decode cX11_pay 3 = .ok (.invokestatic 105, 3) := by decide +kernel
theorem dX11_pay_6 : decode cX11_pay 6 = .ok (.ifCond .eq 16, 3) := by decide +kernel
theorem dX11_pay_9 : decode cX11_pay 9 = .ok (.iload_n 1, 1) := by decide +kernel
theorem dX11_pay_10 : decode cX11_pay 10 = .ok (.iload_n 2, 1) := by decide +kernel
theorem dX11_pay_11 : decode cX11_pay 11 = .ok (.iload_n 3, 1) := by decide +kernel
theorem dX11_pay_12 : decode cX11_pay 12 = .ok (.iload 4, 2) := by decide +kernel
theorem dX11_pay_14 : decode cX11_pay 14 = .ok (.iload 5, 2) := by decide +kernel
theorem dX11_pay_16 : decode cX11_pay 16 = .ok (.invokestatic 130, 3) := by decide +kernel
theorem dX11_pay_19 : decode cX11_pay 19 = .ok (.ifCond .ne 6, 3) := by decide +kernel
theorem dX11_pay_22 : decode cX11_pay 22 = .ok (.bipush (-102), 2) := by decide +kernel
theorem dX11_pay_24 : decode cX11_pay 24 = .ok (.ireturn, 1) := by decide +kernel
theorem dX11_pay_25 : decode cX11_pay 25 = .ok (.aload_n 0, 1) := by decide +kernel
theorem dX11_pay_26 : decode cX11_pay 26 = .ok (.getfield 134, 3) := by decide +kernel
theorem dX11_pay_29 : decode cX11_pay 29 = .ok (.bipush 8, 2) := by decide +kernel
theorem dX11_pay_31 : decode cX11_pay 31 = .ok (.if_icmp .lt 6, 3) := by decide +kernel
theorem dX11_pay_34 : decode cX11_pay 34 = .ok (.bipush (-104), 2) := by decide +kernel
theorem dX11_pay_36 : decode cX11_pay 36 = .ok (.ireturn, 1) := by decide +kernel
theorem dX11_pay_37 : decode cX11_pay 37 = .ok (.iload_n 1, 1) := by decide +kernel
theorem dX11_pay_38 : decode cX11_pay 38 = .ok (.invokestatic 137, 3) := by decide +kernel
theorem dX11_pay_41 : decode cX11_pay 41 = .ok (.astore 6, 2) := by decide +kernel
theorem dX11_pay_43 : decode cX11_pay 43 = .ok (.aload 6, 2) := by decide +kernel
theorem dX11_pay_45 : decode cX11_pay 45 = .ok (.iload_n 2, 1) := by decide +kernel
theorem dX11_pay_46 : decode cX11_pay 46 = .ok (.iload_n 3, 1) := by decide +kernel
theorem dX11_pay_47 : decode cX11_pay 47 = .ok (.iload 4, 2) := by decide +kernel
theorem dX11_pay_49 : decode cX11_pay 49 = .ok (.iload 5, 2) := by decide +kernel
theorem dX11_pay_51 : decode cX11_pay 51 = .ok (.invokevirtual 141, 3) := by decide +kernel
theorem dX11_pay_54 : decode cX11_pay 54 = .ok (.aload_n 0, 1) := by decide +kernel
theorem dX11_pay_55 : decode cX11_pay 55 = .ok (.getfield 32, 3) := by decide +kernel
theorem dX11_pay_58 : decode cX11_pay 58 = .ok (.aload_n 0, 1) := by decide +kernel
theorem dX11_pay_59 : decode cX11_pay 59 = .ok (.getfield 134, 3) := by decide +kernel
theorem dX11_pay_62 : decode cX11_pay 62 = .ok (.aload 6, 2) := by decide +kernel
theorem dX11_pay_64 : decode cX11_pay 64 = .ok (.aastore, 1) := by decide +kernel
theorem dX11_pay_65 : decode cX11_pay 65 = .ok (.aload_n 0, 1) := by decide +kernel
theorem dX11_pay_66 : decode cX11_pay 66 = .ok (.dup, 1) := by decide +kernel
theorem dX11_pay_67 : decode cX11_pay 67 = .ok (.getfield 134, 3) := by decide +kernel
theorem dX11_pay_70 : decode cX11_pay 70 = .ok (.iconst 1, 1) := by decide +kernel
theorem dX11_pay_71 : decode cX11_pay 71 = .ok (.iadd, 1) := by decide +kernel
theorem dX11_pay_72 : decode cX11_pay 72 = .ok (.putfield 134, 3) := by decide +kernel
theorem dX11_pay_75 : decode cX11_pay 75 = .ok (.aload_n 0, 1) := by decide +kernel
theorem dX11_pay_76 : decode cX11_pay 76 = .ok (.getfield 134, 3) := by decide +kernel
theorem dX11_pay_79 : decode cX11_pay 79 = .ok (.iconst 1, 1) := by decide +kernel
theorem dX11_pay_80 : decode cX11_pay 80 = .ok (.isub, 1) := by decide +kernel
theorem dX11_pay_81 : decode cX11_pay 81 = .ok (.ireturn, 1) := by decide +kernel
theorem kw_123 : (.code yX11_areNumbers cX11_areNumbers 6 (some .boolean) : Cond) ∈ gw_tbl := gw_in (by decide +kernel) (by decide +kernel)
theorem kw_124 : (.methodLink RX11 130 yX11_areNumbers : Cond) ∈ gw_tbl := gw_in (by decide +kernel) (by decide +kernel)
theorem kw_125 : (.static yX11_areNumbers : Cond) ∈ gw_tbl := gw_in (by decide +kernel) (by decide +kernel)
theorem kw_126 : (.code yX11_madeOf cX11_madeOf 1 (some (.object "NobodyChecks$Pay")) : Cond) ∈ gw_tbl := gw_in (by decide +kernel) (by decide +kernel)
theorem kw_127 : (.methodLink RX11 137 yX11_madeOf : Cond) ∈ gw_tbl := gw_in (by decide +kernel) (by decide +kernel)
theorem kw_128 : (.static yX11_madeOf : Cond) ∈ gw_tbl := gw_in (by decide +kernel) (by decide +kernel)
theorem kw_129 : (.code yX3_become cX3_become 5 none : Cond) ∈ gw_tbl := gw_in (by decide +kernel) (by decide +kernel)
theorem kw_130 : (.methodLink RX11 141 yX3_become : Cond) ∈ gw_tbl := gw_in (by decide +kernel) (by decide +kernel)
theorem kw_131 : (.instanceMethod yX3_become : Cond) ∈ gw_tbl := gw_in (by decide +kernel) (by decide +kernel)
theorem kw_132 : (.selects RX3 yX3_become yX3_become : Cond) ∈ gw_tbl := gw_in (by decide +kernel) (by decide +kernel)
theorem kw_133 : (.fieldLink RX11 32 "NobodyChecks" "pays" "[LNobodyChecks$Pay;" : Cond) ∈ gw_tbl := gw_in (by decide +kernel) (by decide +kernel)
theorem kw_134 : (.sameMethod yX3_become.cls "NobodyChecks$Pay" yX3_become.name yX3_become.desc : Cond) ∈ gw_tbl := gw_in (by decide +kernel) (by decide +kernel)
theorem kw_135 : (.selects RX9 yX3_become yX3_become : Cond) ∈ gw_tbl := gw_in (by decide +kernel) (by decide +kernel)
theorem kw_136 : (.selects RX10 yX3_become yX3_become : Cond) ∈ gw_tbl := gw_in (by decide +kernel) (by decide +kernel)
theorem kw_137 : (.selects RX6 yX3_become yX3_become : Cond) ∈ gw_tbl := gw_in (by decide +kernel) (by decide +kernel)
theorem kw_138 : (.selects RX1 yX3_become yX3_become : Cond) ∈ gw_tbl := gw_in (by decide +kernel) (by decide +kernel)

set_option maxHeartbeats 4000000 in
set_option maxRecDepth 100000 in
theorem x_pay (l : Launch) (D : va_G) (x0 : Nat) (pg : Nat) (rd : Nat) (aq : Nat) (py : Nat) (pl : Nat) (ch : Nat) (ro : Nat) (cP : ClassId) (p1 : Int32) (p2 : Int32) (p3 : Int32) (p4 : Int32) (p5 : Int32) (sz : Nat) : Met l yX11_pay (Cond.code yX11_pay cX11_pay 7 (some .int) :: gw_tbl) ({ frames := 5, cells := 2, slots := 7, locals := 92 }) (pc_C D [(cP, .object RX3)] [(x0, .inr (11, [.ref pg, .ref rd, .ref aq, .ref py, .ref pl, .ref ch, .ref ro, .int 0, .int 0])), (py, .inl (cP, 8, .inr (.inr (.inr (.inr (fun _ => none))))))] sz [.ref x0, .int p1, .int p2, .int p3, .int p4, .int p5]) (va_Qi (fun (r : Int32) (u : Unit) => r = spay p1 p2 p3 p4 p5) (fun _ _ => True) (va_A [(x0, .inr (11, [.ref pg, .ref rd, .ref aq, .ref py, .ref pl, .ref ch, .ref ro, .int 0, .int 0])), (py, .inl (cP, 8, .inr (.inr (.inr (.inr (fun _ => none))))))] sz)) 2 7 (va_A [(x0, .inr (11, [.ref pg, .ref rd, .ref aq, .ref py, .ref pl, .ref ch, .ref ro, .int 0, .int 0])), (py, .inl (cP, 8, .inr (.inr (.inr (.inr (fun _ => none))))))] sz) := by
  refine Met.ofW (cc := cX11_pay) (maxL := 7) (ret := (some .int)) (by decide) rfl ?_
  intro p e s m args below meth c s₁ B hml hv
  obtain ⟨hargs, hsz, hP, hK, hD0, hN⟩ := hv
  have hx := B.exec
  have hb := B.bytes
  have hr := B.returns
  have hts := atoms_spec (ws := Cond.code yX11_pay cX11_pay 7 (some .int) :: gw_tbl) B.pre
  have hg := fun (w : Cond) (h : w ∈ gw_tbl) => hts w (List.mem_cons_of_mem _ h)
  have hown : s.vm.findClass RX11 = some m.cls := findClass_of_methodNamed B.named
  have hlocks := B.notSynchronized
  subst hsz
  have hD := hD0.self (sz := s.heap.size)
  generalize hAe : va_A [(x0, .inr (11, [.ref pg, .ref rd, .ref aq, .ref py, .ref pl, .ref ch, .ref ro, .int 0, .int 0])), (py, .inl (cP, 8, .inr (.inr (.inr (.inr (fun _ => none))))))] s.heap.size = A at hD ⊢
  have hA : ∀ q : Nat, s.heap.size ≤ q → A q := fun q h => by rw [← hAe]; exact Or.inr h
  have hS : va_S A s.heap s.heap [] := va_S.rf
  have hP : va_P D vwCl [(x0, .inr (11, [.ref pg, .ref rd, .ref aq, .ref py, .ref pl, .ref ch, .ref ro, .int 0, .int 0])), (py, .inl (cP, 8, .inr (.inr (.inr (.inr (fun _ => none))))))] s.heap := hP
  have hl := lv_entry ([.ref x0, .int p1, .int p2, .int p3, .int p4, .int p5]) (n := 7) (Nat.le_of_ble_eq_true rfl)
  rw [show entryFrame m args 7 = F0 m 0 (lg_sl ([.ref x0, .int p1, .int p2, .int p3, .int p4, .int p5]) ++ List.replicate (7 - (lg_sl ([.ref x0, .int p1, .int p2, .int p3, .int p4, .int p5])).length) Slot.unset).toArray [] from by rw [hargs]; exact lg_entry_eq ..]
  generalize (lg_sl ([.ref x0, .int p1, .int p2, .int p3, .int p4, .int p5]) ++ List.replicate (7 - (lg_sl ([.ref x0, .int p1, .int p2, .int p3, .int p4, .int p5])).length) Slot.unset).toArray = ls at hl ⊢
  have hl : lv_has ls 7 [(0, .ref x0), (1, .int p1), (2, .int p2), (3, .int p3), (4, .int p4), (5, .int p5)] := hl
  refine W_genQ (fun Q hQ => ?_)
  refine lv_iload_n hx hb dX11_pay_0 rfl (lv_at hl 1 rfl) ?_
  refine lv_iconst (v := 0) hx hb dX11_pay_1 (by decide) ?_
  refine lv_iconst (v := 4) hx hb dX11_pay_2 (by decide) ?_
  refine vp_callSi (W.runS (As := [.int p1, .int 0, .int 4]) (rest := []) ⟨hx, hb, hml, hown, hg⟩ (c_isWithin l p1 0 4) (va_cwS 3 hg (gw_S kw_4 kw_5 kw_6 kw_3) rfl rfl rfl (by decide +kernel) ⟨Nat.le_of_ble_eq_true rfl, Nat.le_of_ble_eq_true rfl⟩) pr_0 rfl rfl hl.1 rfl (lv_room (Nat.le_of_ble_eq_true rfl)) dX11_pay_3 ⟨Nat.le_of_ble_eq_true rfl, Nat.le_of_ble_eq_true rfl⟩) (fun r_3 h_3 => ?_)
  try dsimp only at h_3
  refine lv_if_eq (tgt := 22) hx hb dX11_pay_6 (by decide) (fun c_6 => ?_) (fun c_6 => ?_)
  · refine lv_bipush (v := (-102)) hx hb dX11_pay_22 (by decide) ?_
    subst hQ
    refine W.widen (k := 2) (n := 7) (Nat.le_of_ble_eq_true rfl) (Nat.le_of_ble_eq_true rfl) ?_
    exact W.iret (v := (-102)) hx hb hr (fun t ht hW => ⟨⟨(-102), (), rfl, (sp_n1 h_3 c_6), trivial⟩, hS.F ht⟩) hS.2.2 dX11_pay_24
  · refine lv_iload_n hx hb dX11_pay_9 rfl (lv_at hl 1 rfl) ?_
    refine lv_iload_n hx hb dX11_pay_10 rfl (lv_at hl 2 rfl) ?_
    refine lv_iload_n hx hb dX11_pay_11 rfl (lv_at hl 3 rfl) ?_
    refine lv_iload hx hb dX11_pay_12 (lv_at hl 4 rfl) ?_
    refine lv_iload hx hb dX11_pay_14 (lv_at hl 5 rfl) ?_
    refine vp_callSi (W.runS (As := [.int p1, .int p2, .int p3, .int p4, .int p5]) (rest := []) ⟨hx, hb, hml, hown, hg⟩ (x_areNumbers l p1 p2 p3 p4 p5) (va_cwS 5 hg (gw_S kw_124 kw_125 kw_6 kw_123) rfl rfl rfl (by decide +kernel) ⟨Nat.le_of_ble_eq_true rfl, Nat.le_of_ble_eq_true rfl⟩) pr_0 rfl rfl hl.1 rfl (lv_room (Nat.le_of_ble_eq_true rfl)) dX11_pay_16 ⟨Nat.le_of_ble_eq_true rfl, Nat.le_of_ble_eq_true rfl⟩) (fun r_16 h_16 => ?_)
    try dsimp only at h_16
    refine lv_if_ne (tgt := 25) hx hb dX11_pay_19 (by decide) (fun c_19 => ?_) (fun c_19 => ?_)
    · refine lv_aload_n hx hb dX11_pay_25 rfl (lv_at hl 0 rfl) ?_
      refine va_get (D := D) (ci := 11) (v := .int 0) (C := RX11) (T := TX11) (N := 9) hx hb hg gwX11 hown hK hP 0 rfl rfl 7 (by decide) (hg _ kw_2) (fun _ h9 => h9) rfl dX11_pay_26 ?_
      refine lv_bipush (v := 8) hx hb dX11_pay_29 (by decide) ?_
      refine lv_icmp_lt (tgt := 37) hx hb dX11_pay_31 (by decide) (fun c_31 => ?_) (fun c_31 => absurd (by decide) c_31)
      refine lv_iload_n hx hb dX11_pay_37 rfl (lv_at hl 1 rfl) ?_
      have hkd := iw_y h_3 c_6
      have ha1 := an_y h_16 c_19
      rcases kd4 hkd with rfl | rfl | rfl | rfl | rfl
      · have hPc := hP.sub (ws' := []) [] rfl
        have hKc := hK.sub (tys' := []) [] rfl
        have hDc := hD.sub (ws' := []) [] (by decide) rfl
        have hFc := va_free (wc := []) hD hS hA [] rfl
        refine va_callr (va_runS (As := [.int 0]) (rest := []) ⟨hx, hb, hml, hown, hg⟩ (x_madeOf_0 l D _) (va_cwS 1 hg (gw_S kw_127 kw_128 kw_6 kw_126) rfl rfl rfl (by decide +kernel) ⟨Nat.le_of_ble_eq_true rfl, Nat.le_of_ble_eq_true rfl⟩) (pr_C hKc hPc hDc hN) rfl rfl hl.1 rfl (lv_room (Nat.le_of_ble_eq_true rfl)) dX11_pay_38 ⟨Nat.le_of_ble_eq_true rfl, Nat.le_of_ble_eq_true rfl⟩) hS (fun q _ h => hFc q h) hFc (fun u r_38 t H1 locs ht hvm h_38 hB hz1 hk1 hS => ?_)
        obtain ⟨nq_38, cQ_38, hP1, hK1, hD1⟩ := hB
        rw [ht] at hP1
        have hK1 := va_K.moved hvm.symm hK1
        obtain ⟨hP, hD⟩ := va_join (wr := [(x0, .inr (11, [.ref pg, .ref rd, .ref aq, .ref py, .ref pl, .ref ch, .ref ro, .int 0, .int 0])), (py, .inl (cP, 8, .inr (.inr (.inr (.inr (fun _ => none))))))]) (w1 := [(r_38, .inr (3, [.ref nq_38, .null, .int 0])), (nq_38, .inl (cQ_38, 4, .inl (fun _ => 0)))]) hP hD [] [0, 1] rfl rfl (by decide) (by decide) hk1 hFc hP1 hD1
        have hK := hK.app hK1
        generalize H1 = H at hP hS ⊢
        have hP : va_P D vwCl [(x0, .inr (11, [.ref pg, .ref rd, .ref aq, .ref py, .ref pl, .ref ch, .ref ro, .int 0, .int 0])), (py, .inl (cP, 8, .inr (.inr (.inr (.inr (fun _ => none)))))), (r_38, .inr (3, [.ref nq_38, .null, .int 0])), (nq_38, .inl (cQ_38, 4, .inl (fun _ => 0)))] H := hP
        have hD : va_D A [(x0, .inr (11, [.ref pg, .ref rd, .ref aq, .ref py, .ref pl, .ref ch, .ref ro, .int 0, .int 0])), (py, .inl (cP, 8, .inr (.inr (.inr (.inr (fun _ => none)))))), (r_38, .inr (3, [.ref nq_38, .null, .int 0])), (nq_38, .inl (cQ_38, 4, .inl (fun _ => 0)))] := hD
        have hK : va_K D vwCl [(cP, .object RX3), (cQ_38, .int)] s := hK
        refine W.cs (cells' := 2) (slots' := 7) rfl rfl ?_
        try dsimp only at h_38
        refine lv_astore (lv' := [(6, .ref r_38), (0, .ref x0), (1, .int 0), (2, .int p2), (3, .int p3), (4, .int p4), (5, .int p5)]) hx hb dX11_pay_41 hl (by decide) rfl (fun ls hl => ?_)
        refine lv_aload hx hb dX11_pay_43 (lv_at hl 0 rfl) ?_
        refine lv_iload_n hx hb dX11_pay_45 rfl (lv_at hl 3 rfl) ?_
        refine lv_iload_n hx hb dX11_pay_46 rfl (lv_at hl 4 rfl) ?_
        refine lv_iload hx hb dX11_pay_47 (lv_at hl 5 rfl) ?_
        refine lv_iload hx hb dX11_pay_49 (lv_at hl 6 rfl) ?_
        have hPc := hP.sub (ws' := [(r_38, .inr (3, [.ref nq_38, .null, .int 0])), (nq_38, .inl (cQ_38, 4, .inl (fun _ => 0)))]) [2, 3] rfl
        have hKc := hK.sub (tys' := [(cQ_38, .int)]) [1] rfl
        have hDc := hD.sub (ws' := [(r_38, .inr (3, [.ref nq_38, .null, .int 0])), (nq_38, .inl (cQ_38, 4, .inl (fun _ => 0)))]) [2, 3] (by decide) rfl
        have hFc := va_free (wc := [(r_38, .inr (3, [.ref nq_38, .null, .int 0])), (nq_38, .inl (cQ_38, 4, .inl (fun _ => 0)))]) hD hS hA [2, 3] rfl
        refine va_callv (va_runV (As := [.int p2, .int p3, .int p4, .int p5]) (rest := []) ⟨hx, hb, hml, hown, hg⟩ (p_become_3 l D r_38 nq_38 cQ_38 (fun _ => 0) p2 p3 p4 p5 _) (cwV 4 hg (gw_V kw_130 kw_131 kw_132 kw_99 kw_129) rfl rfl rfl (by decide +kernel) ⟨Nat.le_of_ble_eq_true rfl, Nat.le_of_ble_eq_true rfl⟩) (pr_MV (q := (RX3, TX3, 3)) 3 0 hKc hPc hDc rfl rfl) rfl rfl hl.1 rfl (lv_room (Nat.le_of_ble_eq_true rfl)) dX11_pay_51 ⟨Nat.le_of_ble_eq_true rfl, Nat.le_of_ble_eq_true rfl⟩) hS (fun q _ h => hFc q h) hFc (fun u t H1 locs ht hvm h_51 hB hz1 hk1 hS => ?_)
        obtain ⟨nf2_51, hP1, hK1, hD1⟩ := hB
        rw [ht] at hP1
        have hK1 := va_K.moved hvm.symm hK1
        obtain ⟨hP, hD⟩ := va_join (wr := [(x0, .inr (11, [.ref pg, .ref rd, .ref aq, .ref py, .ref pl, .ref ch, .ref ro, .int 0, .int 0])), (py, .inl (cP, 8, .inr (.inr (.inr (.inr (fun _ => none))))))]) (w1 := [(r_38, .inr (3, [.ref nq_38, .null, .int 0])), (nq_38, .inl (cQ_38, 4, .inl nf2_51))]) hP hD [2, 3] [0, 1] rfl rfl (by decide) (by decide) hk1 hFc hP1 hD1
        have hK := hK.app hK1
        generalize H1 = H at hP hS ⊢
        have hP : va_P D vwCl [(x0, .inr (11, [.ref pg, .ref rd, .ref aq, .ref py, .ref pl, .ref ch, .ref ro, .int 0, .int 0])), (py, .inl (cP, 8, .inr (.inr (.inr (.inr (fun _ => none)))))), (r_38, .inr (3, [.ref nq_38, .null, .int 0])), (nq_38, .inl (cQ_38, 4, .inl nf2_51))] H := hP
        have hD : va_D A [(x0, .inr (11, [.ref pg, .ref rd, .ref aq, .ref py, .ref pl, .ref ch, .ref ro, .int 0, .int 0])), (py, .inl (cP, 8, .inr (.inr (.inr (.inr (fun _ => none)))))), (r_38, .inr (3, [.ref nq_38, .null, .int 0])), (nq_38, .inl (cQ_38, 4, .inl nf2_51))] := hD
        have hK : va_K D vwCl [(cP, .object RX3), (cQ_38, .int)] s := hK
        refine W.cs (cells' := 2) (slots' := 7) rfl rfl ?_
        try dsimp only at h_51
        refine lv_aload_n hx hb dX11_pay_54 rfl (lv_at hl 1 rfl) ?_
        refine va_get (D := D) (ci := 11) (v := .ref py) (C := RX11) (T := TX11) (N := 9) hx hb hg gwX11 hown hK hP 0 rfl rfl 3 (by decide) (hg _ kw_133) (fun _ h9 => h9) rfl dX11_pay_55 ?_
        refine lv_aload_n hx hb dX11_pay_58 rfl (lv_at hl 1 rfl) ?_
        refine va_get (D := D) (ci := 11) (v := .int 0) (C := RX11) (T := TX11) (N := 9) hx hb hg gwX11 hown hK hP 0 rfl rfl 7 (by decide) (hg _ kw_2) (fun _ h9 => h9) rfl dX11_pay_59 ?_
        refine lv_aload hx hb dX11_pay_62 (lv_at hl 0 rfl) ?_
        refine va_astq (r := (RX3, TX3, 3)) hx hb hK hP hD hS 1 0 2 3 rfl rfl rfl rfl (show ¬ ((0 : Int32) < 0 ∨ 8 ≤ (0 : Int32).toNatClampNeg) by decide) dX11_pay_64 (fun H locs hP hD hS => ?_)
        generalize (va_up (fun _ => none) (0 : Int32).toNatClampNeg (some r_38)) = f_64 at hP hD
        have hP : va_P D vwCl [(x0, .inr (11, [.ref pg, .ref rd, .ref aq, .ref py, .ref pl, .ref ch, .ref ro, .int 0, .int 0])), (py, .inl (cP, 8, .inr (.inr (.inr (.inr f_64))))), (r_38, .inr (3, [.ref nq_38, .null, .int 0])), (nq_38, .inl (cQ_38, 4, .inl nf2_51))] H := hP
        have hD : va_D A [(x0, .inr (11, [.ref pg, .ref rd, .ref aq, .ref py, .ref pl, .ref ch, .ref ro, .int 0, .int 0])), (py, .inl (cP, 8, .inr (.inr (.inr (.inr f_64))))), (r_38, .inr (3, [.ref nq_38, .null, .int 0])), (nq_38, .inl (cQ_38, 4, .inl nf2_51))] := hD
        refine lv_aload_n hx hb dX11_pay_65 rfl (lv_at hl 1 rfl) ?_
        refine lv_dup hx hb dX11_pay_66 rfl ?_
        refine va_get (D := D) (ci := 11) (v := .int 0) (C := RX11) (T := TX11) (N := 9) hx hb hg gwX11 hown hK hP 0 rfl rfl 7 (by decide) (hg _ kw_2) (fun _ h9 => h9) rfl dX11_pay_67 ?_
        refine lv_iconst (v := 1) hx hb dX11_pay_70 (by decide) ?_
        refine lv_iadd hx hb dX11_pay_71 ?_
        refine lv_topi (fun z_71 e_71 => ?_)
        obtain rfl : z_71 = (1 : Int32) := e_71.trans (by decide)
        refine va_put (D := D) (ci := 11) (v := .int 1) (ty := .int) (C := RX11) (T := TX11) (N := 9) hx hb hg gwX11 tyX11 tyX11_ok nmX11 hown hK hP hD hS 0 rfl rfl 7 (by decide) (hg _ kw_2) (fun _ h9 => h9) rfl (by decide +kernel) rfl rfl (Nat.le_of_ble_eq_true rfl) dX11_pay_72 (fun H locs hP hD hS => ?_)
        have hP : va_P D vwCl [(x0, .inr (11, [.ref pg, .ref rd, .ref aq, .ref py, .ref pl, .ref ch, .ref ro, .int 1, .int 0])), (py, .inl (cP, 8, .inr (.inr (.inr (.inr f_64))))), (r_38, .inr (3, [.ref nq_38, .null, .int 0])), (nq_38, .inl (cQ_38, 4, .inl nf2_51))] H := hP
        have hD : va_D A [(x0, .inr (11, [.ref pg, .ref rd, .ref aq, .ref py, .ref pl, .ref ch, .ref ro, .int 1, .int 0])), (py, .inl (cP, 8, .inr (.inr (.inr (.inr f_64))))), (r_38, .inr (3, [.ref nq_38, .null, .int 0])), (nq_38, .inl (cQ_38, 4, .inl nf2_51))] := hD
        refine lv_aload_n hx hb dX11_pay_75 rfl (lv_at hl 1 rfl) ?_
        refine va_get (D := D) (ci := 11) (v := .int 1) (C := RX11) (T := TX11) (N := 9) hx hb hg gwX11 hown hK hP 0 rfl rfl 7 (by decide) (hg _ kw_2) (fun _ h9 => h9) rfl dX11_pay_76 ?_
        refine lv_iconst (v := 1) hx hb dX11_pay_79 (by decide) ?_
        refine lv_isub hx hb dX11_pay_80 ?_
        refine lv_topi (fun z_80 e_80 => ?_)
        obtain rfl : z_80 = (0 : Int32) := e_80.trans (by decide)
        subst hQ
        refine W.widen (k := 2) (n := 7) (Nat.le_of_ble_eq_true rfl) (Nat.le_of_ble_eq_true rfl) ?_
        exact W.iret (v := 0) hx hb hr (fun t ht hW => ⟨⟨0, (), rfl, (sp_y hkd ha1), trivial⟩, hS.F ht⟩) hS.2.2 dX11_pay_81
      · have hPc := hP.sub (ws' := []) [] rfl
        have hKc := hK.sub (tys' := []) [] rfl
        have hDc := hD.sub (ws' := []) [] (by decide) rfl
        have hFc := va_free (wc := []) hD hS hA [] rfl
        refine va_callr (va_runS (As := [.int 1]) (rest := []) ⟨hx, hb, hml, hown, hg⟩ (x_madeOf_1 l D _) (va_cwS 1 hg (gw_S kw_127 kw_128 kw_6 kw_126) rfl rfl rfl (by decide +kernel) ⟨Nat.le_of_ble_eq_true rfl, Nat.le_of_ble_eq_true rfl⟩) (pr_C hKc hPc hDc hN) rfl rfl hl.1 rfl (lv_room (Nat.le_of_ble_eq_true rfl)) dX11_pay_38 ⟨Nat.le_of_ble_eq_true rfl, Nat.le_of_ble_eq_true rfl⟩) hS (fun q _ h => hFc q h) hFc (fun u r_38 t H1 locs ht hvm h_38 hB hz1 hk1 hS => ?_)
        obtain ⟨nq_38, cQ_38, hP1, hK1, hD1⟩ := hB
        rw [ht] at hP1
        have hK1 := va_K.moved hvm.symm hK1
        obtain ⟨hP, hD⟩ := va_join (wr := [(x0, .inr (11, [.ref pg, .ref rd, .ref aq, .ref py, .ref pl, .ref ch, .ref ro, .int 0, .int 0])), (py, .inl (cP, 8, .inr (.inr (.inr (.inr (fun _ => none))))))]) (w1 := [(r_38, .inr (9, [.ref nq_38, .null, .int 0])), (nq_38, .inl (cQ_38, 4, .inl (fun _ => 0)))]) hP hD [] [0, 1] rfl rfl (by decide) (by decide) hk1 hFc hP1 hD1
        have hK := hK.app hK1
        generalize H1 = H at hP hS ⊢
        have hP : va_P D vwCl [(x0, .inr (11, [.ref pg, .ref rd, .ref aq, .ref py, .ref pl, .ref ch, .ref ro, .int 0, .int 0])), (py, .inl (cP, 8, .inr (.inr (.inr (.inr (fun _ => none)))))), (r_38, .inr (9, [.ref nq_38, .null, .int 0])), (nq_38, .inl (cQ_38, 4, .inl (fun _ => 0)))] H := hP
        have hD : va_D A [(x0, .inr (11, [.ref pg, .ref rd, .ref aq, .ref py, .ref pl, .ref ch, .ref ro, .int 0, .int 0])), (py, .inl (cP, 8, .inr (.inr (.inr (.inr (fun _ => none)))))), (r_38, .inr (9, [.ref nq_38, .null, .int 0])), (nq_38, .inl (cQ_38, 4, .inl (fun _ => 0)))] := hD
        have hK : va_K D vwCl [(cP, .object RX3), (cQ_38, .int)] s := hK
        refine W.cs (cells' := 2) (slots' := 7) rfl rfl ?_
        try dsimp only at h_38
        refine lv_astore (lv' := [(6, .ref r_38), (0, .ref x0), (1, .int 1), (2, .int p2), (3, .int p3), (4, .int p4), (5, .int p5)]) hx hb dX11_pay_41 hl (by decide) rfl (fun ls hl => ?_)
        refine lv_aload hx hb dX11_pay_43 (lv_at hl 0 rfl) ?_
        refine lv_iload_n hx hb dX11_pay_45 rfl (lv_at hl 3 rfl) ?_
        refine lv_iload_n hx hb dX11_pay_46 rfl (lv_at hl 4 rfl) ?_
        refine lv_iload hx hb dX11_pay_47 (lv_at hl 5 rfl) ?_
        refine lv_iload hx hb dX11_pay_49 (lv_at hl 6 rfl) ?_
        have hPc := hP.sub (ws' := [(r_38, .inr (9, [.ref nq_38, .null, .int 0])), (nq_38, .inl (cQ_38, 4, .inl (fun _ => 0)))]) [2, 3] rfl
        have hKc := hK.sub (tys' := [(cQ_38, .int)]) [1] rfl
        have hDc := hD.sub (ws' := [(r_38, .inr (9, [.ref nq_38, .null, .int 0])), (nq_38, .inl (cQ_38, 4, .inl (fun _ => 0)))]) [2, 3] (by decide) rfl
        have hFc := va_free (wc := [(r_38, .inr (9, [.ref nq_38, .null, .int 0])), (nq_38, .inl (cQ_38, 4, .inl (fun _ => 0)))]) hD hS hA [2, 3] rfl
        refine va_callv (va_runU (As := [.int p2, .int p3, .int p4, .int p5]) (rest := []) ⟨hx, hb, hml, hown, hg⟩ (p_become_9 l D r_38 nq_38 cQ_38 (fun _ => 0) p2 p3 p4 p5 _) (va_cwU (owner := "NobodyChecks$Pay") (x := yX3_become) 4 hg (gw_U kw_130 kw_134 kw_135 kw_131 kw_99 kw_129) rfl rfl rfl rfl (by decide +kernel) ⟨Nat.le_of_ble_eq_true rfl, Nat.le_of_ble_eq_true rfl⟩) (pr_MV (q := (RX9, TX9, 3)) 9 0 hKc hPc hDc rfl rfl) rfl rfl hl.1 rfl (lv_room (Nat.le_of_ble_eq_true rfl)) dX11_pay_51 ⟨Nat.le_of_ble_eq_true rfl, Nat.le_of_ble_eq_true rfl⟩) hS (fun q _ h => hFc q h) hFc (fun u t H1 locs ht hvm h_51 hB hz1 hk1 hS => ?_)
        obtain ⟨nf2_51, hP1, hK1, hD1⟩ := hB
        rw [ht] at hP1
        have hK1 := va_K.moved hvm.symm hK1
        obtain ⟨hP, hD⟩ := va_join (wr := [(x0, .inr (11, [.ref pg, .ref rd, .ref aq, .ref py, .ref pl, .ref ch, .ref ro, .int 0, .int 0])), (py, .inl (cP, 8, .inr (.inr (.inr (.inr (fun _ => none))))))]) (w1 := [(r_38, .inr (9, [.ref nq_38, .null, .int 0])), (nq_38, .inl (cQ_38, 4, .inl nf2_51))]) hP hD [2, 3] [0, 1] rfl rfl (by decide) (by decide) hk1 hFc hP1 hD1
        have hK := hK.app hK1
        generalize H1 = H at hP hS ⊢
        have hP : va_P D vwCl [(x0, .inr (11, [.ref pg, .ref rd, .ref aq, .ref py, .ref pl, .ref ch, .ref ro, .int 0, .int 0])), (py, .inl (cP, 8, .inr (.inr (.inr (.inr (fun _ => none)))))), (r_38, .inr (9, [.ref nq_38, .null, .int 0])), (nq_38, .inl (cQ_38, 4, .inl nf2_51))] H := hP
        have hD : va_D A [(x0, .inr (11, [.ref pg, .ref rd, .ref aq, .ref py, .ref pl, .ref ch, .ref ro, .int 0, .int 0])), (py, .inl (cP, 8, .inr (.inr (.inr (.inr (fun _ => none)))))), (r_38, .inr (9, [.ref nq_38, .null, .int 0])), (nq_38, .inl (cQ_38, 4, .inl nf2_51))] := hD
        have hK : va_K D vwCl [(cP, .object RX3), (cQ_38, .int)] s := hK
        refine W.cs (cells' := 2) (slots' := 7) rfl rfl ?_
        try dsimp only at h_51
        refine lv_aload_n hx hb dX11_pay_54 rfl (lv_at hl 1 rfl) ?_
        refine va_get (D := D) (ci := 11) (v := .ref py) (C := RX11) (T := TX11) (N := 9) hx hb hg gwX11 hown hK hP 0 rfl rfl 3 (by decide) (hg _ kw_133) (fun _ h9 => h9) rfl dX11_pay_55 ?_
        refine lv_aload_n hx hb dX11_pay_58 rfl (lv_at hl 1 rfl) ?_
        refine va_get (D := D) (ci := 11) (v := .int 0) (C := RX11) (T := TX11) (N := 9) hx hb hg gwX11 hown hK hP 0 rfl rfl 7 (by decide) (hg _ kw_2) (fun _ h9 => h9) rfl dX11_pay_59 ?_
        refine lv_aload hx hb dX11_pay_62 (lv_at hl 0 rfl) ?_
        refine va_astqO (E := RX3) (r := (RX9, TX9, 3)) hx hb hK hP hD hS 1 0 2 9 rfl rfl (hN.2.2.2.2 RX9 (by decide +kernel)) rfl rfl (show ¬ ((0 : Int32) < 0 ∨ 8 ≤ (0 : Int32).toNatClampNeg) by decide) dX11_pay_64 (fun H locs hP hD hS => ?_)
        generalize (va_up (fun _ => none) (0 : Int32).toNatClampNeg (some r_38)) = f_64 at hP hD
        have hP : va_P D vwCl [(x0, .inr (11, [.ref pg, .ref rd, .ref aq, .ref py, .ref pl, .ref ch, .ref ro, .int 0, .int 0])), (py, .inl (cP, 8, .inr (.inr (.inr (.inr f_64))))), (r_38, .inr (9, [.ref nq_38, .null, .int 0])), (nq_38, .inl (cQ_38, 4, .inl nf2_51))] H := hP
        have hD : va_D A [(x0, .inr (11, [.ref pg, .ref rd, .ref aq, .ref py, .ref pl, .ref ch, .ref ro, .int 0, .int 0])), (py, .inl (cP, 8, .inr (.inr (.inr (.inr f_64))))), (r_38, .inr (9, [.ref nq_38, .null, .int 0])), (nq_38, .inl (cQ_38, 4, .inl nf2_51))] := hD
        refine lv_aload_n hx hb dX11_pay_65 rfl (lv_at hl 1 rfl) ?_
        refine lv_dup hx hb dX11_pay_66 rfl ?_
        refine va_get (D := D) (ci := 11) (v := .int 0) (C := RX11) (T := TX11) (N := 9) hx hb hg gwX11 hown hK hP 0 rfl rfl 7 (by decide) (hg _ kw_2) (fun _ h9 => h9) rfl dX11_pay_67 ?_
        refine lv_iconst (v := 1) hx hb dX11_pay_70 (by decide) ?_
        refine lv_iadd hx hb dX11_pay_71 ?_
        refine lv_topi (fun z_71 e_71 => ?_)
        obtain rfl : z_71 = (1 : Int32) := e_71.trans (by decide)
        refine va_put (D := D) (ci := 11) (v := .int 1) (ty := .int) (C := RX11) (T := TX11) (N := 9) hx hb hg gwX11 tyX11 tyX11_ok nmX11 hown hK hP hD hS 0 rfl rfl 7 (by decide) (hg _ kw_2) (fun _ h9 => h9) rfl (by decide +kernel) rfl rfl (Nat.le_of_ble_eq_true rfl) dX11_pay_72 (fun H locs hP hD hS => ?_)
        have hP : va_P D vwCl [(x0, .inr (11, [.ref pg, .ref rd, .ref aq, .ref py, .ref pl, .ref ch, .ref ro, .int 1, .int 0])), (py, .inl (cP, 8, .inr (.inr (.inr (.inr f_64))))), (r_38, .inr (9, [.ref nq_38, .null, .int 0])), (nq_38, .inl (cQ_38, 4, .inl nf2_51))] H := hP
        have hD : va_D A [(x0, .inr (11, [.ref pg, .ref rd, .ref aq, .ref py, .ref pl, .ref ch, .ref ro, .int 1, .int 0])), (py, .inl (cP, 8, .inr (.inr (.inr (.inr f_64))))), (r_38, .inr (9, [.ref nq_38, .null, .int 0])), (nq_38, .inl (cQ_38, 4, .inl nf2_51))] := hD
        refine lv_aload_n hx hb dX11_pay_75 rfl (lv_at hl 1 rfl) ?_
        refine va_get (D := D) (ci := 11) (v := .int 1) (C := RX11) (T := TX11) (N := 9) hx hb hg gwX11 hown hK hP 0 rfl rfl 7 (by decide) (hg _ kw_2) (fun _ h9 => h9) rfl dX11_pay_76 ?_
        refine lv_iconst (v := 1) hx hb dX11_pay_79 (by decide) ?_
        refine lv_isub hx hb dX11_pay_80 ?_
        refine lv_topi (fun z_80 e_80 => ?_)
        obtain rfl : z_80 = (0 : Int32) := e_80.trans (by decide)
        subst hQ
        refine W.widen (k := 2) (n := 7) (Nat.le_of_ble_eq_true rfl) (Nat.le_of_ble_eq_true rfl) ?_
        exact W.iret (v := 0) hx hb hr (fun t ht hW => ⟨⟨0, (), rfl, (sp_y hkd ha1), trivial⟩, hS.F ht⟩) hS.2.2 dX11_pay_81
      · have hPc := hP.sub (ws' := []) [] rfl
        have hKc := hK.sub (tys' := []) [] rfl
        have hDc := hD.sub (ws' := []) [] (by decide) rfl
        have hFc := va_free (wc := []) hD hS hA [] rfl
        refine va_callr (va_runS (As := [.int 2]) (rest := []) ⟨hx, hb, hml, hown, hg⟩ (x_madeOf_2 l D _) (va_cwS 1 hg (gw_S kw_127 kw_128 kw_6 kw_126) rfl rfl rfl (by decide +kernel) ⟨Nat.le_of_ble_eq_true rfl, Nat.le_of_ble_eq_true rfl⟩) (pr_C hKc hPc hDc hN) rfl rfl hl.1 rfl (lv_room (Nat.le_of_ble_eq_true rfl)) dX11_pay_38 ⟨Nat.le_of_ble_eq_true rfl, Nat.le_of_ble_eq_true rfl⟩) hS (fun q _ h => hFc q h) hFc (fun u r_38 t H1 locs ht hvm h_38 hB hz1 hk1 hS => ?_)
        obtain ⟨nq_38, cQ_38, hP1, hK1, hD1⟩ := hB
        rw [ht] at hP1
        have hK1 := va_K.moved hvm.symm hK1
        obtain ⟨hP, hD⟩ := va_join (wr := [(x0, .inr (11, [.ref pg, .ref rd, .ref aq, .ref py, .ref pl, .ref ch, .ref ro, .int 0, .int 0])), (py, .inl (cP, 8, .inr (.inr (.inr (.inr (fun _ => none))))))]) (w1 := [(r_38, .inr (10, [.ref nq_38, .null, .int 0])), (nq_38, .inl (cQ_38, 4, .inl (fun _ => 0)))]) hP hD [] [0, 1] rfl rfl (by decide) (by decide) hk1 hFc hP1 hD1
        have hK := hK.app hK1
        generalize H1 = H at hP hS ⊢
        have hP : va_P D vwCl [(x0, .inr (11, [.ref pg, .ref rd, .ref aq, .ref py, .ref pl, .ref ch, .ref ro, .int 0, .int 0])), (py, .inl (cP, 8, .inr (.inr (.inr (.inr (fun _ => none)))))), (r_38, .inr (10, [.ref nq_38, .null, .int 0])), (nq_38, .inl (cQ_38, 4, .inl (fun _ => 0)))] H := hP
        have hD : va_D A [(x0, .inr (11, [.ref pg, .ref rd, .ref aq, .ref py, .ref pl, .ref ch, .ref ro, .int 0, .int 0])), (py, .inl (cP, 8, .inr (.inr (.inr (.inr (fun _ => none)))))), (r_38, .inr (10, [.ref nq_38, .null, .int 0])), (nq_38, .inl (cQ_38, 4, .inl (fun _ => 0)))] := hD
        have hK : va_K D vwCl [(cP, .object RX3), (cQ_38, .int)] s := hK
        refine W.cs (cells' := 2) (slots' := 7) rfl rfl ?_
        try dsimp only at h_38
        refine lv_astore (lv' := [(6, .ref r_38), (0, .ref x0), (1, .int 2), (2, .int p2), (3, .int p3), (4, .int p4), (5, .int p5)]) hx hb dX11_pay_41 hl (by decide) rfl (fun ls hl => ?_)
        refine lv_aload hx hb dX11_pay_43 (lv_at hl 0 rfl) ?_
        refine lv_iload_n hx hb dX11_pay_45 rfl (lv_at hl 3 rfl) ?_
        refine lv_iload_n hx hb dX11_pay_46 rfl (lv_at hl 4 rfl) ?_
        refine lv_iload hx hb dX11_pay_47 (lv_at hl 5 rfl) ?_
        refine lv_iload hx hb dX11_pay_49 (lv_at hl 6 rfl) ?_
        have hPc := hP.sub (ws' := [(r_38, .inr (10, [.ref nq_38, .null, .int 0])), (nq_38, .inl (cQ_38, 4, .inl (fun _ => 0)))]) [2, 3] rfl
        have hKc := hK.sub (tys' := [(cQ_38, .int)]) [1] rfl
        have hDc := hD.sub (ws' := [(r_38, .inr (10, [.ref nq_38, .null, .int 0])), (nq_38, .inl (cQ_38, 4, .inl (fun _ => 0)))]) [2, 3] (by decide) rfl
        have hFc := va_free (wc := [(r_38, .inr (10, [.ref nq_38, .null, .int 0])), (nq_38, .inl (cQ_38, 4, .inl (fun _ => 0)))]) hD hS hA [2, 3] rfl
        refine va_callv (va_runU (As := [.int p2, .int p3, .int p4, .int p5]) (rest := []) ⟨hx, hb, hml, hown, hg⟩ (p_become_10 l D r_38 nq_38 cQ_38 (fun _ => 0) p2 p3 p4 p5 _) (va_cwU (owner := "NobodyChecks$Pay") (x := yX3_become) 4 hg (gw_U kw_130 kw_134 kw_136 kw_131 kw_99 kw_129) rfl rfl rfl rfl (by decide +kernel) ⟨Nat.le_of_ble_eq_true rfl, Nat.le_of_ble_eq_true rfl⟩) (pr_MV (q := (RX10, TX10, 3)) 10 0 hKc hPc hDc rfl rfl) rfl rfl hl.1 rfl (lv_room (Nat.le_of_ble_eq_true rfl)) dX11_pay_51 ⟨Nat.le_of_ble_eq_true rfl, Nat.le_of_ble_eq_true rfl⟩) hS (fun q _ h => hFc q h) hFc (fun u t H1 locs ht hvm h_51 hB hz1 hk1 hS => ?_)
        obtain ⟨nf2_51, hP1, hK1, hD1⟩ := hB
        rw [ht] at hP1
        have hK1 := va_K.moved hvm.symm hK1
        obtain ⟨hP, hD⟩ := va_join (wr := [(x0, .inr (11, [.ref pg, .ref rd, .ref aq, .ref py, .ref pl, .ref ch, .ref ro, .int 0, .int 0])), (py, .inl (cP, 8, .inr (.inr (.inr (.inr (fun _ => none))))))]) (w1 := [(r_38, .inr (10, [.ref nq_38, .null, .int 0])), (nq_38, .inl (cQ_38, 4, .inl nf2_51))]) hP hD [2, 3] [0, 1] rfl rfl (by decide) (by decide) hk1 hFc hP1 hD1
        have hK := hK.app hK1
        generalize H1 = H at hP hS ⊢
        have hP : va_P D vwCl [(x0, .inr (11, [.ref pg, .ref rd, .ref aq, .ref py, .ref pl, .ref ch, .ref ro, .int 0, .int 0])), (py, .inl (cP, 8, .inr (.inr (.inr (.inr (fun _ => none)))))), (r_38, .inr (10, [.ref nq_38, .null, .int 0])), (nq_38, .inl (cQ_38, 4, .inl nf2_51))] H := hP
        have hD : va_D A [(x0, .inr (11, [.ref pg, .ref rd, .ref aq, .ref py, .ref pl, .ref ch, .ref ro, .int 0, .int 0])), (py, .inl (cP, 8, .inr (.inr (.inr (.inr (fun _ => none)))))), (r_38, .inr (10, [.ref nq_38, .null, .int 0])), (nq_38, .inl (cQ_38, 4, .inl nf2_51))] := hD
        have hK : va_K D vwCl [(cP, .object RX3), (cQ_38, .int)] s := hK
        refine W.cs (cells' := 2) (slots' := 7) rfl rfl ?_
        try dsimp only at h_51
        refine lv_aload_n hx hb dX11_pay_54 rfl (lv_at hl 1 rfl) ?_
        refine va_get (D := D) (ci := 11) (v := .ref py) (C := RX11) (T := TX11) (N := 9) hx hb hg gwX11 hown hK hP 0 rfl rfl 3 (by decide) (hg _ kw_133) (fun _ h9 => h9) rfl dX11_pay_55 ?_
        refine lv_aload_n hx hb dX11_pay_58 rfl (lv_at hl 1 rfl) ?_
        refine va_get (D := D) (ci := 11) (v := .int 0) (C := RX11) (T := TX11) (N := 9) hx hb hg gwX11 hown hK hP 0 rfl rfl 7 (by decide) (hg _ kw_2) (fun _ h9 => h9) rfl dX11_pay_59 ?_
        refine lv_aload hx hb dX11_pay_62 (lv_at hl 0 rfl) ?_
        refine va_astqO (E := RX3) (r := (RX10, TX10, 3)) hx hb hK hP hD hS 1 0 2 10 rfl rfl (hN.2.2.2.2 RX10 (by decide +kernel)) rfl rfl (show ¬ ((0 : Int32) < 0 ∨ 8 ≤ (0 : Int32).toNatClampNeg) by decide) dX11_pay_64 (fun H locs hP hD hS => ?_)
        generalize (va_up (fun _ => none) (0 : Int32).toNatClampNeg (some r_38)) = f_64 at hP hD
        have hP : va_P D vwCl [(x0, .inr (11, [.ref pg, .ref rd, .ref aq, .ref py, .ref pl, .ref ch, .ref ro, .int 0, .int 0])), (py, .inl (cP, 8, .inr (.inr (.inr (.inr f_64))))), (r_38, .inr (10, [.ref nq_38, .null, .int 0])), (nq_38, .inl (cQ_38, 4, .inl nf2_51))] H := hP
        have hD : va_D A [(x0, .inr (11, [.ref pg, .ref rd, .ref aq, .ref py, .ref pl, .ref ch, .ref ro, .int 0, .int 0])), (py, .inl (cP, 8, .inr (.inr (.inr (.inr f_64))))), (r_38, .inr (10, [.ref nq_38, .null, .int 0])), (nq_38, .inl (cQ_38, 4, .inl nf2_51))] := hD
        refine lv_aload_n hx hb dX11_pay_65 rfl (lv_at hl 1 rfl) ?_
        refine lv_dup hx hb dX11_pay_66 rfl ?_
        refine va_get (D := D) (ci := 11) (v := .int 0) (C := RX11) (T := TX11) (N := 9) hx hb hg gwX11 hown hK hP 0 rfl rfl 7 (by decide) (hg _ kw_2) (fun _ h9 => h9) rfl dX11_pay_67 ?_
        refine lv_iconst (v := 1) hx hb dX11_pay_70 (by decide) ?_
        refine lv_iadd hx hb dX11_pay_71 ?_
        refine lv_topi (fun z_71 e_71 => ?_)
        obtain rfl : z_71 = (1 : Int32) := e_71.trans (by decide)
        refine va_put (D := D) (ci := 11) (v := .int 1) (ty := .int) (C := RX11) (T := TX11) (N := 9) hx hb hg gwX11 tyX11 tyX11_ok nmX11 hown hK hP hD hS 0 rfl rfl 7 (by decide) (hg _ kw_2) (fun _ h9 => h9) rfl (by decide +kernel) rfl rfl (Nat.le_of_ble_eq_true rfl) dX11_pay_72 (fun H locs hP hD hS => ?_)
        have hP : va_P D vwCl [(x0, .inr (11, [.ref pg, .ref rd, .ref aq, .ref py, .ref pl, .ref ch, .ref ro, .int 1, .int 0])), (py, .inl (cP, 8, .inr (.inr (.inr (.inr f_64))))), (r_38, .inr (10, [.ref nq_38, .null, .int 0])), (nq_38, .inl (cQ_38, 4, .inl nf2_51))] H := hP
        have hD : va_D A [(x0, .inr (11, [.ref pg, .ref rd, .ref aq, .ref py, .ref pl, .ref ch, .ref ro, .int 1, .int 0])), (py, .inl (cP, 8, .inr (.inr (.inr (.inr f_64))))), (r_38, .inr (10, [.ref nq_38, .null, .int 0])), (nq_38, .inl (cQ_38, 4, .inl nf2_51))] := hD
        refine lv_aload_n hx hb dX11_pay_75 rfl (lv_at hl 1 rfl) ?_
        refine va_get (D := D) (ci := 11) (v := .int 1) (C := RX11) (T := TX11) (N := 9) hx hb hg gwX11 hown hK hP 0 rfl rfl 7 (by decide) (hg _ kw_2) (fun _ h9 => h9) rfl dX11_pay_76 ?_
        refine lv_iconst (v := 1) hx hb dX11_pay_79 (by decide) ?_
        refine lv_isub hx hb dX11_pay_80 ?_
        refine lv_topi (fun z_80 e_80 => ?_)
        obtain rfl : z_80 = (0 : Int32) := e_80.trans (by decide)
        subst hQ
        refine W.widen (k := 2) (n := 7) (Nat.le_of_ble_eq_true rfl) (Nat.le_of_ble_eq_true rfl) ?_
        exact W.iret (v := 0) hx hb hr (fun t ht hW => ⟨⟨0, (), rfl, (sp_y hkd ha1), trivial⟩, hS.F ht⟩) hS.2.2 dX11_pay_81
      · have hPc := hP.sub (ws' := []) [] rfl
        have hKc := hK.sub (tys' := []) [] rfl
        have hDc := hD.sub (ws' := []) [] (by decide) rfl
        have hFc := va_free (wc := []) hD hS hA [] rfl
        refine va_callr (va_runS (As := [.int 3]) (rest := []) ⟨hx, hb, hml, hown, hg⟩ (x_madeOf_3 l D _) (va_cwS 1 hg (gw_S kw_127 kw_128 kw_6 kw_126) rfl rfl rfl (by decide +kernel) ⟨Nat.le_of_ble_eq_true rfl, Nat.le_of_ble_eq_true rfl⟩) (pr_C hKc hPc hDc hN) rfl rfl hl.1 rfl (lv_room (Nat.le_of_ble_eq_true rfl)) dX11_pay_38 ⟨Nat.le_of_ble_eq_true rfl, Nat.le_of_ble_eq_true rfl⟩) hS (fun q _ h => hFc q h) hFc (fun u r_38 t H1 locs ht hvm h_38 hB hz1 hk1 hS => ?_)
        obtain ⟨nq_38, cQ_38, hP1, hK1, hD1⟩ := hB
        rw [ht] at hP1
        have hK1 := va_K.moved hvm.symm hK1
        obtain ⟨hP, hD⟩ := va_join (wr := [(x0, .inr (11, [.ref pg, .ref rd, .ref aq, .ref py, .ref pl, .ref ch, .ref ro, .int 0, .int 0])), (py, .inl (cP, 8, .inr (.inr (.inr (.inr (fun _ => none))))))]) (w1 := [(r_38, .inr (6, [.ref nq_38, .null, .int 0])), (nq_38, .inl (cQ_38, 4, .inl (fun _ => 0)))]) hP hD [] [0, 1] rfl rfl (by decide) (by decide) hk1 hFc hP1 hD1
        have hK := hK.app hK1
        generalize H1 = H at hP hS ⊢
        have hP : va_P D vwCl [(x0, .inr (11, [.ref pg, .ref rd, .ref aq, .ref py, .ref pl, .ref ch, .ref ro, .int 0, .int 0])), (py, .inl (cP, 8, .inr (.inr (.inr (.inr (fun _ => none)))))), (r_38, .inr (6, [.ref nq_38, .null, .int 0])), (nq_38, .inl (cQ_38, 4, .inl (fun _ => 0)))] H := hP
        have hD : va_D A [(x0, .inr (11, [.ref pg, .ref rd, .ref aq, .ref py, .ref pl, .ref ch, .ref ro, .int 0, .int 0])), (py, .inl (cP, 8, .inr (.inr (.inr (.inr (fun _ => none)))))), (r_38, .inr (6, [.ref nq_38, .null, .int 0])), (nq_38, .inl (cQ_38, 4, .inl (fun _ => 0)))] := hD
        have hK : va_K D vwCl [(cP, .object RX3), (cQ_38, .int)] s := hK
        refine W.cs (cells' := 2) (slots' := 7) rfl rfl ?_
        try dsimp only at h_38
        refine lv_astore (lv' := [(6, .ref r_38), (0, .ref x0), (1, .int 3), (2, .int p2), (3, .int p3), (4, .int p4), (5, .int p5)]) hx hb dX11_pay_41 hl (by decide) rfl (fun ls hl => ?_)
        refine lv_aload hx hb dX11_pay_43 (lv_at hl 0 rfl) ?_
        refine lv_iload_n hx hb dX11_pay_45 rfl (lv_at hl 3 rfl) ?_
        refine lv_iload_n hx hb dX11_pay_46 rfl (lv_at hl 4 rfl) ?_
        refine lv_iload hx hb dX11_pay_47 (lv_at hl 5 rfl) ?_
        refine lv_iload hx hb dX11_pay_49 (lv_at hl 6 rfl) ?_
        have hPc := hP.sub (ws' := [(r_38, .inr (6, [.ref nq_38, .null, .int 0])), (nq_38, .inl (cQ_38, 4, .inl (fun _ => 0)))]) [2, 3] rfl
        have hKc := hK.sub (tys' := [(cQ_38, .int)]) [1] rfl
        have hDc := hD.sub (ws' := [(r_38, .inr (6, [.ref nq_38, .null, .int 0])), (nq_38, .inl (cQ_38, 4, .inl (fun _ => 0)))]) [2, 3] (by decide) rfl
        have hFc := va_free (wc := [(r_38, .inr (6, [.ref nq_38, .null, .int 0])), (nq_38, .inl (cQ_38, 4, .inl (fun _ => 0)))]) hD hS hA [2, 3] rfl
        refine va_callv (va_runU (As := [.int p2, .int p3, .int p4, .int p5]) (rest := []) ⟨hx, hb, hml, hown, hg⟩ (p_become_6 l D r_38 nq_38 cQ_38 (fun _ => 0) p2 p3 p4 p5 _) (va_cwU (owner := "NobodyChecks$Pay") (x := yX3_become) 4 hg (gw_U kw_130 kw_134 kw_137 kw_131 kw_99 kw_129) rfl rfl rfl rfl (by decide +kernel) ⟨Nat.le_of_ble_eq_true rfl, Nat.le_of_ble_eq_true rfl⟩) (pr_MV (q := (RX6, TX6, 3)) 6 0 hKc hPc hDc rfl rfl) rfl rfl hl.1 rfl (lv_room (Nat.le_of_ble_eq_true rfl)) dX11_pay_51 ⟨Nat.le_of_ble_eq_true rfl, Nat.le_of_ble_eq_true rfl⟩) hS (fun q _ h => hFc q h) hFc (fun u t H1 locs ht hvm h_51 hB hz1 hk1 hS => ?_)
        obtain ⟨nf2_51, hP1, hK1, hD1⟩ := hB
        rw [ht] at hP1
        have hK1 := va_K.moved hvm.symm hK1
        obtain ⟨hP, hD⟩ := va_join (wr := [(x0, .inr (11, [.ref pg, .ref rd, .ref aq, .ref py, .ref pl, .ref ch, .ref ro, .int 0, .int 0])), (py, .inl (cP, 8, .inr (.inr (.inr (.inr (fun _ => none))))))]) (w1 := [(r_38, .inr (6, [.ref nq_38, .null, .int 0])), (nq_38, .inl (cQ_38, 4, .inl nf2_51))]) hP hD [2, 3] [0, 1] rfl rfl (by decide) (by decide) hk1 hFc hP1 hD1
        have hK := hK.app hK1
        generalize H1 = H at hP hS ⊢
        have hP : va_P D vwCl [(x0, .inr (11, [.ref pg, .ref rd, .ref aq, .ref py, .ref pl, .ref ch, .ref ro, .int 0, .int 0])), (py, .inl (cP, 8, .inr (.inr (.inr (.inr (fun _ => none)))))), (r_38, .inr (6, [.ref nq_38, .null, .int 0])), (nq_38, .inl (cQ_38, 4, .inl nf2_51))] H := hP
        have hD : va_D A [(x0, .inr (11, [.ref pg, .ref rd, .ref aq, .ref py, .ref pl, .ref ch, .ref ro, .int 0, .int 0])), (py, .inl (cP, 8, .inr (.inr (.inr (.inr (fun _ => none)))))), (r_38, .inr (6, [.ref nq_38, .null, .int 0])), (nq_38, .inl (cQ_38, 4, .inl nf2_51))] := hD
        have hK : va_K D vwCl [(cP, .object RX3), (cQ_38, .int)] s := hK
        refine W.cs (cells' := 2) (slots' := 7) rfl rfl ?_
        try dsimp only at h_51
        refine lv_aload_n hx hb dX11_pay_54 rfl (lv_at hl 1 rfl) ?_
        refine va_get (D := D) (ci := 11) (v := .ref py) (C := RX11) (T := TX11) (N := 9) hx hb hg gwX11 hown hK hP 0 rfl rfl 3 (by decide) (hg _ kw_133) (fun _ h9 => h9) rfl dX11_pay_55 ?_
        refine lv_aload_n hx hb dX11_pay_58 rfl (lv_at hl 1 rfl) ?_
        refine va_get (D := D) (ci := 11) (v := .int 0) (C := RX11) (T := TX11) (N := 9) hx hb hg gwX11 hown hK hP 0 rfl rfl 7 (by decide) (hg _ kw_2) (fun _ h9 => h9) rfl dX11_pay_59 ?_
        refine lv_aload hx hb dX11_pay_62 (lv_at hl 0 rfl) ?_
        refine va_astqO (E := RX3) (r := (RX6, TX6, 3)) hx hb hK hP hD hS 1 0 2 6 rfl rfl (hN.2.2.2.2 RX6 (by decide +kernel)) rfl rfl (show ¬ ((0 : Int32) < 0 ∨ 8 ≤ (0 : Int32).toNatClampNeg) by decide) dX11_pay_64 (fun H locs hP hD hS => ?_)
        generalize (va_up (fun _ => none) (0 : Int32).toNatClampNeg (some r_38)) = f_64 at hP hD
        have hP : va_P D vwCl [(x0, .inr (11, [.ref pg, .ref rd, .ref aq, .ref py, .ref pl, .ref ch, .ref ro, .int 0, .int 0])), (py, .inl (cP, 8, .inr (.inr (.inr (.inr f_64))))), (r_38, .inr (6, [.ref nq_38, .null, .int 0])), (nq_38, .inl (cQ_38, 4, .inl nf2_51))] H := hP
        have hD : va_D A [(x0, .inr (11, [.ref pg, .ref rd, .ref aq, .ref py, .ref pl, .ref ch, .ref ro, .int 0, .int 0])), (py, .inl (cP, 8, .inr (.inr (.inr (.inr f_64))))), (r_38, .inr (6, [.ref nq_38, .null, .int 0])), (nq_38, .inl (cQ_38, 4, .inl nf2_51))] := hD
        refine lv_aload_n hx hb dX11_pay_65 rfl (lv_at hl 1 rfl) ?_
        refine lv_dup hx hb dX11_pay_66 rfl ?_
        refine va_get (D := D) (ci := 11) (v := .int 0) (C := RX11) (T := TX11) (N := 9) hx hb hg gwX11 hown hK hP 0 rfl rfl 7 (by decide) (hg _ kw_2) (fun _ h9 => h9) rfl dX11_pay_67 ?_
        refine lv_iconst (v := 1) hx hb dX11_pay_70 (by decide) ?_
        refine lv_iadd hx hb dX11_pay_71 ?_
        refine lv_topi (fun z_71 e_71 => ?_)
        obtain rfl : z_71 = (1 : Int32) := e_71.trans (by decide)
        refine va_put (D := D) (ci := 11) (v := .int 1) (ty := .int) (C := RX11) (T := TX11) (N := 9) hx hb hg gwX11 tyX11 tyX11_ok nmX11 hown hK hP hD hS 0 rfl rfl 7 (by decide) (hg _ kw_2) (fun _ h9 => h9) rfl (by decide +kernel) rfl rfl (Nat.le_of_ble_eq_true rfl) dX11_pay_72 (fun H locs hP hD hS => ?_)
        have hP : va_P D vwCl [(x0, .inr (11, [.ref pg, .ref rd, .ref aq, .ref py, .ref pl, .ref ch, .ref ro, .int 1, .int 0])), (py, .inl (cP, 8, .inr (.inr (.inr (.inr f_64))))), (r_38, .inr (6, [.ref nq_38, .null, .int 0])), (nq_38, .inl (cQ_38, 4, .inl nf2_51))] H := hP
        have hD : va_D A [(x0, .inr (11, [.ref pg, .ref rd, .ref aq, .ref py, .ref pl, .ref ch, .ref ro, .int 1, .int 0])), (py, .inl (cP, 8, .inr (.inr (.inr (.inr f_64))))), (r_38, .inr (6, [.ref nq_38, .null, .int 0])), (nq_38, .inl (cQ_38, 4, .inl nf2_51))] := hD
        refine lv_aload_n hx hb dX11_pay_75 rfl (lv_at hl 1 rfl) ?_
        refine va_get (D := D) (ci := 11) (v := .int 1) (C := RX11) (T := TX11) (N := 9) hx hb hg gwX11 hown hK hP 0 rfl rfl 7 (by decide) (hg _ kw_2) (fun _ h9 => h9) rfl dX11_pay_76 ?_
        refine lv_iconst (v := 1) hx hb dX11_pay_79 (by decide) ?_
        refine lv_isub hx hb dX11_pay_80 ?_
        refine lv_topi (fun z_80 e_80 => ?_)
        obtain rfl : z_80 = (0 : Int32) := e_80.trans (by decide)
        subst hQ
        refine W.widen (k := 2) (n := 7) (Nat.le_of_ble_eq_true rfl) (Nat.le_of_ble_eq_true rfl) ?_
        exact W.iret (v := 0) hx hb hr (fun t ht hW => ⟨⟨0, (), rfl, (sp_y hkd ha1), trivial⟩, hS.F ht⟩) hS.2.2 dX11_pay_81
      · have hPc := hP.sub (ws' := []) [] rfl
        have hKc := hK.sub (tys' := []) [] rfl
        have hDc := hD.sub (ws' := []) [] (by decide) rfl
        have hFc := va_free (wc := []) hD hS hA [] rfl
        refine va_callr (va_runS (As := [.int 4]) (rest := []) ⟨hx, hb, hml, hown, hg⟩ (x_madeOf_4 l D _) (va_cwS 1 hg (gw_S kw_127 kw_128 kw_6 kw_126) rfl rfl rfl (by decide +kernel) ⟨Nat.le_of_ble_eq_true rfl, Nat.le_of_ble_eq_true rfl⟩) (pr_C hKc hPc hDc hN) rfl rfl hl.1 rfl (lv_room (Nat.le_of_ble_eq_true rfl)) dX11_pay_38 ⟨Nat.le_of_ble_eq_true rfl, Nat.le_of_ble_eq_true rfl⟩) hS (fun q _ h => hFc q h) hFc (fun u r_38 t H1 locs ht hvm h_38 hB hz1 hk1 hS => ?_)
        obtain ⟨nq_38, cQ_38, hP1, hK1, hD1⟩ := hB
        rw [ht] at hP1
        have hK1 := va_K.moved hvm.symm hK1
        obtain ⟨hP, hD⟩ := va_join (wr := [(x0, .inr (11, [.ref pg, .ref rd, .ref aq, .ref py, .ref pl, .ref ch, .ref ro, .int 0, .int 0])), (py, .inl (cP, 8, .inr (.inr (.inr (.inr (fun _ => none))))))]) (w1 := [(r_38, .inr (1, [.ref nq_38, .null, .int 0])), (nq_38, .inl (cQ_38, 4, .inl (fun _ => 0)))]) hP hD [] [0, 1] rfl rfl (by decide) (by decide) hk1 hFc hP1 hD1
        have hK := hK.app hK1
        generalize H1 = H at hP hS ⊢
        have hP : va_P D vwCl [(x0, .inr (11, [.ref pg, .ref rd, .ref aq, .ref py, .ref pl, .ref ch, .ref ro, .int 0, .int 0])), (py, .inl (cP, 8, .inr (.inr (.inr (.inr (fun _ => none)))))), (r_38, .inr (1, [.ref nq_38, .null, .int 0])), (nq_38, .inl (cQ_38, 4, .inl (fun _ => 0)))] H := hP
        have hD : va_D A [(x0, .inr (11, [.ref pg, .ref rd, .ref aq, .ref py, .ref pl, .ref ch, .ref ro, .int 0, .int 0])), (py, .inl (cP, 8, .inr (.inr (.inr (.inr (fun _ => none)))))), (r_38, .inr (1, [.ref nq_38, .null, .int 0])), (nq_38, .inl (cQ_38, 4, .inl (fun _ => 0)))] := hD
        have hK : va_K D vwCl [(cP, .object RX3), (cQ_38, .int)] s := hK
        refine W.cs (cells' := 2) (slots' := 7) rfl rfl ?_
        try dsimp only at h_38
        refine lv_astore (lv' := [(6, .ref r_38), (0, .ref x0), (1, .int 4), (2, .int p2), (3, .int p3), (4, .int p4), (5, .int p5)]) hx hb dX11_pay_41 hl (by decide) rfl (fun ls hl => ?_)
        refine lv_aload hx hb dX11_pay_43 (lv_at hl 0 rfl) ?_
        refine lv_iload_n hx hb dX11_pay_45 rfl (lv_at hl 3 rfl) ?_
        refine lv_iload_n hx hb dX11_pay_46 rfl (lv_at hl 4 rfl) ?_
        refine lv_iload hx hb dX11_pay_47 (lv_at hl 5 rfl) ?_
        refine lv_iload hx hb dX11_pay_49 (lv_at hl 6 rfl) ?_
        have hPc := hP.sub (ws' := [(r_38, .inr (1, [.ref nq_38, .null, .int 0])), (nq_38, .inl (cQ_38, 4, .inl (fun _ => 0)))]) [2, 3] rfl
        have hKc := hK.sub (tys' := [(cQ_38, .int)]) [1] rfl
        have hDc := hD.sub (ws' := [(r_38, .inr (1, [.ref nq_38, .null, .int 0])), (nq_38, .inl (cQ_38, 4, .inl (fun _ => 0)))]) [2, 3] (by decide) rfl
        have hFc := va_free (wc := [(r_38, .inr (1, [.ref nq_38, .null, .int 0])), (nq_38, .inl (cQ_38, 4, .inl (fun _ => 0)))]) hD hS hA [2, 3] rfl
        refine va_callv (va_runU (As := [.int p2, .int p3, .int p4, .int p5]) (rest := []) ⟨hx, hb, hml, hown, hg⟩ (p_become_1 l D r_38 nq_38 cQ_38 (fun _ => 0) p2 p3 p4 p5 _) (va_cwU (owner := "NobodyChecks$Pay") (x := yX3_become) 4 hg (gw_U kw_130 kw_134 kw_138 kw_131 kw_99 kw_129) rfl rfl rfl rfl (by decide +kernel) ⟨Nat.le_of_ble_eq_true rfl, Nat.le_of_ble_eq_true rfl⟩) (pr_MV (q := (RX1, TX1, 3)) 1 0 hKc hPc hDc rfl rfl) rfl rfl hl.1 rfl (lv_room (Nat.le_of_ble_eq_true rfl)) dX11_pay_51 ⟨Nat.le_of_ble_eq_true rfl, Nat.le_of_ble_eq_true rfl⟩) hS (fun q _ h => hFc q h) hFc (fun u t H1 locs ht hvm h_51 hB hz1 hk1 hS => ?_)
        obtain ⟨nf2_51, hP1, hK1, hD1⟩ := hB
        rw [ht] at hP1
        have hK1 := va_K.moved hvm.symm hK1
        obtain ⟨hP, hD⟩ := va_join (wr := [(x0, .inr (11, [.ref pg, .ref rd, .ref aq, .ref py, .ref pl, .ref ch, .ref ro, .int 0, .int 0])), (py, .inl (cP, 8, .inr (.inr (.inr (.inr (fun _ => none))))))]) (w1 := [(r_38, .inr (1, [.ref nq_38, .null, .int 0])), (nq_38, .inl (cQ_38, 4, .inl nf2_51))]) hP hD [2, 3] [0, 1] rfl rfl (by decide) (by decide) hk1 hFc hP1 hD1
        have hK := hK.app hK1
        generalize H1 = H at hP hS ⊢
        have hP : va_P D vwCl [(x0, .inr (11, [.ref pg, .ref rd, .ref aq, .ref py, .ref pl, .ref ch, .ref ro, .int 0, .int 0])), (py, .inl (cP, 8, .inr (.inr (.inr (.inr (fun _ => none)))))), (r_38, .inr (1, [.ref nq_38, .null, .int 0])), (nq_38, .inl (cQ_38, 4, .inl nf2_51))] H := hP
        have hD : va_D A [(x0, .inr (11, [.ref pg, .ref rd, .ref aq, .ref py, .ref pl, .ref ch, .ref ro, .int 0, .int 0])), (py, .inl (cP, 8, .inr (.inr (.inr (.inr (fun _ => none)))))), (r_38, .inr (1, [.ref nq_38, .null, .int 0])), (nq_38, .inl (cQ_38, 4, .inl nf2_51))] := hD
        have hK : va_K D vwCl [(cP, .object RX3), (cQ_38, .int)] s := hK
        refine W.cs (cells' := 2) (slots' := 7) rfl rfl ?_
        try dsimp only at h_51
        refine lv_aload_n hx hb dX11_pay_54 rfl (lv_at hl 1 rfl) ?_
        refine va_get (D := D) (ci := 11) (v := .ref py) (C := RX11) (T := TX11) (N := 9) hx hb hg gwX11 hown hK hP 0 rfl rfl 3 (by decide) (hg _ kw_133) (fun _ h9 => h9) rfl dX11_pay_55 ?_
        refine lv_aload_n hx hb dX11_pay_58 rfl (lv_at hl 1 rfl) ?_
        refine va_get (D := D) (ci := 11) (v := .int 0) (C := RX11) (T := TX11) (N := 9) hx hb hg gwX11 hown hK hP 0 rfl rfl 7 (by decide) (hg _ kw_2) (fun _ h9 => h9) rfl dX11_pay_59 ?_
        refine lv_aload hx hb dX11_pay_62 (lv_at hl 0 rfl) ?_
        refine va_astqO (E := RX3) (r := (RX1, TX1, 3)) hx hb hK hP hD hS 1 0 2 1 rfl rfl (hN.2.2.2.2 RX1 (by decide +kernel)) rfl rfl (show ¬ ((0 : Int32) < 0 ∨ 8 ≤ (0 : Int32).toNatClampNeg) by decide) dX11_pay_64 (fun H locs hP hD hS => ?_)
        generalize (va_up (fun _ => none) (0 : Int32).toNatClampNeg (some r_38)) = f_64 at hP hD
        have hP : va_P D vwCl [(x0, .inr (11, [.ref pg, .ref rd, .ref aq, .ref py, .ref pl, .ref ch, .ref ro, .int 0, .int 0])), (py, .inl (cP, 8, .inr (.inr (.inr (.inr f_64))))), (r_38, .inr (1, [.ref nq_38, .null, .int 0])), (nq_38, .inl (cQ_38, 4, .inl nf2_51))] H := hP
        have hD : va_D A [(x0, .inr (11, [.ref pg, .ref rd, .ref aq, .ref py, .ref pl, .ref ch, .ref ro, .int 0, .int 0])), (py, .inl (cP, 8, .inr (.inr (.inr (.inr f_64))))), (r_38, .inr (1, [.ref nq_38, .null, .int 0])), (nq_38, .inl (cQ_38, 4, .inl nf2_51))] := hD
        refine lv_aload_n hx hb dX11_pay_65 rfl (lv_at hl 1 rfl) ?_
        refine lv_dup hx hb dX11_pay_66 rfl ?_
        refine va_get (D := D) (ci := 11) (v := .int 0) (C := RX11) (T := TX11) (N := 9) hx hb hg gwX11 hown hK hP 0 rfl rfl 7 (by decide) (hg _ kw_2) (fun _ h9 => h9) rfl dX11_pay_67 ?_
        refine lv_iconst (v := 1) hx hb dX11_pay_70 (by decide) ?_
        refine lv_iadd hx hb dX11_pay_71 ?_
        refine lv_topi (fun z_71 e_71 => ?_)
        obtain rfl : z_71 = (1 : Int32) := e_71.trans (by decide)
        refine va_put (D := D) (ci := 11) (v := .int 1) (ty := .int) (C := RX11) (T := TX11) (N := 9) hx hb hg gwX11 tyX11 tyX11_ok nmX11 hown hK hP hD hS 0 rfl rfl 7 (by decide) (hg _ kw_2) (fun _ h9 => h9) rfl (by decide +kernel) rfl rfl (Nat.le_of_ble_eq_true rfl) dX11_pay_72 (fun H locs hP hD hS => ?_)
        have hP : va_P D vwCl [(x0, .inr (11, [.ref pg, .ref rd, .ref aq, .ref py, .ref pl, .ref ch, .ref ro, .int 1, .int 0])), (py, .inl (cP, 8, .inr (.inr (.inr (.inr f_64))))), (r_38, .inr (1, [.ref nq_38, .null, .int 0])), (nq_38, .inl (cQ_38, 4, .inl nf2_51))] H := hP
        have hD : va_D A [(x0, .inr (11, [.ref pg, .ref rd, .ref aq, .ref py, .ref pl, .ref ch, .ref ro, .int 1, .int 0])), (py, .inl (cP, 8, .inr (.inr (.inr (.inr f_64))))), (r_38, .inr (1, [.ref nq_38, .null, .int 0])), (nq_38, .inl (cQ_38, 4, .inl nf2_51))] := hD
        refine lv_aload_n hx hb dX11_pay_75 rfl (lv_at hl 1 rfl) ?_
        refine va_get (D := D) (ci := 11) (v := .int 1) (C := RX11) (T := TX11) (N := 9) hx hb hg gwX11 hown hK hP 0 rfl rfl 7 (by decide) (hg _ kw_2) (fun _ h9 => h9) rfl dX11_pay_76 ?_
        refine lv_iconst (v := 1) hx hb dX11_pay_79 (by decide) ?_
        refine lv_isub hx hb dX11_pay_80 ?_
        refine lv_topi (fun z_80 e_80 => ?_)
        obtain rfl : z_80 = (0 : Int32) := e_80.trans (by decide)
        subst hQ
        refine W.widen (k := 2) (n := 7) (Nat.le_of_ble_eq_true rfl) (Nat.le_of_ble_eq_true rfl) ?_
        exact W.iret (v := 0) hx hb hr (fun t ht hW => ⟨⟨0, (), rfl, (sp_y hkd ha1), trivial⟩, hS.F ht⟩) hS.2.2 dX11_pay_81
    · refine lv_bipush (v := (-102)) hx hb dX11_pay_22 (by decide) ?_
      subst hQ
      refine W.widen (k := 2) (n := 7) (Nat.le_of_ble_eq_true rfl) (Nat.le_of_ble_eq_true rfl) ?_
      exact W.iret (v := (-102)) hx hb hr (fun t ht hW => ⟨⟨(-102), (), rfl, (sp_n2 h_16 c_19), trivial⟩, hS.F ht⟩) hS.2.2 dX11_pay_24
end
section
theorem dX2_init_0 : decode cX2_init 0 = .ok (.aload_n 0, 1) := by decide +kernel
theorem dX2_init_1 : decode cX2_init 1 = .ok (.invokespecial 3, 3) := by decide +kernel
theorem dX2_init_4 : decode cX2_init 4 = .ok (.aload_n 0, 1) := by decide +kernel
theorem dX2_init_5 : decode cX2_init 5 = .ok (.bipush 90, 2) := by decide +kernel
theorem dX2_init_7 : decode cX2_init 7 = .ok (.newarray .int, 2) := by decide +kernel
theorem dX2_init_9 : decode cX2_init 9 = .ok (.putfield 9, 3) := by decide +kernel
theorem dX2_init_12 : decode cX2_init 12 = .ok (.return_, 1) := by decide +kernel
theorem kw_139 : (.methodLink RX2 3 objectInit : Cond) ∈ gw_tbl := gw_in (by decide +kernel) (by decide +kernel)

set_option maxHeartbeats 4000000 in
set_option maxRecDepth 100000 in
theorem i_page (l : Launch) (D : va_G) (h0 : Nat) (sz : Nat) : Met l yX2_init (Cond.code yX2_init cX2_init 1 none :: gw_tbl) ({ frames := 1, cells := 1, slots := 90, locals := 12 }) (pc_C D [] [(h0, .inr (2, [.null, .int 0]))] sz [.ref h0]) (va_Qv (fun (u : Unit) => True) (fun _ t => ∃ (cd : Nat), ∃ (cI : ClassId), va_P D vwCl [(h0, .inr (2, [.ref cd, .int 0])), (cd, .inl (cI, 90, .inl (fun _ => 0)))] t.heap ∧ va_K D vwCl [(cI, .int)] t ∧ va_D (va_A [(h0, .inr (2, [.null, .int 0]))] sz) [(h0, .inr (2, [.ref cd, .int 0])), (cd, .inl (cI, 90, .inl (fun _ => 0)))]) (va_A [(h0, .inr (2, [.null, .int 0]))] sz)) 1 90 (va_A [(h0, .inr (2, [.null, .int 0]))] sz) := by
  refine Met.ofW (cc := cX2_init) (maxL := 1) (ret := none) (by decide) rfl ?_
  intro p e s m args below meth c s₁ B hml hv
  obtain ⟨hargs, hsz, hP, hK, hD0, hN⟩ := hv
  have hx := B.exec
  have hb := B.bytes
  have hr := B.returns
  have hts := atoms_spec (ws := Cond.code yX2_init cX2_init 1 none :: gw_tbl) B.pre
  have hg := fun (w : Cond) (h : w ∈ gw_tbl) => hts w (List.mem_cons_of_mem _ h)
  have hown : s.vm.findClass RX2 = some m.cls := findClass_of_methodNamed B.named
  have hlocks := B.notSynchronized
  have hin : meth.name = "<init>" := (name_of_methodNamed B.named B.method).1
  subst hsz
  have hD := hD0.self (sz := s.heap.size)
  generalize hAe : va_A [(h0, .inr (2, [.null, .int 0]))] s.heap.size = A at hD ⊢
  have hA : ∀ q : Nat, s.heap.size ≤ q → A q := fun q h => by rw [← hAe]; exact Or.inr h
  have hS : va_S A s.heap s.heap [] := va_S.rf
  have hP : va_P D vwCl [(h0, .inr (2, [.null, .int 0]))] s.heap := hP
  have hl := lv_entry ([.ref h0]) (n := 1) (Nat.le_of_ble_eq_true rfl)
  rw [show entryFrame m args 1 = F0 m 0 (lg_sl ([.ref h0]) ++ List.replicate (1 - (lg_sl ([.ref h0])).length) Slot.unset).toArray [] from by rw [hargs]; exact lg_entry_eq ..]
  generalize (lg_sl ([.ref h0]) ++ List.replicate (1 - (lg_sl ([.ref h0])).length) Slot.unset).toArray = ls at hl ⊢
  have hl : lv_has ls 1 [(0, .ref h0)] := hl
  refine W_genQ (fun Q hQ => ?_)
  refine lv_aload_n hx hb dX2_init_0 rfl (lv_at hl 0 rfl) ?_
  refine W.objInit hx hb hown (hg _ kw_139) (hg _ kw_94) (hg _ kw_95) rfl (by rw [hml]; exact hl.1) rfl dX2_init_1 (Nat.le_of_ble_eq_true rfl) (Nat.le_of_ble_eq_true rfl) ?_
  refine W.eq (g2 := F0 m 4 ls []) rfl ?_
  refine lv_aload_n hx hb dX2_init_4 rfl (lv_at hl 0 rfl) ?_
  refine lv_bipush (v := 90) hx hb dX2_init_5 (by decide) ?_
  refine va_newa (atype := .int) (ty := .int) (N' := 90) (a0 := (90, .inl (fun _ => 0))) hx hb (hg _ kw_96) rfl hK hP hD hS hA (fun _ => rfl) (by decide) (by decide) (by decide) (Nat.le_of_ble_eq_true rfl) (Nat.le_of_ble_eq_true rfl) dX2_init_7 (fun q_7 cA_7 H hK hP hD hS => ?_)
  have hP : va_P D vwCl [(h0, .inr (2, [.null, .int 0])), (q_7, .inl (cA_7, 90, .inl (fun _ => 0)))] H := hP
  have hD : va_D A [(h0, .inr (2, [.null, .int 0])), (q_7, .inl (cA_7, 90, .inl (fun _ => 0)))] := hD
  have hK : va_K D vwCl [(cA_7, .int)] s := hK
  refine W.cs (cells' := 1) (slots' := 90) rfl rfl ?_
  refine va_putF (D := D) (ci := 2) (v := .ref q_7) (ty := .array .int) (C := RX2) (T := TX2) (N := 2) hx hb hg gwX2 tyX2 tyX2_ok nmX2 hown hK hP hD hS 0 rfl rfl 0 (by decide) (hg _ kw_85) (fun _ h9 => h9) rfl hin rfl (by decide +kernel) rfl rfl (Nat.le_of_ble_eq_true rfl) dX2_init_9 (fun H locs hP hD hS => ?_)
  have hP : va_P D vwCl [(h0, .inr (2, [.ref q_7, .int 0])), (q_7, .inl (cA_7, 90, .inl (fun _ => 0)))] H := hP
  have hD : va_D A [(h0, .inr (2, [.ref q_7, .int 0])), (q_7, .inl (cA_7, 90, .inl (fun _ => 0)))] := hD
  subst hQ
  refine W.widen (k := 1) (n := 90) (Nat.le_of_ble_eq_true rfl) (Nat.le_of_ble_eq_true rfl) ?_
  have hP9 := hP.sub (ws' := [(h0, .inr (2, [.ref q_7, .int 0])), (q_7, .inl (cA_7, 90, .inl (fun _ => 0)))]) [0, 1] rfl
  have hD9 := hD.sub (ws' := [(h0, .inr (2, [.ref q_7, .int 0])), (q_7, .inl (cA_7, 90, .inl (fun _ => 0)))]) [0, 1] (by decide) rfl
  have hK9 := hK.sub (tys' := [(cA_7, .int)]) [0] rfl
  exact W.vret hx hb hr (fun t ht hW => ⟨⟨(), rfl, trivial, ⟨q_7, cA_7, by rw [ht]; exact hP9, va_K.moved hW.alike hK9, hD9⟩⟩, hS.F ht⟩) hS.2.2 dX2_init_12

theorem dX7_init_0 : decode cX7_init 0 = .ok (.aload_n 0, 1) := by decide +kernel
theorem dX7_init_1 : decode cX7_init 1 = .ok (.invokespecial 3, 3) := by decide +kernel
theorem dX7_init_4 : decode cX7_init 4 = .ok (.aload_n 0, 1) := by decide +kernel
theorem dX7_init_5 : decode cX7_init 5 = .ok (.iconst 5, 1) := by decide +kernel
theorem dX7_init_6 : decode cX7_init 6 = .ok (.newarray .int, 2) := by decide +kernel
theorem dX7_init_8 : decode cX7_init 8 = .ok (.putfield 9, 3) := by decide +kernel
theorem dX7_init_11 : decode cX7_init 11 = .ok (.aload_n 0, 1) := by decide +kernel
theorem dX7_init_12 : decode cX7_init 12 = .ok (.iconst 5, 1) := by decide +kernel
theorem dX7_init_13 : decode cX7_init 13 = .ok (.iconst 4, 1) := by decide +kernel
theorem dX7_init_14 : decode cX7_init 14 = .ok (.multianewarray 15 2, 4) := by decide +kernel
theorem dX7_init_18 : decode cX7_init 18 = .ok (.putfield 17, 3) := by decide +kernel
theorem dX7_init_21 : decode cX7_init 21 = .ok (.return_, 1) := by decide +kernel
theorem kw_140 : (.methodLink RX7 3 objectInit : Cond) ∈ gw_tbl := gw_in (by decide +kernel) (by decide +kernel)
theorem kw_141 : (.fieldLink RX7 9 "NobodyChecks$Reader" "weights" "[I" : Cond) ∈ gw_tbl := gw_in (by decide +kernel) (by decide +kernel)
theorem kw_142 : (.classLink RX7 15 "[[I" : Cond) ∈ gw_tbl := gw_in (by decide +kernel) (by decide +kernel)
theorem kw_143 : (.fieldLink RX7 17 "NobodyChecks$Reader" "chances" "[[I" : Cond) ∈ gw_tbl := gw_in (by decide +kernel) (by decide +kernel)

set_option maxHeartbeats 4000000 in
set_option maxRecDepth 100000 in
theorem i_reader (l : Launch) (D : va_G) (h0 : Nat) (sz : Nat) : Met l yX7_init (Cond.code yX7_init cX7_init 1 none :: gw_tbl) ({ frames := 1, cells := 7, slots := 30, locals := 12 }) (pc_C D [] [(h0, .inr (7, [.null, .null, .int 0, .int 0, .int 0, .int 0, .int 0]))] sz [.ref h0]) (va_Qv (fun (u : Unit) => True) (fun _ t => ∃ (rw : Nat), ∃ (rc : Nat), va_P D vwCl [(h0, .inr (7, [.ref rw, .ref rc, .int 0, .int 0, .int 0, .int 0, .int 0]))] t.heap ∧ va_K D vwCl [] t ∧ va_D (va_A [(h0, .inr (7, [.null, .null, .int 0, .int 0, .int 0, .int 0, .int 0]))] sz) [(h0, .inr (7, [.ref rw, .ref rc, .int 0, .int 0, .int 0, .int 0, .int 0]))]) (va_A [(h0, .inr (7, [.null, .null, .int 0, .int 0, .int 0, .int 0, .int 0]))] sz)) 7 30 (va_A [(h0, .inr (7, [.null, .null, .int 0, .int 0, .int 0, .int 0, .int 0]))] sz) := by
  refine Met.ofW (cc := cX7_init) (maxL := 1) (ret := none) (by decide) rfl ?_
  intro p e s m args below meth c s₁ B hml hv
  obtain ⟨hargs, hsz, hP, hK, hD0, hN⟩ := hv
  have hx := B.exec
  have hb := B.bytes
  have hr := B.returns
  have hts := atoms_spec (ws := Cond.code yX7_init cX7_init 1 none :: gw_tbl) B.pre
  have hg := fun (w : Cond) (h : w ∈ gw_tbl) => hts w (List.mem_cons_of_mem _ h)
  have hown : s.vm.findClass RX7 = some m.cls := findClass_of_methodNamed B.named
  have hlocks := B.notSynchronized
  have hin : meth.name = "<init>" := (name_of_methodNamed B.named B.method).1
  subst hsz
  have hD := hD0.self (sz := s.heap.size)
  generalize hAe : va_A [(h0, .inr (7, [.null, .null, .int 0, .int 0, .int 0, .int 0, .int 0]))] s.heap.size = A at hD ⊢
  have hA : ∀ q : Nat, s.heap.size ≤ q → A q := fun q h => by rw [← hAe]; exact Or.inr h
  have hS : va_S A s.heap s.heap [] := va_S.rf
  have hP : va_P D vwCl [(h0, .inr (7, [.null, .null, .int 0, .int 0, .int 0, .int 0, .int 0]))] s.heap := hP
  have hl := lv_entry ([.ref h0]) (n := 1) (Nat.le_of_ble_eq_true rfl)
  rw [show entryFrame m args 1 = F0 m 0 (lg_sl ([.ref h0]) ++ List.replicate (1 - (lg_sl ([.ref h0])).length) Slot.unset).toArray [] from by rw [hargs]; exact lg_entry_eq ..]
  generalize (lg_sl ([.ref h0]) ++ List.replicate (1 - (lg_sl ([.ref h0])).length) Slot.unset).toArray = ls at hl ⊢
  have hl : lv_has ls 1 [(0, .ref h0)] := hl
  refine W_genQ (fun Q hQ => ?_)
  refine lv_aload_n hx hb dX7_init_0 rfl (lv_at hl 0 rfl) ?_
  refine W.objInit hx hb hown (hg _ kw_140) (hg _ kw_94) (hg _ kw_95) rfl (by rw [hml]; exact hl.1) rfl dX7_init_1 (Nat.le_of_ble_eq_true rfl) (Nat.le_of_ble_eq_true rfl) ?_
  refine W.eq (g2 := F0 m 4 ls []) rfl ?_
  refine lv_aload_n hx hb dX7_init_4 rfl (lv_at hl 0 rfl) ?_
  refine lv_iconst (v := 5) hx hb dX7_init_5 (by decide) ?_
  refine va_newa (atype := .int) (ty := .int) (N' := 5) (a0 := (5, .inl (fun _ => 0))) hx hb (hg _ kw_96) rfl hK hP hD hS hA (fun _ => rfl) (by decide) (by decide) (by decide) (Nat.le_of_ble_eq_true rfl) (Nat.le_of_ble_eq_true rfl) dX7_init_6 (fun q_6 cA_6 H hK hP hD hS => ?_)
  have hP : va_P D vwCl [(h0, .inr (7, [.null, .null, .int 0, .int 0, .int 0, .int 0, .int 0])), (q_6, .inl (cA_6, 5, .inl (fun _ => 0)))] H := hP
  have hD : va_D A [(h0, .inr (7, [.null, .null, .int 0, .int 0, .int 0, .int 0, .int 0])), (q_6, .inl (cA_6, 5, .inl (fun _ => 0)))] := hD
  have hK : va_K D vwCl [(cA_6, .int)] s := hK
  refine W.cs (cells' := 1) (slots' := 5) rfl rfl ?_
  refine va_putF (D := D) (ci := 7) (v := .ref q_6) (ty := .array .int) (C := RX7) (T := TX7) (N := 7) hx hb hg gwX7 tyX7 tyX7_ok nmX7 hown hK hP hD hS 0 rfl rfl 0 (by decide) (hg _ kw_141) (fun _ h9 => h9) rfl hin rfl (by decide +kernel) rfl rfl (Nat.le_of_ble_eq_true rfl) dX7_init_8 (fun H locs hP hD hS => ?_)
  have hP : va_P D vwCl [(h0, .inr (7, [.ref q_6, .null, .int 0, .int 0, .int 0, .int 0, .int 0])), (q_6, .inl (cA_6, 5, .inl (fun _ => 0)))] H := hP
  have hD : va_D A [(h0, .inr (7, [.ref q_6, .null, .int 0, .int 0, .int 0, .int 0, .int 0])), (q_6, .inl (cA_6, 5, .inl (fun _ => 0)))] := hD
  refine lv_aload_n hx hb dX7_init_11 rfl (lv_at hl 0 rfl) ?_
  refine lv_iconst (v := 5) hx hb dX7_init_12 (by decide) ?_
  refine lv_iconst (v := 4) hx hb dX7_init_13 (by decide) ?_
  refine mm_mna (ty := .int) (N' := 5) (K' := 4) hx hb hown (hg _ kw_142) hN.2.2.1 (hg _ kw_96) hP hS (by decide) (by decide) (by decide) (by decide) (by decide) (by decide) (by decide) rfl rfl (Nat.le_of_ble_eq_true rfl) (Nat.le_of_ble_eq_true rfl) dX7_init_14 (fun q_14 H hP hS => ?_)
  refine W.cs (cells' := 7) (slots' := 30) rfl rfl ?_
  refine va_putF (D := D) (ci := 7) (v := .ref q_14) (ty := .array (.array .int)) (C := RX7) (T := TX7) (N := 7) hx hb hg gwX7 tyX7 tyX7_ok nmX7 hown hK hP hD hS 0 rfl rfl 1 (by decide) (hg _ kw_143) (fun _ h9 => h9) rfl hin rfl (by decide +kernel) rfl rfl (Nat.le_of_ble_eq_true rfl) dX7_init_18 (fun H locs hP hD hS => ?_)
  have hP : va_P D vwCl [(h0, .inr (7, [.ref q_6, .ref q_14, .int 0, .int 0, .int 0, .int 0, .int 0])), (q_6, .inl (cA_6, 5, .inl (fun _ => 0)))] H := hP
  have hD : va_D A [(h0, .inr (7, [.ref q_6, .ref q_14, .int 0, .int 0, .int 0, .int 0, .int 0])), (q_6, .inl (cA_6, 5, .inl (fun _ => 0)))] := hD
  subst hQ
  refine W.widen (k := 7) (n := 30) (Nat.le_of_ble_eq_true rfl) (Nat.le_of_ble_eq_true rfl) ?_
  have hP9 := hP.sub (ws' := [(h0, .inr (7, [.ref q_6, .ref q_14, .int 0, .int 0, .int 0, .int 0, .int 0]))]) [0] rfl
  have hD9 := hD.sub (ws' := [(h0, .inr (7, [.ref q_6, .ref q_14, .int 0, .int 0, .int 0, .int 0, .int 0]))]) [0] (by decide) rfl
  have hK9 := hK.sub (tys' := []) [] rfl
  exact W.vret hx hb hr (fun t ht hW => ⟨⟨(), rfl, trivial, ⟨q_6, q_14, by rw [ht]; exact hP9, va_K.moved hW.alike hK9, hD9⟩⟩, hS.F ht⟩) hS.2.2 dX7_init_21

theorem dX5_init_0 : decode cX5_init 0 = .ok (.aload_n 0, 1) := by decide +kernel
theorem dX5_init_1 : decode cX5_init 1 = .ok (.invokespecial 3, 3) := by decide +kernel
theorem dX5_init_4 : decode cX5_init 4 = .ok (.aload_n 0, 1) := by decide +kernel
theorem dX5_init_5 : decode cX5_init 5 = .ok (.iconst 5, 1) := by decide +kernel
theorem dX5_init_6 : decode cX5_init 6 = .ok (.newarray .int, 2) := by decide +kernel
theorem dX5_init_8 : decode cX5_init 8 = .ok (.putfield 9, 3) := by decide +kernel
theorem dX5_init_11 : decode cX5_init 11 = .ok (.aload_n 0, 1) := by decide +kernel
theorem dX5_init_12 : decode cX5_init 12 = .ok (.iconst 5, 1) := by decide +kernel
theorem dX5_init_13 : decode cX5_init 13 = .ok (.iconst 4, 1) := by decide +kernel
theorem dX5_init_14 : decode cX5_init 14 = .ok (.multianewarray 15 2, 4) := by decide +kernel
theorem dX5_init_18 : decode cX5_init 18 = .ok (.putfield 17, 3) := by decide +kernel
theorem dX5_init_21 : decode cX5_init 21 = .ok (.aload_n 0, 1) := by decide +kernel
theorem dX5_init_22 : decode cX5_init 22 = .ok (.iconst 4, 1) := by decide +kernel
theorem dX5_init_23 : decode cX5_init 23 = .ok (.newarray .int, 2) := by decide +kernel
theorem dX5_init_25 : decode cX5_init 25 = .ok (.putfield 20, 3) := by decide +kernel
theorem dX5_init_28 : decode cX5_init 28 = .ok (.aload_n 0, 1) := by decide +kernel
theorem dX5_init_29 : decode cX5_init 29 = .ok (.bipush 16, 2) := by decide +kernel
theorem dX5_init_31 : decode cX5_init 31 = .ok (.newarray .long, 2) := by decide +kernel
theorem dX5_init_33 : decode cX5_init 33 = .ok (.putfield 23, 3) := by decide +kernel
theorem dX5_init_36 : decode cX5_init 36 = .ok (.return_, 1) := by decide +kernel
theorem kw_144 : (.methodLink RX5 3 objectInit : Cond) ∈ gw_tbl := gw_in (by decide +kernel) (by decide +kernel)
theorem kw_145 : (.fieldLink RX5 9 "NobodyChecks$Question" "weights" "[I" : Cond) ∈ gw_tbl := gw_in (by decide +kernel) (by decide +kernel)
theorem kw_146 : (.classLink RX5 15 "[[I" : Cond) ∈ gw_tbl := gw_in (by decide +kernel) (by decide +kernel)
theorem kw_147 : (.fieldLink RX5 17 "NobodyChecks$Question" "chances" "[[I" : Cond) ∈ gw_tbl := gw_in (by decide +kernel) (by decide +kernel)
theorem kw_148 : (.fieldLink RX5 20 "NobodyChecks$Question" "costs" "[I" : Cond) ∈ gw_tbl := gw_in (by decide +kernel) (by decide +kernel)
theorem kw_149 : (.arrayClass .long : Cond) ∈ gw_tbl := gw_in (by decide +kernel) (by decide +kernel)
theorem kw_150 : (.fieldLink RX5 23 "NobodyChecks$Question" "mass" "[J" : Cond) ∈ gw_tbl := gw_in (by decide +kernel) (by decide +kernel)

set_option maxHeartbeats 4000000 in
set_option maxRecDepth 100000 in
theorem i_question (l : Launch) (D : va_G) (h0 : Nat) (sz : Nat) : Met l yX5_init (Cond.code yX5_init cX5_init 1 none :: gw_tbl) ({ frames := 1, cells := 9, slots := 50, locals := 12 }) (pc_C D [] [(h0, .inr (5, [.null, .null, .null, .null, .int 0, .int 0, .long 0]))] sz [.ref h0]) (va_Qv (fun (u : Unit) => True) (fun _ t => ∃ (a1 : Nat), ∃ (a2 : Nat), ∃ (a3 : Nat), ∃ (a4 : Nat), va_P D vwCl [(h0, .inr (5, [.ref a1, .ref a2, .ref a3, .ref a4, .int 0, .int 0, .long 0]))] t.heap ∧ va_K D vwCl [] t ∧ va_D (va_A [(h0, .inr (5, [.null, .null, .null, .null, .int 0, .int 0, .long 0]))] sz) [(h0, .inr (5, [.ref a1, .ref a2, .ref a3, .ref a4, .int 0, .int 0, .long 0]))]) (va_A [(h0, .inr (5, [.null, .null, .null, .null, .int 0, .int 0, .long 0]))] sz)) 9 50 (va_A [(h0, .inr (5, [.null, .null, .null, .null, .int 0, .int 0, .long 0]))] sz) := by
  refine Met.ofW (cc := cX5_init) (maxL := 1) (ret := none) (by decide) rfl ?_
  intro p e s m args below meth c s₁ B hml hv
  obtain ⟨hargs, hsz, hP, hK, hD0, hN⟩ := hv
  have hx := B.exec
  have hb := B.bytes
  have hr := B.returns
  have hts := atoms_spec (ws := Cond.code yX5_init cX5_init 1 none :: gw_tbl) B.pre
  have hg := fun (w : Cond) (h : w ∈ gw_tbl) => hts w (List.mem_cons_of_mem _ h)
  have hown : s.vm.findClass RX5 = some m.cls := findClass_of_methodNamed B.named
  have hlocks := B.notSynchronized
  have hin : meth.name = "<init>" := (name_of_methodNamed B.named B.method).1
  subst hsz
  have hD := hD0.self (sz := s.heap.size)
  generalize hAe : va_A [(h0, .inr (5, [.null, .null, .null, .null, .int 0, .int 0, .long 0]))] s.heap.size = A at hD ⊢
  have hA : ∀ q : Nat, s.heap.size ≤ q → A q := fun q h => by rw [← hAe]; exact Or.inr h
  have hS : va_S A s.heap s.heap [] := va_S.rf
  have hP : va_P D vwCl [(h0, .inr (5, [.null, .null, .null, .null, .int 0, .int 0, .long 0]))] s.heap := hP
  have hl := lv_entry ([.ref h0]) (n := 1) (Nat.le_of_ble_eq_true rfl)
  rw [show entryFrame m args 1 = F0 m 0 (lg_sl ([.ref h0]) ++ List.replicate (1 - (lg_sl ([.ref h0])).length) Slot.unset).toArray [] from by rw [hargs]; exact lg_entry_eq ..]
  generalize (lg_sl ([.ref h0]) ++ List.replicate (1 - (lg_sl ([.ref h0])).length) Slot.unset).toArray = ls at hl ⊢
  have hl : lv_has ls 1 [(0, .ref h0)] := hl
  refine W_genQ (fun Q hQ => ?_)
  refine lv_aload_n hx hb dX5_init_0 rfl (lv_at hl 0 rfl) ?_
  refine W.objInit hx hb hown (hg _ kw_144) (hg _ kw_94) (hg _ kw_95) rfl (by rw [hml]; exact hl.1) rfl dX5_init_1 (Nat.le_of_ble_eq_true rfl) (Nat.le_of_ble_eq_true rfl) ?_
  refine W.eq (g2 := F0 m 4 ls []) rfl ?_
  refine lv_aload_n hx hb dX5_init_4 rfl (lv_at hl 0 rfl) ?_
  refine lv_iconst (v := 5) hx hb dX5_init_5 (by decide) ?_
  refine va_newa (atype := .int) (ty := .int) (N' := 5) (a0 := (5, .inl (fun _ => 0))) hx hb (hg _ kw_96) rfl hK hP hD hS hA (fun _ => rfl) (by decide) (by decide) (by decide) (Nat.le_of_ble_eq_true rfl) (Nat.le_of_ble_eq_true rfl) dX5_init_6 (fun q_6 cA_6 H hK hP hD hS => ?_)
  have hP : va_P D vwCl [(h0, .inr (5, [.null, .null, .null, .null, .int 0, .int 0, .long 0])), (q_6, .inl (cA_6, 5, .inl (fun _ => 0)))] H := hP
  have hD : va_D A [(h0, .inr (5, [.null, .null, .null, .null, .int 0, .int 0, .long 0])), (q_6, .inl (cA_6, 5, .inl (fun _ => 0)))] := hD
  have hK : va_K D vwCl [(cA_6, .int)] s := hK
  refine W.cs (cells' := 1) (slots' := 5) rfl rfl ?_
  refine va_putF (D := D) (ci := 5) (v := .ref q_6) (ty := .array .int) (C := RX5) (T := TX5) (N := 7) hx hb hg gwX5 tyX5 tyX5_ok nmX5 hown hK hP hD hS 0 rfl rfl 0 (by decide) (hg _ kw_145) (fun _ h9 => h9) rfl hin rfl (by decide +kernel) rfl rfl (Nat.le_of_ble_eq_true rfl) dX5_init_8 (fun H locs hP hD hS => ?_)
  have hP : va_P D vwCl [(h0, .inr (5, [.ref q_6, .null, .null, .null, .int 0, .int 0, .long 0])), (q_6, .inl (cA_6, 5, .inl (fun _ => 0)))] H := hP
  have hD : va_D A [(h0, .inr (5, [.ref q_6, .null, .null, .null, .int 0, .int 0, .long 0])), (q_6, .inl (cA_6, 5, .inl (fun _ => 0)))] := hD
  refine lv_aload_n hx hb dX5_init_11 rfl (lv_at hl 0 rfl) ?_
  refine lv_iconst (v := 5) hx hb dX5_init_12 (by decide) ?_
  refine lv_iconst (v := 4) hx hb dX5_init_13 (by decide) ?_
  refine mm_mna (ty := .int) (N' := 5) (K' := 4) hx hb hown (hg _ kw_146) hN.2.2.1 (hg _ kw_96) hP hS (by decide) (by decide) (by decide) (by decide) (by decide) (by decide) (by decide) rfl rfl (Nat.le_of_ble_eq_true rfl) (Nat.le_of_ble_eq_true rfl) dX5_init_14 (fun q_14 H hP hS => ?_)
  refine W.cs (cells' := 7) (slots' := 30) rfl rfl ?_
  refine va_putF (D := D) (ci := 5) (v := .ref q_14) (ty := .array (.array .int)) (C := RX5) (T := TX5) (N := 7) hx hb hg gwX5 tyX5 tyX5_ok nmX5 hown hK hP hD hS 0 rfl rfl 1 (by decide) (hg _ kw_147) (fun _ h9 => h9) rfl hin rfl (by decide +kernel) rfl rfl (Nat.le_of_ble_eq_true rfl) dX5_init_18 (fun H locs hP hD hS => ?_)
  have hP : va_P D vwCl [(h0, .inr (5, [.ref q_6, .ref q_14, .null, .null, .int 0, .int 0, .long 0])), (q_6, .inl (cA_6, 5, .inl (fun _ => 0)))] H := hP
  have hD : va_D A [(h0, .inr (5, [.ref q_6, .ref q_14, .null, .null, .int 0, .int 0, .long 0])), (q_6, .inl (cA_6, 5, .inl (fun _ => 0)))] := hD
  refine lv_aload_n hx hb dX5_init_21 rfl (lv_at hl 0 rfl) ?_
  refine lv_iconst (v := 4) hx hb dX5_init_22 (by decide) ?_
  refine va_newa (atype := .int) (ty := .int) (N' := 4) (a0 := (4, .inl (fun _ => 0))) hx hb (hg _ kw_96) rfl hK hP hD hS hA (fun _ => rfl) (by decide) (by decide) (by decide) (Nat.le_of_ble_eq_true rfl) (Nat.le_of_ble_eq_true rfl) dX5_init_23 (fun q_23 cA_23 H hK hP hD hS => ?_)
  have hP : va_P D vwCl [(h0, .inr (5, [.ref q_6, .ref q_14, .null, .null, .int 0, .int 0, .long 0])), (q_6, .inl (cA_6, 5, .inl (fun _ => 0))), (q_23, .inl (cA_23, 4, .inl (fun _ => 0)))] H := hP
  have hD : va_D A [(h0, .inr (5, [.ref q_6, .ref q_14, .null, .null, .int 0, .int 0, .long 0])), (q_6, .inl (cA_6, 5, .inl (fun _ => 0))), (q_23, .inl (cA_23, 4, .inl (fun _ => 0)))] := hD
  have hK : va_K D vwCl [(cA_6, .int), (cA_23, .int)] s := hK
  refine W.cs (cells' := 8) (slots' := 34) rfl rfl ?_
  refine va_putF (D := D) (ci := 5) (v := .ref q_23) (ty := .array .int) (C := RX5) (T := TX5) (N := 7) hx hb hg gwX5 tyX5 tyX5_ok nmX5 hown hK hP hD hS 0 rfl rfl 2 (by decide) (hg _ kw_148) (fun _ h9 => h9) rfl hin rfl (by decide +kernel) rfl rfl (Nat.le_of_ble_eq_true rfl) dX5_init_25 (fun H locs hP hD hS => ?_)
  have hP : va_P D vwCl [(h0, .inr (5, [.ref q_6, .ref q_14, .ref q_23, .null, .int 0, .int 0, .long 0])), (q_6, .inl (cA_6, 5, .inl (fun _ => 0))), (q_23, .inl (cA_23, 4, .inl (fun _ => 0)))] H := hP
  have hD : va_D A [(h0, .inr (5, [.ref q_6, .ref q_14, .ref q_23, .null, .int 0, .int 0, .long 0])), (q_6, .inl (cA_6, 5, .inl (fun _ => 0))), (q_23, .inl (cA_23, 4, .inl (fun _ => 0)))] := hD
  refine lv_aload_n hx hb dX5_init_28 rfl (lv_at hl 0 rfl) ?_
  refine lv_bipush (v := 16) hx hb dX5_init_29 (by decide) ?_
  refine va_newa (atype := .long) (ty := .long) (N' := 16) (a0 := (16, .inr (.inl (fun _ => 0)))) hx hb (hg _ kw_149) rfl hK hP hD hS hA (fun _ => rfl) (by decide) (by decide) (by decide) (Nat.le_of_ble_eq_true rfl) (Nat.le_of_ble_eq_true rfl) dX5_init_31 (fun q_31 cA_31 H hK hP hD hS => ?_)
  have hP : va_P D vwCl [(h0, .inr (5, [.ref q_6, .ref q_14, .ref q_23, .null, .int 0, .int 0, .long 0])), (q_6, .inl (cA_6, 5, .inl (fun _ => 0))), (q_23, .inl (cA_23, 4, .inl (fun _ => 0))), (q_31, .inl (cA_31, 16, .inr (.inl (fun _ => 0))))] H := hP
  have hD : va_D A [(h0, .inr (5, [.ref q_6, .ref q_14, .ref q_23, .null, .int 0, .int 0, .long 0])), (q_6, .inl (cA_6, 5, .inl (fun _ => 0))), (q_23, .inl (cA_23, 4, .inl (fun _ => 0))), (q_31, .inl (cA_31, 16, .inr (.inl (fun _ => 0))))] := hD
  have hK : va_K D vwCl [(cA_6, .int), (cA_23, .int), (cA_31, .long)] s := hK
  refine W.cs (cells' := 9) (slots' := 50) rfl rfl ?_
  refine va_putF (D := D) (ci := 5) (v := .ref q_31) (ty := .array .long) (C := RX5) (T := TX5) (N := 7) hx hb hg gwX5 tyX5 tyX5_ok nmX5 hown hK hP hD hS 0 rfl rfl 3 (by decide) (hg _ kw_150) (fun _ h9 => h9) rfl hin rfl (by decide +kernel) rfl rfl (Nat.le_of_ble_eq_true rfl) dX5_init_33 (fun H locs hP hD hS => ?_)
  have hP : va_P D vwCl [(h0, .inr (5, [.ref q_6, .ref q_14, .ref q_23, .ref q_31, .int 0, .int 0, .long 0])), (q_6, .inl (cA_6, 5, .inl (fun _ => 0))), (q_23, .inl (cA_23, 4, .inl (fun _ => 0))), (q_31, .inl (cA_31, 16, .inr (.inl (fun _ => 0))))] H := hP
  have hD : va_D A [(h0, .inr (5, [.ref q_6, .ref q_14, .ref q_23, .ref q_31, .int 0, .int 0, .long 0])), (q_6, .inl (cA_6, 5, .inl (fun _ => 0))), (q_23, .inl (cA_23, 4, .inl (fun _ => 0))), (q_31, .inl (cA_31, 16, .inr (.inl (fun _ => 0))))] := hD
  subst hQ
  refine W.widen (k := 9) (n := 50) (Nat.le_of_ble_eq_true rfl) (Nat.le_of_ble_eq_true rfl) ?_
  have hP9 := hP.sub (ws' := [(h0, .inr (5, [.ref q_6, .ref q_14, .ref q_23, .ref q_31, .int 0, .int 0, .long 0]))]) [0] rfl
  have hD9 := hD.sub (ws' := [(h0, .inr (5, [.ref q_6, .ref q_14, .ref q_23, .ref q_31, .int 0, .int 0, .long 0]))]) [0] (by decide) rfl
  have hK9 := hK.sub (tys' := []) [] rfl
  exact W.vret hx hb hr (fun t ht hW => ⟨⟨(), rfl, trivial, ⟨q_6, q_14, q_23, q_31, by rw [ht]; exact hP9, va_K.moved hW.alike hK9, hD9⟩⟩, hS.F ht⟩) hS.2.2 dX5_init_36

theorem dX8_init_0 : decode cX8_init 0 = .ok (.aload_n 0, 1) := by decide +kernel
theorem dX8_init_1 : decode cX8_init 1 = .ok (.invokespecial 3, 3) := by decide +kernel
theorem dX8_init_4 : decode cX8_init 4 = .ok (.aload_n 0, 1) := by decide +kernel
theorem dX8_init_5 : decode cX8_init 5 = .ok (.bipush 24, 2) := by decide +kernel
theorem dX8_init_7 : decode cX8_init 7 = .ok (.newarray .int, 2) := by decide +kernel
theorem dX8_init_9 : decode cX8_init 9 = .ok (.putfield 9, 3) := by decide +kernel
theorem dX8_init_12 : decode cX8_init 12 = .ok (.aload_n 0, 1) := by decide +kernel
theorem dX8_init_13 : decode cX8_init 13 = .ok (.bipush 24, 2) := by decide +kernel
theorem dX8_init_15 : decode cX8_init 15 = .ok (.newarray .long, 2) := by decide +kernel
theorem dX8_init_17 : decode cX8_init 17 = .ok (.putfield 15, 3) := by decide +kernel
theorem dX8_init_20 : decode cX8_init 20 = .ok (.return_, 1) := by decide +kernel
theorem kw_151 : (.methodLink RX8 3 objectInit : Cond) ∈ gw_tbl := gw_in (by decide +kernel) (by decide +kernel)
theorem kw_152 : (.fieldLink RX8 9 "NobodyChecks$Rows" "answers" "[I" : Cond) ∈ gw_tbl := gw_in (by decide +kernel) (by decide +kernel)
theorem kw_153 : (.fieldLink RX8 15 "NobodyChecks$Rows" "guesses" "[J" : Cond) ∈ gw_tbl := gw_in (by decide +kernel) (by decide +kernel)

set_option maxHeartbeats 4000000 in
set_option maxRecDepth 100000 in
theorem i_rows (l : Launch) (D : va_G) (h0 : Nat) (sz : Nat) : Met l yX8_init (Cond.code yX8_init cX8_init 1 none :: gw_tbl) ({ frames := 1, cells := 2, slots := 48, locals := 12 }) (pc_C D [] [(h0, .inr (8, [.null, .null, .int 0]))] sz [.ref h0]) (va_Qv (fun (u : Unit) => True) (fun _ t => ∃ (r1 : Nat), ∃ (r2 : Nat), va_P D vwCl [(h0, .inr (8, [.ref r1, .ref r2, .int 0]))] t.heap ∧ va_K D vwCl [] t ∧ va_D (va_A [(h0, .inr (8, [.null, .null, .int 0]))] sz) [(h0, .inr (8, [.ref r1, .ref r2, .int 0]))]) (va_A [(h0, .inr (8, [.null, .null, .int 0]))] sz)) 2 48 (va_A [(h0, .inr (8, [.null, .null, .int 0]))] sz) := by
  refine Met.ofW (cc := cX8_init) (maxL := 1) (ret := none) (by decide) rfl ?_
  intro p e s m args below meth c s₁ B hml hv
  obtain ⟨hargs, hsz, hP, hK, hD0, hN⟩ := hv
  have hx := B.exec
  have hb := B.bytes
  have hr := B.returns
  have hts := atoms_spec (ws := Cond.code yX8_init cX8_init 1 none :: gw_tbl) B.pre
  have hg := fun (w : Cond) (h : w ∈ gw_tbl) => hts w (List.mem_cons_of_mem _ h)
  have hown : s.vm.findClass RX8 = some m.cls := findClass_of_methodNamed B.named
  have hlocks := B.notSynchronized
  have hin : meth.name = "<init>" := (name_of_methodNamed B.named B.method).1
  subst hsz
  have hD := hD0.self (sz := s.heap.size)
  generalize hAe : va_A [(h0, .inr (8, [.null, .null, .int 0]))] s.heap.size = A at hD ⊢
  have hA : ∀ q : Nat, s.heap.size ≤ q → A q := fun q h => by rw [← hAe]; exact Or.inr h
  have hS : va_S A s.heap s.heap [] := va_S.rf
  have hP : va_P D vwCl [(h0, .inr (8, [.null, .null, .int 0]))] s.heap := hP
  have hl := lv_entry ([.ref h0]) (n := 1) (Nat.le_of_ble_eq_true rfl)
  rw [show entryFrame m args 1 = F0 m 0 (lg_sl ([.ref h0]) ++ List.replicate (1 - (lg_sl ([.ref h0])).length) Slot.unset).toArray [] from by rw [hargs]; exact lg_entry_eq ..]
  generalize (lg_sl ([.ref h0]) ++ List.replicate (1 - (lg_sl ([.ref h0])).length) Slot.unset).toArray = ls at hl ⊢
  have hl : lv_has ls 1 [(0, .ref h0)] := hl
  refine W_genQ (fun Q hQ => ?_)
  refine lv_aload_n hx hb dX8_init_0 rfl (lv_at hl 0 rfl) ?_
  refine W.objInit hx hb hown (hg _ kw_151) (hg _ kw_94) (hg _ kw_95) rfl (by rw [hml]; exact hl.1) rfl dX8_init_1 (Nat.le_of_ble_eq_true rfl) (Nat.le_of_ble_eq_true rfl) ?_
  refine W.eq (g2 := F0 m 4 ls []) rfl ?_
  refine lv_aload_n hx hb dX8_init_4 rfl (lv_at hl 0 rfl) ?_
  refine lv_bipush (v := 24) hx hb dX8_init_5 (by decide) ?_
  refine va_newa (atype := .int) (ty := .int) (N' := 24) (a0 := (24, .inl (fun _ => 0))) hx hb (hg _ kw_96) rfl hK hP hD hS hA (fun _ => rfl) (by decide) (by decide) (by decide) (Nat.le_of_ble_eq_true rfl) (Nat.le_of_ble_eq_true rfl) dX8_init_7 (fun q_7 cA_7 H hK hP hD hS => ?_)
  have hP : va_P D vwCl [(h0, .inr (8, [.null, .null, .int 0])), (q_7, .inl (cA_7, 24, .inl (fun _ => 0)))] H := hP
  have hD : va_D A [(h0, .inr (8, [.null, .null, .int 0])), (q_7, .inl (cA_7, 24, .inl (fun _ => 0)))] := hD
  have hK : va_K D vwCl [(cA_7, .int)] s := hK
  refine W.cs (cells' := 1) (slots' := 24) rfl rfl ?_
  refine va_putF (D := D) (ci := 8) (v := .ref q_7) (ty := .array .int) (C := RX8) (T := TX8) (N := 3) hx hb hg gwX8 tyX8 tyX8_ok nmX8 hown hK hP hD hS 0 rfl rfl 0 (by decide) (hg _ kw_152) (fun _ h9 => h9) rfl hin rfl (by decide +kernel) rfl rfl (Nat.le_of_ble_eq_true rfl) dX8_init_9 (fun H locs hP hD hS => ?_)
  have hP : va_P D vwCl [(h0, .inr (8, [.ref q_7, .null, .int 0])), (q_7, .inl (cA_7, 24, .inl (fun _ => 0)))] H := hP
  have hD : va_D A [(h0, .inr (8, [.ref q_7, .null, .int 0])), (q_7, .inl (cA_7, 24, .inl (fun _ => 0)))] := hD
  refine lv_aload_n hx hb dX8_init_12 rfl (lv_at hl 0 rfl) ?_
  refine lv_bipush (v := 24) hx hb dX8_init_13 (by decide) ?_
  refine va_newa (atype := .long) (ty := .long) (N' := 24) (a0 := (24, .inr (.inl (fun _ => 0)))) hx hb (hg _ kw_149) rfl hK hP hD hS hA (fun _ => rfl) (by decide) (by decide) (by decide) (Nat.le_of_ble_eq_true rfl) (Nat.le_of_ble_eq_true rfl) dX8_init_15 (fun q_15 cA_15 H hK hP hD hS => ?_)
  have hP : va_P D vwCl [(h0, .inr (8, [.ref q_7, .null, .int 0])), (q_7, .inl (cA_7, 24, .inl (fun _ => 0))), (q_15, .inl (cA_15, 24, .inr (.inl (fun _ => 0))))] H := hP
  have hD : va_D A [(h0, .inr (8, [.ref q_7, .null, .int 0])), (q_7, .inl (cA_7, 24, .inl (fun _ => 0))), (q_15, .inl (cA_15, 24, .inr (.inl (fun _ => 0))))] := hD
  have hK : va_K D vwCl [(cA_7, .int), (cA_15, .long)] s := hK
  refine W.cs (cells' := 2) (slots' := 48) rfl rfl ?_
  refine va_putF (D := D) (ci := 8) (v := .ref q_15) (ty := .array .long) (C := RX8) (T := TX8) (N := 3) hx hb hg gwX8 tyX8 tyX8_ok nmX8 hown hK hP hD hS 0 rfl rfl 1 (by decide) (hg _ kw_153) (fun _ h9 => h9) rfl hin rfl (by decide +kernel) rfl rfl (Nat.le_of_ble_eq_true rfl) dX8_init_17 (fun H locs hP hD hS => ?_)
  have hP : va_P D vwCl [(h0, .inr (8, [.ref q_7, .ref q_15, .int 0])), (q_7, .inl (cA_7, 24, .inl (fun _ => 0))), (q_15, .inl (cA_15, 24, .inr (.inl (fun _ => 0))))] H := hP
  have hD : va_D A [(h0, .inr (8, [.ref q_7, .ref q_15, .int 0])), (q_7, .inl (cA_7, 24, .inl (fun _ => 0))), (q_15, .inl (cA_15, 24, .inr (.inl (fun _ => 0))))] := hD
  subst hQ
  refine W.widen (k := 2) (n := 48) (Nat.le_of_ble_eq_true rfl) (Nat.le_of_ble_eq_true rfl) ?_
  have hP9 := hP.sub (ws' := [(h0, .inr (8, [.ref q_7, .ref q_15, .int 0]))]) [0] rfl
  have hD9 := hD.sub (ws' := [(h0, .inr (8, [.ref q_7, .ref q_15, .int 0]))]) [0] (by decide) rfl
  have hK9 := hK.sub (tys' := []) [] rfl
  exact W.vret hx hb hr (fun t ht hW => ⟨⟨(), rfl, trivial, ⟨q_7, q_15, by rw [ht]; exact hP9, va_K.moved hW.alike hK9, hD9⟩⟩, hS.F ht⟩) hS.2.2 dX8_init_20

theorem dX4_init_0 : decode cX4_init 0 = .ok (.aload_n 0, 1) := by decide +kernel
theorem dX4_init_1 : decode cX4_init 1 = .ok (.invokespecial 3, 3) := by decide +kernel
theorem dX4_init_4 : decode cX4_init 4 = .ok (.aload_n 0, 1) := by decide +kernel
theorem dX4_init_5 : decode cX4_init 5 = .ok (.sipush 256, 3) := by decide +kernel
theorem dX4_init_8 : decode cX4_init 8 = .ok (.newarray .int, 2) := by decide +kernel
theorem dX4_init_10 : decode cX4_init 10 = .ok (.putfield 9, 3) := by decide +kernel
theorem dX4_init_13 : decode cX4_init 13 = .ok (.aload_n 0, 1) := by decide +kernel
theorem dX4_init_14 : decode cX4_init 14 = .ok (.sipush 256, 3) := by decide +kernel
theorem dX4_init_17 : decode cX4_init 17 = .ok (.newarray .int, 2) := by decide +kernel
theorem dX4_init_19 : decode cX4_init 19 = .ok (.putfield 15, 3) := by decide +kernel
theorem dX4_init_22 : decode cX4_init 22 = .ok (.aload_n 0, 1) := by decide +kernel
theorem dX4_init_23 : decode cX4_init 23 = .ok (.iconst 0, 1) := by decide +kernel
theorem dX4_init_24 : decode cX4_init 24 = .ok (.newarray .long, 2) := by decide +kernel
theorem dX4_init_26 : decode cX4_init 26 = .ok (.putfield 18, 3) := by decide +kernel
theorem dX4_init_29 : decode cX4_init 29 = .ok (.aload_n 0, 1) := by decide +kernel
theorem dX4_init_30 : decode cX4_init 30 = .ok (.aload_n 1, 1) := by decide +kernel
theorem dX4_init_31 : decode cX4_init 31 = .ok (.putfield 22, 3) := by decide +kernel
theorem dX4_init_34 : decode cX4_init 34 = .ok (.return_, 1) := by decide +kernel
theorem kw_154 : (.methodLink RX4 3 objectInit : Cond) ∈ gw_tbl := gw_in (by decide +kernel) (by decide +kernel)
theorem kw_155 : (.fieldLink RX4 9 "NobodyChecks$Play" "next" "[I" : Cond) ∈ gw_tbl := gw_in (by decide +kernel) (by decide +kernel)
theorem kw_156 : (.fieldLink RX4 15 "NobodyChecks$Play" "seen" "[I" : Cond) ∈ gw_tbl := gw_in (by decide +kernel) (by decide +kernel)
theorem kw_157 : (.fieldLink RX4 18 "NobodyChecks$Play" "averages" "[J" : Cond) ∈ gw_tbl := gw_in (by decide +kernel) (by decide +kernel)
theorem kw_158 : (.fieldLink RX4 22 "NobodyChecks$Play" "asked" "LNobodyChecks$Question;" : Cond) ∈ gw_tbl := gw_in (by decide +kernel) (by decide +kernel)

set_option maxHeartbeats 4000000 in
set_option maxRecDepth 100000 in
theorem i_play (l : Launch) (D : va_G) (h0 : Nat) (aq : Nat) (sz : Nat) : Met l yX4_init (Cond.code yX4_init cX4_init 2 none :: gw_tbl) ({ frames := 1, cells := 3, slots := 512, locals := 12 }) (pc_C D [] [(h0, .inr (4, [.null, .null, .null, .null, .long 0, .int 0, .int 0, .int 0, .int 0, .int 0]))] sz [.ref h0, .ref aq]) (va_Qv (fun (u : Unit) => True) (fun _ t => va_P D vwCl [] t.heap ∧ va_K D vwCl [] t ∧ va_D (va_A [(h0, .inr (4, [.null, .null, .null, .null, .long 0, .int 0, .int 0, .int 0, .int 0, .int 0]))] sz) []) (va_A [(h0, .inr (4, [.null, .null, .null, .null, .long 0, .int 0, .int 0, .int 0, .int 0, .int 0]))] sz)) 3 512 (va_A [(h0, .inr (4, [.null, .null, .null, .null, .long 0, .int 0, .int 0, .int 0, .int 0, .int 0]))] sz) := by
  refine Met.ofW (cc := cX4_init) (maxL := 2) (ret := none) (by decide) rfl ?_
  intro p e s m args below meth c s₁ B hml hv
  obtain ⟨hargs, hsz, hP, hK, hD0, hN⟩ := hv
  have hx := B.exec
  have hb := B.bytes
  have hr := B.returns
  have hts := atoms_spec (ws := Cond.code yX4_init cX4_init 2 none :: gw_tbl) B.pre
  have hg := fun (w : Cond) (h : w ∈ gw_tbl) => hts w (List.mem_cons_of_mem _ h)
  have hown : s.vm.findClass RX4 = some m.cls := findClass_of_methodNamed B.named
  have hlocks := B.notSynchronized
  have hin : meth.name = "<init>" := (name_of_methodNamed B.named B.method).1
  subst hsz
  have hD := hD0.self (sz := s.heap.size)
  generalize hAe : va_A [(h0, .inr (4, [.null, .null, .null, .null, .long 0, .int 0, .int 0, .int 0, .int 0, .int 0]))] s.heap.size = A at hD ⊢
  have hA : ∀ q : Nat, s.heap.size ≤ q → A q := fun q h => by rw [← hAe]; exact Or.inr h
  have hS : va_S A s.heap s.heap [] := va_S.rf
  have hP : va_P D vwCl [(h0, .inr (4, [.null, .null, .null, .null, .long 0, .int 0, .int 0, .int 0, .int 0, .int 0]))] s.heap := hP
  have hl := lv_entry ([.ref h0, .ref aq]) (n := 2) (Nat.le_of_ble_eq_true rfl)
  rw [show entryFrame m args 2 = F0 m 0 (lg_sl ([.ref h0, .ref aq]) ++ List.replicate (2 - (lg_sl ([.ref h0, .ref aq])).length) Slot.unset).toArray [] from by rw [hargs]; exact lg_entry_eq ..]
  generalize (lg_sl ([.ref h0, .ref aq]) ++ List.replicate (2 - (lg_sl ([.ref h0, .ref aq])).length) Slot.unset).toArray = ls at hl ⊢
  have hl : lv_has ls 2 [(0, .ref h0), (1, .ref aq)] := hl
  refine W_genQ (fun Q hQ => ?_)
  refine lv_aload_n hx hb dX4_init_0 rfl (lv_at hl 0 rfl) ?_
  refine W.objInit hx hb hown (hg _ kw_154) (hg _ kw_94) (hg _ kw_95) rfl (by rw [hml]; exact hl.1) rfl dX4_init_1 (Nat.le_of_ble_eq_true rfl) (Nat.le_of_ble_eq_true rfl) ?_
  refine W.eq (g2 := F0 m 4 ls []) rfl ?_
  refine lv_aload_n hx hb dX4_init_4 rfl (lv_at hl 0 rfl) ?_
  refine lv_sipush (v := 256) hx hb dX4_init_5 (by decide) ?_
  refine va_newa (atype := .int) (ty := .int) (N' := 256) (a0 := (256, .inl (fun _ => 0))) hx hb (hg _ kw_96) rfl hK hP hD hS hA (fun _ => rfl) (by decide) (by decide) (by decide) (Nat.le_of_ble_eq_true rfl) (Nat.le_of_ble_eq_true rfl) dX4_init_8 (fun q_8 cA_8 H hK hP hD hS => ?_)
  have hP : va_P D vwCl [(h0, .inr (4, [.null, .null, .null, .null, .long 0, .int 0, .int 0, .int 0, .int 0, .int 0])), (q_8, .inl (cA_8, 256, .inl (fun _ => 0)))] H := hP
  have hD : va_D A [(h0, .inr (4, [.null, .null, .null, .null, .long 0, .int 0, .int 0, .int 0, .int 0, .int 0])), (q_8, .inl (cA_8, 256, .inl (fun _ => 0)))] := hD
  have hK : va_K D vwCl [(cA_8, .int)] s := hK
  refine W.cs (cells' := 1) (slots' := 256) rfl rfl ?_
  refine va_putF (D := D) (ci := 4) (v := .ref q_8) (ty := .array .int) (C := RX4) (T := TX4) (N := 10) hx hb hg gwX4 tyX4 tyX4_ok nmX4 hown hK hP hD hS 0 rfl rfl 1 (by decide) (hg _ kw_155) (fun _ h9 => h9) rfl hin rfl (by decide +kernel) rfl rfl (Nat.le_of_ble_eq_true rfl) dX4_init_10 (fun H locs hP hD hS => ?_)
  have hP : va_P D vwCl [(h0, .inr (4, [.null, .ref q_8, .null, .null, .long 0, .int 0, .int 0, .int 0, .int 0, .int 0])), (q_8, .inl (cA_8, 256, .inl (fun _ => 0)))] H := hP
  have hD : va_D A [(h0, .inr (4, [.null, .ref q_8, .null, .null, .long 0, .int 0, .int 0, .int 0, .int 0, .int 0])), (q_8, .inl (cA_8, 256, .inl (fun _ => 0)))] := hD
  refine lv_aload_n hx hb dX4_init_13 rfl (lv_at hl 0 rfl) ?_
  refine lv_sipush (v := 256) hx hb dX4_init_14 (by decide) ?_
  refine va_newa (atype := .int) (ty := .int) (N' := 256) (a0 := (256, .inl (fun _ => 0))) hx hb (hg _ kw_96) rfl hK hP hD hS hA (fun _ => rfl) (by decide) (by decide) (by decide) (Nat.le_of_ble_eq_true rfl) (Nat.le_of_ble_eq_true rfl) dX4_init_17 (fun q_17 cA_17 H hK hP hD hS => ?_)
  have hP : va_P D vwCl [(h0, .inr (4, [.null, .ref q_8, .null, .null, .long 0, .int 0, .int 0, .int 0, .int 0, .int 0])), (q_8, .inl (cA_8, 256, .inl (fun _ => 0))), (q_17, .inl (cA_17, 256, .inl (fun _ => 0)))] H := hP
  have hD : va_D A [(h0, .inr (4, [.null, .ref q_8, .null, .null, .long 0, .int 0, .int 0, .int 0, .int 0, .int 0])), (q_8, .inl (cA_8, 256, .inl (fun _ => 0))), (q_17, .inl (cA_17, 256, .inl (fun _ => 0)))] := hD
  have hK : va_K D vwCl [(cA_8, .int), (cA_17, .int)] s := hK
  refine W.cs (cells' := 2) (slots' := 512) rfl rfl ?_
  refine va_putF (D := D) (ci := 4) (v := .ref q_17) (ty := .array .int) (C := RX4) (T := TX4) (N := 10) hx hb hg gwX4 tyX4 tyX4_ok nmX4 hown hK hP hD hS 0 rfl rfl 2 (by decide) (hg _ kw_156) (fun _ h9 => h9) rfl hin rfl (by decide +kernel) rfl rfl (Nat.le_of_ble_eq_true rfl) dX4_init_19 (fun H locs hP hD hS => ?_)
  have hP : va_P D vwCl [(h0, .inr (4, [.null, .ref q_8, .ref q_17, .null, .long 0, .int 0, .int 0, .int 0, .int 0, .int 0])), (q_8, .inl (cA_8, 256, .inl (fun _ => 0))), (q_17, .inl (cA_17, 256, .inl (fun _ => 0)))] H := hP
  have hD : va_D A [(h0, .inr (4, [.null, .ref q_8, .ref q_17, .null, .long 0, .int 0, .int 0, .int 0, .int 0, .int 0])), (q_8, .inl (cA_8, 256, .inl (fun _ => 0))), (q_17, .inl (cA_17, 256, .inl (fun _ => 0)))] := hD
  refine lv_aload_n hx hb dX4_init_22 rfl (lv_at hl 0 rfl) ?_
  refine lv_iconst (v := 0) hx hb dX4_init_23 (by decide) ?_
  refine va_newa (atype := .long) (ty := .long) (N' := 0) (a0 := (0, .inr (.inl (fun _ => 0)))) hx hb (hg _ kw_149) rfl hK hP hD hS hA (fun _ => rfl) (by decide) (by decide) (by decide) (Nat.le_of_ble_eq_true rfl) (Nat.le_of_ble_eq_true rfl) dX4_init_24 (fun q_24 cA_24 H hK hP hD hS => ?_)
  have hP : va_P D vwCl [(h0, .inr (4, [.null, .ref q_8, .ref q_17, .null, .long 0, .int 0, .int 0, .int 0, .int 0, .int 0])), (q_8, .inl (cA_8, 256, .inl (fun _ => 0))), (q_17, .inl (cA_17, 256, .inl (fun _ => 0))), (q_24, .inl (cA_24, 0, .inr (.inl (fun _ => 0))))] H := hP
  have hD : va_D A [(h0, .inr (4, [.null, .ref q_8, .ref q_17, .null, .long 0, .int 0, .int 0, .int 0, .int 0, .int 0])), (q_8, .inl (cA_8, 256, .inl (fun _ => 0))), (q_17, .inl (cA_17, 256, .inl (fun _ => 0))), (q_24, .inl (cA_24, 0, .inr (.inl (fun _ => 0))))] := hD
  have hK : va_K D vwCl [(cA_8, .int), (cA_17, .int), (cA_24, .long)] s := hK
  refine W.cs (cells' := 3) (slots' := 512) rfl rfl ?_
  refine va_put (D := D) (ci := 4) (v := .ref q_24) (ty := .array .long) (C := RX4) (T := TX4) (N := 10) hx hb hg gwX4 tyX4 tyX4_ok nmX4 hown hK hP hD hS 0 rfl rfl 3 (by decide) (hg _ kw_157) (fun _ h9 => h9) rfl (by decide +kernel) rfl rfl (Nat.le_of_ble_eq_true rfl) dX4_init_26 (fun H locs hP hD hS => ?_)
  have hP : va_P D vwCl [(h0, .inr (4, [.null, .ref q_8, .ref q_17, .ref q_24, .long 0, .int 0, .int 0, .int 0, .int 0, .int 0])), (q_8, .inl (cA_8, 256, .inl (fun _ => 0))), (q_17, .inl (cA_17, 256, .inl (fun _ => 0))), (q_24, .inl (cA_24, 0, .inr (.inl (fun _ => 0))))] H := hP
  have hD : va_D A [(h0, .inr (4, [.null, .ref q_8, .ref q_17, .ref q_24, .long 0, .int 0, .int 0, .int 0, .int 0, .int 0])), (q_8, .inl (cA_8, 256, .inl (fun _ => 0))), (q_17, .inl (cA_17, 256, .inl (fun _ => 0))), (q_24, .inl (cA_24, 0, .inr (.inl (fun _ => 0))))] := hD
  refine lv_aload_n hx hb dX4_init_29 rfl (lv_at hl 0 rfl) ?_
  refine lv_aload_n hx hb dX4_init_30 rfl (lv_at hl 1 rfl) ?_
  refine va_putF (D := D) (ci := 4) (v := .ref aq) (ty := .object "NobodyChecks$Question") (C := RX4) (T := TX4) (N := 10) hx hb hg gwX4 tyX4 tyX4_ok nmX4 hown hK hP hD hS 0 rfl rfl 0 (by decide) (hg _ kw_158) (fun _ h9 => h9) rfl hin rfl (by decide +kernel) rfl rfl (Nat.le_of_ble_eq_true rfl) dX4_init_31 (fun H locs hP hD hS => ?_)
  have hP : va_P D vwCl [(h0, .inr (4, [.ref aq, .ref q_8, .ref q_17, .ref q_24, .long 0, .int 0, .int 0, .int 0, .int 0, .int 0])), (q_8, .inl (cA_8, 256, .inl (fun _ => 0))), (q_17, .inl (cA_17, 256, .inl (fun _ => 0))), (q_24, .inl (cA_24, 0, .inr (.inl (fun _ => 0))))] H := hP
  have hD : va_D A [(h0, .inr (4, [.ref aq, .ref q_8, .ref q_17, .ref q_24, .long 0, .int 0, .int 0, .int 0, .int 0, .int 0])), (q_8, .inl (cA_8, 256, .inl (fun _ => 0))), (q_17, .inl (cA_17, 256, .inl (fun _ => 0))), (q_24, .inl (cA_24, 0, .inr (.inl (fun _ => 0))))] := hD
  subst hQ
  refine W.widen (k := 3) (n := 512) (Nat.le_of_ble_eq_true rfl) (Nat.le_of_ble_eq_true rfl) ?_
  have hP9 := hP.sub (ws' := []) [] rfl
  have hD9 := hD.sub (ws' := []) [] (by decide) rfl
  have hK9 := hK.sub (tys' := []) [] rfl
  exact W.vret hx hb hr (fun t ht hW => ⟨⟨(), rfl, trivial, ⟨by rw [ht]; exact hP9, va_K.moved hW.alike hK9, hD9⟩⟩, hS.F ht⟩) hS.2.2 dX4_init_34

theorem dX0_init_0 : decode cX0_init 0 = .ok (.aload_n 0, 1) := by decide +kernel
theorem dX0_init_1 : decode cX0_init 1 = .ok (.invokespecial 5, 3) := by decide +kernel
theorem dX0_init_4 : decode cX0_init 4 = .ok (.aload_n 0, 1) := by decide +kernel
theorem dX0_init_5 : decode cX0_init 5 = .ok (.new 11, 3) := by decide +kernel
theorem dX0_init_8 : decode cX0_init 8 = .ok (.dup, 1) := by decide +kernel
theorem dX0_init_9 : decode cX0_init 9 = .ok (.invokespecial 13, 3) := by decide +kernel
theorem dX0_init_12 : decode cX0_init 12 = .ok (.putfield 14, 3) := by decide +kernel
theorem dX0_init_15 : decode cX0_init 15 = .ok (.aload_n 0, 1) := by decide +kernel
theorem dX0_init_16 : decode cX0_init 16 = .ok (.new 18, 3) := by decide +kernel
theorem dX0_init_19 : decode cX0_init 19 = .ok (.dup, 1) := by decide +kernel
theorem dX0_init_20 : decode cX0_init 20 = .ok (.invokespecial 20, 3) := by decide +kernel
theorem dX0_init_23 : decode cX0_init 23 = .ok (.putfield 21, 3) := by decide +kernel
theorem dX0_init_26 : decode cX0_init 26 = .ok (.aload_n 0, 1) := by decide +kernel
theorem dX0_init_27 : decode cX0_init 27 = .ok (.new 25, 3) := by decide +kernel
theorem dX0_init_30 : decode cX0_init 30 = .ok (.dup, 1) := by decide +kernel
theorem dX0_init_31 : decode cX0_init 31 = .ok (.invokespecial 27, 3) := by decide +kernel
theorem dX0_init_34 : decode cX0_init 34 = .ok (.putfield 28, 3) := by decide +kernel
theorem dX0_init_37 : decode cX0_init 37 = .ok (.aload_n 0, 1) := by decide +kernel
theorem dX0_init_38 : decode cX0_init 38 = .ok (.bipush 16, 2) := by decide +kernel
theorem dX0_init_40 : decode cX0_init 40 = .ok (.newarray .long, 2) := by decide +kernel
theorem dX0_init_42 : decode cX0_init 42 = .ok (.putfield 32, 3) := by decide +kernel
theorem dX0_init_45 : decode cX0_init 45 = .ok (.aload_n 0, 1) := by decide +kernel
theorem dX0_init_46 : decode cX0_init 46 = .ok (.iconst 4, 1) := by decide +kernel
theorem dX0_init_47 : decode cX0_init 47 = .ok (.bipush 12, 2) := by decide +kernel
theorem dX0_init_49 : decode cX0_init 49 = .ok (.multianewarray 36 2, 4) := by decide +kernel
theorem dX0_init_53 : decode cX0_init 53 = .ok (.putfield 38, 3) := by decide +kernel
theorem dX0_init_56 : decode cX0_init 56 = .ok (.aload_n 0, 1) := by decide +kernel
theorem dX0_init_57 : decode cX0_init 57 = .ok (.bipush 12, 2) := by decide +kernel
theorem dX0_init_59 : decode cX0_init 59 = .ok (.newarray .long, 2) := by decide +kernel
theorem dX0_init_61 : decode cX0_init 61 = .ok (.putfield 41, 3) := by decide +kernel
theorem dX0_init_64 : decode cX0_init 64 = .ok (.aload_n 0, 1) := by decide +kernel
theorem dX0_init_65 : decode cX0_init 65 = .ok (.iconst 4, 1) := by decide +kernel
theorem dX0_init_66 : decode cX0_init 66 = .ok (.newarray .long, 2) := by decide +kernel
theorem dX0_init_68 : decode cX0_init 68 = .ok (.putfield 44, 3) := by decide +kernel
theorem dX0_init_71 : decode cX0_init 71 = .ok (.aload_n 0, 1) := by decide +kernel
theorem dX0_init_72 : decode cX0_init 72 = .ok (.iconst 4, 1) := by decide +kernel
theorem dX0_init_73 : decode cX0_init 73 = .ok (.newarray .int, 2) := by decide +kernel
theorem dX0_init_75 : decode cX0_init 75 = .ok (.putfield 47, 3) := by decide +kernel
theorem dX0_init_78 : decode cX0_init 78 = .ok (.aload_n 0, 1) := by decide +kernel
theorem dX0_init_79 : decode cX0_init 79 = .ok (.iconst 4, 1) := by decide +kernel
theorem dX0_init_80 : decode cX0_init 80 = .ok (.newarray .int, 2) := by decide +kernel
theorem dX0_init_82 : decode cX0_init 82 = .ok (.putfield 51, 3) := by decide +kernel
theorem dX0_init_85 : decode cX0_init 85 = .ok (.aload_n 0, 1) := by decide +kernel
theorem dX0_init_86 : decode cX0_init 86 = .ok (.aload_n 1, 1) := by decide +kernel
theorem dX0_init_87 : decode cX0_init 87 = .ok (.putfield 54, 3) := by decide +kernel
theorem dX0_init_90 : decode cX0_init 90 = .ok (.return_, 1) := by decide +kernel
theorem kw_159 : (.methodLink RX0 5 objectInit : Cond) ∈ gw_tbl := gw_in (by decide +kernel) (by decide +kernel)
theorem kw_160 : (.classLink RX0 11 RX9 : Cond) ∈ gw_tbl := gw_in (by decide +kernel) (by decide +kernel)
theorem kw_161 : (.fieldLink RX0 14 "NobodyChecks$Cheapest" "same" "LNobodyChecks$Same;" : Cond) ∈ gw_tbl := gw_in (by decide +kernel) (by decide +kernel)
theorem kw_162 : (.classLink RX0 18 RX10 : Cond) ∈ gw_tbl := gw_in (by decide +kernel) (by decide +kernel)
theorem kw_163 : (.fieldLink RX0 21 "NobodyChecks$Cheapest" "table" "LNobodyChecks$Table;" : Cond) ∈ gw_tbl := gw_in (by decide +kernel) (by decide +kernel)
theorem kw_164 : (.classLink RX0 25 RX1 : Cond) ∈ gw_tbl := gw_in (by decide +kernel) (by decide +kernel)
theorem kw_165 : (.fieldLink RX0 28 "NobodyChecks$Cheapest" "check" "LNobodyChecks$Check;" : Cond) ∈ gw_tbl := gw_in (by decide +kernel) (by decide +kernel)
theorem kw_166 : (.fieldLink RX0 32 "NobodyChecks$Cheapest" "changedMass" "[J" : Cond) ∈ gw_tbl := gw_in (by decide +kernel) (by decide +kernel)
theorem kw_167 : (.classLink RX0 36 "[[J" : Cond) ∈ gw_tbl := gw_in (by decide +kernel) (by decide +kernel)
theorem kw_168 : (.fieldLink RX0 38 "NobodyChecks$Cheapest" "leads" "[[J" : Cond) ∈ gw_tbl := gw_in (by decide +kernel) (by decide +kernel)
theorem kw_169 : (.fieldLink RX0 41 "NobodyChecks$Cheapest" "needs" "[J" : Cond) ∈ gw_tbl := gw_in (by decide +kernel) (by decide +kernel)
theorem kw_170 : (.fieldLink RX0 44 "NobodyChecks$Cheapest" "prices" "[J" : Cond) ∈ gw_tbl := gw_in (by decide +kernel) (by decide +kernel)
theorem kw_171 : (.fieldLink RX0 47 "NobodyChecks$Cheapest" "tried" "[I" : Cond) ∈ gw_tbl := gw_in (by decide +kernel) (by decide +kernel)
theorem kw_172 : (.fieldLink RX0 51 "NobodyChecks$Cheapest" "leastNumbers" "[I" : Cond) ∈ gw_tbl := gw_in (by decide +kernel) (by decide +kernel)
theorem kw_173 : (.fieldLink RX0 54 "NobodyChecks$Cheapest" "asked" "LNobodyChecks$Question;" : Cond) ∈ gw_tbl := gw_in (by decide +kernel) (by decide +kernel)

set_option maxHeartbeats 4000000 in
set_option maxRecDepth 100000 in
theorem i_cheapest (l : Launch) (D : va_G) (h0 : Nat) (aq : Nat) (sz : Nat) : Met l yX0_init (Cond.code yX0_init cX0_init 2 none :: gw_tbl) ({ frames := 4, cells := 16, slots := 113, locals := 72 }) (pc_C D [] [(h0, .inr (0, [.null, .null, .null, .null, .null, .null, .null, .null, .null, .null, .int 0, .long 0]))] sz [.ref h0, .ref aq]) (va_Qv (fun (u : Unit) => True) (fun _ t => va_P D vwCl [] t.heap ∧ va_K D vwCl [] t ∧ va_D (va_A [(h0, .inr (0, [.null, .null, .null, .null, .null, .null, .null, .null, .null, .null, .int 0, .long 0]))] sz) []) (va_A [(h0, .inr (0, [.null, .null, .null, .null, .null, .null, .null, .null, .null, .null, .int 0, .long 0]))] sz)) 16 113 (va_A [(h0, .inr (0, [.null, .null, .null, .null, .null, .null, .null, .null, .null, .null, .int 0, .long 0]))] sz) := by
  refine Met.ofW (cc := cX0_init) (maxL := 2) (ret := none) (by decide) rfl ?_
  intro p e s m args below meth c s₁ B hml hv
  obtain ⟨hargs, hsz, hP, hK, hD0, hN⟩ := hv
  have hx := B.exec
  have hb := B.bytes
  have hr := B.returns
  have hts := atoms_spec (ws := Cond.code yX0_init cX0_init 2 none :: gw_tbl) B.pre
  have hg := fun (w : Cond) (h : w ∈ gw_tbl) => hts w (List.mem_cons_of_mem _ h)
  have hown : s.vm.findClass RX0 = some m.cls := findClass_of_methodNamed B.named
  have hlocks := B.notSynchronized
  have hin : meth.name = "<init>" := (name_of_methodNamed B.named B.method).1
  subst hsz
  have hD := hD0.self (sz := s.heap.size)
  generalize hAe : va_A [(h0, .inr (0, [.null, .null, .null, .null, .null, .null, .null, .null, .null, .null, .int 0, .long 0]))] s.heap.size = A at hD ⊢
  have hA : ∀ q : Nat, s.heap.size ≤ q → A q := fun q h => by rw [← hAe]; exact Or.inr h
  have hS : va_S A s.heap s.heap [] := va_S.rf
  have hP : va_P D vwCl [(h0, .inr (0, [.null, .null, .null, .null, .null, .null, .null, .null, .null, .null, .int 0, .long 0]))] s.heap := hP
  have hl := lv_entry ([.ref h0, .ref aq]) (n := 2) (Nat.le_of_ble_eq_true rfl)
  rw [show entryFrame m args 2 = F0 m 0 (lg_sl ([.ref h0, .ref aq]) ++ List.replicate (2 - (lg_sl ([.ref h0, .ref aq])).length) Slot.unset).toArray [] from by rw [hargs]; exact lg_entry_eq ..]
  generalize (lg_sl ([.ref h0, .ref aq]) ++ List.replicate (2 - (lg_sl ([.ref h0, .ref aq])).length) Slot.unset).toArray = ls at hl ⊢
  have hl : lv_has ls 2 [(0, .ref h0), (1, .ref aq)] := hl
  refine W_genQ (fun Q hQ => ?_)
  refine lv_aload_n hx hb dX0_init_0 rfl (lv_at hl 0 rfl) ?_
  refine W.objInit hx hb hown (hg _ kw_159) (hg _ kw_94) (hg _ kw_95) rfl (by rw [hml]; exact hl.1) rfl dX0_init_1 (Nat.le_of_ble_eq_true rfl) (Nat.le_of_ble_eq_true rfl) ?_
  refine W.eq (g2 := F0 m 4 ls []) rfl ?_
  refine lv_aload_n hx hb dX0_init_4 rfl (lv_at hl 0 rfl) ?_
  refine va_new (ci := 9) (fs := [.null, .null, .int 0]) (C := RX9) (T := TX9) (N := 3) hx hb hg gwX9 tyX9 tyX9_ok hown (hg _ kw_160) (hg _ kw_110) (hg _ kw_102) hK hP hD hS hA rfl (by decide +kernel) (Nat.le_of_ble_eq_true rfl) (Nat.le_of_ble_eq_true rfl) dX0_init_5 (fun q_5 H hP hD hS => ?_)
  have hP : va_P D vwCl [(h0, .inr (0, [.null, .null, .null, .null, .null, .null, .null, .null, .null, .null, .int 0, .long 0])), (q_5, .inr (9, [.null, .null, .int 0]))] H := hP
  have hD : va_D A [(h0, .inr (0, [.null, .null, .null, .null, .null, .null, .null, .null, .null, .null, .int 0, .long 0])), (q_5, .inr (9, [.null, .null, .int 0]))] := hD
  refine W.cs (cells' := 1) (slots' := 3) rfl rfl ?_
  refine lv_dup hx hb dX0_init_8 rfl ?_
  have hPc := hP.sub (ws' := [(q_5, .inr (9, [.null, .null, .int 0]))]) [1] rfl
  have hKc := hK.sub (tys' := []) [] rfl
  have hDc := hD.sub (ws' := [(q_5, .inr (9, [.null, .null, .int 0]))]) [1] (by decide) rfl
  have hFc := va_free (wc := [(q_5, .inr (9, [.null, .null, .int 0]))]) hD hS hA [1] rfl
  refine va_callv (va_runIN (As := []) (rest := [.ref q_5, .ref h0]) ⟨hx, hb, hml, hown, hg⟩ (i_X9_9 l D q_5 _) ⟨va_cnB 0 hg (gw_I kw_101) rfl rfl rfl (hN.1 (RX0, 13, yX9_init) (by decide +kernel)) (hg _ kw_102) (by decide +kernel) ⟨Nat.le_of_ble_eq_true rfl, Nat.le_of_ble_eq_true rfl⟩, rfl, hg _ kw_103⟩ (pr_C hKc hPc hDc hN) rfl rfl hl.1 rfl (lv_room (Nat.le_of_ble_eq_true rfl)) dX0_init_9 ⟨Nat.le_of_ble_eq_true rfl, Nat.le_of_ble_eq_true rfl⟩) hS (fun q _ h => hFc q h) hFc (fun u t H1 locs ht hvm h_9 hB hz1 hk1 hS => ?_)
  obtain ⟨nq_9, cQ_9, hP1, hK1, hD1⟩ := hB
  rw [ht] at hP1
  have hK1 := va_K.moved hvm.symm hK1
  obtain ⟨hP, hD⟩ := va_join (wr := [(h0, .inr (0, [.null, .null, .null, .null, .null, .null, .null, .null, .null, .null, .int 0, .long 0]))]) (w1 := [(q_5, .inr (9, [.ref nq_9, .null, .int 0])), (nq_9, .inl (cQ_9, 4, .inl (fun _ => 0)))]) hP hD [1] [0] rfl rfl (by decide) (by decide) hk1 hFc hP1 hD1
  have hK := hK.app hK1
  generalize H1 = H at hP hS ⊢
  have hP : va_P D vwCl [(h0, .inr (0, [.null, .null, .null, .null, .null, .null, .null, .null, .null, .null, .int 0, .long 0])), (q_5, .inr (9, [.ref nq_9, .null, .int 0])), (nq_9, .inl (cQ_9, 4, .inl (fun _ => 0)))] H := hP
  have hD : va_D A [(h0, .inr (0, [.null, .null, .null, .null, .null, .null, .null, .null, .null, .null, .int 0, .long 0])), (q_5, .inr (9, [.ref nq_9, .null, .int 0])), (nq_9, .inl (cQ_9, 4, .inl (fun _ => 0)))] := hD
  have hK : va_K D vwCl [(cQ_9, .int)] s := hK
  refine W.cs (cells' := 2) (slots' := 7) rfl rfl ?_
  try dsimp only at h_9
  refine va_putF (D := D) (ci := 0) (v := .ref q_5) (ty := .object "NobodyChecks$Same") (C := RX0) (T := TX0) (N := 12) hx hb hg gwX0 tyX0 tyX0_ok nmX0 hown hK hP hD hS 0 rfl rfl 1 (by decide) (hg _ kw_161) (fun _ h9 => h9) rfl hin rfl (by decide +kernel) rfl rfl (Nat.le_of_ble_eq_true rfl) dX0_init_12 (fun H locs hP hD hS => ?_)
  have hP : va_P D vwCl [(h0, .inr (0, [.null, .ref q_5, .null, .null, .null, .null, .null, .null, .null, .null, .int 0, .long 0])), (q_5, .inr (9, [.ref nq_9, .null, .int 0])), (nq_9, .inl (cQ_9, 4, .inl (fun _ => 0)))] H := hP
  have hD : va_D A [(h0, .inr (0, [.null, .ref q_5, .null, .null, .null, .null, .null, .null, .null, .null, .int 0, .long 0])), (q_5, .inr (9, [.ref nq_9, .null, .int 0])), (nq_9, .inl (cQ_9, 4, .inl (fun _ => 0)))] := hD
  refine lv_aload_n hx hb dX0_init_15 rfl (lv_at hl 0 rfl) ?_
  refine va_new (ci := 10) (fs := [.null, .null, .int 0]) (C := RX10) (T := TX10) (N := 3) hx hb hg gwX10 tyX10 tyX10_ok hown (hg _ kw_162) (hg _ kw_112) (hg _ kw_105) hK hP hD hS hA rfl (by decide +kernel) (Nat.le_of_ble_eq_true rfl) (Nat.le_of_ble_eq_true rfl) dX0_init_16 (fun q_16 H hP hD hS => ?_)
  have hP : va_P D vwCl [(h0, .inr (0, [.null, .ref q_5, .null, .null, .null, .null, .null, .null, .null, .null, .int 0, .long 0])), (q_5, .inr (9, [.ref nq_9, .null, .int 0])), (nq_9, .inl (cQ_9, 4, .inl (fun _ => 0))), (q_16, .inr (10, [.null, .null, .int 0]))] H := hP
  have hD : va_D A [(h0, .inr (0, [.null, .ref q_5, .null, .null, .null, .null, .null, .null, .null, .null, .int 0, .long 0])), (q_5, .inr (9, [.ref nq_9, .null, .int 0])), (nq_9, .inl (cQ_9, 4, .inl (fun _ => 0))), (q_16, .inr (10, [.null, .null, .int 0]))] := hD
  refine W.cs (cells' := 3) (slots' := 10) rfl rfl ?_
  refine lv_dup hx hb dX0_init_19 rfl ?_
  have hPc := hP.sub (ws' := [(q_16, .inr (10, [.null, .null, .int 0]))]) [3] rfl
  have hKc := hK.sub (tys' := []) [] rfl
  have hDc := hD.sub (ws' := [(q_16, .inr (10, [.null, .null, .int 0]))]) [3] (by decide) rfl
  have hFc := va_free (wc := [(q_16, .inr (10, [.null, .null, .int 0]))]) hD hS hA [3] rfl
  refine va_callv (va_runIN (As := []) (rest := [.ref q_16, .ref h0]) ⟨hx, hb, hml, hown, hg⟩ (i_X10_10 l D q_16 _) ⟨va_cnB 0 hg (gw_I kw_104) rfl rfl rfl (hN.1 (RX0, 20, yX10_init) (by decide +kernel)) (hg _ kw_105) (by decide +kernel) ⟨Nat.le_of_ble_eq_true rfl, Nat.le_of_ble_eq_true rfl⟩, rfl, hg _ kw_106⟩ (pr_C hKc hPc hDc hN) rfl rfl hl.1 rfl (lv_room (Nat.le_of_ble_eq_true rfl)) dX0_init_20 ⟨Nat.le_of_ble_eq_true rfl, Nat.le_of_ble_eq_true rfl⟩) hS (fun q _ h => hFc q h) hFc (fun u t H1 locs ht hvm h_20 hB hz1 hk1 hS => ?_)
  obtain ⟨nq_20, cQ_20, hP1, hK1, hD1⟩ := hB
  rw [ht] at hP1
  have hK1 := va_K.moved hvm.symm hK1
  obtain ⟨hP, hD⟩ := va_join (wr := [(h0, .inr (0, [.null, .ref q_5, .null, .null, .null, .null, .null, .null, .null, .null, .int 0, .long 0])), (q_5, .inr (9, [.ref nq_9, .null, .int 0])), (nq_9, .inl (cQ_9, 4, .inl (fun _ => 0)))]) (w1 := [(q_16, .inr (10, [.ref nq_20, .null, .int 0])), (nq_20, .inl (cQ_20, 4, .inl (fun _ => 0)))]) hP hD [3] [0, 1, 2] rfl rfl (by decide) (by decide) hk1 hFc hP1 hD1
  have hK := hK.app hK1
  generalize H1 = H at hP hS ⊢
  have hP : va_P D vwCl [(h0, .inr (0, [.null, .ref q_5, .null, .null, .null, .null, .null, .null, .null, .null, .int 0, .long 0])), (q_5, .inr (9, [.ref nq_9, .null, .int 0])), (nq_9, .inl (cQ_9, 4, .inl (fun _ => 0))), (q_16, .inr (10, [.ref nq_20, .null, .int 0])), (nq_20, .inl (cQ_20, 4, .inl (fun _ => 0)))] H := hP
  have hD : va_D A [(h0, .inr (0, [.null, .ref q_5, .null, .null, .null, .null, .null, .null, .null, .null, .int 0, .long 0])), (q_5, .inr (9, [.ref nq_9, .null, .int 0])), (nq_9, .inl (cQ_9, 4, .inl (fun _ => 0))), (q_16, .inr (10, [.ref nq_20, .null, .int 0])), (nq_20, .inl (cQ_20, 4, .inl (fun _ => 0)))] := hD
  have hK : va_K D vwCl [(cQ_9, .int), (cQ_20, .int)] s := hK
  refine W.cs (cells' := 4) (slots' := 14) rfl rfl ?_
  try dsimp only at h_20
  refine va_putF (D := D) (ci := 0) (v := .ref q_16) (ty := .object "NobodyChecks$Table") (C := RX0) (T := TX0) (N := 12) hx hb hg gwX0 tyX0 tyX0_ok nmX0 hown hK hP hD hS 0 rfl rfl 2 (by decide) (hg _ kw_163) (fun _ h9 => h9) rfl hin rfl (by decide +kernel) rfl rfl (Nat.le_of_ble_eq_true rfl) dX0_init_23 (fun H locs hP hD hS => ?_)
  have hP : va_P D vwCl [(h0, .inr (0, [.null, .ref q_5, .ref q_16, .null, .null, .null, .null, .null, .null, .null, .int 0, .long 0])), (q_5, .inr (9, [.ref nq_9, .null, .int 0])), (nq_9, .inl (cQ_9, 4, .inl (fun _ => 0))), (q_16, .inr (10, [.ref nq_20, .null, .int 0])), (nq_20, .inl (cQ_20, 4, .inl (fun _ => 0)))] H := hP
  have hD : va_D A [(h0, .inr (0, [.null, .ref q_5, .ref q_16, .null, .null, .null, .null, .null, .null, .null, .int 0, .long 0])), (q_5, .inr (9, [.ref nq_9, .null, .int 0])), (nq_9, .inl (cQ_9, 4, .inl (fun _ => 0))), (q_16, .inr (10, [.ref nq_20, .null, .int 0])), (nq_20, .inl (cQ_20, 4, .inl (fun _ => 0)))] := hD
  refine lv_aload_n hx hb dX0_init_26 rfl (lv_at hl 0 rfl) ?_
  refine va_new (ci := 1) (fs := [.null, .null, .int 0]) (C := RX1) (T := TX1) (N := 3) hx hb hg gwX1 tyX1 tyX1_ok hown (hg _ kw_164) (hg _ kw_119) (hg _ kw_120) hK hP hD hS hA rfl (by decide +kernel) (Nat.le_of_ble_eq_true rfl) (Nat.le_of_ble_eq_true rfl) dX0_init_27 (fun q_27 H hP hD hS => ?_)
  have hP : va_P D vwCl [(h0, .inr (0, [.null, .ref q_5, .ref q_16, .null, .null, .null, .null, .null, .null, .null, .int 0, .long 0])), (q_5, .inr (9, [.ref nq_9, .null, .int 0])), (nq_9, .inl (cQ_9, 4, .inl (fun _ => 0))), (q_16, .inr (10, [.ref nq_20, .null, .int 0])), (nq_20, .inl (cQ_20, 4, .inl (fun _ => 0))), (q_27, .inr (1, [.null, .null, .int 0]))] H := hP
  have hD : va_D A [(h0, .inr (0, [.null, .ref q_5, .ref q_16, .null, .null, .null, .null, .null, .null, .null, .int 0, .long 0])), (q_5, .inr (9, [.ref nq_9, .null, .int 0])), (nq_9, .inl (cQ_9, 4, .inl (fun _ => 0))), (q_16, .inr (10, [.ref nq_20, .null, .int 0])), (nq_20, .inl (cQ_20, 4, .inl (fun _ => 0))), (q_27, .inr (1, [.null, .null, .int 0]))] := hD
  refine W.cs (cells' := 5) (slots' := 17) rfl rfl ?_
  refine lv_dup hx hb dX0_init_30 rfl ?_
  have hPc := hP.sub (ws' := [(q_27, .inr (1, [.null, .null, .int 0]))]) [5] rfl
  have hKc := hK.sub (tys' := []) [] rfl
  have hDc := hD.sub (ws' := [(q_27, .inr (1, [.null, .null, .int 0]))]) [5] (by decide) rfl
  have hFc := va_free (wc := [(q_27, .inr (1, [.null, .null, .int 0]))]) hD hS hA [5] rfl
  refine va_callv (va_runIN (As := []) (rest := [.ref q_27, .ref h0]) ⟨hx, hb, hml, hown, hg⟩ (i_X1_1 l D q_27 _) ⟨va_cnB 0 hg (gw_I kw_121) rfl rfl rfl (hN.1 (RX0, 27, yX1_init) (by decide +kernel)) (hg _ kw_120) (by decide +kernel) ⟨Nat.le_of_ble_eq_true rfl, Nat.le_of_ble_eq_true rfl⟩, rfl, hg _ kw_122⟩ (pr_C hKc hPc hDc hN) rfl rfl hl.1 rfl (lv_room (Nat.le_of_ble_eq_true rfl)) dX0_init_31 ⟨Nat.le_of_ble_eq_true rfl, Nat.le_of_ble_eq_true rfl⟩) hS (fun q _ h => hFc q h) hFc (fun u t H1 locs ht hvm h_31 hB hz1 hk1 hS => ?_)
  obtain ⟨nq_31, cQ_31, hP1, hK1, hD1⟩ := hB
  rw [ht] at hP1
  have hK1 := va_K.moved hvm.symm hK1
  obtain ⟨hP, hD⟩ := va_join (wr := [(h0, .inr (0, [.null, .ref q_5, .ref q_16, .null, .null, .null, .null, .null, .null, .null, .int 0, .long 0])), (q_5, .inr (9, [.ref nq_9, .null, .int 0])), (nq_9, .inl (cQ_9, 4, .inl (fun _ => 0))), (q_16, .inr (10, [.ref nq_20, .null, .int 0])), (nq_20, .inl (cQ_20, 4, .inl (fun _ => 0)))]) (w1 := [(q_27, .inr (1, [.ref nq_31, .null, .int 0])), (nq_31, .inl (cQ_31, 4, .inl (fun _ => 0)))]) hP hD [5] [0, 1, 2, 3, 4] rfl rfl (by decide) (by decide) hk1 hFc hP1 hD1
  have hK := hK.app hK1
  generalize H1 = H at hP hS ⊢
  have hP : va_P D vwCl [(h0, .inr (0, [.null, .ref q_5, .ref q_16, .null, .null, .null, .null, .null, .null, .null, .int 0, .long 0])), (q_5, .inr (9, [.ref nq_9, .null, .int 0])), (nq_9, .inl (cQ_9, 4, .inl (fun _ => 0))), (q_16, .inr (10, [.ref nq_20, .null, .int 0])), (nq_20, .inl (cQ_20, 4, .inl (fun _ => 0))), (q_27, .inr (1, [.ref nq_31, .null, .int 0])), (nq_31, .inl (cQ_31, 4, .inl (fun _ => 0)))] H := hP
  have hD : va_D A [(h0, .inr (0, [.null, .ref q_5, .ref q_16, .null, .null, .null, .null, .null, .null, .null, .int 0, .long 0])), (q_5, .inr (9, [.ref nq_9, .null, .int 0])), (nq_9, .inl (cQ_9, 4, .inl (fun _ => 0))), (q_16, .inr (10, [.ref nq_20, .null, .int 0])), (nq_20, .inl (cQ_20, 4, .inl (fun _ => 0))), (q_27, .inr (1, [.ref nq_31, .null, .int 0])), (nq_31, .inl (cQ_31, 4, .inl (fun _ => 0)))] := hD
  have hK : va_K D vwCl [(cQ_9, .int), (cQ_20, .int), (cQ_31, .int)] s := hK
  refine W.cs (cells' := 6) (slots' := 21) rfl rfl ?_
  try dsimp only at h_31
  refine va_putF (D := D) (ci := 0) (v := .ref q_27) (ty := .object "NobodyChecks$Check") (C := RX0) (T := TX0) (N := 12) hx hb hg gwX0 tyX0 tyX0_ok nmX0 hown hK hP hD hS 0 rfl rfl 3 (by decide) (hg _ kw_165) (fun _ h9 => h9) rfl hin rfl (by decide +kernel) rfl rfl (Nat.le_of_ble_eq_true rfl) dX0_init_34 (fun H locs hP hD hS => ?_)
  have hP : va_P D vwCl [(h0, .inr (0, [.null, .ref q_5, .ref q_16, .ref q_27, .null, .null, .null, .null, .null, .null, .int 0, .long 0])), (q_5, .inr (9, [.ref nq_9, .null, .int 0])), (nq_9, .inl (cQ_9, 4, .inl (fun _ => 0))), (q_16, .inr (10, [.ref nq_20, .null, .int 0])), (nq_20, .inl (cQ_20, 4, .inl (fun _ => 0))), (q_27, .inr (1, [.ref nq_31, .null, .int 0])), (nq_31, .inl (cQ_31, 4, .inl (fun _ => 0)))] H := hP
  have hD : va_D A [(h0, .inr (0, [.null, .ref q_5, .ref q_16, .ref q_27, .null, .null, .null, .null, .null, .null, .int 0, .long 0])), (q_5, .inr (9, [.ref nq_9, .null, .int 0])), (nq_9, .inl (cQ_9, 4, .inl (fun _ => 0))), (q_16, .inr (10, [.ref nq_20, .null, .int 0])), (nq_20, .inl (cQ_20, 4, .inl (fun _ => 0))), (q_27, .inr (1, [.ref nq_31, .null, .int 0])), (nq_31, .inl (cQ_31, 4, .inl (fun _ => 0)))] := hD
  refine lv_aload_n hx hb dX0_init_37 rfl (lv_at hl 0 rfl) ?_
  refine lv_bipush (v := 16) hx hb dX0_init_38 (by decide) ?_
  refine va_newa (atype := .long) (ty := .long) (N' := 16) (a0 := (16, .inr (.inl (fun _ => 0)))) hx hb (hg _ kw_149) rfl hK hP hD hS hA (fun _ => rfl) (by decide) (by decide) (by decide) (Nat.le_of_ble_eq_true rfl) (Nat.le_of_ble_eq_true rfl) dX0_init_40 (fun q_40 cA_40 H hK hP hD hS => ?_)
  have hP : va_P D vwCl [(h0, .inr (0, [.null, .ref q_5, .ref q_16, .ref q_27, .null, .null, .null, .null, .null, .null, .int 0, .long 0])), (q_5, .inr (9, [.ref nq_9, .null, .int 0])), (nq_9, .inl (cQ_9, 4, .inl (fun _ => 0))), (q_16, .inr (10, [.ref nq_20, .null, .int 0])), (nq_20, .inl (cQ_20, 4, .inl (fun _ => 0))), (q_27, .inr (1, [.ref nq_31, .null, .int 0])), (nq_31, .inl (cQ_31, 4, .inl (fun _ => 0))), (q_40, .inl (cA_40, 16, .inr (.inl (fun _ => 0))))] H := hP
  have hD : va_D A [(h0, .inr (0, [.null, .ref q_5, .ref q_16, .ref q_27, .null, .null, .null, .null, .null, .null, .int 0, .long 0])), (q_5, .inr (9, [.ref nq_9, .null, .int 0])), (nq_9, .inl (cQ_9, 4, .inl (fun _ => 0))), (q_16, .inr (10, [.ref nq_20, .null, .int 0])), (nq_20, .inl (cQ_20, 4, .inl (fun _ => 0))), (q_27, .inr (1, [.ref nq_31, .null, .int 0])), (nq_31, .inl (cQ_31, 4, .inl (fun _ => 0))), (q_40, .inl (cA_40, 16, .inr (.inl (fun _ => 0))))] := hD
  have hK : va_K D vwCl [(cQ_9, .int), (cQ_20, .int), (cQ_31, .int), (cA_40, .long)] s := hK
  refine W.cs (cells' := 7) (slots' := 37) rfl rfl ?_
  refine va_putF (D := D) (ci := 0) (v := .ref q_40) (ty := .array .long) (C := RX0) (T := TX0) (N := 12) hx hb hg gwX0 tyX0 tyX0_ok nmX0 hown hK hP hD hS 0 rfl rfl 4 (by decide) (hg _ kw_166) (fun _ h9 => h9) rfl hin rfl (by decide +kernel) rfl rfl (Nat.le_of_ble_eq_true rfl) dX0_init_42 (fun H locs hP hD hS => ?_)
  have hP : va_P D vwCl [(h0, .inr (0, [.null, .ref q_5, .ref q_16, .ref q_27, .ref q_40, .null, .null, .null, .null, .null, .int 0, .long 0])), (q_5, .inr (9, [.ref nq_9, .null, .int 0])), (nq_9, .inl (cQ_9, 4, .inl (fun _ => 0))), (q_16, .inr (10, [.ref nq_20, .null, .int 0])), (nq_20, .inl (cQ_20, 4, .inl (fun _ => 0))), (q_27, .inr (1, [.ref nq_31, .null, .int 0])), (nq_31, .inl (cQ_31, 4, .inl (fun _ => 0))), (q_40, .inl (cA_40, 16, .inr (.inl (fun _ => 0))))] H := hP
  have hD : va_D A [(h0, .inr (0, [.null, .ref q_5, .ref q_16, .ref q_27, .ref q_40, .null, .null, .null, .null, .null, .int 0, .long 0])), (q_5, .inr (9, [.ref nq_9, .null, .int 0])), (nq_9, .inl (cQ_9, 4, .inl (fun _ => 0))), (q_16, .inr (10, [.ref nq_20, .null, .int 0])), (nq_20, .inl (cQ_20, 4, .inl (fun _ => 0))), (q_27, .inr (1, [.ref nq_31, .null, .int 0])), (nq_31, .inl (cQ_31, 4, .inl (fun _ => 0))), (q_40, .inl (cA_40, 16, .inr (.inl (fun _ => 0))))] := hD
  refine lv_aload_n hx hb dX0_init_45 rfl (lv_at hl 0 rfl) ?_
  refine lv_iconst (v := 4) hx hb dX0_init_46 (by decide) ?_
  refine lv_bipush (v := 12) hx hb dX0_init_47 (by decide) ?_
  refine mm_mna (ty := .long) (N' := 4) (K' := 12) hx hb hown (hg _ kw_167) hN.2.2.2.1 (hg _ kw_149) hP hS (by decide) (by decide) (by decide) (by decide) (by decide) (by decide) (by decide) rfl rfl (Nat.le_of_ble_eq_true rfl) (Nat.le_of_ble_eq_true rfl) dX0_init_49 (fun q_49 H hP hS => ?_)
  refine W.cs (cells' := 12) (slots' := 89) rfl rfl ?_
  refine va_putF (D := D) (ci := 0) (v := .ref q_49) (ty := .array (.array .long)) (C := RX0) (T := TX0) (N := 12) hx hb hg gwX0 tyX0 tyX0_ok nmX0 hown hK hP hD hS 0 rfl rfl 5 (by decide) (hg _ kw_168) (fun _ h9 => h9) rfl hin rfl (by decide +kernel) rfl rfl (Nat.le_of_ble_eq_true rfl) dX0_init_53 (fun H locs hP hD hS => ?_)
  have hP : va_P D vwCl [(h0, .inr (0, [.null, .ref q_5, .ref q_16, .ref q_27, .ref q_40, .ref q_49, .null, .null, .null, .null, .int 0, .long 0])), (q_5, .inr (9, [.ref nq_9, .null, .int 0])), (nq_9, .inl (cQ_9, 4, .inl (fun _ => 0))), (q_16, .inr (10, [.ref nq_20, .null, .int 0])), (nq_20, .inl (cQ_20, 4, .inl (fun _ => 0))), (q_27, .inr (1, [.ref nq_31, .null, .int 0])), (nq_31, .inl (cQ_31, 4, .inl (fun _ => 0))), (q_40, .inl (cA_40, 16, .inr (.inl (fun _ => 0))))] H := hP
  have hD : va_D A [(h0, .inr (0, [.null, .ref q_5, .ref q_16, .ref q_27, .ref q_40, .ref q_49, .null, .null, .null, .null, .int 0, .long 0])), (q_5, .inr (9, [.ref nq_9, .null, .int 0])), (nq_9, .inl (cQ_9, 4, .inl (fun _ => 0))), (q_16, .inr (10, [.ref nq_20, .null, .int 0])), (nq_20, .inl (cQ_20, 4, .inl (fun _ => 0))), (q_27, .inr (1, [.ref nq_31, .null, .int 0])), (nq_31, .inl (cQ_31, 4, .inl (fun _ => 0))), (q_40, .inl (cA_40, 16, .inr (.inl (fun _ => 0))))] := hD
  refine lv_aload_n hx hb dX0_init_56 rfl (lv_at hl 0 rfl) ?_
  refine lv_bipush (v := 12) hx hb dX0_init_57 (by decide) ?_
  refine va_newa (atype := .long) (ty := .long) (N' := 12) (a0 := (12, .inr (.inl (fun _ => 0)))) hx hb (hg _ kw_149) rfl hK hP hD hS hA (fun _ => rfl) (by decide) (by decide) (by decide) (Nat.le_of_ble_eq_true rfl) (Nat.le_of_ble_eq_true rfl) dX0_init_59 (fun q_59 cA_59 H hK hP hD hS => ?_)
  have hP : va_P D vwCl [(h0, .inr (0, [.null, .ref q_5, .ref q_16, .ref q_27, .ref q_40, .ref q_49, .null, .null, .null, .null, .int 0, .long 0])), (q_5, .inr (9, [.ref nq_9, .null, .int 0])), (nq_9, .inl (cQ_9, 4, .inl (fun _ => 0))), (q_16, .inr (10, [.ref nq_20, .null, .int 0])), (nq_20, .inl (cQ_20, 4, .inl (fun _ => 0))), (q_27, .inr (1, [.ref nq_31, .null, .int 0])), (nq_31, .inl (cQ_31, 4, .inl (fun _ => 0))), (q_40, .inl (cA_40, 16, .inr (.inl (fun _ => 0)))), (q_59, .inl (cA_59, 12, .inr (.inl (fun _ => 0))))] H := hP
  have hD : va_D A [(h0, .inr (0, [.null, .ref q_5, .ref q_16, .ref q_27, .ref q_40, .ref q_49, .null, .null, .null, .null, .int 0, .long 0])), (q_5, .inr (9, [.ref nq_9, .null, .int 0])), (nq_9, .inl (cQ_9, 4, .inl (fun _ => 0))), (q_16, .inr (10, [.ref nq_20, .null, .int 0])), (nq_20, .inl (cQ_20, 4, .inl (fun _ => 0))), (q_27, .inr (1, [.ref nq_31, .null, .int 0])), (nq_31, .inl (cQ_31, 4, .inl (fun _ => 0))), (q_40, .inl (cA_40, 16, .inr (.inl (fun _ => 0)))), (q_59, .inl (cA_59, 12, .inr (.inl (fun _ => 0))))] := hD
  have hK : va_K D vwCl [(cQ_9, .int), (cQ_20, .int), (cQ_31, .int), (cA_40, .long), (cA_59, .long)] s := hK
  refine W.cs (cells' := 13) (slots' := 101) rfl rfl ?_
  refine va_putF (D := D) (ci := 0) (v := .ref q_59) (ty := .array .long) (C := RX0) (T := TX0) (N := 12) hx hb hg gwX0 tyX0 tyX0_ok nmX0 hown hK hP hD hS 0 rfl rfl 6 (by decide) (hg _ kw_169) (fun _ h9 => h9) rfl hin rfl (by decide +kernel) rfl rfl (Nat.le_of_ble_eq_true rfl) dX0_init_61 (fun H locs hP hD hS => ?_)
  have hP : va_P D vwCl [(h0, .inr (0, [.null, .ref q_5, .ref q_16, .ref q_27, .ref q_40, .ref q_49, .ref q_59, .null, .null, .null, .int 0, .long 0])), (q_5, .inr (9, [.ref nq_9, .null, .int 0])), (nq_9, .inl (cQ_9, 4, .inl (fun _ => 0))), (q_16, .inr (10, [.ref nq_20, .null, .int 0])), (nq_20, .inl (cQ_20, 4, .inl (fun _ => 0))), (q_27, .inr (1, [.ref nq_31, .null, .int 0])), (nq_31, .inl (cQ_31, 4, .inl (fun _ => 0))), (q_40, .inl (cA_40, 16, .inr (.inl (fun _ => 0)))), (q_59, .inl (cA_59, 12, .inr (.inl (fun _ => 0))))] H := hP
  have hD : va_D A [(h0, .inr (0, [.null, .ref q_5, .ref q_16, .ref q_27, .ref q_40, .ref q_49, .ref q_59, .null, .null, .null, .int 0, .long 0])), (q_5, .inr (9, [.ref nq_9, .null, .int 0])), (nq_9, .inl (cQ_9, 4, .inl (fun _ => 0))), (q_16, .inr (10, [.ref nq_20, .null, .int 0])), (nq_20, .inl (cQ_20, 4, .inl (fun _ => 0))), (q_27, .inr (1, [.ref nq_31, .null, .int 0])), (nq_31, .inl (cQ_31, 4, .inl (fun _ => 0))), (q_40, .inl (cA_40, 16, .inr (.inl (fun _ => 0)))), (q_59, .inl (cA_59, 12, .inr (.inl (fun _ => 0))))] := hD
  refine lv_aload_n hx hb dX0_init_64 rfl (lv_at hl 0 rfl) ?_
  refine lv_iconst (v := 4) hx hb dX0_init_65 (by decide) ?_
  refine va_newa (atype := .long) (ty := .long) (N' := 4) (a0 := (4, .inr (.inl (fun _ => 0)))) hx hb (hg _ kw_149) rfl hK hP hD hS hA (fun _ => rfl) (by decide) (by decide) (by decide) (Nat.le_of_ble_eq_true rfl) (Nat.le_of_ble_eq_true rfl) dX0_init_66 (fun q_66 cA_66 H hK hP hD hS => ?_)
  have hP : va_P D vwCl [(h0, .inr (0, [.null, .ref q_5, .ref q_16, .ref q_27, .ref q_40, .ref q_49, .ref q_59, .null, .null, .null, .int 0, .long 0])), (q_5, .inr (9, [.ref nq_9, .null, .int 0])), (nq_9, .inl (cQ_9, 4, .inl (fun _ => 0))), (q_16, .inr (10, [.ref nq_20, .null, .int 0])), (nq_20, .inl (cQ_20, 4, .inl (fun _ => 0))), (q_27, .inr (1, [.ref nq_31, .null, .int 0])), (nq_31, .inl (cQ_31, 4, .inl (fun _ => 0))), (q_40, .inl (cA_40, 16, .inr (.inl (fun _ => 0)))), (q_59, .inl (cA_59, 12, .inr (.inl (fun _ => 0)))), (q_66, .inl (cA_66, 4, .inr (.inl (fun _ => 0))))] H := hP
  have hD : va_D A [(h0, .inr (0, [.null, .ref q_5, .ref q_16, .ref q_27, .ref q_40, .ref q_49, .ref q_59, .null, .null, .null, .int 0, .long 0])), (q_5, .inr (9, [.ref nq_9, .null, .int 0])), (nq_9, .inl (cQ_9, 4, .inl (fun _ => 0))), (q_16, .inr (10, [.ref nq_20, .null, .int 0])), (nq_20, .inl (cQ_20, 4, .inl (fun _ => 0))), (q_27, .inr (1, [.ref nq_31, .null, .int 0])), (nq_31, .inl (cQ_31, 4, .inl (fun _ => 0))), (q_40, .inl (cA_40, 16, .inr (.inl (fun _ => 0)))), (q_59, .inl (cA_59, 12, .inr (.inl (fun _ => 0)))), (q_66, .inl (cA_66, 4, .inr (.inl (fun _ => 0))))] := hD
  have hK : va_K D vwCl [(cQ_9, .int), (cQ_20, .int), (cQ_31, .int), (cA_40, .long), (cA_59, .long), (cA_66, .long)] s := hK
  refine W.cs (cells' := 14) (slots' := 105) rfl rfl ?_
  refine va_putF (D := D) (ci := 0) (v := .ref q_66) (ty := .array .long) (C := RX0) (T := TX0) (N := 12) hx hb hg gwX0 tyX0 tyX0_ok nmX0 hown hK hP hD hS 0 rfl rfl 7 (by decide) (hg _ kw_170) (fun _ h9 => h9) rfl hin rfl (by decide +kernel) rfl rfl (Nat.le_of_ble_eq_true rfl) dX0_init_68 (fun H locs hP hD hS => ?_)
  have hP : va_P D vwCl [(h0, .inr (0, [.null, .ref q_5, .ref q_16, .ref q_27, .ref q_40, .ref q_49, .ref q_59, .ref q_66, .null, .null, .int 0, .long 0])), (q_5, .inr (9, [.ref nq_9, .null, .int 0])), (nq_9, .inl (cQ_9, 4, .inl (fun _ => 0))), (q_16, .inr (10, [.ref nq_20, .null, .int 0])), (nq_20, .inl (cQ_20, 4, .inl (fun _ => 0))), (q_27, .inr (1, [.ref nq_31, .null, .int 0])), (nq_31, .inl (cQ_31, 4, .inl (fun _ => 0))), (q_40, .inl (cA_40, 16, .inr (.inl (fun _ => 0)))), (q_59, .inl (cA_59, 12, .inr (.inl (fun _ => 0)))), (q_66, .inl (cA_66, 4, .inr (.inl (fun _ => 0))))] H := hP
  have hD : va_D A [(h0, .inr (0, [.null, .ref q_5, .ref q_16, .ref q_27, .ref q_40, .ref q_49, .ref q_59, .ref q_66, .null, .null, .int 0, .long 0])), (q_5, .inr (9, [.ref nq_9, .null, .int 0])), (nq_9, .inl (cQ_9, 4, .inl (fun _ => 0))), (q_16, .inr (10, [.ref nq_20, .null, .int 0])), (nq_20, .inl (cQ_20, 4, .inl (fun _ => 0))), (q_27, .inr (1, [.ref nq_31, .null, .int 0])), (nq_31, .inl (cQ_31, 4, .inl (fun _ => 0))), (q_40, .inl (cA_40, 16, .inr (.inl (fun _ => 0)))), (q_59, .inl (cA_59, 12, .inr (.inl (fun _ => 0)))), (q_66, .inl (cA_66, 4, .inr (.inl (fun _ => 0))))] := hD
  refine lv_aload_n hx hb dX0_init_71 rfl (lv_at hl 0 rfl) ?_
  refine lv_iconst (v := 4) hx hb dX0_init_72 (by decide) ?_
  refine va_newa (atype := .int) (ty := .int) (N' := 4) (a0 := (4, .inl (fun _ => 0))) hx hb (hg _ kw_96) rfl hK hP hD hS hA (fun _ => rfl) (by decide) (by decide) (by decide) (Nat.le_of_ble_eq_true rfl) (Nat.le_of_ble_eq_true rfl) dX0_init_73 (fun q_73 cA_73 H hK hP hD hS => ?_)
  have hP : va_P D vwCl [(h0, .inr (0, [.null, .ref q_5, .ref q_16, .ref q_27, .ref q_40, .ref q_49, .ref q_59, .ref q_66, .null, .null, .int 0, .long 0])), (q_5, .inr (9, [.ref nq_9, .null, .int 0])), (nq_9, .inl (cQ_9, 4, .inl (fun _ => 0))), (q_16, .inr (10, [.ref nq_20, .null, .int 0])), (nq_20, .inl (cQ_20, 4, .inl (fun _ => 0))), (q_27, .inr (1, [.ref nq_31, .null, .int 0])), (nq_31, .inl (cQ_31, 4, .inl (fun _ => 0))), (q_40, .inl (cA_40, 16, .inr (.inl (fun _ => 0)))), (q_59, .inl (cA_59, 12, .inr (.inl (fun _ => 0)))), (q_66, .inl (cA_66, 4, .inr (.inl (fun _ => 0)))), (q_73, .inl (cA_73, 4, .inl (fun _ => 0)))] H := hP
  have hD : va_D A [(h0, .inr (0, [.null, .ref q_5, .ref q_16, .ref q_27, .ref q_40, .ref q_49, .ref q_59, .ref q_66, .null, .null, .int 0, .long 0])), (q_5, .inr (9, [.ref nq_9, .null, .int 0])), (nq_9, .inl (cQ_9, 4, .inl (fun _ => 0))), (q_16, .inr (10, [.ref nq_20, .null, .int 0])), (nq_20, .inl (cQ_20, 4, .inl (fun _ => 0))), (q_27, .inr (1, [.ref nq_31, .null, .int 0])), (nq_31, .inl (cQ_31, 4, .inl (fun _ => 0))), (q_40, .inl (cA_40, 16, .inr (.inl (fun _ => 0)))), (q_59, .inl (cA_59, 12, .inr (.inl (fun _ => 0)))), (q_66, .inl (cA_66, 4, .inr (.inl (fun _ => 0)))), (q_73, .inl (cA_73, 4, .inl (fun _ => 0)))] := hD
  have hK : va_K D vwCl [(cQ_9, .int), (cQ_20, .int), (cQ_31, .int), (cA_40, .long), (cA_59, .long), (cA_66, .long), (cA_73, .int)] s := hK
  refine W.cs (cells' := 15) (slots' := 109) rfl rfl ?_
  refine va_putF (D := D) (ci := 0) (v := .ref q_73) (ty := .array .int) (C := RX0) (T := TX0) (N := 12) hx hb hg gwX0 tyX0 tyX0_ok nmX0 hown hK hP hD hS 0 rfl rfl 8 (by decide) (hg _ kw_171) (fun _ h9 => h9) rfl hin rfl (by decide +kernel) rfl rfl (Nat.le_of_ble_eq_true rfl) dX0_init_75 (fun H locs hP hD hS => ?_)
  have hP : va_P D vwCl [(h0, .inr (0, [.null, .ref q_5, .ref q_16, .ref q_27, .ref q_40, .ref q_49, .ref q_59, .ref q_66, .ref q_73, .null, .int 0, .long 0])), (q_5, .inr (9, [.ref nq_9, .null, .int 0])), (nq_9, .inl (cQ_9, 4, .inl (fun _ => 0))), (q_16, .inr (10, [.ref nq_20, .null, .int 0])), (nq_20, .inl (cQ_20, 4, .inl (fun _ => 0))), (q_27, .inr (1, [.ref nq_31, .null, .int 0])), (nq_31, .inl (cQ_31, 4, .inl (fun _ => 0))), (q_40, .inl (cA_40, 16, .inr (.inl (fun _ => 0)))), (q_59, .inl (cA_59, 12, .inr (.inl (fun _ => 0)))), (q_66, .inl (cA_66, 4, .inr (.inl (fun _ => 0)))), (q_73, .inl (cA_73, 4, .inl (fun _ => 0)))] H := hP
  have hD : va_D A [(h0, .inr (0, [.null, .ref q_5, .ref q_16, .ref q_27, .ref q_40, .ref q_49, .ref q_59, .ref q_66, .ref q_73, .null, .int 0, .long 0])), (q_5, .inr (9, [.ref nq_9, .null, .int 0])), (nq_9, .inl (cQ_9, 4, .inl (fun _ => 0))), (q_16, .inr (10, [.ref nq_20, .null, .int 0])), (nq_20, .inl (cQ_20, 4, .inl (fun _ => 0))), (q_27, .inr (1, [.ref nq_31, .null, .int 0])), (nq_31, .inl (cQ_31, 4, .inl (fun _ => 0))), (q_40, .inl (cA_40, 16, .inr (.inl (fun _ => 0)))), (q_59, .inl (cA_59, 12, .inr (.inl (fun _ => 0)))), (q_66, .inl (cA_66, 4, .inr (.inl (fun _ => 0)))), (q_73, .inl (cA_73, 4, .inl (fun _ => 0)))] := hD
  refine lv_aload_n hx hb dX0_init_78 rfl (lv_at hl 0 rfl) ?_
  refine lv_iconst (v := 4) hx hb dX0_init_79 (by decide) ?_
  refine va_newa (atype := .int) (ty := .int) (N' := 4) (a0 := (4, .inl (fun _ => 0))) hx hb (hg _ kw_96) rfl hK hP hD hS hA (fun _ => rfl) (by decide) (by decide) (by decide) (Nat.le_of_ble_eq_true rfl) (Nat.le_of_ble_eq_true rfl) dX0_init_80 (fun q_80 cA_80 H hK hP hD hS => ?_)
  have hP : va_P D vwCl [(h0, .inr (0, [.null, .ref q_5, .ref q_16, .ref q_27, .ref q_40, .ref q_49, .ref q_59, .ref q_66, .ref q_73, .null, .int 0, .long 0])), (q_5, .inr (9, [.ref nq_9, .null, .int 0])), (nq_9, .inl (cQ_9, 4, .inl (fun _ => 0))), (q_16, .inr (10, [.ref nq_20, .null, .int 0])), (nq_20, .inl (cQ_20, 4, .inl (fun _ => 0))), (q_27, .inr (1, [.ref nq_31, .null, .int 0])), (nq_31, .inl (cQ_31, 4, .inl (fun _ => 0))), (q_40, .inl (cA_40, 16, .inr (.inl (fun _ => 0)))), (q_59, .inl (cA_59, 12, .inr (.inl (fun _ => 0)))), (q_66, .inl (cA_66, 4, .inr (.inl (fun _ => 0)))), (q_73, .inl (cA_73, 4, .inl (fun _ => 0))), (q_80, .inl (cA_80, 4, .inl (fun _ => 0)))] H := hP
  have hD : va_D A [(h0, .inr (0, [.null, .ref q_5, .ref q_16, .ref q_27, .ref q_40, .ref q_49, .ref q_59, .ref q_66, .ref q_73, .null, .int 0, .long 0])), (q_5, .inr (9, [.ref nq_9, .null, .int 0])), (nq_9, .inl (cQ_9, 4, .inl (fun _ => 0))), (q_16, .inr (10, [.ref nq_20, .null, .int 0])), (nq_20, .inl (cQ_20, 4, .inl (fun _ => 0))), (q_27, .inr (1, [.ref nq_31, .null, .int 0])), (nq_31, .inl (cQ_31, 4, .inl (fun _ => 0))), (q_40, .inl (cA_40, 16, .inr (.inl (fun _ => 0)))), (q_59, .inl (cA_59, 12, .inr (.inl (fun _ => 0)))), (q_66, .inl (cA_66, 4, .inr (.inl (fun _ => 0)))), (q_73, .inl (cA_73, 4, .inl (fun _ => 0))), (q_80, .inl (cA_80, 4, .inl (fun _ => 0)))] := hD
  have hK : va_K D vwCl [(cQ_9, .int), (cQ_20, .int), (cQ_31, .int), (cA_40, .long), (cA_59, .long), (cA_66, .long), (cA_73, .int), (cA_80, .int)] s := hK
  refine W.cs (cells' := 16) (slots' := 113) rfl rfl ?_
  refine va_putF (D := D) (ci := 0) (v := .ref q_80) (ty := .array .int) (C := RX0) (T := TX0) (N := 12) hx hb hg gwX0 tyX0 tyX0_ok nmX0 hown hK hP hD hS 0 rfl rfl 9 (by decide) (hg _ kw_172) (fun _ h9 => h9) rfl hin rfl (by decide +kernel) rfl rfl (Nat.le_of_ble_eq_true rfl) dX0_init_82 (fun H locs hP hD hS => ?_)
  have hP : va_P D vwCl [(h0, .inr (0, [.null, .ref q_5, .ref q_16, .ref q_27, .ref q_40, .ref q_49, .ref q_59, .ref q_66, .ref q_73, .ref q_80, .int 0, .long 0])), (q_5, .inr (9, [.ref nq_9, .null, .int 0])), (nq_9, .inl (cQ_9, 4, .inl (fun _ => 0))), (q_16, .inr (10, [.ref nq_20, .null, .int 0])), (nq_20, .inl (cQ_20, 4, .inl (fun _ => 0))), (q_27, .inr (1, [.ref nq_31, .null, .int 0])), (nq_31, .inl (cQ_31, 4, .inl (fun _ => 0))), (q_40, .inl (cA_40, 16, .inr (.inl (fun _ => 0)))), (q_59, .inl (cA_59, 12, .inr (.inl (fun _ => 0)))), (q_66, .inl (cA_66, 4, .inr (.inl (fun _ => 0)))), (q_73, .inl (cA_73, 4, .inl (fun _ => 0))), (q_80, .inl (cA_80, 4, .inl (fun _ => 0)))] H := hP
  have hD : va_D A [(h0, .inr (0, [.null, .ref q_5, .ref q_16, .ref q_27, .ref q_40, .ref q_49, .ref q_59, .ref q_66, .ref q_73, .ref q_80, .int 0, .long 0])), (q_5, .inr (9, [.ref nq_9, .null, .int 0])), (nq_9, .inl (cQ_9, 4, .inl (fun _ => 0))), (q_16, .inr (10, [.ref nq_20, .null, .int 0])), (nq_20, .inl (cQ_20, 4, .inl (fun _ => 0))), (q_27, .inr (1, [.ref nq_31, .null, .int 0])), (nq_31, .inl (cQ_31, 4, .inl (fun _ => 0))), (q_40, .inl (cA_40, 16, .inr (.inl (fun _ => 0)))), (q_59, .inl (cA_59, 12, .inr (.inl (fun _ => 0)))), (q_66, .inl (cA_66, 4, .inr (.inl (fun _ => 0)))), (q_73, .inl (cA_73, 4, .inl (fun _ => 0))), (q_80, .inl (cA_80, 4, .inl (fun _ => 0)))] := hD
  refine lv_aload_n hx hb dX0_init_85 rfl (lv_at hl 0 rfl) ?_
  refine lv_aload_n hx hb dX0_init_86 rfl (lv_at hl 1 rfl) ?_
  refine va_putF (D := D) (ci := 0) (v := .ref aq) (ty := .object "NobodyChecks$Question") (C := RX0) (T := TX0) (N := 12) hx hb hg gwX0 tyX0 tyX0_ok nmX0 hown hK hP hD hS 0 rfl rfl 0 (by decide) (hg _ kw_173) (fun _ h9 => h9) rfl hin rfl (by decide +kernel) rfl rfl (Nat.le_of_ble_eq_true rfl) dX0_init_87 (fun H locs hP hD hS => ?_)
  have hP : va_P D vwCl [(h0, .inr (0, [.ref aq, .ref q_5, .ref q_16, .ref q_27, .ref q_40, .ref q_49, .ref q_59, .ref q_66, .ref q_73, .ref q_80, .int 0, .long 0])), (q_5, .inr (9, [.ref nq_9, .null, .int 0])), (nq_9, .inl (cQ_9, 4, .inl (fun _ => 0))), (q_16, .inr (10, [.ref nq_20, .null, .int 0])), (nq_20, .inl (cQ_20, 4, .inl (fun _ => 0))), (q_27, .inr (1, [.ref nq_31, .null, .int 0])), (nq_31, .inl (cQ_31, 4, .inl (fun _ => 0))), (q_40, .inl (cA_40, 16, .inr (.inl (fun _ => 0)))), (q_59, .inl (cA_59, 12, .inr (.inl (fun _ => 0)))), (q_66, .inl (cA_66, 4, .inr (.inl (fun _ => 0)))), (q_73, .inl (cA_73, 4, .inl (fun _ => 0))), (q_80, .inl (cA_80, 4, .inl (fun _ => 0)))] H := hP
  have hD : va_D A [(h0, .inr (0, [.ref aq, .ref q_5, .ref q_16, .ref q_27, .ref q_40, .ref q_49, .ref q_59, .ref q_66, .ref q_73, .ref q_80, .int 0, .long 0])), (q_5, .inr (9, [.ref nq_9, .null, .int 0])), (nq_9, .inl (cQ_9, 4, .inl (fun _ => 0))), (q_16, .inr (10, [.ref nq_20, .null, .int 0])), (nq_20, .inl (cQ_20, 4, .inl (fun _ => 0))), (q_27, .inr (1, [.ref nq_31, .null, .int 0])), (nq_31, .inl (cQ_31, 4, .inl (fun _ => 0))), (q_40, .inl (cA_40, 16, .inr (.inl (fun _ => 0)))), (q_59, .inl (cA_59, 12, .inr (.inl (fun _ => 0)))), (q_66, .inl (cA_66, 4, .inr (.inl (fun _ => 0)))), (q_73, .inl (cA_73, 4, .inl (fun _ => 0))), (q_80, .inl (cA_80, 4, .inl (fun _ => 0)))] := hD
  subst hQ
  refine W.widen (k := 16) (n := 113) (Nat.le_of_ble_eq_true rfl) (Nat.le_of_ble_eq_true rfl) ?_
  have hP9 := hP.sub (ws' := []) [] rfl
  have hD9 := hD.sub (ws' := []) [] (by decide) rfl
  have hK9 := hK.sub (tys' := []) [] rfl
  exact W.vret hx hb hr (fun t ht hW => ⟨⟨(), rfl, trivial, ⟨by rw [ht]; exact hP9, va_K.moved hW.alike hK9, hD9⟩⟩, hS.F ht⟩) hS.2.2 dX0_init_90

theorem dX11_init_0 : decode cX11_init 0 = .ok (.aload_n 0, 1) := by decide +kernel
theorem dX11_init_1 : decode cX11_init 1 = .ok (.invokespecial 1, 3) := by decide +kernel
theorem dX11_init_4 : decode cX11_init 4 = .ok (.aload_n 0, 1) := by decide +kernel
theorem dX11_init_5 : decode cX11_init 5 = .ok (.new 7, 3) := by decide +kernel
theorem dX11_init_8 : decode cX11_init 8 = .ok (.dup, 1) := by decide +kernel
theorem dX11_init_9 : decode cX11_init 9 = .ok (.invokespecial 9, 3) := by decide +kernel
theorem dX11_init_12 : decode cX11_init 12 = .ok (.putfield 10, 3) := by decide +kernel
theorem dX11_init_15 : decode cX11_init 15 = .ok (.aload_n 0, 1) := by decide +kernel
theorem dX11_init_16 : decode cX11_init 16 = .ok (.new 16, 3) := by decide +kernel
theorem dX11_init_19 : decode cX11_init 19 = .ok (.dup, 1) := by decide +kernel
theorem dX11_init_20 : decode cX11_init 20 = .ok (.invokespecial 18, 3) := by decide +kernel
theorem dX11_init_23 : decode cX11_init 23 = .ok (.putfield 19, 3) := by decide +kernel
theorem dX11_init_26 : decode cX11_init 26 = .ok (.aload_n 0, 1) := by decide +kernel
theorem dX11_init_27 : decode cX11_init 27 = .ok (.new 23, 3) := by decide +kernel
theorem dX11_init_30 : decode cX11_init 30 = .ok (.dup, 1) := by decide +kernel
theorem dX11_init_31 : decode cX11_init 31 = .ok (.invokespecial 25, 3) := by decide +kernel
theorem dX11_init_34 : decode cX11_init 34 = .ok (.putfield 26, 3) := by decide +kernel
theorem dX11_init_37 : decode cX11_init 37 = .ok (.aload_n 0, 1) := by decide +kernel
theorem dX11_init_38 : decode cX11_init 38 = .ok (.bipush 8, 2) := by decide +kernel
theorem dX11_init_40 : decode cX11_init 40 = .ok (.anewarray 30, 3) := by decide +kernel
theorem dX11_init_43 : decode cX11_init 43 = .ok (.putfield 32, 3) := by decide +kernel
theorem dX11_init_46 : decode cX11_init 46 = .ok (.aload_n 0, 1) := by decide +kernel
theorem dX11_init_47 : decode cX11_init 47 = .ok (.new 36, 3) := by decide +kernel
theorem dX11_init_50 : decode cX11_init 50 = .ok (.dup, 1) := by decide +kernel
theorem dX11_init_51 : decode cX11_init 51 = .ok (.aload_n 0, 1) := by decide +kernel
theorem dX11_init_52 : decode cX11_init 52 = .ok (.getfield 26, 3) := by decide +kernel
theorem dX11_init_55 : decode cX11_init 55 = .ok (.invokespecial 38, 3) := by decide +kernel
theorem dX11_init_58 : decode cX11_init 58 = .ok (.putfield 41, 3) := by decide +kernel
theorem dX11_init_61 : decode cX11_init 61 = .ok (.aload_n 0, 1) := by decide +kernel
theorem dX11_init_62 : decode cX11_init 62 = .ok (.new 45, 3) := by decide +kernel
theorem dX11_init_65 : decode cX11_init 65 = .ok (.dup, 1) := by decide +kernel
theorem dX11_init_66 : decode cX11_init 66 = .ok (.aload_n 0, 1) := by decide +kernel
theorem dX11_init_67 : decode cX11_init 67 = .ok (.getfield 26, 3) := by decide +kernel
theorem dX11_init_70 : decode cX11_init 70 = .ok (.invokespecial 47, 3) := by decide +kernel
theorem dX11_init_73 : decode cX11_init 73 = .ok (.putfield 48, 3) := by decide +kernel
theorem dX11_init_76 : decode cX11_init 76 = .ok (.aload_n 0, 1) := by decide +kernel
theorem dX11_init_77 : decode cX11_init 77 = .ok (.new 52, 3) := by decide +kernel
theorem dX11_init_80 : decode cX11_init 80 = .ok (.dup, 1) := by decide +kernel
theorem dX11_init_81 : decode cX11_init 81 = .ok (.invokespecial 54, 3) := by decide +kernel
theorem dX11_init_84 : decode cX11_init 84 = .ok (.putfield 55, 3) := by decide +kernel
theorem dX11_init_87 : decode cX11_init 87 = .ok (.return_, 1) := by decide +kernel
theorem kw_174 : (.methodLink RX11 1 objectInit : Cond) ∈ gw_tbl := gw_in (by decide +kernel) (by decide +kernel)
theorem kw_175 : (.classLink RX11 7 RX2 : Cond) ∈ gw_tbl := gw_in (by decide +kernel) (by decide +kernel)
theorem kw_176 : (.instantiable RX2 2 : Cond) ∈ gw_tbl := gw_in (by decide +kernel) (by decide +kernel)
theorem kw_177 : (.code yX2_init cX2_init 1 none : Cond) ∈ gw_tbl := gw_in (by decide +kernel) (by decide +kernel)
theorem kw_178 : (.instanceMethod yX2_init : Cond) ∈ gw_tbl := gw_in (by decide +kernel) (by decide +kernel)
theorem kw_179 : (.classLink RX11 16 RX7 : Cond) ∈ gw_tbl := gw_in (by decide +kernel) (by decide +kernel)
theorem kw_180 : (.instantiable RX7 7 : Cond) ∈ gw_tbl := gw_in (by decide +kernel) (by decide +kernel)
theorem kw_181 : (.code yX7_init cX7_init 1 none : Cond) ∈ gw_tbl := gw_in (by decide +kernel) (by decide +kernel)
theorem kw_182 : (.instanceMethod yX7_init : Cond) ∈ gw_tbl := gw_in (by decide +kernel) (by decide +kernel)
theorem kw_183 : (.classLink RX11 23 RX5 : Cond) ∈ gw_tbl := gw_in (by decide +kernel) (by decide +kernel)
theorem kw_184 : (.instantiable RX5 7 : Cond) ∈ gw_tbl := gw_in (by decide +kernel) (by decide +kernel)
theorem kw_185 : (.code yX5_init cX5_init 1 none : Cond) ∈ gw_tbl := gw_in (by decide +kernel) (by decide +kernel)
theorem kw_186 : (.instanceMethod yX5_init : Cond) ∈ gw_tbl := gw_in (by decide +kernel) (by decide +kernel)
theorem kw_187 : (.classLink RX11 36 RX4 : Cond) ∈ gw_tbl := gw_in (by decide +kernel) (by decide +kernel)
theorem kw_188 : (.instantiable RX4 10 : Cond) ∈ gw_tbl := gw_in (by decide +kernel) (by decide +kernel)
theorem kw_189 : (.initialized RX4 : Cond) ∈ gw_tbl := gw_in (by decide +kernel) (by decide +kernel)
theorem kw_190 : (.code yX4_init cX4_init 2 none : Cond) ∈ gw_tbl := gw_in (by decide +kernel) (by decide +kernel)
theorem kw_191 : (.methodLink RX11 38 yX4_init : Cond) ∈ gw_tbl := gw_in (by decide +kernel) (by decide +kernel)
theorem kw_192 : (.instanceMethod yX4_init : Cond) ∈ gw_tbl := gw_in (by decide +kernel) (by decide +kernel)
theorem kw_193 : (.fieldLink RX11 41 "NobodyChecks" "play" "LNobodyChecks$Play;" : Cond) ∈ gw_tbl := gw_in (by decide +kernel) (by decide +kernel)
theorem kw_194 : (.classLink RX11 45 RX0 : Cond) ∈ gw_tbl := gw_in (by decide +kernel) (by decide +kernel)
theorem kw_195 : (.instantiable RX0 12 : Cond) ∈ gw_tbl := gw_in (by decide +kernel) (by decide +kernel)
theorem kw_196 : (.initialized RX0 : Cond) ∈ gw_tbl := gw_in (by decide +kernel) (by decide +kernel)
theorem kw_197 : (.code yX0_init cX0_init 2 none : Cond) ∈ gw_tbl := gw_in (by decide +kernel) (by decide +kernel)
theorem kw_198 : (.methodLink RX11 47 yX0_init : Cond) ∈ gw_tbl := gw_in (by decide +kernel) (by decide +kernel)
theorem kw_199 : (.instanceMethod yX0_init : Cond) ∈ gw_tbl := gw_in (by decide +kernel) (by decide +kernel)
theorem kw_200 : (.fieldLink RX11 48 "NobodyChecks" "cheapest" "LNobodyChecks$Cheapest;" : Cond) ∈ gw_tbl := gw_in (by decide +kernel) (by decide +kernel)
theorem kw_201 : (.classLink RX11 52 RX8 : Cond) ∈ gw_tbl := gw_in (by decide +kernel) (by decide +kernel)
theorem kw_202 : (.instantiable RX8 3 : Cond) ∈ gw_tbl := gw_in (by decide +kernel) (by decide +kernel)
theorem kw_203 : (.initialized RX8 : Cond) ∈ gw_tbl := gw_in (by decide +kernel) (by decide +kernel)
theorem kw_204 : (.code yX8_init cX8_init 1 none : Cond) ∈ gw_tbl := gw_in (by decide +kernel) (by decide +kernel)
theorem kw_205 : (.instanceMethod yX8_init : Cond) ∈ gw_tbl := gw_in (by decide +kernel) (by decide +kernel)

set_option maxHeartbeats 4000000 in
set_option maxRecDepth 100000 in
theorem i_nobody (l : Launch) (D : va_G) (x0 : Nat) (sz : Nat) : Met l yX11_init (Cond.code yX11_init cX11_init 1 none :: gw_tbl) ({ frames := 5, cells := 45, slots := 892, locals := 93 }) (pc_C D [] [(x0, .inr (11, [.null, .null, .null, .null, .null, .null, .null, .int 0, .int 0]))] sz [.ref x0]) (va_Qv (fun (u : Unit) => True) (fun _ t => ∃ (pg : Nat), ∃ (rd : Nat), ∃ (aq : Nat), ∃ (py : Nat), ∃ (pl : Nat), ∃ (ch : Nat), ∃ (ro : Nat), ∃ (cd : Nat), ∃ (rw : Nat), ∃ (rc : Nat), ∃ (a1 : Nat), ∃ (a2 : Nat), ∃ (a3 : Nat), ∃ (a4 : Nat), ∃ (r1 : Nat), ∃ (r2 : Nat), ∃ (cI : ClassId), ∃ (cP : ClassId), va_P D vwCl [(x0, .inr (11, [.ref pg, .ref rd, .ref aq, .ref py, .ref pl, .ref ch, .ref ro, .int 0, .int 0])), (pg, .inr (2, [.ref cd, .int 0])), (cd, .inl (cI, 90, .inl (fun _ => 0))), (rd, .inr (7, [.ref rw, .ref rc, .int 0, .int 0, .int 0, .int 0, .int 0])), (aq, .inr (5, [.ref a1, .ref a2, .ref a3, .ref a4, .int 0, .int 0, .long 0])), (py, .inl (cP, 8, .inr (.inr (.inr (.inr (fun _ => none)))))), (ro, .inr (8, [.ref r1, .ref r2, .int 0]))] t.heap ∧ va_K D vwCl [(cI, .int), (cP, .object RX3)] t ∧ va_D (va_A [(x0, .inr (11, [.null, .null, .null, .null, .null, .null, .null, .int 0, .int 0]))] sz) [(x0, .inr (11, [.ref pg, .ref rd, .ref aq, .ref py, .ref pl, .ref ch, .ref ro, .int 0, .int 0])), (pg, .inr (2, [.ref cd, .int 0])), (cd, .inl (cI, 90, .inl (fun _ => 0))), (rd, .inr (7, [.ref rw, .ref rc, .int 0, .int 0, .int 0, .int 0, .int 0])), (aq, .inr (5, [.ref a1, .ref a2, .ref a3, .ref a4, .int 0, .int 0, .long 0])), (py, .inl (cP, 8, .inr (.inr (.inr (.inr (fun _ => none)))))), (ro, .inr (8, [.ref r1, .ref r2, .int 0]))]) (va_A [(x0, .inr (11, [.null, .null, .null, .null, .null, .null, .null, .int 0, .int 0]))] sz)) 45 892 (va_A [(x0, .inr (11, [.null, .null, .null, .null, .null, .null, .null, .int 0, .int 0]))] sz) := by
  refine Met.ofW (cc := cX11_init) (maxL := 1) (ret := none) (by decide) rfl ?_
  intro p e s m args below meth c s₁ B hml hv
  obtain ⟨hargs, hsz, hP, hK, hD0, hN⟩ := hv
  have hx := B.exec
  have hb := B.bytes
  have hr := B.returns
  have hts := atoms_spec (ws := Cond.code yX11_init cX11_init 1 none :: gw_tbl) B.pre
  have hg := fun (w : Cond) (h : w ∈ gw_tbl) => hts w (List.mem_cons_of_mem _ h)
  have hown : s.vm.findClass RX11 = some m.cls := findClass_of_methodNamed B.named
  have hlocks := B.notSynchronized
  have hin : meth.name = "<init>" := (name_of_methodNamed B.named B.method).1
  subst hsz
  have hD := hD0.self (sz := s.heap.size)
  generalize hAe : va_A [(x0, .inr (11, [.null, .null, .null, .null, .null, .null, .null, .int 0, .int 0]))] s.heap.size = A at hD ⊢
  have hA : ∀ q : Nat, s.heap.size ≤ q → A q := fun q h => by rw [← hAe]; exact Or.inr h
  have hS : va_S A s.heap s.heap [] := va_S.rf
  have hP : va_P D vwCl [(x0, .inr (11, [.null, .null, .null, .null, .null, .null, .null, .int 0, .int 0]))] s.heap := hP
  have hl := lv_entry ([.ref x0]) (n := 1) (Nat.le_of_ble_eq_true rfl)
  rw [show entryFrame m args 1 = F0 m 0 (lg_sl ([.ref x0]) ++ List.replicate (1 - (lg_sl ([.ref x0])).length) Slot.unset).toArray [] from by rw [hargs]; exact lg_entry_eq ..]
  generalize (lg_sl ([.ref x0]) ++ List.replicate (1 - (lg_sl ([.ref x0])).length) Slot.unset).toArray = ls at hl ⊢
  have hl : lv_has ls 1 [(0, .ref x0)] := hl
  refine W_genQ (fun Q hQ => ?_)
  refine lv_aload_n hx hb dX11_init_0 rfl (lv_at hl 0 rfl) ?_
  refine W.objInit hx hb hown (hg _ kw_174) (hg _ kw_94) (hg _ kw_95) rfl (by rw [hml]; exact hl.1) rfl dX11_init_1 (Nat.le_of_ble_eq_true rfl) (Nat.le_of_ble_eq_true rfl) ?_
  refine W.eq (g2 := F0 m 4 ls []) rfl ?_
  refine lv_aload_n hx hb dX11_init_4 rfl (lv_at hl 0 rfl) ?_
  refine va_new (ci := 2) (fs := [.null, .int 0]) (C := RX2) (T := TX2) (N := 2) hx hb hg gwX2 tyX2 tyX2_ok hown (hg _ kw_175) (hg _ kw_176) (hg _ kw_83) hK hP hD hS hA rfl (by decide +kernel) (Nat.le_of_ble_eq_true rfl) (Nat.le_of_ble_eq_true rfl) dX11_init_5 (fun q_5 H hP hD hS => ?_)
  have hP : va_P D vwCl [(x0, .inr (11, [.null, .null, .null, .null, .null, .null, .null, .int 0, .int 0])), (q_5, .inr (2, [.null, .int 0]))] H := hP
  have hD : va_D A [(x0, .inr (11, [.null, .null, .null, .null, .null, .null, .null, .int 0, .int 0])), (q_5, .inr (2, [.null, .int 0]))] := hD
  refine W.cs (cells' := 1) (slots' := 2) rfl rfl ?_
  refine lv_dup hx hb dX11_init_8 rfl ?_
  have hPc := hP.sub (ws' := [(q_5, .inr (2, [.null, .int 0]))]) [1] rfl
  have hKc := hK.sub (tys' := []) [] rfl
  have hDc := hD.sub (ws' := [(q_5, .inr (2, [.null, .int 0]))]) [1] (by decide) rfl
  have hFc := va_free (wc := [(q_5, .inr (2, [.null, .int 0]))]) hD hS hA [1] rfl
  refine va_callv (va_runIN (As := []) (rest := [.ref q_5, .ref x0]) ⟨hx, hb, hml, hown, hg⟩ (i_page l D q_5 _) ⟨va_cnB 0 hg (gw_I kw_177) rfl rfl rfl (hN.1 (RX11, 9, yX2_init) (by decide +kernel)) (hg _ kw_83) (by decide +kernel) ⟨Nat.le_of_ble_eq_true rfl, Nat.le_of_ble_eq_true rfl⟩, rfl, hg _ kw_178⟩ (pr_C hKc hPc hDc hN) rfl rfl hl.1 rfl (lv_room (Nat.le_of_ble_eq_true rfl)) dX11_init_9 ⟨Nat.le_of_ble_eq_true rfl, Nat.le_of_ble_eq_true rfl⟩) hS (fun q _ h => hFc q h) hFc (fun u t H1 locs ht hvm h_9 hB hz1 hk1 hS => ?_)
  obtain ⟨cd_9, cI_9, hP1, hK1, hD1⟩ := hB
  rw [ht] at hP1
  have hK1 := va_K.moved hvm.symm hK1
  obtain ⟨hP, hD⟩ := va_join (wr := [(x0, .inr (11, [.null, .null, .null, .null, .null, .null, .null, .int 0, .int 0]))]) (w1 := [(q_5, .inr (2, [.ref cd_9, .int 0])), (cd_9, .inl (cI_9, 90, .inl (fun _ => 0)))]) hP hD [1] [0] rfl rfl (by decide) (by decide) hk1 hFc hP1 hD1
  have hK := hK.app hK1
  generalize H1 = H at hP hS ⊢
  have hP : va_P D vwCl [(x0, .inr (11, [.null, .null, .null, .null, .null, .null, .null, .int 0, .int 0])), (q_5, .inr (2, [.ref cd_9, .int 0])), (cd_9, .inl (cI_9, 90, .inl (fun _ => 0)))] H := hP
  have hD : va_D A [(x0, .inr (11, [.null, .null, .null, .null, .null, .null, .null, .int 0, .int 0])), (q_5, .inr (2, [.ref cd_9, .int 0])), (cd_9, .inl (cI_9, 90, .inl (fun _ => 0)))] := hD
  have hK : va_K D vwCl [(cI_9, .int)] s := hK
  refine W.cs (cells' := 2) (slots' := 92) rfl rfl ?_
  try dsimp only at h_9
  refine va_putF (D := D) (ci := 11) (v := .ref q_5) (ty := .object "NobodyChecks$Page") (C := RX11) (T := TX11) (N := 9) hx hb hg gwX11 tyX11 tyX11_ok nmX11 hown hK hP hD hS 0 rfl rfl 0 (by decide) (hg _ kw_36) (fun _ h9 => h9) rfl hin rfl (by decide +kernel) rfl rfl (Nat.le_of_ble_eq_true rfl) dX11_init_12 (fun H locs hP hD hS => ?_)
  have hP : va_P D vwCl [(x0, .inr (11, [.ref q_5, .null, .null, .null, .null, .null, .null, .int 0, .int 0])), (q_5, .inr (2, [.ref cd_9, .int 0])), (cd_9, .inl (cI_9, 90, .inl (fun _ => 0)))] H := hP
  have hD : va_D A [(x0, .inr (11, [.ref q_5, .null, .null, .null, .null, .null, .null, .int 0, .int 0])), (q_5, .inr (2, [.ref cd_9, .int 0])), (cd_9, .inl (cI_9, 90, .inl (fun _ => 0)))] := hD
  refine lv_aload_n hx hb dX11_init_15 rfl (lv_at hl 0 rfl) ?_
  refine va_new (ci := 7) (fs := [.null, .null, .int 0, .int 0, .int 0, .int 0, .int 0]) (C := RX7) (T := TX7) (N := 7) hx hb hg gwX7 tyX7 tyX7_ok hown (hg _ kw_179) (hg _ kw_180) (hg _ kw_69) hK hP hD hS hA rfl (by decide +kernel) (Nat.le_of_ble_eq_true rfl) (Nat.le_of_ble_eq_true rfl) dX11_init_16 (fun q_16 H hP hD hS => ?_)
  have hP : va_P D vwCl [(x0, .inr (11, [.ref q_5, .null, .null, .null, .null, .null, .null, .int 0, .int 0])), (q_5, .inr (2, [.ref cd_9, .int 0])), (cd_9, .inl (cI_9, 90, .inl (fun _ => 0))), (q_16, .inr (7, [.null, .null, .int 0, .int 0, .int 0, .int 0, .int 0]))] H := hP
  have hD : va_D A [(x0, .inr (11, [.ref q_5, .null, .null, .null, .null, .null, .null, .int 0, .int 0])), (q_5, .inr (2, [.ref cd_9, .int 0])), (cd_9, .inl (cI_9, 90, .inl (fun _ => 0))), (q_16, .inr (7, [.null, .null, .int 0, .int 0, .int 0, .int 0, .int 0]))] := hD
  refine W.cs (cells' := 3) (slots' := 99) rfl rfl ?_
  refine lv_dup hx hb dX11_init_19 rfl ?_
  have hPc := hP.sub (ws' := [(q_16, .inr (7, [.null, .null, .int 0, .int 0, .int 0, .int 0, .int 0]))]) [3] rfl
  have hKc := hK.sub (tys' := []) [] rfl
  have hDc := hD.sub (ws' := [(q_16, .inr (7, [.null, .null, .int 0, .int 0, .int 0, .int 0, .int 0]))]) [3] (by decide) rfl
  have hFc := va_free (wc := [(q_16, .inr (7, [.null, .null, .int 0, .int 0, .int 0, .int 0, .int 0]))]) hD hS hA [3] rfl
  refine va_callv (va_runIN (As := []) (rest := [.ref q_16, .ref x0]) ⟨hx, hb, hml, hown, hg⟩ (i_reader l D q_16 _) ⟨va_cnB 0 hg (gw_I kw_181) rfl rfl rfl (hN.1 (RX11, 18, yX7_init) (by decide +kernel)) (hg _ kw_69) (by decide +kernel) ⟨Nat.le_of_ble_eq_true rfl, Nat.le_of_ble_eq_true rfl⟩, rfl, hg _ kw_182⟩ (pr_C hKc hPc hDc hN) rfl rfl hl.1 rfl (lv_room (Nat.le_of_ble_eq_true rfl)) dX11_init_20 ⟨Nat.le_of_ble_eq_true rfl, Nat.le_of_ble_eq_true rfl⟩) hS (fun q _ h => hFc q h) hFc (fun u t H1 locs ht hvm h_20 hB hz1 hk1 hS => ?_)
  obtain ⟨rw_20, rc_20, hP1, hK1, hD1⟩ := hB
  rw [ht] at hP1
  have hK1 := va_K.moved hvm.symm hK1
  obtain ⟨hP, hD⟩ := va_join (wr := [(x0, .inr (11, [.ref q_5, .null, .null, .null, .null, .null, .null, .int 0, .int 0])), (q_5, .inr (2, [.ref cd_9, .int 0])), (cd_9, .inl (cI_9, 90, .inl (fun _ => 0)))]) (w1 := [(q_16, .inr (7, [.ref rw_20, .ref rc_20, .int 0, .int 0, .int 0, .int 0, .int 0]))]) hP hD [3] [0, 1, 2] rfl rfl (by decide) (by decide) hk1 hFc hP1 hD1
  have hK := hK.app hK1
  generalize H1 = H at hP hS ⊢
  have hP : va_P D vwCl [(x0, .inr (11, [.ref q_5, .null, .null, .null, .null, .null, .null, .int 0, .int 0])), (q_5, .inr (2, [.ref cd_9, .int 0])), (cd_9, .inl (cI_9, 90, .inl (fun _ => 0))), (q_16, .inr (7, [.ref rw_20, .ref rc_20, .int 0, .int 0, .int 0, .int 0, .int 0]))] H := hP
  have hD : va_D A [(x0, .inr (11, [.ref q_5, .null, .null, .null, .null, .null, .null, .int 0, .int 0])), (q_5, .inr (2, [.ref cd_9, .int 0])), (cd_9, .inl (cI_9, 90, .inl (fun _ => 0))), (q_16, .inr (7, [.ref rw_20, .ref rc_20, .int 0, .int 0, .int 0, .int 0, .int 0]))] := hD
  have hK : va_K D vwCl [(cI_9, .int)] s := hK
  refine W.cs (cells' := 10) (slots' := 129) rfl rfl ?_
  try dsimp only at h_20
  refine va_putF (D := D) (ci := 11) (v := .ref q_16) (ty := .object "NobodyChecks$Reader") (C := RX11) (T := TX11) (N := 9) hx hb hg gwX11 tyX11 tyX11_ok nmX11 hown hK hP hD hS 0 rfl rfl 1 (by decide) (hg _ kw_71) (fun _ h9 => h9) rfl hin rfl (by decide +kernel) rfl rfl (Nat.le_of_ble_eq_true rfl) dX11_init_23 (fun H locs hP hD hS => ?_)
  have hP : va_P D vwCl [(x0, .inr (11, [.ref q_5, .ref q_16, .null, .null, .null, .null, .null, .int 0, .int 0])), (q_5, .inr (2, [.ref cd_9, .int 0])), (cd_9, .inl (cI_9, 90, .inl (fun _ => 0))), (q_16, .inr (7, [.ref rw_20, .ref rc_20, .int 0, .int 0, .int 0, .int 0, .int 0]))] H := hP
  have hD : va_D A [(x0, .inr (11, [.ref q_5, .ref q_16, .null, .null, .null, .null, .null, .int 0, .int 0])), (q_5, .inr (2, [.ref cd_9, .int 0])), (cd_9, .inl (cI_9, 90, .inl (fun _ => 0))), (q_16, .inr (7, [.ref rw_20, .ref rc_20, .int 0, .int 0, .int 0, .int 0, .int 0]))] := hD
  refine lv_aload_n hx hb dX11_init_26 rfl (lv_at hl 0 rfl) ?_
  refine va_new (ci := 5) (fs := [.null, .null, .null, .null, .int 0, .int 0, .long 0]) (C := RX5) (T := TX5) (N := 7) hx hb hg gwX5 tyX5 tyX5_ok hown (hg _ kw_183) (hg _ kw_184) (hg _ kw_12) hK hP hD hS hA rfl (by decide +kernel) (Nat.le_of_ble_eq_true rfl) (Nat.le_of_ble_eq_true rfl) dX11_init_27 (fun q_27 H hP hD hS => ?_)
  have hP : va_P D vwCl [(x0, .inr (11, [.ref q_5, .ref q_16, .null, .null, .null, .null, .null, .int 0, .int 0])), (q_5, .inr (2, [.ref cd_9, .int 0])), (cd_9, .inl (cI_9, 90, .inl (fun _ => 0))), (q_16, .inr (7, [.ref rw_20, .ref rc_20, .int 0, .int 0, .int 0, .int 0, .int 0])), (q_27, .inr (5, [.null, .null, .null, .null, .int 0, .int 0, .long 0]))] H := hP
  have hD : va_D A [(x0, .inr (11, [.ref q_5, .ref q_16, .null, .null, .null, .null, .null, .int 0, .int 0])), (q_5, .inr (2, [.ref cd_9, .int 0])), (cd_9, .inl (cI_9, 90, .inl (fun _ => 0))), (q_16, .inr (7, [.ref rw_20, .ref rc_20, .int 0, .int 0, .int 0, .int 0, .int 0])), (q_27, .inr (5, [.null, .null, .null, .null, .int 0, .int 0, .long 0]))] := hD
  refine W.cs (cells' := 11) (slots' := 136) rfl rfl ?_
  refine lv_dup hx hb dX11_init_30 rfl ?_
  have hPc := hP.sub (ws' := [(q_27, .inr (5, [.null, .null, .null, .null, .int 0, .int 0, .long 0]))]) [4] rfl
  have hKc := hK.sub (tys' := []) [] rfl
  have hDc := hD.sub (ws' := [(q_27, .inr (5, [.null, .null, .null, .null, .int 0, .int 0, .long 0]))]) [4] (by decide) rfl
  have hFc := va_free (wc := [(q_27, .inr (5, [.null, .null, .null, .null, .int 0, .int 0, .long 0]))]) hD hS hA [4] rfl
  refine va_callv (va_runIN (As := []) (rest := [.ref q_27, .ref x0]) ⟨hx, hb, hml, hown, hg⟩ (i_question l D q_27 _) ⟨va_cnB 0 hg (gw_I kw_185) rfl rfl rfl (hN.1 (RX11, 25, yX5_init) (by decide +kernel)) (hg _ kw_12) (by decide +kernel) ⟨Nat.le_of_ble_eq_true rfl, Nat.le_of_ble_eq_true rfl⟩, rfl, hg _ kw_186⟩ (pr_C hKc hPc hDc hN) rfl rfl hl.1 rfl (lv_room (Nat.le_of_ble_eq_true rfl)) dX11_init_31 ⟨Nat.le_of_ble_eq_true rfl, Nat.le_of_ble_eq_true rfl⟩) hS (fun q _ h => hFc q h) hFc (fun u t H1 locs ht hvm h_31 hB hz1 hk1 hS => ?_)
  obtain ⟨a1_31, a2_31, a3_31, a4_31, hP1, hK1, hD1⟩ := hB
  rw [ht] at hP1
  have hK1 := va_K.moved hvm.symm hK1
  obtain ⟨hP, hD⟩ := va_join (wr := [(x0, .inr (11, [.ref q_5, .ref q_16, .null, .null, .null, .null, .null, .int 0, .int 0])), (q_5, .inr (2, [.ref cd_9, .int 0])), (cd_9, .inl (cI_9, 90, .inl (fun _ => 0))), (q_16, .inr (7, [.ref rw_20, .ref rc_20, .int 0, .int 0, .int 0, .int 0, .int 0]))]) (w1 := [(q_27, .inr (5, [.ref a1_31, .ref a2_31, .ref a3_31, .ref a4_31, .int 0, .int 0, .long 0]))]) hP hD [4] [0, 1, 2, 3] rfl rfl (by decide) (by decide) hk1 hFc hP1 hD1
  have hK := hK.app hK1
  generalize H1 = H at hP hS ⊢
  have hP : va_P D vwCl [(x0, .inr (11, [.ref q_5, .ref q_16, .null, .null, .null, .null, .null, .int 0, .int 0])), (q_5, .inr (2, [.ref cd_9, .int 0])), (cd_9, .inl (cI_9, 90, .inl (fun _ => 0))), (q_16, .inr (7, [.ref rw_20, .ref rc_20, .int 0, .int 0, .int 0, .int 0, .int 0])), (q_27, .inr (5, [.ref a1_31, .ref a2_31, .ref a3_31, .ref a4_31, .int 0, .int 0, .long 0]))] H := hP
  have hD : va_D A [(x0, .inr (11, [.ref q_5, .ref q_16, .null, .null, .null, .null, .null, .int 0, .int 0])), (q_5, .inr (2, [.ref cd_9, .int 0])), (cd_9, .inl (cI_9, 90, .inl (fun _ => 0))), (q_16, .inr (7, [.ref rw_20, .ref rc_20, .int 0, .int 0, .int 0, .int 0, .int 0])), (q_27, .inr (5, [.ref a1_31, .ref a2_31, .ref a3_31, .ref a4_31, .int 0, .int 0, .long 0]))] := hD
  have hK : va_K D vwCl [(cI_9, .int)] s := hK
  refine W.cs (cells' := 20) (slots' := 186) rfl rfl ?_
  try dsimp only at h_31
  refine va_putF (D := D) (ci := 11) (v := .ref q_27) (ty := .object "NobodyChecks$Question") (C := RX11) (T := TX11) (N := 9) hx hb hg gwX11 tyX11 tyX11_ok nmX11 hown hK hP hD hS 0 rfl rfl 2 (by decide) (hg _ kw_7) (fun _ h9 => h9) rfl hin rfl (by decide +kernel) rfl rfl (Nat.le_of_ble_eq_true rfl) dX11_init_34 (fun H locs hP hD hS => ?_)
  have hP : va_P D vwCl [(x0, .inr (11, [.ref q_5, .ref q_16, .ref q_27, .null, .null, .null, .null, .int 0, .int 0])), (q_5, .inr (2, [.ref cd_9, .int 0])), (cd_9, .inl (cI_9, 90, .inl (fun _ => 0))), (q_16, .inr (7, [.ref rw_20, .ref rc_20, .int 0, .int 0, .int 0, .int 0, .int 0])), (q_27, .inr (5, [.ref a1_31, .ref a2_31, .ref a3_31, .ref a4_31, .int 0, .int 0, .long 0]))] H := hP
  have hD : va_D A [(x0, .inr (11, [.ref q_5, .ref q_16, .ref q_27, .null, .null, .null, .null, .int 0, .int 0])), (q_5, .inr (2, [.ref cd_9, .int 0])), (cd_9, .inl (cI_9, 90, .inl (fun _ => 0))), (q_16, .inr (7, [.ref rw_20, .ref rc_20, .int 0, .int 0, .int 0, .int 0, .int 0])), (q_27, .inr (5, [.ref a1_31, .ref a2_31, .ref a3_31, .ref a4_31, .int 0, .int 0, .long 0]))] := hD
  refine lv_aload_n hx hb dX11_init_37 rfl (lv_at hl 0 rfl) ?_
  refine lv_bipush (v := 8) hx hb dX11_init_38 (by decide) ?_
  refine va_newq (C := RX3) (N' := 8) hx hb hown (hg _ kw_107) (hN.2.1) hK hP hD hS hA (by decide) (by decide) (by decide) (Nat.le_of_ble_eq_true rfl) (Nat.le_of_ble_eq_true rfl) dX11_init_40 (fun q_40 cA_40 H hK hP hD hS => ?_)
  have hP : va_P D vwCl [(x0, .inr (11, [.ref q_5, .ref q_16, .ref q_27, .null, .null, .null, .null, .int 0, .int 0])), (q_5, .inr (2, [.ref cd_9, .int 0])), (cd_9, .inl (cI_9, 90, .inl (fun _ => 0))), (q_16, .inr (7, [.ref rw_20, .ref rc_20, .int 0, .int 0, .int 0, .int 0, .int 0])), (q_27, .inr (5, [.ref a1_31, .ref a2_31, .ref a3_31, .ref a4_31, .int 0, .int 0, .long 0])), (q_40, .inl (cA_40, 8, .inr (.inr (.inr (.inr (fun _ => none))))))] H := hP
  have hD : va_D A [(x0, .inr (11, [.ref q_5, .ref q_16, .ref q_27, .null, .null, .null, .null, .int 0, .int 0])), (q_5, .inr (2, [.ref cd_9, .int 0])), (cd_9, .inl (cI_9, 90, .inl (fun _ => 0))), (q_16, .inr (7, [.ref rw_20, .ref rc_20, .int 0, .int 0, .int 0, .int 0, .int 0])), (q_27, .inr (5, [.ref a1_31, .ref a2_31, .ref a3_31, .ref a4_31, .int 0, .int 0, .long 0])), (q_40, .inl (cA_40, 8, .inr (.inr (.inr (.inr (fun _ => none))))))] := hD
  have hK : va_K D vwCl [(cI_9, .int), (cA_40, .object RX3)] s := hK
  refine W.cs (cells' := 21) (slots' := 194) rfl rfl ?_
  refine va_putF (D := D) (ci := 11) (v := .ref q_40) (ty := .array (.object "NobodyChecks$Pay")) (C := RX11) (T := TX11) (N := 9) hx hb hg gwX11 tyX11 tyX11_ok nmX11 hown hK hP hD hS 0 rfl rfl 3 (by decide) (hg _ kw_133) (fun _ h9 => h9) rfl hin rfl (by decide +kernel) rfl rfl (Nat.le_of_ble_eq_true rfl) dX11_init_43 (fun H locs hP hD hS => ?_)
  have hP : va_P D vwCl [(x0, .inr (11, [.ref q_5, .ref q_16, .ref q_27, .ref q_40, .null, .null, .null, .int 0, .int 0])), (q_5, .inr (2, [.ref cd_9, .int 0])), (cd_9, .inl (cI_9, 90, .inl (fun _ => 0))), (q_16, .inr (7, [.ref rw_20, .ref rc_20, .int 0, .int 0, .int 0, .int 0, .int 0])), (q_27, .inr (5, [.ref a1_31, .ref a2_31, .ref a3_31, .ref a4_31, .int 0, .int 0, .long 0])), (q_40, .inl (cA_40, 8, .inr (.inr (.inr (.inr (fun _ => none))))))] H := hP
  have hD : va_D A [(x0, .inr (11, [.ref q_5, .ref q_16, .ref q_27, .ref q_40, .null, .null, .null, .int 0, .int 0])), (q_5, .inr (2, [.ref cd_9, .int 0])), (cd_9, .inl (cI_9, 90, .inl (fun _ => 0))), (q_16, .inr (7, [.ref rw_20, .ref rc_20, .int 0, .int 0, .int 0, .int 0, .int 0])), (q_27, .inr (5, [.ref a1_31, .ref a2_31, .ref a3_31, .ref a4_31, .int 0, .int 0, .long 0])), (q_40, .inl (cA_40, 8, .inr (.inr (.inr (.inr (fun _ => none))))))] := hD
  refine lv_aload_n hx hb dX11_init_46 rfl (lv_at hl 0 rfl) ?_
  refine va_new (ci := 4) (fs := [.null, .null, .null, .null, .long 0, .int 0, .int 0, .int 0, .int 0, .int 0]) (C := RX4) (T := TX4) (N := 10) hx hb hg gwX4 tyX4 tyX4_ok hown (hg _ kw_187) (hg _ kw_188) (hg _ kw_189) hK hP hD hS hA rfl (by decide +kernel) (Nat.le_of_ble_eq_true rfl) (Nat.le_of_ble_eq_true rfl) dX11_init_47 (fun q_47 H hP hD hS => ?_)
  have hP : va_P D vwCl [(x0, .inr (11, [.ref q_5, .ref q_16, .ref q_27, .ref q_40, .null, .null, .null, .int 0, .int 0])), (q_5, .inr (2, [.ref cd_9, .int 0])), (cd_9, .inl (cI_9, 90, .inl (fun _ => 0))), (q_16, .inr (7, [.ref rw_20, .ref rc_20, .int 0, .int 0, .int 0, .int 0, .int 0])), (q_27, .inr (5, [.ref a1_31, .ref a2_31, .ref a3_31, .ref a4_31, .int 0, .int 0, .long 0])), (q_40, .inl (cA_40, 8, .inr (.inr (.inr (.inr (fun _ => none)))))), (q_47, .inr (4, [.null, .null, .null, .null, .long 0, .int 0, .int 0, .int 0, .int 0, .int 0]))] H := hP
  have hD : va_D A [(x0, .inr (11, [.ref q_5, .ref q_16, .ref q_27, .ref q_40, .null, .null, .null, .int 0, .int 0])), (q_5, .inr (2, [.ref cd_9, .int 0])), (cd_9, .inl (cI_9, 90, .inl (fun _ => 0))), (q_16, .inr (7, [.ref rw_20, .ref rc_20, .int 0, .int 0, .int 0, .int 0, .int 0])), (q_27, .inr (5, [.ref a1_31, .ref a2_31, .ref a3_31, .ref a4_31, .int 0, .int 0, .long 0])), (q_40, .inl (cA_40, 8, .inr (.inr (.inr (.inr (fun _ => none)))))), (q_47, .inr (4, [.null, .null, .null, .null, .long 0, .int 0, .int 0, .int 0, .int 0, .int 0]))] := hD
  refine W.cs (cells' := 22) (slots' := 204) rfl rfl ?_
  refine lv_dup hx hb dX11_init_50 rfl ?_
  refine lv_aload_n hx hb dX11_init_51 rfl (lv_at hl 0 rfl) ?_
  refine va_get (D := D) (ci := 11) (v := .ref q_27) (C := RX11) (T := TX11) (N := 9) hx hb hg gwX11 hown hK hP 0 rfl rfl 2 (by decide) (hg _ kw_7) (fun _ h9 => h9) rfl dX11_init_52 ?_
  have hPc := hP.sub (ws' := [(q_47, .inr (4, [.null, .null, .null, .null, .long 0, .int 0, .int 0, .int 0, .int 0, .int 0]))]) [6] rfl
  have hKc := hK.sub (tys' := []) [] rfl
  have hDc := hD.sub (ws' := [(q_47, .inr (4, [.null, .null, .null, .null, .long 0, .int 0, .int 0, .int 0, .int 0, .int 0]))]) [6] (by decide) rfl
  have hFc := va_free (wc := [(q_47, .inr (4, [.null, .null, .null, .null, .long 0, .int 0, .int 0, .int 0, .int 0, .int 0]))]) hD hS hA [6] rfl
  refine va_callv (va_runI (As := [.ref q_27]) (rest := [.ref q_47, .ref x0]) ⟨hx, hb, hml, hown, hg⟩ (i_play l D q_47 q_27 _) (cwI 1 hg (gw_I kw_190) rfl rfl rfl (hg _ kw_189) (hg _ kw_191) (hg _ kw_192) rfl (by decide +kernel) ⟨Nat.le_of_ble_eq_true rfl, Nat.le_of_ble_eq_true rfl⟩) (pr_C hKc hPc hDc hN) rfl rfl hl.1 rfl (lv_room (Nat.le_of_ble_eq_true rfl)) dX11_init_55 ⟨Nat.le_of_ble_eq_true rfl, Nat.le_of_ble_eq_true rfl⟩) hS (fun q _ h => hFc q h) hFc (fun u t H1 locs ht hvm h_55 hB hz1 hk1 hS => ?_)
  obtain ⟨hP1, hK1, hD1⟩ := hB
  rw [ht] at hP1
  have hK1 := va_K.moved hvm.symm hK1
  obtain ⟨hP, hD⟩ := va_join (wr := [(x0, .inr (11, [.ref q_5, .ref q_16, .ref q_27, .ref q_40, .null, .null, .null, .int 0, .int 0])), (q_5, .inr (2, [.ref cd_9, .int 0])), (cd_9, .inl (cI_9, 90, .inl (fun _ => 0))), (q_16, .inr (7, [.ref rw_20, .ref rc_20, .int 0, .int 0, .int 0, .int 0, .int 0])), (q_27, .inr (5, [.ref a1_31, .ref a2_31, .ref a3_31, .ref a4_31, .int 0, .int 0, .long 0])), (q_40, .inl (cA_40, 8, .inr (.inr (.inr (.inr (fun _ => none))))))]) (w1 := []) hP hD [6] [0, 1, 2, 3, 4, 5] rfl rfl (by decide) (by decide) hk1 hFc hP1 hD1
  have hK := hK.app hK1
  generalize H1 = H at hP hS ⊢
  have hP : va_P D vwCl [(x0, .inr (11, [.ref q_5, .ref q_16, .ref q_27, .ref q_40, .null, .null, .null, .int 0, .int 0])), (q_5, .inr (2, [.ref cd_9, .int 0])), (cd_9, .inl (cI_9, 90, .inl (fun _ => 0))), (q_16, .inr (7, [.ref rw_20, .ref rc_20, .int 0, .int 0, .int 0, .int 0, .int 0])), (q_27, .inr (5, [.ref a1_31, .ref a2_31, .ref a3_31, .ref a4_31, .int 0, .int 0, .long 0])), (q_40, .inl (cA_40, 8, .inr (.inr (.inr (.inr (fun _ => none))))))] H := hP
  have hD : va_D A [(x0, .inr (11, [.ref q_5, .ref q_16, .ref q_27, .ref q_40, .null, .null, .null, .int 0, .int 0])), (q_5, .inr (2, [.ref cd_9, .int 0])), (cd_9, .inl (cI_9, 90, .inl (fun _ => 0))), (q_16, .inr (7, [.ref rw_20, .ref rc_20, .int 0, .int 0, .int 0, .int 0, .int 0])), (q_27, .inr (5, [.ref a1_31, .ref a2_31, .ref a3_31, .ref a4_31, .int 0, .int 0, .long 0])), (q_40, .inl (cA_40, 8, .inr (.inr (.inr (.inr (fun _ => none))))))] := hD
  have hK : va_K D vwCl [(cI_9, .int), (cA_40, .object RX3)] s := hK
  refine W.cs (cells' := 25) (slots' := 716) rfl rfl ?_
  try dsimp only at h_55
  refine va_putF (D := D) (ci := 11) (v := .ref q_47) (ty := .object "NobodyChecks$Play") (C := RX11) (T := TX11) (N := 9) hx hb hg gwX11 tyX11 tyX11_ok nmX11 hown hK hP hD hS 0 rfl rfl 4 (by decide) (hg _ kw_193) (fun _ h9 => h9) rfl hin rfl (by decide +kernel) rfl rfl (Nat.le_of_ble_eq_true rfl) dX11_init_58 (fun H locs hP hD hS => ?_)
  have hP : va_P D vwCl [(x0, .inr (11, [.ref q_5, .ref q_16, .ref q_27, .ref q_40, .ref q_47, .null, .null, .int 0, .int 0])), (q_5, .inr (2, [.ref cd_9, .int 0])), (cd_9, .inl (cI_9, 90, .inl (fun _ => 0))), (q_16, .inr (7, [.ref rw_20, .ref rc_20, .int 0, .int 0, .int 0, .int 0, .int 0])), (q_27, .inr (5, [.ref a1_31, .ref a2_31, .ref a3_31, .ref a4_31, .int 0, .int 0, .long 0])), (q_40, .inl (cA_40, 8, .inr (.inr (.inr (.inr (fun _ => none))))))] H := hP
  have hD : va_D A [(x0, .inr (11, [.ref q_5, .ref q_16, .ref q_27, .ref q_40, .ref q_47, .null, .null, .int 0, .int 0])), (q_5, .inr (2, [.ref cd_9, .int 0])), (cd_9, .inl (cI_9, 90, .inl (fun _ => 0))), (q_16, .inr (7, [.ref rw_20, .ref rc_20, .int 0, .int 0, .int 0, .int 0, .int 0])), (q_27, .inr (5, [.ref a1_31, .ref a2_31, .ref a3_31, .ref a4_31, .int 0, .int 0, .long 0])), (q_40, .inl (cA_40, 8, .inr (.inr (.inr (.inr (fun _ => none))))))] := hD
  refine lv_aload_n hx hb dX11_init_61 rfl (lv_at hl 0 rfl) ?_
  refine va_new (ci := 0) (fs := [.null, .null, .null, .null, .null, .null, .null, .null, .null, .null, .int 0, .long 0]) (C := RX0) (T := TX0) (N := 12) hx hb hg gwX0 tyX0 tyX0_ok hown (hg _ kw_194) (hg _ kw_195) (hg _ kw_196) hK hP hD hS hA rfl (by decide +kernel) (Nat.le_of_ble_eq_true rfl) (Nat.le_of_ble_eq_true rfl) dX11_init_62 (fun q_62 H hP hD hS => ?_)
  have hP : va_P D vwCl [(x0, .inr (11, [.ref q_5, .ref q_16, .ref q_27, .ref q_40, .ref q_47, .null, .null, .int 0, .int 0])), (q_5, .inr (2, [.ref cd_9, .int 0])), (cd_9, .inl (cI_9, 90, .inl (fun _ => 0))), (q_16, .inr (7, [.ref rw_20, .ref rc_20, .int 0, .int 0, .int 0, .int 0, .int 0])), (q_27, .inr (5, [.ref a1_31, .ref a2_31, .ref a3_31, .ref a4_31, .int 0, .int 0, .long 0])), (q_40, .inl (cA_40, 8, .inr (.inr (.inr (.inr (fun _ => none)))))), (q_62, .inr (0, [.null, .null, .null, .null, .null, .null, .null, .null, .null, .null, .int 0, .long 0]))] H := hP
  have hD : va_D A [(x0, .inr (11, [.ref q_5, .ref q_16, .ref q_27, .ref q_40, .ref q_47, .null, .null, .int 0, .int 0])), (q_5, .inr (2, [.ref cd_9, .int 0])), (cd_9, .inl (cI_9, 90, .inl (fun _ => 0))), (q_16, .inr (7, [.ref rw_20, .ref rc_20, .int 0, .int 0, .int 0, .int 0, .int 0])), (q_27, .inr (5, [.ref a1_31, .ref a2_31, .ref a3_31, .ref a4_31, .int 0, .int 0, .long 0])), (q_40, .inl (cA_40, 8, .inr (.inr (.inr (.inr (fun _ => none)))))), (q_62, .inr (0, [.null, .null, .null, .null, .null, .null, .null, .null, .null, .null, .int 0, .long 0]))] := hD
  refine W.cs (cells' := 26) (slots' := 728) rfl rfl ?_
  refine lv_dup hx hb dX11_init_65 rfl ?_
  refine lv_aload_n hx hb dX11_init_66 rfl (lv_at hl 0 rfl) ?_
  refine va_get (D := D) (ci := 11) (v := .ref q_27) (C := RX11) (T := TX11) (N := 9) hx hb hg gwX11 hown hK hP 0 rfl rfl 2 (by decide) (hg _ kw_7) (fun _ h9 => h9) rfl dX11_init_67 ?_
  have hPc := hP.sub (ws' := [(q_62, .inr (0, [.null, .null, .null, .null, .null, .null, .null, .null, .null, .null, .int 0, .long 0]))]) [6] rfl
  have hKc := hK.sub (tys' := []) [] rfl
  have hDc := hD.sub (ws' := [(q_62, .inr (0, [.null, .null, .null, .null, .null, .null, .null, .null, .null, .null, .int 0, .long 0]))]) [6] (by decide) rfl
  have hFc := va_free (wc := [(q_62, .inr (0, [.null, .null, .null, .null, .null, .null, .null, .null, .null, .null, .int 0, .long 0]))]) hD hS hA [6] rfl
  refine va_callv (va_runI (As := [.ref q_27]) (rest := [.ref q_62, .ref x0]) ⟨hx, hb, hml, hown, hg⟩ (i_cheapest l D q_62 q_27 _) (cwI 1 hg (gw_I kw_197) rfl rfl rfl (hg _ kw_196) (hg _ kw_198) (hg _ kw_199) rfl (by decide +kernel) ⟨Nat.le_of_ble_eq_true rfl, Nat.le_of_ble_eq_true rfl⟩) (pr_C hKc hPc hDc hN) rfl rfl hl.1 rfl (lv_room (Nat.le_of_ble_eq_true rfl)) dX11_init_70 ⟨Nat.le_of_ble_eq_true rfl, Nat.le_of_ble_eq_true rfl⟩) hS (fun q _ h => hFc q h) hFc (fun u t H1 locs ht hvm h_70 hB hz1 hk1 hS => ?_)
  obtain ⟨hP1, hK1, hD1⟩ := hB
  rw [ht] at hP1
  have hK1 := va_K.moved hvm.symm hK1
  obtain ⟨hP, hD⟩ := va_join (wr := [(x0, .inr (11, [.ref q_5, .ref q_16, .ref q_27, .ref q_40, .ref q_47, .null, .null, .int 0, .int 0])), (q_5, .inr (2, [.ref cd_9, .int 0])), (cd_9, .inl (cI_9, 90, .inl (fun _ => 0))), (q_16, .inr (7, [.ref rw_20, .ref rc_20, .int 0, .int 0, .int 0, .int 0, .int 0])), (q_27, .inr (5, [.ref a1_31, .ref a2_31, .ref a3_31, .ref a4_31, .int 0, .int 0, .long 0])), (q_40, .inl (cA_40, 8, .inr (.inr (.inr (.inr (fun _ => none))))))]) (w1 := []) hP hD [6] [0, 1, 2, 3, 4, 5] rfl rfl (by decide) (by decide) hk1 hFc hP1 hD1
  have hK := hK.app hK1
  generalize H1 = H at hP hS ⊢
  have hP : va_P D vwCl [(x0, .inr (11, [.ref q_5, .ref q_16, .ref q_27, .ref q_40, .ref q_47, .null, .null, .int 0, .int 0])), (q_5, .inr (2, [.ref cd_9, .int 0])), (cd_9, .inl (cI_9, 90, .inl (fun _ => 0))), (q_16, .inr (7, [.ref rw_20, .ref rc_20, .int 0, .int 0, .int 0, .int 0, .int 0])), (q_27, .inr (5, [.ref a1_31, .ref a2_31, .ref a3_31, .ref a4_31, .int 0, .int 0, .long 0])), (q_40, .inl (cA_40, 8, .inr (.inr (.inr (.inr (fun _ => none))))))] H := hP
  have hD : va_D A [(x0, .inr (11, [.ref q_5, .ref q_16, .ref q_27, .ref q_40, .ref q_47, .null, .null, .int 0, .int 0])), (q_5, .inr (2, [.ref cd_9, .int 0])), (cd_9, .inl (cI_9, 90, .inl (fun _ => 0))), (q_16, .inr (7, [.ref rw_20, .ref rc_20, .int 0, .int 0, .int 0, .int 0, .int 0])), (q_27, .inr (5, [.ref a1_31, .ref a2_31, .ref a3_31, .ref a4_31, .int 0, .int 0, .long 0])), (q_40, .inl (cA_40, 8, .inr (.inr (.inr (.inr (fun _ => none))))))] := hD
  have hK : va_K D vwCl [(cI_9, .int), (cA_40, .object RX3)] s := hK
  refine W.cs (cells' := 42) (slots' := 841) rfl rfl ?_
  try dsimp only at h_70
  refine va_putF (D := D) (ci := 11) (v := .ref q_62) (ty := .object "NobodyChecks$Cheapest") (C := RX11) (T := TX11) (N := 9) hx hb hg gwX11 tyX11 tyX11_ok nmX11 hown hK hP hD hS 0 rfl rfl 5 (by decide) (hg _ kw_200) (fun _ h9 => h9) rfl hin rfl (by decide +kernel) rfl rfl (Nat.le_of_ble_eq_true rfl) dX11_init_73 (fun H locs hP hD hS => ?_)
  have hP : va_P D vwCl [(x0, .inr (11, [.ref q_5, .ref q_16, .ref q_27, .ref q_40, .ref q_47, .ref q_62, .null, .int 0, .int 0])), (q_5, .inr (2, [.ref cd_9, .int 0])), (cd_9, .inl (cI_9, 90, .inl (fun _ => 0))), (q_16, .inr (7, [.ref rw_20, .ref rc_20, .int 0, .int 0, .int 0, .int 0, .int 0])), (q_27, .inr (5, [.ref a1_31, .ref a2_31, .ref a3_31, .ref a4_31, .int 0, .int 0, .long 0])), (q_40, .inl (cA_40, 8, .inr (.inr (.inr (.inr (fun _ => none))))))] H := hP
  have hD : va_D A [(x0, .inr (11, [.ref q_5, .ref q_16, .ref q_27, .ref q_40, .ref q_47, .ref q_62, .null, .int 0, .int 0])), (q_5, .inr (2, [.ref cd_9, .int 0])), (cd_9, .inl (cI_9, 90, .inl (fun _ => 0))), (q_16, .inr (7, [.ref rw_20, .ref rc_20, .int 0, .int 0, .int 0, .int 0, .int 0])), (q_27, .inr (5, [.ref a1_31, .ref a2_31, .ref a3_31, .ref a4_31, .int 0, .int 0, .long 0])), (q_40, .inl (cA_40, 8, .inr (.inr (.inr (.inr (fun _ => none))))))] := hD
  refine lv_aload_n hx hb dX11_init_76 rfl (lv_at hl 0 rfl) ?_
  refine va_new (ci := 8) (fs := [.null, .null, .int 0]) (C := RX8) (T := TX8) (N := 3) hx hb hg gwX8 tyX8 tyX8_ok hown (hg _ kw_201) (hg _ kw_202) (hg _ kw_203) hK hP hD hS hA rfl (by decide +kernel) (Nat.le_of_ble_eq_true rfl) (Nat.le_of_ble_eq_true rfl) dX11_init_77 (fun q_77 H hP hD hS => ?_)
  have hP : va_P D vwCl [(x0, .inr (11, [.ref q_5, .ref q_16, .ref q_27, .ref q_40, .ref q_47, .ref q_62, .null, .int 0, .int 0])), (q_5, .inr (2, [.ref cd_9, .int 0])), (cd_9, .inl (cI_9, 90, .inl (fun _ => 0))), (q_16, .inr (7, [.ref rw_20, .ref rc_20, .int 0, .int 0, .int 0, .int 0, .int 0])), (q_27, .inr (5, [.ref a1_31, .ref a2_31, .ref a3_31, .ref a4_31, .int 0, .int 0, .long 0])), (q_40, .inl (cA_40, 8, .inr (.inr (.inr (.inr (fun _ => none)))))), (q_77, .inr (8, [.null, .null, .int 0]))] H := hP
  have hD : va_D A [(x0, .inr (11, [.ref q_5, .ref q_16, .ref q_27, .ref q_40, .ref q_47, .ref q_62, .null, .int 0, .int 0])), (q_5, .inr (2, [.ref cd_9, .int 0])), (cd_9, .inl (cI_9, 90, .inl (fun _ => 0))), (q_16, .inr (7, [.ref rw_20, .ref rc_20, .int 0, .int 0, .int 0, .int 0, .int 0])), (q_27, .inr (5, [.ref a1_31, .ref a2_31, .ref a3_31, .ref a4_31, .int 0, .int 0, .long 0])), (q_40, .inl (cA_40, 8, .inr (.inr (.inr (.inr (fun _ => none)))))), (q_77, .inr (8, [.null, .null, .int 0]))] := hD
  refine W.cs (cells' := 43) (slots' := 844) rfl rfl ?_
  refine lv_dup hx hb dX11_init_80 rfl ?_
  have hPc := hP.sub (ws' := [(q_77, .inr (8, [.null, .null, .int 0]))]) [6] rfl
  have hKc := hK.sub (tys' := []) [] rfl
  have hDc := hD.sub (ws' := [(q_77, .inr (8, [.null, .null, .int 0]))]) [6] (by decide) rfl
  have hFc := va_free (wc := [(q_77, .inr (8, [.null, .null, .int 0]))]) hD hS hA [6] rfl
  refine va_callv (va_runIN (As := []) (rest := [.ref q_77, .ref x0]) ⟨hx, hb, hml, hown, hg⟩ (i_rows l D q_77 _) ⟨va_cnB 0 hg (gw_I kw_204) rfl rfl rfl (hN.1 (RX11, 54, yX8_init) (by decide +kernel)) (hg _ kw_203) (by decide +kernel) ⟨Nat.le_of_ble_eq_true rfl, Nat.le_of_ble_eq_true rfl⟩, rfl, hg _ kw_205⟩ (pr_C hKc hPc hDc hN) rfl rfl hl.1 rfl (lv_room (Nat.le_of_ble_eq_true rfl)) dX11_init_81 ⟨Nat.le_of_ble_eq_true rfl, Nat.le_of_ble_eq_true rfl⟩) hS (fun q _ h => hFc q h) hFc (fun u t H1 locs ht hvm h_81 hB hz1 hk1 hS => ?_)
  obtain ⟨r1_81, r2_81, hP1, hK1, hD1⟩ := hB
  rw [ht] at hP1
  have hK1 := va_K.moved hvm.symm hK1
  obtain ⟨hP, hD⟩ := va_join (wr := [(x0, .inr (11, [.ref q_5, .ref q_16, .ref q_27, .ref q_40, .ref q_47, .ref q_62, .null, .int 0, .int 0])), (q_5, .inr (2, [.ref cd_9, .int 0])), (cd_9, .inl (cI_9, 90, .inl (fun _ => 0))), (q_16, .inr (7, [.ref rw_20, .ref rc_20, .int 0, .int 0, .int 0, .int 0, .int 0])), (q_27, .inr (5, [.ref a1_31, .ref a2_31, .ref a3_31, .ref a4_31, .int 0, .int 0, .long 0])), (q_40, .inl (cA_40, 8, .inr (.inr (.inr (.inr (fun _ => none))))))]) (w1 := [(q_77, .inr (8, [.ref r1_81, .ref r2_81, .int 0]))]) hP hD [6] [0, 1, 2, 3, 4, 5] rfl rfl (by decide) (by decide) hk1 hFc hP1 hD1
  have hK := hK.app hK1
  generalize H1 = H at hP hS ⊢
  have hP : va_P D vwCl [(x0, .inr (11, [.ref q_5, .ref q_16, .ref q_27, .ref q_40, .ref q_47, .ref q_62, .null, .int 0, .int 0])), (q_5, .inr (2, [.ref cd_9, .int 0])), (cd_9, .inl (cI_9, 90, .inl (fun _ => 0))), (q_16, .inr (7, [.ref rw_20, .ref rc_20, .int 0, .int 0, .int 0, .int 0, .int 0])), (q_27, .inr (5, [.ref a1_31, .ref a2_31, .ref a3_31, .ref a4_31, .int 0, .int 0, .long 0])), (q_40, .inl (cA_40, 8, .inr (.inr (.inr (.inr (fun _ => none)))))), (q_77, .inr (8, [.ref r1_81, .ref r2_81, .int 0]))] H := hP
  have hD : va_D A [(x0, .inr (11, [.ref q_5, .ref q_16, .ref q_27, .ref q_40, .ref q_47, .ref q_62, .null, .int 0, .int 0])), (q_5, .inr (2, [.ref cd_9, .int 0])), (cd_9, .inl (cI_9, 90, .inl (fun _ => 0))), (q_16, .inr (7, [.ref rw_20, .ref rc_20, .int 0, .int 0, .int 0, .int 0, .int 0])), (q_27, .inr (5, [.ref a1_31, .ref a2_31, .ref a3_31, .ref a4_31, .int 0, .int 0, .long 0])), (q_40, .inl (cA_40, 8, .inr (.inr (.inr (.inr (fun _ => none)))))), (q_77, .inr (8, [.ref r1_81, .ref r2_81, .int 0]))] := hD
  have hK : va_K D vwCl [(cI_9, .int), (cA_40, .object RX3)] s := hK
  refine W.cs (cells' := 45) (slots' := 892) rfl rfl ?_
  try dsimp only at h_81
  refine va_putF (D := D) (ci := 11) (v := .ref q_77) (ty := .object "NobodyChecks$Rows") (C := RX11) (T := TX11) (N := 9) hx hb hg gwX11 tyX11 tyX11_ok nmX11 hown hK hP hD hS 0 rfl rfl 6 (by decide) (hg _ kw_32) (fun _ h9 => h9) rfl hin rfl (by decide +kernel) rfl rfl (Nat.le_of_ble_eq_true rfl) dX11_init_84 (fun H locs hP hD hS => ?_)
  have hP : va_P D vwCl [(x0, .inr (11, [.ref q_5, .ref q_16, .ref q_27, .ref q_40, .ref q_47, .ref q_62, .ref q_77, .int 0, .int 0])), (q_5, .inr (2, [.ref cd_9, .int 0])), (cd_9, .inl (cI_9, 90, .inl (fun _ => 0))), (q_16, .inr (7, [.ref rw_20, .ref rc_20, .int 0, .int 0, .int 0, .int 0, .int 0])), (q_27, .inr (5, [.ref a1_31, .ref a2_31, .ref a3_31, .ref a4_31, .int 0, .int 0, .long 0])), (q_40, .inl (cA_40, 8, .inr (.inr (.inr (.inr (fun _ => none)))))), (q_77, .inr (8, [.ref r1_81, .ref r2_81, .int 0]))] H := hP
  have hD : va_D A [(x0, .inr (11, [.ref q_5, .ref q_16, .ref q_27, .ref q_40, .ref q_47, .ref q_62, .ref q_77, .int 0, .int 0])), (q_5, .inr (2, [.ref cd_9, .int 0])), (cd_9, .inl (cI_9, 90, .inl (fun _ => 0))), (q_16, .inr (7, [.ref rw_20, .ref rc_20, .int 0, .int 0, .int 0, .int 0, .int 0])), (q_27, .inr (5, [.ref a1_31, .ref a2_31, .ref a3_31, .ref a4_31, .int 0, .int 0, .long 0])), (q_40, .inl (cA_40, 8, .inr (.inr (.inr (.inr (fun _ => none)))))), (q_77, .inr (8, [.ref r1_81, .ref r2_81, .int 0]))] := hD
  subst hQ
  refine W.widen (k := 45) (n := 892) (Nat.le_of_ble_eq_true rfl) (Nat.le_of_ble_eq_true rfl) ?_
  have hP9 := hP.sub (ws' := [(x0, .inr (11, [.ref q_5, .ref q_16, .ref q_27, .ref q_40, .ref q_47, .ref q_62, .ref q_77, .int 0, .int 0])), (q_5, .inr (2, [.ref cd_9, .int 0])), (cd_9, .inl (cI_9, 90, .inl (fun _ => 0))), (q_16, .inr (7, [.ref rw_20, .ref rc_20, .int 0, .int 0, .int 0, .int 0, .int 0])), (q_27, .inr (5, [.ref a1_31, .ref a2_31, .ref a3_31, .ref a4_31, .int 0, .int 0, .long 0])), (q_40, .inl (cA_40, 8, .inr (.inr (.inr (.inr (fun _ => none)))))), (q_77, .inr (8, [.ref r1_81, .ref r2_81, .int 0]))]) [0, 1, 2, 3, 4, 5, 6] rfl
  have hD9 := hD.sub (ws' := [(x0, .inr (11, [.ref q_5, .ref q_16, .ref q_27, .ref q_40, .ref q_47, .ref q_62, .ref q_77, .int 0, .int 0])), (q_5, .inr (2, [.ref cd_9, .int 0])), (cd_9, .inl (cI_9, 90, .inl (fun _ => 0))), (q_16, .inr (7, [.ref rw_20, .ref rc_20, .int 0, .int 0, .int 0, .int 0, .int 0])), (q_27, .inr (5, [.ref a1_31, .ref a2_31, .ref a3_31, .ref a4_31, .int 0, .int 0, .long 0])), (q_40, .inl (cA_40, 8, .inr (.inr (.inr (.inr (fun _ => none)))))), (q_77, .inr (8, [.ref r1_81, .ref r2_81, .int 0]))]) [0, 1, 2, 3, 4, 5, 6] (by decide) rfl
  have hK9 := hK.sub (tys' := [(cI_9, .int), (cA_40, .object RX3)]) [0, 1] rfl
  exact W.vret hx hb hr (fun t ht hW => ⟨⟨(), rfl, trivial, ⟨q_5, q_16, q_27, q_40, q_47, q_62, q_77, cd_9, rw_20, rc_20, a1_31, a2_31, a3_31, a4_31, r1_81, r2_81, cI_9, cA_40, by rw [ht]; exact hP9, va_K.moved hW.alike hK9, hD9⟩⟩, hS.F ht⟩) hS.2.2 dX11_init_87
end
section
theorem dX12_isPerson_0 : decode cX12_isPerson 0 = .ok (.iload_n 1, 1) := by decide +kernel
theorem dX12_isPerson_1 : decode cX12_isPerson 1 = .ok (.i2l, 1) := by decide +kernel
theorem dX12_isPerson_2 : decode cX12_isPerson 2 = .ok (.lconst 0, 1) := by decide +kernel
theorem dX12_isPerson_3 : decode cX12_isPerson 3 = .ok (.aload_n 0, 1) := by decide +kernel
theorem dX12_isPerson_4 : decode cX12_isPerson 4 = .ok (.getfield 57, 3) := by decide +kernel
theorem dX12_isPerson_7 : decode cX12_isPerson 7 = .ok (.iconst 1, 1) := by decide +kernel
theorem dX12_isPerson_8 : decode cX12_isPerson 8 = .ok (.isub, 1) := by decide +kernel
theorem dX12_isPerson_9 : decode cX12_isPerson 9 = .ok (.i2l, 1) := by decide +kernel
theorem dX12_isPerson_10 : decode cX12_isPerson 10 = .ok (.invokestatic 70, 3) := by decide +kernel
theorem dX12_isPerson_13 : decode cX12_isPerson 13 = .ok (.ireturn, 1) := by decide +kernel
theorem kw_206 : (.fieldLink RX12 57 "NobodyChecksModel" "persons" "I" : Cond) ∈ gw_tbl := gw_in (by decide +kernel) (by decide +kernel)
theorem kw_207 : (.code yX12_in cX12_in 6 (some .boolean) : Cond) ∈ gw_tbl := gw_in (by decide +kernel) (by decide +kernel)
theorem kw_208 : (.methodLink RX12 70 yX12_in : Cond) ∈ gw_tbl := gw_in (by decide +kernel) (by decide +kernel)
theorem kw_209 : (.static yX12_in : Cond) ∈ gw_tbl := gw_in (by decide +kernel) (by decide +kernel)
theorem kw_210 : (.initialized RX12 : Cond) ∈ gw_tbl := gw_in (by decide +kernel) (by decide +kernel)

set_option maxHeartbeats 4000000 in
set_option maxRecDepth 100000 in
theorem m_isPerson (l : Launch) (D : va_G) (m0 : Nat) (mp : Nat) (mw : Nat) (mh : Nat) (mo : Nat) (m5 : Nat) (m6 : Nat) (m7 : Nat) (mk : Nat) (mn : Nat) (mq : Nat) (m8 : Nat) (m9 : Nat) (ma : Nat) (mb : Nat) (md : Nat) (v : Int32) : Met l yX12_isPerson (Cond.code yX12_isPerson cX12_isPerson 2 (some .boolean) :: gw_tbl) ({ frames := 1, cells := 0, slots := 0, locals := 25 }) (pc_S D [] [(m0, .inr (12, [.ref mp, .int 0, .int 0, .int 0, .ref mw, .ref mh, .ref mo, .int 0, .int 0, .int 0, .int 0, .int 0, .int 0, .ref m5, .ref m6, .ref m7, .long 0, .int 0, .ref mk, .ref mn, .int 0, .ref mq, .ref m8, .ref m9, .int 0, .int 0, .int 0, .int 0, .ref ma, .int 0, .ref mb, .ref md, .long 0]))] [.ref m0, .int v]) (vp_Si (fun r => r = 0)) 0 0 (fun _ => False) := by
  refine Met.ofW (cc := cX12_isPerson) (maxL := 2) (ret := (some .boolean)) (by decide) rfl ?_
  intro p e s m args below meth c s₁ B hml hv
  obtain ⟨hargs, hP, hK⟩ := hv
  have hx := B.exec
  have hb := B.bytes
  have hr := B.returns
  have hts := atoms_spec (ws := Cond.code yX12_isPerson cX12_isPerson 2 (some .boolean) :: gw_tbl) B.pre
  have hg := fun (w : Cond) (h : w ∈ gw_tbl) => hts w (List.mem_cons_of_mem _ h)
  have hown : s.vm.findClass RX12 = some m.cls := findClass_of_methodNamed B.named
  have hlocks := B.notSynchronized
  have hl := lv_entry ([.ref m0, .int v]) (n := 2) (Nat.le_of_ble_eq_true rfl)
  rw [show entryFrame m args 2 = F0 m 0 (lg_sl ([.ref m0, .int v]) ++ List.replicate (2 - (lg_sl ([.ref m0, .int v])).length) Slot.unset).toArray [] from by rw [hargs]; exact lg_entry_eq ..]
  generalize (lg_sl ([.ref m0, .int v]) ++ List.replicate (2 - (lg_sl ([.ref m0, .int v])).length) Slot.unset).toArray = ls at hl ⊢
  have hl : lv_has ls 2 [(0, .ref m0), (1, .int v)] := hl
  refine W_genQ (fun Q hQ => ?_)
  refine lv_iload_n hx hb dX12_isPerson_0 rfl (lv_at hl 1 rfl) ?_
  refine lv_i2l hx hb dX12_isPerson_1 rfl ?_
  refine lv_topl (fun z_1 e_1 => ?_)
  refine lv_lconst (v := 0) hx hb dX12_isPerson_2 (by decide) ?_
  refine lv_aload_n hx hb dX12_isPerson_3 rfl (lv_at hl 0 rfl) ?_
  refine va_get (D := D) (ci := 12) (v := .int 0) (C := RX12) (T := TX12) (N := 33) hx hb hg gwX12 hown hK hP 0 rfl rfl 3 (by decide) (hg _ kw_206) (fun _ h9 => h9) rfl dX12_isPerson_4 ?_
  refine lv_iconst (v := 1) hx hb dX12_isPerson_7 (by decide) ?_
  refine lv_isub hx hb dX12_isPerson_8 ?_
  refine lv_topi (fun z_8 e_8 => ?_)
  obtain rfl : z_8 = ((-1) : Int32) := e_8.trans (by decide)
  refine lv_i2l hx hb dX12_isPerson_9 rfl ?_
  refine lv_topl (fun z_9 e_9 => ?_)
  obtain rfl : z_9 = ((-1) : Int64) := e_9.trans (by decide)
  refine vp_callSi (W.runS (As := [.long z_1, .long 0, .long (-1)]) (rest := []) ⟨hx, hb, hml, hown, hg⟩ (c_in l z_1 0 (-1)) (va_cwS 3 hg (gw_S kw_208 kw_209 kw_210 kw_207) rfl rfl rfl (by decide +kernel) ⟨Nat.le_of_ble_eq_true rfl, Nat.le_of_ble_eq_true rfl⟩) pr_0 rfl rfl hl.1 rfl (lv_room (Nat.le_of_ble_eq_true rfl)) dX12_isPerson_10 ⟨Nat.le_of_ble_eq_true rfl, Nat.le_of_ble_eq_true rfl⟩) (fun r_10 h_10 => ?_)
  obtain rfl : r_10 = (0 : Int32) := h_10.trans (il_no (by decide))
  subst hQ
  exact W.zret (v := 0) hx hb hr (by decide) (fun t ht hW => ⟨0, rfl, rfl, ht⟩) (fun _ h => absurd h List.not_mem_nil) dX12_isPerson_13

theorem dX12_isPay_0 : decode cX12_isPay 0 = .ok (.iload_n 1, 1) := by decide +kernel
theorem dX12_isPay_1 : decode cX12_isPay 1 = .ok (.i2l, 1) := by decide +kernel
theorem dX12_isPay_2 : decode cX12_isPay 2 = .ok (.lconst 0, 1) := by decide +kernel
theorem dX12_isPay_3 : decode cX12_isPay 3 = .ok (.aload_n 0, 1) := by decide +kernel
theorem dX12_isPay_4 : decode cX12_isPay 4 = .ok (.getfield 139, 3) := by decide +kernel
theorem dX12_isPay_7 : decode cX12_isPay 7 = .ok (.iconst 1, 1) := by decide +kernel
theorem dX12_isPay_8 : decode cX12_isPay 8 = .ok (.isub, 1) := by decide +kernel
theorem dX12_isPay_9 : decode cX12_isPay 9 = .ok (.i2l, 1) := by decide +kernel
theorem dX12_isPay_10 : decode cX12_isPay 10 = .ok (.invokestatic 70, 3) := by decide +kernel
theorem dX12_isPay_13 : decode cX12_isPay 13 = .ok (.ireturn, 1) := by decide +kernel
theorem kw_211 : (.fieldLink RX12 139 "NobodyChecksModel" "pays" "I" : Cond) ∈ gw_tbl := gw_in (by decide +kernel) (by decide +kernel)

set_option maxHeartbeats 4000000 in
set_option maxRecDepth 100000 in
theorem m_isPay (l : Launch) (D : va_G) (m0 : Nat) (mp : Nat) (mw : Nat) (mh : Nat) (mo : Nat) (m5 : Nat) (m6 : Nat) (m7 : Nat) (mk : Nat) (mn : Nat) (mq : Nat) (m8 : Nat) (m9 : Nat) (ma : Nat) (mb : Nat) (md : Nat) (v : Int32) : Met l yX12_isPay (Cond.code yX12_isPay cX12_isPay 2 (some .boolean) :: gw_tbl) ({ frames := 1, cells := 0, slots := 0, locals := 25 }) (pc_S D [] [(m0, .inr (12, [.ref mp, .int 0, .int 0, .int 0, .ref mw, .ref mh, .ref mo, .int 0, .int 0, .int 0, .int 0, .int 0, .int 0, .ref m5, .ref m6, .ref m7, .long 0, .int 0, .ref mk, .ref mn, .int 0, .ref mq, .ref m8, .ref m9, .int 0, .int 0, .int 0, .int 0, .ref ma, .int 0, .ref mb, .ref md, .long 0]))] [.ref m0, .int v]) (vp_Si (fun r => r = 0)) 0 0 (fun _ => False) := by
  refine Met.ofW (cc := cX12_isPay) (maxL := 2) (ret := (some .boolean)) (by decide) rfl ?_
  intro p e s m args below meth c s₁ B hml hv
  obtain ⟨hargs, hP, hK⟩ := hv
  have hx := B.exec
  have hb := B.bytes
  have hr := B.returns
  have hts := atoms_spec (ws := Cond.code yX12_isPay cX12_isPay 2 (some .boolean) :: gw_tbl) B.pre
  have hg := fun (w : Cond) (h : w ∈ gw_tbl) => hts w (List.mem_cons_of_mem _ h)
  have hown : s.vm.findClass RX12 = some m.cls := findClass_of_methodNamed B.named
  have hlocks := B.notSynchronized
  have hl := lv_entry ([.ref m0, .int v]) (n := 2) (Nat.le_of_ble_eq_true rfl)
  rw [show entryFrame m args 2 = F0 m 0 (lg_sl ([.ref m0, .int v]) ++ List.replicate (2 - (lg_sl ([.ref m0, .int v])).length) Slot.unset).toArray [] from by rw [hargs]; exact lg_entry_eq ..]
  generalize (lg_sl ([.ref m0, .int v]) ++ List.replicate (2 - (lg_sl ([.ref m0, .int v])).length) Slot.unset).toArray = ls at hl ⊢
  have hl : lv_has ls 2 [(0, .ref m0), (1, .int v)] := hl
  refine W_genQ (fun Q hQ => ?_)
  refine lv_iload_n hx hb dX12_isPay_0 rfl (lv_at hl 1 rfl) ?_
  refine lv_i2l hx hb dX12_isPay_1 rfl ?_
  refine lv_topl (fun z_1 e_1 => ?_)
  refine lv_lconst (v := 0) hx hb dX12_isPay_2 (by decide) ?_
  refine lv_aload_n hx hb dX12_isPay_3 rfl (lv_at hl 0 rfl) ?_
  refine va_get (D := D) (ci := 12) (v := .int 0) (C := RX12) (T := TX12) (N := 33) hx hb hg gwX12 hown hK hP 0 rfl rfl 17 (by decide) (hg _ kw_211) (fun _ h9 => h9) rfl dX12_isPay_4 ?_
  refine lv_iconst (v := 1) hx hb dX12_isPay_7 (by decide) ?_
  refine lv_isub hx hb dX12_isPay_8 ?_
  refine lv_topi (fun z_8 e_8 => ?_)
  obtain rfl : z_8 = ((-1) : Int32) := e_8.trans (by decide)
  refine lv_i2l hx hb dX12_isPay_9 rfl ?_
  refine lv_topl (fun z_9 e_9 => ?_)
  obtain rfl : z_9 = ((-1) : Int64) := e_9.trans (by decide)
  refine vp_callSi (W.runS (As := [.long z_1, .long 0, .long (-1)]) (rest := []) ⟨hx, hb, hml, hown, hg⟩ (c_in l z_1 0 (-1)) (va_cwS 3 hg (gw_S kw_208 kw_209 kw_210 kw_207) rfl rfl rfl (by decide +kernel) ⟨Nat.le_of_ble_eq_true rfl, Nat.le_of_ble_eq_true rfl⟩) pr_0 rfl rfl hl.1 rfl (lv_room (Nat.le_of_ble_eq_true rfl)) dX12_isPay_10 ⟨Nat.le_of_ble_eq_true rfl, Nat.le_of_ble_eq_true rfl⟩) (fun r_10 h_10 => ?_)
  obtain rfl : r_10 = (0 : Int32) := h_10.trans (il_no (by decide))
  subst hQ
  exact W.zret (v := 0) hx hb hr (by decide) (fun t ht hW => ⟨0, rfl, rfl, ht⟩) (fun _ h => absurd h List.not_mem_nil) dX12_isPay_13

theorem dX12_refusal_0 : decode cX12_refusal 0 = .ok (.aload_n 0, 1) := by decide +kernel
theorem dX12_refusal_1 : decode cX12_refusal 1 = .ok (.iload_n 1, 1) := by decide +kernel
theorem dX12_refusal_2 : decode cX12_refusal 2 = .ok (.invokevirtual 142, 3) := by decide +kernel
theorem dX12_refusal_5 : decode cX12_refusal 5 = .ok (.ifCond .ne 6, 3) := by decide +kernel
theorem dX12_refusal_8 : decode cX12_refusal 8 = .ok (.bipush (-101), 2) := by decide +kernel
theorem dX12_refusal_10 : decode cX12_refusal 10 = .ok (.ireturn, 1) := by decide +kernel
theorem dX12_refusal_11 : decode cX12_refusal 11 = .ok (.aload_n 0, 1) := by decide +kernel
theorem dX12_refusal_12 : decode cX12_refusal 12 = .ok (.getfield 57, 3) := by decide +kernel
theorem dX12_refusal_15 : decode cX12_refusal 15 = .ok (.ifCond .ne 6, 3) := by decide +kernel
theorem dX12_refusal_18 : decode cX12_refusal 18 = .ok (.bipush (-103), 2) := by decide +kernel
theorem dX12_refusal_20 : decode cX12_refusal 20 = .ok (.ireturn, 1) := by decide +kernel
theorem dX12_refusal_21 : decode cX12_refusal 21 = .ok (.iload_n 2, 1) := by decide +kernel
theorem dX12_refusal_22 : decode cX12_refusal 22 = .ok (.i2l, 1) := by decide +kernel
theorem dX12_refusal_23 : decode cX12_refusal 23 = .ok (.lconst 0, 1) := by decide +kernel
theorem dX12_refusal_24 : decode cX12_refusal 24 = .ok (.aload_n 0, 1) := by decide +kernel
theorem dX12_refusal_25 : decode cX12_refusal 25 = .ok (.invokevirtual 172, 3) := by decide +kernel
theorem dX12_refusal_28 : decode cX12_refusal 28 = .ok (.iconst 1, 1) := by decide +kernel
theorem dX12_refusal_29 : decode cX12_refusal 29 = .ok (.isub, 1) := by decide +kernel
theorem dX12_refusal_30 : decode cX12_refusal 30 = .ok (.i2l, 1) := by decide +kernel
theorem dX12_refusal_31 : decode cX12_refusal 31 = .ok (.invokestatic 70, 3) := by decide +kernel
theorem dX12_refusal_34 : decode cX12_refusal 34 = .ok (.ifCond .eq 11, 3) := by decide +kernel
theorem dX12_refusal_37 : decode cX12_refusal 37 = .ok (.iload_n 3, 1) := by decide +kernel
theorem dX12_refusal_38 : decode cX12_refusal 38 = .ok (.ifCond .eq 7, 3) := by decide +kernel
theorem dX12_refusal_41 : decode cX12_refusal 41 = .ok (.iconst 0, 1) := by decide +kernel
theorem dX12_refusal_42 : decode cX12_refusal 42 = .ok (.goto 5, 3) := by decide +kernel
theorem dX12_refusal_45 : decode cX12_refusal 45 = .ok (.bipush (-102), 2) := by decide +kernel
theorem dX12_refusal_47 : decode cX12_refusal 47 = .ok (.ireturn, 1) := by decide +kernel
theorem kw_212 : (.code yX12_isPay cX12_isPay 2 (some .boolean) : Cond) ∈ gw_tbl := gw_in (by decide +kernel) (by decide +kernel)
theorem kw_213 : (.methodLink RX12 142 yX12_isPay : Cond) ∈ gw_tbl := gw_in (by decide +kernel) (by decide +kernel)
theorem kw_214 : (.instanceMethod yX12_isPay : Cond) ∈ gw_tbl := gw_in (by decide +kernel) (by decide +kernel)
theorem kw_215 : (.selects RX12 yX12_isPay yX12_isPay : Cond) ∈ gw_tbl := gw_in (by decide +kernel) (by decide +kernel)

set_option maxHeartbeats 4000000 in
set_option maxRecDepth 100000 in
theorem m_refusal (l : Launch) (D : va_G) (m0 : Nat) (mp : Nat) (mw : Nat) (mh : Nat) (mo : Nat) (m5 : Nat) (m6 : Nat) (m7 : Nat) (mk : Nat) (mn : Nat) (mq : Nat) (m8 : Nat) (m9 : Nat) (ma : Nat) (mb : Nat) (md : Nat) (p1 : Int32) (p2 : Int32) (p3 : Int32) : Met l yX12_refusal (Cond.code yX12_refusal cX12_refusal 4 (some .int) :: gw_tbl) ({ frames := 2, cells := 0, slots := 0, locals := 46 }) (pc_S D [] [(m0, .inr (12, [.ref mp, .int 0, .int 0, .int 0, .ref mw, .ref mh, .ref mo, .int 0, .int 0, .int 0, .int 0, .int 0, .int 0, .ref m5, .ref m6, .ref m7, .long 0, .int 0, .ref mk, .ref mn, .int 0, .ref mq, .ref m8, .ref m9, .int 0, .int 0, .int 0, .int 0, .ref ma, .int 0, .ref mb, .ref md, .long 0]))] [.ref m0, .int p1, .int p2, .int p3]) (vp_Si (fun r => r = -101)) 0 0 (fun _ => False) := by
  refine Met.ofW (cc := cX12_refusal) (maxL := 4) (ret := (some .int)) (by decide) rfl ?_
  intro p e s m args below meth c s₁ B hml hv
  obtain ⟨hargs, hP, hK⟩ := hv
  have hx := B.exec
  have hb := B.bytes
  have hr := B.returns
  have hts := atoms_spec (ws := Cond.code yX12_refusal cX12_refusal 4 (some .int) :: gw_tbl) B.pre
  have hg := fun (w : Cond) (h : w ∈ gw_tbl) => hts w (List.mem_cons_of_mem _ h)
  have hown : s.vm.findClass RX12 = some m.cls := findClass_of_methodNamed B.named
  have hlocks := B.notSynchronized
  have hl := lv_entry ([.ref m0, .int p1, .int p2, .int p3]) (n := 4) (Nat.le_of_ble_eq_true rfl)
  rw [show entryFrame m args 4 = F0 m 0 (lg_sl ([.ref m0, .int p1, .int p2, .int p3]) ++ List.replicate (4 - (lg_sl ([.ref m0, .int p1, .int p2, .int p3])).length) Slot.unset).toArray [] from by rw [hargs]; exact lg_entry_eq ..]
  generalize (lg_sl ([.ref m0, .int p1, .int p2, .int p3]) ++ List.replicate (4 - (lg_sl ([.ref m0, .int p1, .int p2, .int p3])).length) Slot.unset).toArray = ls at hl ⊢
  have hl : lv_has ls 4 [(0, .ref m0), (1, .int p1), (2, .int p2), (3, .int p3)] := hl
  refine W_genQ (fun Q hQ => ?_)
  refine lv_aload_n hx hb dX12_refusal_0 rfl (lv_at hl 0 rfl) ?_
  refine lv_iload_n hx hb dX12_refusal_1 rfl (lv_at hl 1 rfl) ?_
  have hPc := hP.sub (ws' := [(m0, .inr (12, [.ref mp, .int 0, .int 0, .int 0, .ref mw, .ref mh, .ref mo, .int 0, .int 0, .int 0, .int 0, .int 0, .int 0, .ref m5, .ref m6, .ref m7, .long 0, .int 0, .ref mk, .ref mn, .int 0, .ref mq, .ref m8, .ref m9, .int 0, .int 0, .int 0, .int 0, .ref ma, .int 0, .ref mb, .ref md, .long 0]))]) [0] rfl
  have hKc := hK.sub (tys' := []) [] rfl
  refine vp_callSi (W.runV (As := [.int p1]) (rest := []) ⟨hx, hb, hml, hown, hg⟩ (m_isPay l D m0 mp mw mh mo m5 m6 m7 mk mn mq m8 m9 ma mb md p1) (cwV 1 hg (gw_V kw_213 kw_214 kw_215 kw_210 kw_212) rfl rfl rfl (by decide +kernel) ⟨Nat.le_of_ble_eq_true rfl, Nat.le_of_ble_eq_true rfl⟩) (pr_SV (q := (RX12, TX12, 33)) 12 0 hKc hPc rfl rfl) rfl rfl hl.1 rfl (lv_room (Nat.le_of_ble_eq_true rfl)) dX12_refusal_2 ⟨Nat.le_of_ble_eq_true rfl, Nat.le_of_ble_eq_true rfl⟩) (fun r_2 h_2 => ?_)
  obtain rfl : r_2 = (0 : Int32) := h_2
  refine lv_if_ne (tgt := 11) hx hb dX12_refusal_5 (by decide) (fun c_5 => absurd c_5 (by decide)) (fun c_5 => ?_)
  refine lv_bipush (v := (-101)) hx hb dX12_refusal_8 (by decide) ?_
  subst hQ
  exact W.iret (v := (-101)) hx hb hr (fun t ht hW => ⟨(-101), rfl, rfl, ht⟩) (fun _ h => absurd h List.not_mem_nil) dX12_refusal_10

theorem dX12_chance_0 : decode cX12_chance 0 = .ok (.iload_n 1, 1) := by decide +kernel
theorem dX12_chance_1 : decode cX12_chance 1 = .ok (.i2l, 1) := by decide +kernel
theorem dX12_chance_2 : decode cX12_chance 2 = .ok (.lconst 0, 1) := by decide +kernel
theorem dX12_chance_3 : decode cX12_chance 3 = .ok (.aload_n 0, 1) := by decide +kernel
theorem dX12_chance_4 : decode cX12_chance 4 = .ok (.getfield 103, 3) := by decide +kernel
theorem dX12_chance_7 : decode cX12_chance 7 = .ok (.iconst 1, 1) := by decide +kernel
theorem dX12_chance_8 : decode cX12_chance 8 = .ok (.isub, 1) := by decide +kernel
theorem dX12_chance_9 : decode cX12_chance 9 = .ok (.i2l, 1) := by decide +kernel
theorem dX12_chance_10 : decode cX12_chance 10 = .ok (.invokestatic 70, 3) := by decide +kernel
theorem dX12_chance_13 : decode cX12_chance 13 = .ok (.ifCond .eq 16, 3) := by decide +kernel
theorem dX12_chance_16 : decode cX12_chance 16 = .ok (.iload_n 2, 1) := by decide +kernel
theorem dX12_chance_17 : decode cX12_chance 17 = .ok (.iconst (-1), 1) := by decide +kernel
theorem dX12_chance_18 : decode cX12_chance 18 = .ok (.if_icmp .eq 14, 3) := by decide +kernel
theorem dX12_chance_21 : decode cX12_chance 21 = .ok (.aload_n 0, 1) := by decide +kernel
theorem dX12_chance_22 : decode cX12_chance 22 = .ok (.iload_n 2, 1) := by decide +kernel
theorem dX12_chance_23 : decode cX12_chance 23 = .ok (.invokevirtual 112, 3) := by decide +kernel
theorem dX12_chance_26 : decode cX12_chance 26 = .ok (.ifCond .ne 6, 3) := by decide +kernel
theorem dX12_chance_29 : decode cX12_chance 29 = .ok (.bipush (-101), 2) := by decide +kernel
theorem dX12_chance_31 : decode cX12_chance 31 = .ok (.ireturn, 1) := by decide +kernel
theorem dX12_chance_32 : decode cX12_chance 32 = .ok (.iload_n 2, 1) := by decide +kernel
theorem dX12_chance_33 : decode cX12_chance 33 = .ok (.iconst (-1), 1) := by decide +kernel
theorem dX12_chance_34 : decode cX12_chance 34 = .ok (.if_icmp .ne 12, 3) := by decide +kernel
theorem dX12_chance_37 : decode cX12_chance 37 = .ok (.aload_n 0, 1) := by decide +kernel
theorem dX12_chance_38 : decode cX12_chance 38 = .ok (.getfield 13, 3) := by decide +kernel
theorem dX12_chance_41 : decode cX12_chance 41 = .ok (.iload_n 1, 1) := by decide +kernel
theorem dX12_chance_42 : decode cX12_chance 42 = .ok (.iaload, 1) := by decide +kernel
theorem dX12_chance_43 : decode cX12_chance 43 = .ok (.goto 13, 3) := by decide +kernel
theorem dX12_chance_46 : decode cX12_chance 46 = .ok (.aload_n 0, 1) := by decide +kernel
theorem dX12_chance_47 : decode cX12_chance 47 = .ok (.getfield 16, 3) := by decide +kernel
theorem dX12_chance_50 : decode cX12_chance 50 = .ok (.iconst 4, 1) := by decide +kernel
theorem dX12_chance_51 : decode cX12_chance 51 = .ok (.iload_n 1, 1) := by decide +kernel
theorem dX12_chance_52 : decode cX12_chance 52 = .ok (.imul, 1) := by decide +kernel
theorem dX12_chance_53 : decode cX12_chance 53 = .ok (.iload_n 2, 1) := by decide +kernel
theorem dX12_chance_54 : decode cX12_chance 54 = .ok (.iadd, 1) := by decide +kernel
theorem dX12_chance_55 : decode cX12_chance 55 = .ok (.iaload, 1) := by decide +kernel
theorem dX12_chance_56 : decode cX12_chance 56 = .ok (.ireturn, 1) := by decide +kernel
theorem kw_216 : (.fieldLink RX12 103 "NobodyChecksModel" "cases" "I" : Cond) ∈ gw_tbl := gw_in (by decide +kernel) (by decide +kernel)

set_option maxHeartbeats 4000000 in
set_option maxRecDepth 100000 in
theorem m_chance (l : Launch) (D : va_G) (m0 : Nat) (mp : Nat) (mw : Nat) (mh : Nat) (mo : Nat) (m5 : Nat) (m6 : Nat) (m7 : Nat) (mk : Nat) (mn : Nat) (mq : Nat) (m8 : Nat) (m9 : Nat) (ma : Nat) (mb : Nat) (md : Nat) (p1 : Int32) (p2 : Int32) : Met l yX12_chance (Cond.code yX12_chance cX12_chance 3 (some .int) :: gw_tbl) ({ frames := 1, cells := 0, slots := 0, locals := 25 }) (pc_S D [] [(m0, .inr (12, [.ref mp, .int 0, .int 0, .int 0, .ref mw, .ref mh, .ref mo, .int 0, .int 0, .int 0, .int 0, .int 0, .int 0, .ref m5, .ref m6, .ref m7, .long 0, .int 0, .ref mk, .ref mn, .int 0, .ref mq, .ref m8, .ref m9, .int 0, .int 0, .int 0, .int 0, .ref ma, .int 0, .ref mb, .ref md, .long 0]))] [.ref m0, .int p1, .int p2]) (vp_Si (fun r => r = (-101))) 0 0 (fun _ => False) := by
  refine Met.ofW (cc := cX12_chance) (maxL := 3) (ret := (some .int)) (by decide) rfl ?_
  intro p e s m args below meth c s₁ B hml hv
  obtain ⟨hargs, hP, hK⟩ := hv
  have hx := B.exec
  have hb := B.bytes
  have hr := B.returns
  have hts := atoms_spec (ws := Cond.code yX12_chance cX12_chance 3 (some .int) :: gw_tbl) B.pre
  have hg := fun (w : Cond) (h : w ∈ gw_tbl) => hts w (List.mem_cons_of_mem _ h)
  have hown : s.vm.findClass RX12 = some m.cls := findClass_of_methodNamed B.named
  have hlocks := B.notSynchronized
  have hl := lv_entry ([.ref m0, .int p1, .int p2]) (n := 3) (Nat.le_of_ble_eq_true rfl)
  rw [show entryFrame m args 3 = F0 m 0 (lg_sl ([.ref m0, .int p1, .int p2]) ++ List.replicate (3 - (lg_sl ([.ref m0, .int p1, .int p2])).length) Slot.unset).toArray [] from by rw [hargs]; exact lg_entry_eq ..]
  generalize (lg_sl ([.ref m0, .int p1, .int p2]) ++ List.replicate (3 - (lg_sl ([.ref m0, .int p1, .int p2])).length) Slot.unset).toArray = ls at hl ⊢
  have hl : lv_has ls 3 [(0, .ref m0), (1, .int p1), (2, .int p2)] := hl
  refine W_genQ (fun Q hQ => ?_)
  refine lv_iload_n hx hb dX12_chance_0 rfl (lv_at hl 1 rfl) ?_
  refine lv_i2l hx hb dX12_chance_1 rfl ?_
  refine lv_topl (fun z_1 e_1 => ?_)
  refine lv_lconst (v := 0) hx hb dX12_chance_2 (by decide) ?_
  refine lv_aload_n hx hb dX12_chance_3 rfl (lv_at hl 0 rfl) ?_
  refine va_get (D := D) (ci := 12) (v := .int 0) (C := RX12) (T := TX12) (N := 33) hx hb hg gwX12 hown hK hP 0 rfl rfl 2 (by decide) (hg _ kw_216) (fun _ h9 => h9) rfl dX12_chance_4 ?_
  refine lv_iconst (v := 1) hx hb dX12_chance_7 (by decide) ?_
  refine lv_isub hx hb dX12_chance_8 ?_
  refine lv_topi (fun z_8 e_8 => ?_)
  obtain rfl : z_8 = ((-1) : Int32) := e_8.trans (by decide)
  refine lv_i2l hx hb dX12_chance_9 rfl ?_
  refine lv_topl (fun z_9 e_9 => ?_)
  obtain rfl : z_9 = ((-1) : Int64) := e_9.trans (by decide)
  refine vp_callSi (W.runS (As := [.long z_1, .long 0, .long (-1)]) (rest := []) ⟨hx, hb, hml, hown, hg⟩ (c_in l z_1 0 (-1)) (va_cwS 3 hg (gw_S kw_208 kw_209 kw_210 kw_207) rfl rfl rfl (by decide +kernel) ⟨Nat.le_of_ble_eq_true rfl, Nat.le_of_ble_eq_true rfl⟩) pr_0 rfl rfl hl.1 rfl (lv_room (Nat.le_of_ble_eq_true rfl)) dX12_chance_10 ⟨Nat.le_of_ble_eq_true rfl, Nat.le_of_ble_eq_true rfl⟩) (fun r_10 h_10 => ?_)
  obtain rfl : r_10 = (0 : Int32) := h_10.trans (il_no (by decide))
  refine lv_if_eq (tgt := 29) hx hb dX12_chance_13 (by decide) (fun c_13 => ?_) (fun c_13 => absurd (by decide) c_13)
  refine lv_bipush (v := (-101)) hx hb dX12_chance_29 (by decide) ?_
  subst hQ
  exact W.iret (v := (-101)) hx hb hr (fun t ht hW => ⟨(-101), rfl, rfl, ht⟩) (fun _ h => absurd h List.not_mem_nil) dX12_chance_31

theorem dX12_cost_0 : decode cX12_cost 0 = .ok (.aload_n 0, 1) := by decide +kernel
theorem dX12_cost_1 : decode cX12_cost 1 = .ok (.iload_n 1, 1) := by decide +kernel
theorem dX12_cost_2 : decode cX12_cost 2 = .ok (.invokevirtual 112, 3) := by decide +kernel
theorem dX12_cost_5 : decode cX12_cost 5 = .ok (.ifCond .ne 6, 3) := by decide +kernel
theorem dX12_cost_8 : decode cX12_cost 8 = .ok (.bipush (-101), 2) := by decide +kernel
theorem dX12_cost_10 : decode cX12_cost 10 = .ok (.ireturn, 1) := by decide +kernel
theorem dX12_cost_11 : decode cX12_cost 11 = .ok (.iload_n 2, 1) := by decide +kernel
theorem dX12_cost_12 : decode cX12_cost 12 = .ok (.i2l, 1) := by decide +kernel
theorem dX12_cost_13 : decode cX12_cost 13 = .ok (.lconst 0, 1) := by decide +kernel
theorem dX12_cost_14 : decode cX12_cost 14 = .ok (.ldc2_w 115, 3) := by decide +kernel
theorem dX12_cost_17 : decode cX12_cost 17 = .ok (.invokestatic 70, 3) := by decide +kernel
theorem dX12_cost_20 : decode cX12_cost 20 = .ok (.ifCond .ne 6, 3) := by decide +kernel
theorem dX12_cost_23 : decode cX12_cost 23 = .ok (.bipush (-102), 2) := by decide +kernel
theorem dX12_cost_25 : decode cX12_cost 25 = .ok (.ireturn, 1) := by decide +kernel
theorem dX12_cost_26 : decode cX12_cost 26 = .ok (.aload_n 0, 1) := by decide +kernel
theorem dX12_cost_27 : decode cX12_cost 27 = .ok (.getfield 19, 3) := by decide +kernel
theorem dX12_cost_30 : decode cX12_cost 30 = .ok (.iload_n 1, 1) := by decide +kernel
theorem dX12_cost_31 : decode cX12_cost 31 = .ok (.iaload, 1) := by decide +kernel
theorem dX12_cost_32 : decode cX12_cost 32 = .ok (.istore_n 3, 1) := by decide +kernel
theorem dX12_cost_33 : decode cX12_cost 33 = .ok (.aload_n 0, 1) := by decide +kernel
theorem dX12_cost_34 : decode cX12_cost 34 = .ok (.getfield 19, 3) := by decide +kernel
theorem dX12_cost_37 : decode cX12_cost 37 = .ok (.iload_n 1, 1) := by decide +kernel
theorem dX12_cost_38 : decode cX12_cost 38 = .ok (.iload_n 2, 1) := by decide +kernel
theorem dX12_cost_39 : decode cX12_cost 39 = .ok (.iastore, 1) := by decide +kernel
theorem dX12_cost_40 : decode cX12_cost 40 = .ok (.iload_n 3, 1) := by decide +kernel
theorem dX12_cost_41 : decode cX12_cost 41 = .ok (.ireturn, 1) := by decide +kernel
theorem kw_217 : (.code yX12_isPerson cX12_isPerson 2 (some .boolean) : Cond) ∈ gw_tbl := gw_in (by decide +kernel) (by decide +kernel)
theorem kw_218 : (.methodLink RX12 112 yX12_isPerson : Cond) ∈ gw_tbl := gw_in (by decide +kernel) (by decide +kernel)
theorem kw_219 : (.instanceMethod yX12_isPerson : Cond) ∈ gw_tbl := gw_in (by decide +kernel) (by decide +kernel)
theorem kw_220 : (.selects RX12 yX12_isPerson yX12_isPerson : Cond) ∈ gw_tbl := gw_in (by decide +kernel) (by decide +kernel)

set_option maxHeartbeats 4000000 in
set_option maxRecDepth 100000 in
theorem m_cost (l : Launch) (D : va_G) (m0 : Nat) (mp : Nat) (mw : Nat) (mh : Nat) (mo : Nat) (m5 : Nat) (m6 : Nat) (m7 : Nat) (mk : Nat) (mn : Nat) (mq : Nat) (m8 : Nat) (m9 : Nat) (ma : Nat) (mb : Nat) (md : Nat) (p1 : Int32) (p2 : Int32) : Met l yX12_cost (Cond.code yX12_cost cX12_cost 4 (some .int) :: gw_tbl) ({ frames := 2, cells := 0, slots := 0, locals := 46 }) (pc_S D [] [(m0, .inr (12, [.ref mp, .int 0, .int 0, .int 0, .ref mw, .ref mh, .ref mo, .int 0, .int 0, .int 0, .int 0, .int 0, .int 0, .ref m5, .ref m6, .ref m7, .long 0, .int 0, .ref mk, .ref mn, .int 0, .ref mq, .ref m8, .ref m9, .int 0, .int 0, .int 0, .int 0, .ref ma, .int 0, .ref mb, .ref md, .long 0]))] [.ref m0, .int p1, .int p2]) (vp_Si (fun r => r = (-101))) 0 0 (fun _ => False) := by
  refine Met.ofW (cc := cX12_cost) (maxL := 4) (ret := (some .int)) (by decide) rfl ?_
  intro p e s m args below meth c s₁ B hml hv
  obtain ⟨hargs, hP, hK⟩ := hv
  have hx := B.exec
  have hb := B.bytes
  have hr := B.returns
  have hts := atoms_spec (ws := Cond.code yX12_cost cX12_cost 4 (some .int) :: gw_tbl) B.pre
  have hg := fun (w : Cond) (h : w ∈ gw_tbl) => hts w (List.mem_cons_of_mem _ h)
  have hown : s.vm.findClass RX12 = some m.cls := findClass_of_methodNamed B.named
  have hlocks := B.notSynchronized
  have hl := lv_entry ([.ref m0, .int p1, .int p2]) (n := 4) (Nat.le_of_ble_eq_true rfl)
  rw [show entryFrame m args 4 = F0 m 0 (lg_sl ([.ref m0, .int p1, .int p2]) ++ List.replicate (4 - (lg_sl ([.ref m0, .int p1, .int p2])).length) Slot.unset).toArray [] from by rw [hargs]; exact lg_entry_eq ..]
  generalize (lg_sl ([.ref m0, .int p1, .int p2]) ++ List.replicate (4 - (lg_sl ([.ref m0, .int p1, .int p2])).length) Slot.unset).toArray = ls at hl ⊢
  have hl : lv_has ls 4 [(0, .ref m0), (1, .int p1), (2, .int p2)] := hl
  refine W_genQ (fun Q hQ => ?_)
  refine lv_aload_n hx hb dX12_cost_0 rfl (lv_at hl 0 rfl) ?_
  refine lv_iload_n hx hb dX12_cost_1 rfl (lv_at hl 1 rfl) ?_
  have hPc := hP.sub (ws' := [(m0, .inr (12, [.ref mp, .int 0, .int 0, .int 0, .ref mw, .ref mh, .ref mo, .int 0, .int 0, .int 0, .int 0, .int 0, .int 0, .ref m5, .ref m6, .ref m7, .long 0, .int 0, .ref mk, .ref mn, .int 0, .ref mq, .ref m8, .ref m9, .int 0, .int 0, .int 0, .int 0, .ref ma, .int 0, .ref mb, .ref md, .long 0]))]) [0] rfl
  have hKc := hK.sub (tys' := []) [] rfl
  refine vp_callSi (W.runV (As := [.int p1]) (rest := []) ⟨hx, hb, hml, hown, hg⟩ (m_isPerson l D m0 mp mw mh mo m5 m6 m7 mk mn mq m8 m9 ma mb md p1) (cwV 1 hg (gw_V kw_218 kw_219 kw_220 kw_210 kw_217) rfl rfl rfl (by decide +kernel) ⟨Nat.le_of_ble_eq_true rfl, Nat.le_of_ble_eq_true rfl⟩) (pr_SV (q := (RX12, TX12, 33)) 12 0 hKc hPc rfl rfl) rfl rfl hl.1 rfl (lv_room (Nat.le_of_ble_eq_true rfl)) dX12_cost_2 ⟨Nat.le_of_ble_eq_true rfl, Nat.le_of_ble_eq_true rfl⟩) (fun r_2 h_2 => ?_)
  obtain rfl : r_2 = (0 : Int32) := h_2
  refine lv_if_ne (tgt := 11) hx hb dX12_cost_5 (by decide) (fun c_5 => absurd c_5 (by decide)) (fun c_5 => ?_)
  refine lv_bipush (v := (-101)) hx hb dX12_cost_8 (by decide) ?_
  subst hQ
  exact W.iret (v := (-101)) hx hb hr (fun t ht hW => ⟨(-101), rfl, rfl, ht⟩) (fun _ h => absurd h List.not_mem_nil) dX12_cost_10

theorem dX12_thinks_0 : decode cX12_thinks 0 = .ok (.aload_n 0, 1) := by decide +kernel
theorem dX12_thinks_1 : decode cX12_thinks 1 = .ok (.iload_n 1, 1) := by decide +kernel
theorem dX12_thinks_2 : decode cX12_thinks 2 = .ok (.invokevirtual 112, 3) := by decide +kernel
theorem dX12_thinks_5 : decode cX12_thinks 5 = .ok (.ifCond .eq 16, 3) := by decide +kernel
theorem dX12_thinks_8 : decode cX12_thinks 8 = .ok (.aload_n 0, 1) := by decide +kernel
theorem dX12_thinks_9 : decode cX12_thinks 9 = .ok (.iload_n 3, 1) := by decide +kernel
theorem dX12_thinks_10 : decode cX12_thinks 10 = .ok (.invokevirtual 112, 3) := by decide +kernel
theorem dX12_thinks_13 : decode cX12_thinks 13 = .ok (.ifCond .eq 8, 3) := by decide +kernel
theorem dX12_thinks_16 : decode cX12_thinks 16 = .ok (.iload_n 1, 1) := by decide +kernel
theorem dX12_thinks_17 : decode cX12_thinks 17 = .ok (.iload_n 3, 1) := by decide +kernel
theorem dX12_thinks_18 : decode cX12_thinks 18 = .ok (.if_icmp .ne 7, 3) := by decide +kernel
theorem dX12_thinks_21 : decode cX12_thinks 21 = .ok (.ldc2_w 127, 3) := by decide +kernel
theorem dX12_thinks_24 : decode cX12_thinks 24 = .ok (.lreturn, 1) := by decide +kernel
theorem dX12_thinks_25 : decode cX12_thinks 25 = .ok (.iload_n 2, 1) := by decide +kernel
theorem dX12_thinks_26 : decode cX12_thinks 26 = .ok (.i2l, 1) := by decide +kernel
theorem dX12_thinks_27 : decode cX12_thinks 27 = .ok (.lconst 0, 1) := by decide +kernel
theorem dX12_thinks_28 : decode cX12_thinks 28 = .ok (.lconst 1, 1) := by decide +kernel
theorem dX12_thinks_29 : decode cX12_thinks 29 = .ok (.invokestatic 70, 3) := by decide +kernel
theorem dX12_thinks_32 : decode cX12_thinks 32 = .ok (.ifCond .eq 14, 3) := by decide +kernel
theorem dX12_thinks_35 : decode cX12_thinks 35 = .ok (.iload 4, 2) := by decide +kernel
theorem dX12_thinks_37 : decode cX12_thinks 37 = .ok (.i2l, 1) := by decide +kernel
theorem dX12_thinks_38 : decode cX12_thinks 38 = .ok (.lconst 0, 1) := by decide +kernel
theorem dX12_thinks_39 : decode cX12_thinks 39 = .ok (.lconst 1, 1) := by decide +kernel
theorem dX12_thinks_40 : decode cX12_thinks 40 = .ok (.invokestatic 70, 3) := by decide +kernel
theorem dX12_thinks_43 : decode cX12_thinks 43 = .ok (.ifCond .ne 7, 3) := by decide +kernel
theorem dX12_thinks_46 : decode cX12_thinks 46 = .ok (.ldc2_w 129, 3) := by decide +kernel
theorem dX12_thinks_49 : decode cX12_thinks 49 = .ok (.lreturn, 1) := by decide +kernel
theorem dX12_thinks_50 : decode cX12_thinks 50 = .ok (.lconst 0, 1) := by decide +kernel
theorem dX12_thinks_51 : decode cX12_thinks 51 = .ok (.lstore 5, 2) := by decide +kernel
theorem dX12_thinks_53 : decode cX12_thinks 53 = .ok (.lconst 0, 1) := by decide +kernel
theorem dX12_thinks_54 : decode cX12_thinks 54 = .ok (.lstore 7, 2) := by decide +kernel
theorem dX12_thinks_56 : decode cX12_thinks 56 = .ok (.iconst 0, 1) := by decide +kernel
theorem dX12_thinks_57 : decode cX12_thinks 57 = .ok (.istore 9, 2) := by decide +kernel
theorem dX12_thinks_59 : decode cX12_thinks 59 = .ok (.iload 9, 2) := by decide +kernel
theorem dX12_thinks_61 : decode cX12_thinks 61 = .ok (.bipush 16, 2) := by decide +kernel
theorem dX12_thinks_63 : decode cX12_thinks 63 = .ok (.if_icmp .ge 57, 3) := by decide +kernel
theorem dX12_thinks_66 : decode cX12_thinks 66 = .ok (.iload 9, 2) := by decide +kernel
theorem dX12_thinks_68 : decode cX12_thinks 68 = .ok (.iload_n 1, 1) := by decide +kernel
theorem dX12_thinks_69 : decode cX12_thinks 69 = .ok (.ishr, 1) := by decide +kernel
theorem dX12_thinks_70 : decode cX12_thinks 70 = .ok (.iconst 1, 1) := by decide +kernel
theorem dX12_thinks_71 : decode cX12_thinks 71 = .ok (.iand, 1) := by decide +kernel
theorem dX12_thinks_72 : decode cX12_thinks 72 = .ok (.iload_n 2, 1) := by decide +kernel
theorem dX12_thinks_73 : decode cX12_thinks 73 = .ok (.if_icmp .ne 41, 3) := by decide +kernel
theorem dX12_thinks_76 : decode cX12_thinks 76 = .ok (.lload 7, 2) := by decide +kernel
theorem dX12_thinks_78 : decode cX12_thinks 78 = .ok (.aload_n 0, 1) := by decide +kernel
theorem dX12_thinks_79 : decode cX12_thinks 79 = .ok (.getfield 28, 3) := by decide +kernel
theorem dX12_thinks_82 : decode cX12_thinks 82 = .ok (.iload 9, 2) := by decide +kernel
theorem dX12_thinks_84 : decode cX12_thinks 84 = .ok (.laload, 1) := by decide +kernel
theorem dX12_thinks_85 : decode cX12_thinks 85 = .ok (.ladd, 1) := by decide +kernel
theorem dX12_thinks_86 : decode cX12_thinks 86 = .ok (.lstore 7, 2) := by decide +kernel
theorem dX12_thinks_88 : decode cX12_thinks 88 = .ok (.lload 5, 2) := by decide +kernel
theorem dX12_thinks_90 : decode cX12_thinks 90 = .ok (.iload 9, 2) := by decide +kernel
theorem dX12_thinks_92 : decode cX12_thinks 92 = .ok (.iload_n 3, 1) := by decide +kernel
theorem dX12_thinks_93 : decode cX12_thinks 93 = .ok (.ishr, 1) := by decide +kernel
theorem dX12_thinks_94 : decode cX12_thinks 94 = .ok (.iconst 1, 1) := by decide +kernel
theorem dX12_thinks_95 : decode cX12_thinks 95 = .ok (.iand, 1) := by decide +kernel
theorem dX12_thinks_96 : decode cX12_thinks 96 = .ok (.iconst 1, 1) := by decide +kernel
theorem dX12_thinks_97 : decode cX12_thinks 97 = .ok (.if_icmp .ne 13, 3) := by decide +kernel
theorem dX12_thinks_100 : decode cX12_thinks 100 = .ok (.aload_n 0, 1) := by decide +kernel
theorem dX12_thinks_101 : decode cX12_thinks 101 = .ok (.getfield 28, 3) := by decide +kernel
theorem dX12_thinks_104 : decode cX12_thinks 104 = .ok (.iload 9, 2) := by decide +kernel
theorem dX12_thinks_106 : decode cX12_thinks 106 = .ok (.laload, 1) := by decide +kernel
theorem dX12_thinks_107 : decode cX12_thinks 107 = .ok (.goto 4, 3) := by decide +kernel
theorem dX12_thinks_110 : decode cX12_thinks 110 = .ok (.lconst 0, 1) := by decide +kernel
theorem dX12_thinks_111 : decode cX12_thinks 111 = .ok (.ladd, 1) := by decide +kernel
theorem dX12_thinks_112 : decode cX12_thinks 112 = .ok (.lstore 5, 2) := by decide +kernel
theorem dX12_thinks_114 : decode cX12_thinks 114 = .ok (.iinc 9 1, 3) := by decide +kernel
theorem dX12_thinks_117 : decode cX12_thinks 117 = .ok (.goto (-58), 3) := by decide +kernel
theorem dX12_thinks_120 : decode cX12_thinks 120 = .ok (.lload 7, 2) := by decide +kernel
theorem dX12_thinks_122 : decode cX12_thinks 122 = .ok (.lconst 0, 1) := by decide +kernel
theorem dX12_thinks_123 : decode cX12_thinks 123 = .ok (.lcmp, 1) := by decide +kernel
theorem dX12_thinks_124 : decode cX12_thinks 124 = .ok (.ifCond .ne 9, 3) := by decide +kernel
theorem dX12_thinks_127 : decode cX12_thinks 127 = .ok (.ldc2_w 131, 3) := by decide +kernel
theorem dX12_thinks_130 : decode cX12_thinks 130 = .ok (.goto 12, 3) := by decide +kernel
theorem dX12_thinks_133 : decode cX12_thinks 133 = .ok (.lload 5, 2) := by decide +kernel
theorem dX12_thinks_135 : decode cX12_thinks 135 = .ok (.lload 7, 2) := by decide +kernel
theorem dX12_thinks_137 : decode cX12_thinks 137 = .ok (.iload 4, 2) := by decide +kernel
theorem dX12_thinks_139 : decode cX12_thinks 139 = .ok (.invokestatic 133, 3) := by decide +kernel
theorem dX12_thinks_142 : decode cX12_thinks 142 = .ok (.lreturn, 1) := by decide +kernel
theorem kw_221 : (.constantLong RX12 127 (-101) : Cond) ∈ gw_tbl := gw_in (by decide +kernel) (by decide +kernel)

set_option maxHeartbeats 4000000 in
set_option maxRecDepth 100000 in
theorem m_thinks (l : Launch) (D : va_G) (m0 : Nat) (mp : Nat) (mw : Nat) (mh : Nat) (mo : Nat) (m5 : Nat) (m6 : Nat) (m7 : Nat) (mk : Nat) (mn : Nat) (mq : Nat) (m8 : Nat) (m9 : Nat) (ma : Nat) (mb : Nat) (md : Nat) (p1 : Int32) (p2 : Int32) (p3 : Int32) (p4 : Int32) : Met l yX12_thinks (Cond.code yX12_thinks cX12_thinks 10 (some .long) :: gw_tbl) ({ frames := 2, cells := 0, slots := 0, locals := 46 }) (pc_S D [] [(m0, .inr (12, [.ref mp, .int 0, .int 0, .int 0, .ref mw, .ref mh, .ref mo, .int 0, .int 0, .int 0, .int 0, .int 0, .int 0, .ref m5, .ref m6, .ref m7, .long 0, .int 0, .ref mk, .ref mn, .int 0, .ref mq, .ref m8, .ref m9, .int 0, .int 0, .int 0, .int 0, .ref ma, .int 0, .ref mb, .ref md, .long 0]))] [.ref m0, .int p1, .int p2, .int p3, .int p4]) (vp_Sl (fun r => r = (-101))) 0 0 (fun _ => False) := by
  refine Met.ofW (cc := cX12_thinks) (maxL := 10) (ret := (some .long)) (by decide) rfl ?_
  intro p e s m args below meth c s₁ B hml hv
  obtain ⟨hargs, hP, hK⟩ := hv
  have hx := B.exec
  have hb := B.bytes
  have hr := B.returns
  have hts := atoms_spec (ws := Cond.code yX12_thinks cX12_thinks 10 (some .long) :: gw_tbl) B.pre
  have hg := fun (w : Cond) (h : w ∈ gw_tbl) => hts w (List.mem_cons_of_mem _ h)
  have hown : s.vm.findClass RX12 = some m.cls := findClass_of_methodNamed B.named
  have hlocks := B.notSynchronized
  have hl := lv_entry ([.ref m0, .int p1, .int p2, .int p3, .int p4]) (n := 10) (Nat.le_of_ble_eq_true rfl)
  rw [show entryFrame m args 10 = F0 m 0 (lg_sl ([.ref m0, .int p1, .int p2, .int p3, .int p4]) ++ List.replicate (10 - (lg_sl ([.ref m0, .int p1, .int p2, .int p3, .int p4])).length) Slot.unset).toArray [] from by rw [hargs]; exact lg_entry_eq ..]
  generalize (lg_sl ([.ref m0, .int p1, .int p2, .int p3, .int p4]) ++ List.replicate (10 - (lg_sl ([.ref m0, .int p1, .int p2, .int p3, .int p4])).length) Slot.unset).toArray = ls at hl ⊢
  have hl : lv_has ls 10 [(0, .ref m0), (1, .int p1), (2, .int p2), (3, .int p3), (4, .int p4)] := hl
  refine W_genQ (fun Q hQ => ?_)
  refine lv_aload_n hx hb dX12_thinks_0 rfl (lv_at hl 0 rfl) ?_
  refine lv_iload_n hx hb dX12_thinks_1 rfl (lv_at hl 1 rfl) ?_
  have hPc := hP.sub (ws' := [(m0, .inr (12, [.ref mp, .int 0, .int 0, .int 0, .ref mw, .ref mh, .ref mo, .int 0, .int 0, .int 0, .int 0, .int 0, .int 0, .ref m5, .ref m6, .ref m7, .long 0, .int 0, .ref mk, .ref mn, .int 0, .ref mq, .ref m8, .ref m9, .int 0, .int 0, .int 0, .int 0, .ref ma, .int 0, .ref mb, .ref md, .long 0]))]) [0] rfl
  have hKc := hK.sub (tys' := []) [] rfl
  refine vp_callSi (W.runV (As := [.int p1]) (rest := []) ⟨hx, hb, hml, hown, hg⟩ (m_isPerson l D m0 mp mw mh mo m5 m6 m7 mk mn mq m8 m9 ma mb md p1) (cwV 1 hg (gw_V kw_218 kw_219 kw_220 kw_210 kw_217) rfl rfl rfl (by decide +kernel) ⟨Nat.le_of_ble_eq_true rfl, Nat.le_of_ble_eq_true rfl⟩) (pr_SV (q := (RX12, TX12, 33)) 12 0 hKc hPc rfl rfl) rfl rfl hl.1 rfl (lv_room (Nat.le_of_ble_eq_true rfl)) dX12_thinks_2 ⟨Nat.le_of_ble_eq_true rfl, Nat.le_of_ble_eq_true rfl⟩) (fun r_2 h_2 => ?_)
  obtain rfl : r_2 = (0 : Int32) := h_2
  refine lv_if_eq (tgt := 21) hx hb dX12_thinks_5 (by decide) (fun c_5 => ?_) (fun c_5 => absurd (by decide) c_5)
  refine lv_ldc2 hx hb hown (hg _ kw_221) dX12_thinks_21 ?_
  subst hQ
  exact W.lret (v := (-101)) hx hb hr (fun t ht hW => ⟨(-101), rfl, rfl, ht⟩) (fun _ h => absurd h List.not_mem_nil) dX12_thinks_24

theorem dX12_as_0 : decode cX12_as 0 = .ok (.aload_n 0, 1) := by decide +kernel
theorem dX12_as_1 : decode cX12_as 1 = .ok (.iload_n 1, 1) := by decide +kernel
theorem dX12_as_2 : decode cX12_as 2 = .ok (.invokevirtual 142, 3) := by decide +kernel
theorem dX12_as_5 : decode cX12_as 5 = .ok (.ifCond .ne 6, 3) := by decide +kernel
theorem dX12_as_8 : decode cX12_as 8 = .ok (.bipush (-101), 2) := by decide +kernel
theorem dX12_as_10 : decode cX12_as 10 = .ok (.ireturn, 1) := by decide +kernel
theorem dX12_as_11 : decode cX12_as 11 = .ok (.iload_n 2, 1) := by decide +kernel
theorem dX12_as_12 : decode cX12_as 12 = .ok (.i2l, 1) := by decide +kernel
theorem dX12_as_13 : decode cX12_as 13 = .ok (.lconst 0, 1) := by decide +kernel
theorem dX12_as_14 : decode cX12_as 14 = .ok (.ldc2_w 137, 3) := by decide +kernel
theorem dX12_as_17 : decode cX12_as 17 = .ok (.invokestatic 70, 3) := by decide +kernel
theorem dX12_as_20 : decode cX12_as 20 = .ok (.ifCond .ne 6, 3) := by decide +kernel
theorem dX12_as_23 : decode cX12_as 23 = .ok (.bipush (-102), 2) := by decide +kernel
theorem dX12_as_25 : decode cX12_as 25 = .ok (.ireturn, 1) := by decide +kernel
theorem dX12_as_26 : decode cX12_as 26 = .ok (.iload_n 2, 1) := by decide +kernel
theorem dX12_as_27 : decode cX12_as 27 = .ok (.ifCond .eq 43, 3) := by decide +kernel
theorem dX12_as_30 : decode cX12_as 30 = .ok (.iload_n 2, 1) := by decide +kernel
theorem dX12_as_31 : decode cX12_as 31 = .ok (.aload_n 0, 1) := by decide +kernel
theorem dX12_as_32 : decode cX12_as 32 = .ok (.getfield 32, 3) := by decide +kernel
theorem dX12_as_35 : decode cX12_as 35 = .ok (.iload_n 1, 1) := by decide +kernel
theorem dX12_as_36 : decode cX12_as 36 = .ok (.iaload, 1) := by decide +kernel
theorem dX12_as_37 : decode cX12_as 37 = .ok (.if_icmp .eq 33, 3) := by decide +kernel
theorem dX12_as_40 : decode cX12_as 40 = .ok (.iload_n 2, 1) := by decide +kernel
theorem dX12_as_41 : decode cX12_as 41 = .ok (.iconst 2, 1) := by decide +kernel
theorem dX12_as_42 : decode cX12_as 42 = .ok (.if_icmp .ne 13, 3) := by decide +kernel
theorem dX12_as_45 : decode cX12_as 45 = .ok (.aload_n 0, 1) := by decide +kernel
theorem dX12_as_46 : decode cX12_as 46 = .ok (.getfield 32, 3) := by decide +kernel
theorem dX12_as_49 : decode cX12_as 49 = .ok (.iload_n 1, 1) := by decide +kernel
theorem dX12_as_50 : decode cX12_as 50 = .ok (.iaload, 1) := by decide +kernel
theorem dX12_as_51 : decode cX12_as 51 = .ok (.iconst 3, 1) := by decide +kernel
theorem dX12_as_52 : decode cX12_as 52 = .ok (.if_icmp .eq 18, 3) := by decide +kernel
theorem dX12_as_55 : decode cX12_as 55 = .ok (.iload_n 2, 1) := by decide +kernel
theorem dX12_as_56 : decode cX12_as 56 = .ok (.iconst 1, 1) := by decide +kernel
theorem dX12_as_57 : decode cX12_as 57 = .ok (.if_icmp .ne 17, 3) := by decide +kernel
theorem dX12_as_60 : decode cX12_as 60 = .ok (.aload_n 0, 1) := by decide +kernel
theorem dX12_as_61 : decode cX12_as 61 = .ok (.getfield 32, 3) := by decide +kernel
theorem dX12_as_64 : decode cX12_as 64 = .ok (.iload_n 1, 1) := by decide +kernel
theorem dX12_as_65 : decode cX12_as 65 = .ok (.iaload, 1) := by decide +kernel
theorem dX12_as_66 : decode cX12_as 66 = .ok (.iconst 4, 1) := by decide +kernel
theorem dX12_as_67 : decode cX12_as 67 = .ok (.if_icmp .ne 7, 3) := by decide +kernel
theorem dX12_as_70 : decode cX12_as 70 = .ok (.iconst 1, 1) := by decide +kernel
theorem dX12_as_71 : decode cX12_as 71 = .ok (.goto 4, 3) := by decide +kernel
theorem dX12_as_74 : decode cX12_as 74 = .ok (.iconst 0, 1) := by decide +kernel
theorem dX12_as_75 : decode cX12_as 75 = .ok (.istore_n 3, 1) := by decide +kernel
theorem dX12_as_76 : decode cX12_as 76 = .ok (.iload_n 3, 1) := by decide +kernel
theorem dX12_as_77 : decode cX12_as 77 = .ok (.ifCond .eq 7, 3) := by decide +kernel
theorem dX12_as_80 : decode cX12_as 80 = .ok (.iload_n 1, 1) := by decide +kernel
theorem dX12_as_81 : decode cX12_as 81 = .ok (.goto 4, 3) := by decide +kernel
theorem dX12_as_84 : decode cX12_as 84 = .ok (.iconst (-1), 1) := by decide +kernel
theorem dX12_as_85 : decode cX12_as 85 = .ok (.ireturn, 1) := by decide +kernel

set_option maxHeartbeats 4000000 in
set_option maxRecDepth 100000 in
theorem m_as (l : Launch) (D : va_G) (m0 : Nat) (mp : Nat) (mw : Nat) (mh : Nat) (mo : Nat) (m5 : Nat) (m6 : Nat) (m7 : Nat) (mk : Nat) (mn : Nat) (mq : Nat) (m8 : Nat) (m9 : Nat) (ma : Nat) (mb : Nat) (md : Nat) (p1 : Int32) (p2 : Int32) : Met l yX12_as (Cond.code yX12_as cX12_as 4 (some .int) :: gw_tbl) ({ frames := 2, cells := 0, slots := 0, locals := 46 }) (pc_S D [] [(m0, .inr (12, [.ref mp, .int 0, .int 0, .int 0, .ref mw, .ref mh, .ref mo, .int 0, .int 0, .int 0, .int 0, .int 0, .int 0, .ref m5, .ref m6, .ref m7, .long 0, .int 0, .ref mk, .ref mn, .int 0, .ref mq, .ref m8, .ref m9, .int 0, .int 0, .int 0, .int 0, .ref ma, .int 0, .ref mb, .ref md, .long 0]))] [.ref m0, .int p1, .int p2]) (vp_Si (fun r => r = (-101))) 0 0 (fun _ => False) := by
  refine Met.ofW (cc := cX12_as) (maxL := 4) (ret := (some .int)) (by decide) rfl ?_
  intro p e s m args below meth c s₁ B hml hv
  obtain ⟨hargs, hP, hK⟩ := hv
  have hx := B.exec
  have hb := B.bytes
  have hr := B.returns
  have hts := atoms_spec (ws := Cond.code yX12_as cX12_as 4 (some .int) :: gw_tbl) B.pre
  have hg := fun (w : Cond) (h : w ∈ gw_tbl) => hts w (List.mem_cons_of_mem _ h)
  have hown : s.vm.findClass RX12 = some m.cls := findClass_of_methodNamed B.named
  have hlocks := B.notSynchronized
  have hl := lv_entry ([.ref m0, .int p1, .int p2]) (n := 4) (Nat.le_of_ble_eq_true rfl)
  rw [show entryFrame m args 4 = F0 m 0 (lg_sl ([.ref m0, .int p1, .int p2]) ++ List.replicate (4 - (lg_sl ([.ref m0, .int p1, .int p2])).length) Slot.unset).toArray [] from by rw [hargs]; exact lg_entry_eq ..]
  generalize (lg_sl ([.ref m0, .int p1, .int p2]) ++ List.replicate (4 - (lg_sl ([.ref m0, .int p1, .int p2])).length) Slot.unset).toArray = ls at hl ⊢
  have hl : lv_has ls 4 [(0, .ref m0), (1, .int p1), (2, .int p2)] := hl
  refine W_genQ (fun Q hQ => ?_)
  refine lv_aload_n hx hb dX12_as_0 rfl (lv_at hl 0 rfl) ?_
  refine lv_iload_n hx hb dX12_as_1 rfl (lv_at hl 1 rfl) ?_
  have hPc := hP.sub (ws' := [(m0, .inr (12, [.ref mp, .int 0, .int 0, .int 0, .ref mw, .ref mh, .ref mo, .int 0, .int 0, .int 0, .int 0, .int 0, .int 0, .ref m5, .ref m6, .ref m7, .long 0, .int 0, .ref mk, .ref mn, .int 0, .ref mq, .ref m8, .ref m9, .int 0, .int 0, .int 0, .int 0, .ref ma, .int 0, .ref mb, .ref md, .long 0]))]) [0] rfl
  have hKc := hK.sub (tys' := []) [] rfl
  refine vp_callSi (W.runV (As := [.int p1]) (rest := []) ⟨hx, hb, hml, hown, hg⟩ (m_isPay l D m0 mp mw mh mo m5 m6 m7 mk mn mq m8 m9 ma mb md p1) (cwV 1 hg (gw_V kw_213 kw_214 kw_215 kw_210 kw_212) rfl rfl rfl (by decide +kernel) ⟨Nat.le_of_ble_eq_true rfl, Nat.le_of_ble_eq_true rfl⟩) (pr_SV (q := (RX12, TX12, 33)) 12 0 hKc hPc rfl rfl) rfl rfl hl.1 rfl (lv_room (Nat.le_of_ble_eq_true rfl)) dX12_as_2 ⟨Nat.le_of_ble_eq_true rfl, Nat.le_of_ble_eq_true rfl⟩) (fun r_2 h_2 => ?_)
  obtain rfl : r_2 = (0 : Int32) := h_2
  refine lv_if_ne (tgt := 11) hx hb dX12_as_5 (by decide) (fun c_5 => absurd c_5 (by decide)) (fun c_5 => ?_)
  refine lv_bipush (v := (-101)) hx hb dX12_as_8 (by decide) ?_
  subst hQ
  exact W.iret (v := (-101)) hx hb hr (fun t ht hW => ⟨(-101), rfl, rfl, ht⟩) (fun _ h => absurd h List.not_mem_nil) dX12_as_10

theorem dX12_about_0 : decode cX12_about 0 = .ok (.aload_n 0, 1) := by decide +kernel
theorem dX12_about_1 : decode cX12_about 1 = .ok (.iload_n 1, 1) := by decide +kernel
theorem dX12_about_2 : decode cX12_about 2 = .ok (.invokevirtual 142, 3) := by decide +kernel
theorem dX12_about_5 : decode cX12_about 5 = .ok (.ifCond .ne 6, 3) := by decide +kernel
theorem dX12_about_8 : decode cX12_about 8 = .ok (.bipush (-101), 2) := by decide +kernel
theorem dX12_about_10 : decode cX12_about 10 = .ok (.ireturn, 1) := by decide +kernel
theorem dX12_about_11 : decode cX12_about 11 = .ok (.iload_n 2, 1) := by decide +kernel
theorem dX12_about_12 : decode cX12_about 12 = .ok (.i2l, 1) := by decide +kernel
theorem dX12_about_13 : decode cX12_about 13 = .ok (.lconst 0, 1) := by decide +kernel
theorem dX12_about_14 : decode cX12_about 14 = .ok (.ldc2_w 145, 3) := by decide +kernel
theorem dX12_about_17 : decode cX12_about 17 = .ok (.invokestatic 70, 3) := by decide +kernel
theorem dX12_about_20 : decode cX12_about 20 = .ok (.ifCond .eq 16, 3) := by decide +kernel
theorem dX12_about_23 : decode cX12_about 23 = .ok (.aload_n 0, 1) := by decide +kernel
theorem dX12_about_24 : decode cX12_about 24 = .ok (.getfield 35, 3) := by decide +kernel
theorem dX12_about_27 : decode cX12_about 27 = .ok (.iconst 4, 1) := by decide +kernel
theorem dX12_about_28 : decode cX12_about 28 = .ok (.iload_n 1, 1) := by decide +kernel
theorem dX12_about_29 : decode cX12_about 29 = .ok (.imul, 1) := by decide +kernel
theorem dX12_about_30 : decode cX12_about 30 = .ok (.iload_n 2, 1) := by decide +kernel
theorem dX12_about_31 : decode cX12_about 31 = .ok (.iadd, 1) := by decide +kernel
theorem dX12_about_32 : decode cX12_about 32 = .ok (.iaload, 1) := by decide +kernel
theorem dX12_about_33 : decode cX12_about 33 = .ok (.goto 19, 3) := by decide +kernel
theorem dX12_about_36 : decode cX12_about 36 = .ok (.iload_n 2, 1) := by decide +kernel
theorem dX12_about_37 : decode cX12_about 37 = .ok (.iconst 4, 1) := by decide +kernel
theorem dX12_about_38 : decode cX12_about 38 = .ok (.if_icmp .ne 12, 3) := by decide +kernel
theorem dX12_about_41 : decode cX12_about 41 = .ok (.aload_n 0, 1) := by decide +kernel
theorem dX12_about_42 : decode cX12_about 42 = .ok (.getfield 32, 3) := by decide +kernel
theorem dX12_about_45 : decode cX12_about 45 = .ok (.iload_n 1, 1) := by decide +kernel
theorem dX12_about_46 : decode cX12_about 46 = .ok (.iaload, 1) := by decide +kernel
theorem dX12_about_47 : decode cX12_about 47 = .ok (.goto 5, 3) := by decide +kernel
theorem dX12_about_50 : decode cX12_about 50 = .ok (.bipush (-102), 2) := by decide +kernel
theorem dX12_about_52 : decode cX12_about 52 = .ok (.ireturn, 1) := by decide +kernel

set_option maxHeartbeats 4000000 in
set_option maxRecDepth 100000 in
theorem m_about (l : Launch) (D : va_G) (m0 : Nat) (mp : Nat) (mw : Nat) (mh : Nat) (mo : Nat) (m5 : Nat) (m6 : Nat) (m7 : Nat) (mk : Nat) (mn : Nat) (mq : Nat) (m8 : Nat) (m9 : Nat) (ma : Nat) (mb : Nat) (md : Nat) (p1 : Int32) (p2 : Int32) : Met l yX12_about (Cond.code yX12_about cX12_about 3 (some .int) :: gw_tbl) ({ frames := 2, cells := 0, slots := 0, locals := 46 }) (pc_S D [] [(m0, .inr (12, [.ref mp, .int 0, .int 0, .int 0, .ref mw, .ref mh, .ref mo, .int 0, .int 0, .int 0, .int 0, .int 0, .int 0, .ref m5, .ref m6, .ref m7, .long 0, .int 0, .ref mk, .ref mn, .int 0, .ref mq, .ref m8, .ref m9, .int 0, .int 0, .int 0, .int 0, .ref ma, .int 0, .ref mb, .ref md, .long 0]))] [.ref m0, .int p1, .int p2]) (vp_Si (fun r => r = (-101))) 0 0 (fun _ => False) := by
  refine Met.ofW (cc := cX12_about) (maxL := 3) (ret := (some .int)) (by decide) rfl ?_
  intro p e s m args below meth c s₁ B hml hv
  obtain ⟨hargs, hP, hK⟩ := hv
  have hx := B.exec
  have hb := B.bytes
  have hr := B.returns
  have hts := atoms_spec (ws := Cond.code yX12_about cX12_about 3 (some .int) :: gw_tbl) B.pre
  have hg := fun (w : Cond) (h : w ∈ gw_tbl) => hts w (List.mem_cons_of_mem _ h)
  have hown : s.vm.findClass RX12 = some m.cls := findClass_of_methodNamed B.named
  have hlocks := B.notSynchronized
  have hl := lv_entry ([.ref m0, .int p1, .int p2]) (n := 3) (Nat.le_of_ble_eq_true rfl)
  rw [show entryFrame m args 3 = F0 m 0 (lg_sl ([.ref m0, .int p1, .int p2]) ++ List.replicate (3 - (lg_sl ([.ref m0, .int p1, .int p2])).length) Slot.unset).toArray [] from by rw [hargs]; exact lg_entry_eq ..]
  generalize (lg_sl ([.ref m0, .int p1, .int p2]) ++ List.replicate (3 - (lg_sl ([.ref m0, .int p1, .int p2])).length) Slot.unset).toArray = ls at hl ⊢
  have hl : lv_has ls 3 [(0, .ref m0), (1, .int p1), (2, .int p2)] := hl
  refine W_genQ (fun Q hQ => ?_)
  refine lv_aload_n hx hb dX12_about_0 rfl (lv_at hl 0 rfl) ?_
  refine lv_iload_n hx hb dX12_about_1 rfl (lv_at hl 1 rfl) ?_
  have hPc := hP.sub (ws' := [(m0, .inr (12, [.ref mp, .int 0, .int 0, .int 0, .ref mw, .ref mh, .ref mo, .int 0, .int 0, .int 0, .int 0, .int 0, .int 0, .ref m5, .ref m6, .ref m7, .long 0, .int 0, .ref mk, .ref mn, .int 0, .ref mq, .ref m8, .ref m9, .int 0, .int 0, .int 0, .int 0, .ref ma, .int 0, .ref mb, .ref md, .long 0]))]) [0] rfl
  have hKc := hK.sub (tys' := []) [] rfl
  refine vp_callSi (W.runV (As := [.int p1]) (rest := []) ⟨hx, hb, hml, hown, hg⟩ (m_isPay l D m0 mp mw mh mo m5 m6 m7 mk mn mq m8 m9 ma mb md p1) (cwV 1 hg (gw_V kw_213 kw_214 kw_215 kw_210 kw_212) rfl rfl rfl (by decide +kernel) ⟨Nat.le_of_ble_eq_true rfl, Nat.le_of_ble_eq_true rfl⟩) (pr_SV (q := (RX12, TX12, 33)) 12 0 hKc hPc rfl rfl) rfl rfl hl.1 rfl (lv_room (Nat.le_of_ble_eq_true rfl)) dX12_about_2 ⟨Nat.le_of_ble_eq_true rfl, Nat.le_of_ble_eq_true rfl⟩) (fun r_2 h_2 => ?_)
  obtain rfl : r_2 = (0 : Int32) := h_2
  refine lv_if_ne (tgt := 11) hx hb dX12_about_5 (by decide) (fun c_5 => absurd c_5 (by decide)) (fun c_5 => ?_)
  refine lv_bipush (v := (-101)) hx hb dX12_about_8 (by decide) ?_
  subst hQ
  exact W.iret (v := (-101)) hx hb hr (fun t ht hW => ⟨(-101), rfl, rfl, ht⟩) (fun _ h => absurd h List.not_mem_nil) dX12_about_10

theorem dX12_gets_0 : decode cX12_gets 0 = .ok (.aload_n 0, 1) := by decide +kernel
theorem dX12_gets_1 : decode cX12_gets 1 = .ok (.iload_n 1, 1) := by decide +kernel
theorem dX12_gets_2 : decode cX12_gets 2 = .ok (.invokevirtual 142, 3) := by decide +kernel
theorem dX12_gets_5 : decode cX12_gets 5 = .ok (.ifCond .eq 11, 3) := by decide +kernel
theorem dX12_gets_8 : decode cX12_gets 8 = .ok (.aload_n 0, 1) := by decide +kernel
theorem dX12_gets_9 : decode cX12_gets 9 = .ok (.iload_n 2, 1) := by decide +kernel
theorem dX12_gets_10 : decode cX12_gets 10 = .ok (.invokevirtual 112, 3) := by decide +kernel
theorem dX12_gets_13 : decode cX12_gets 13 = .ok (.ifCond .ne 6, 3) := by decide +kernel
theorem dX12_gets_16 : decode cX12_gets 16 = .ok (.bipush (-101), 2) := by decide +kernel
theorem dX12_gets_18 : decode cX12_gets 18 = .ok (.ireturn, 1) := by decide +kernel
theorem dX12_gets_19 : decode cX12_gets 19 = .ok (.iload_n 3, 1) := by decide +kernel
theorem dX12_gets_20 : decode cX12_gets 20 = .ok (.i2l, 1) := by decide +kernel
theorem dX12_gets_21 : decode cX12_gets 21 = .ok (.lconst 0, 1) := by decide +kernel
theorem dX12_gets_22 : decode cX12_gets 22 = .ok (.iconst 1, 1) := by decide +kernel
theorem dX12_gets_23 : decode cX12_gets 23 = .ok (.aload_n 0, 1) := by decide +kernel
theorem dX12_gets_24 : decode cX12_gets 24 = .ok (.getfield 57, 3) := by decide +kernel
theorem dX12_gets_27 : decode cX12_gets 27 = .ok (.ishl, 1) := by decide +kernel
theorem dX12_gets_28 : decode cX12_gets 28 = .ok (.iconst 1, 1) := by decide +kernel
theorem dX12_gets_29 : decode cX12_gets 29 = .ok (.isub, 1) := by decide +kernel
theorem dX12_gets_30 : decode cX12_gets 30 = .ok (.i2l, 1) := by decide +kernel
theorem dX12_gets_31 : decode cX12_gets 31 = .ok (.invokestatic 70, 3) := by decide +kernel
theorem dX12_gets_34 : decode cX12_gets 34 = .ok (.ifCond .ne 6, 3) := by decide +kernel
theorem dX12_gets_37 : decode cX12_gets 37 = .ok (.bipush (-102), 2) := by decide +kernel
theorem dX12_gets_39 : decode cX12_gets 39 = .ok (.ireturn, 1) := by decide +kernel
theorem dX12_gets_40 : decode cX12_gets 40 = .ok (.aload_n 0, 1) := by decide +kernel
theorem dX12_gets_41 : decode cX12_gets 41 = .ok (.iload_n 1, 1) := by decide +kernel
theorem dX12_gets_42 : decode cX12_gets 42 = .ok (.invokevirtual 154, 3) := by decide +kernel
theorem dX12_gets_45 : decode cX12_gets 45 = .ok (.aload_n 0, 1) := by decide +kernel
theorem dX12_gets_46 : decode cX12_gets 46 = .ok (.iload_n 2, 1) := by decide +kernel
theorem dX12_gets_47 : decode cX12_gets 47 = .ok (.iload_n 3, 1) := by decide +kernel
theorem dX12_gets_48 : decode cX12_gets 48 = .ok (.invokevirtual 158, 3) := by decide +kernel
theorem dX12_gets_51 : decode cX12_gets 51 = .ok (.ireturn, 1) := by decide +kernel

set_option maxHeartbeats 4000000 in
set_option maxRecDepth 100000 in
theorem m_gets (l : Launch) (D : va_G) (m0 : Nat) (mp : Nat) (mw : Nat) (mh : Nat) (mo : Nat) (m5 : Nat) (m6 : Nat) (m7 : Nat) (mk : Nat) (mn : Nat) (mq : Nat) (m8 : Nat) (m9 : Nat) (ma : Nat) (mb : Nat) (md : Nat) (p1 : Int32) (p2 : Int32) (p3 : Int32) : Met l yX12_gets (Cond.code yX12_gets cX12_gets 4 (some .int) :: gw_tbl) ({ frames := 2, cells := 0, slots := 0, locals := 46 }) (pc_S D [] [(m0, .inr (12, [.ref mp, .int 0, .int 0, .int 0, .ref mw, .ref mh, .ref mo, .int 0, .int 0, .int 0, .int 0, .int 0, .int 0, .ref m5, .ref m6, .ref m7, .long 0, .int 0, .ref mk, .ref mn, .int 0, .ref mq, .ref m8, .ref m9, .int 0, .int 0, .int 0, .int 0, .ref ma, .int 0, .ref mb, .ref md, .long 0]))] [.ref m0, .int p1, .int p2, .int p3]) (vp_Si (fun r => r = (-101))) 0 0 (fun _ => False) := by
  refine Met.ofW (cc := cX12_gets) (maxL := 4) (ret := (some .int)) (by decide) rfl ?_
  intro p e s m args below meth c s₁ B hml hv
  obtain ⟨hargs, hP, hK⟩ := hv
  have hx := B.exec
  have hb := B.bytes
  have hr := B.returns
  have hts := atoms_spec (ws := Cond.code yX12_gets cX12_gets 4 (some .int) :: gw_tbl) B.pre
  have hg := fun (w : Cond) (h : w ∈ gw_tbl) => hts w (List.mem_cons_of_mem _ h)
  have hown : s.vm.findClass RX12 = some m.cls := findClass_of_methodNamed B.named
  have hlocks := B.notSynchronized
  have hl := lv_entry ([.ref m0, .int p1, .int p2, .int p3]) (n := 4) (Nat.le_of_ble_eq_true rfl)
  rw [show entryFrame m args 4 = F0 m 0 (lg_sl ([.ref m0, .int p1, .int p2, .int p3]) ++ List.replicate (4 - (lg_sl ([.ref m0, .int p1, .int p2, .int p3])).length) Slot.unset).toArray [] from by rw [hargs]; exact lg_entry_eq ..]
  generalize (lg_sl ([.ref m0, .int p1, .int p2, .int p3]) ++ List.replicate (4 - (lg_sl ([.ref m0, .int p1, .int p2, .int p3])).length) Slot.unset).toArray = ls at hl ⊢
  have hl : lv_has ls 4 [(0, .ref m0), (1, .int p1), (2, .int p2), (3, .int p3)] := hl
  refine W_genQ (fun Q hQ => ?_)
  refine lv_aload_n hx hb dX12_gets_0 rfl (lv_at hl 0 rfl) ?_
  refine lv_iload_n hx hb dX12_gets_1 rfl (lv_at hl 1 rfl) ?_
  have hPc := hP.sub (ws' := [(m0, .inr (12, [.ref mp, .int 0, .int 0, .int 0, .ref mw, .ref mh, .ref mo, .int 0, .int 0, .int 0, .int 0, .int 0, .int 0, .ref m5, .ref m6, .ref m7, .long 0, .int 0, .ref mk, .ref mn, .int 0, .ref mq, .ref m8, .ref m9, .int 0, .int 0, .int 0, .int 0, .ref ma, .int 0, .ref mb, .ref md, .long 0]))]) [0] rfl
  have hKc := hK.sub (tys' := []) [] rfl
  refine vp_callSi (W.runV (As := [.int p1]) (rest := []) ⟨hx, hb, hml, hown, hg⟩ (m_isPay l D m0 mp mw mh mo m5 m6 m7 mk mn mq m8 m9 ma mb md p1) (cwV 1 hg (gw_V kw_213 kw_214 kw_215 kw_210 kw_212) rfl rfl rfl (by decide +kernel) ⟨Nat.le_of_ble_eq_true rfl, Nat.le_of_ble_eq_true rfl⟩) (pr_SV (q := (RX12, TX12, 33)) 12 0 hKc hPc rfl rfl) rfl rfl hl.1 rfl (lv_room (Nat.le_of_ble_eq_true rfl)) dX12_gets_2 ⟨Nat.le_of_ble_eq_true rfl, Nat.le_of_ble_eq_true rfl⟩) (fun r_2 h_2 => ?_)
  obtain rfl : r_2 = (0 : Int32) := h_2
  refine lv_if_eq (tgt := 16) hx hb dX12_gets_5 (by decide) (fun c_5 => ?_) (fun c_5 => absurd (by decide) c_5)
  refine lv_bipush (v := (-101)) hx hb dX12_gets_16 (by decide) ?_
  subst hQ
  exact W.iret (v := (-101)) hx hb hr (fun t ht hW => ⟨(-101), rfl, rfl, ht⟩) (fun _ h => absurd h List.not_mem_nil) dX12_gets_18

theorem dX12_worth_0 : decode cX12_worth 0 = .ok (.aload_n 0, 1) := by decide +kernel
theorem dX12_worth_1 : decode cX12_worth 1 = .ok (.iload_n 1, 1) := by decide +kernel
theorem dX12_worth_2 : decode cX12_worth 2 = .ok (.invokevirtual 142, 3) := by decide +kernel
theorem dX12_worth_5 : decode cX12_worth 5 = .ok (.ifCond .eq 11, 3) := by decide +kernel
theorem dX12_worth_8 : decode cX12_worth 8 = .ok (.aload_n 0, 1) := by decide +kernel
theorem dX12_worth_9 : decode cX12_worth 9 = .ok (.iload_n 3, 1) := by decide +kernel
theorem dX12_worth_10 : decode cX12_worth 10 = .ok (.invokevirtual 112, 3) := by decide +kernel
theorem dX12_worth_13 : decode cX12_worth 13 = .ok (.ifCond .ne 7, 3) := by decide +kernel
theorem dX12_worth_16 : decode cX12_worth 16 = .ok (.ldc2_w 170, 3) := by decide +kernel
theorem dX12_worth_19 : decode cX12_worth 19 = .ok (.lreturn, 1) := by decide +kernel
theorem dX12_worth_20 : decode cX12_worth 20 = .ok (.iload_n 2, 1) := by decide +kernel
theorem dX12_worth_21 : decode cX12_worth 21 = .ok (.i2l, 1) := by decide +kernel
theorem dX12_worth_22 : decode cX12_worth 22 = .ok (.lconst 0, 1) := by decide +kernel
theorem dX12_worth_23 : decode cX12_worth 23 = .ok (.aload_n 0, 1) := by decide +kernel
theorem dX12_worth_24 : decode cX12_worth 24 = .ok (.invokevirtual 172, 3) := by decide +kernel
theorem dX12_worth_27 : decode cX12_worth 27 = .ok (.iconst 1, 1) := by decide +kernel
theorem dX12_worth_28 : decode cX12_worth 28 = .ok (.isub, 1) := by decide +kernel
theorem dX12_worth_29 : decode cX12_worth 29 = .ok (.i2l, 1) := by decide +kernel
theorem dX12_worth_30 : decode cX12_worth 30 = .ok (.invokestatic 70, 3) := by decide +kernel
theorem dX12_worth_33 : decode cX12_worth 33 = .ok (.ifCond .eq 14, 3) := by decide +kernel
theorem dX12_worth_36 : decode cX12_worth 36 = .ok (.iload 4, 2) := by decide +kernel
theorem dX12_worth_38 : decode cX12_worth 38 = .ok (.i2l, 1) := by decide +kernel
theorem dX12_worth_39 : decode cX12_worth 39 = .ok (.lconst 0, 1) := by decide +kernel
theorem dX12_worth_40 : decode cX12_worth 40 = .ok (.lconst 1, 1) := by decide +kernel
theorem dX12_worth_41 : decode cX12_worth 41 = .ok (.invokestatic 70, 3) := by decide +kernel
theorem dX12_worth_44 : decode cX12_worth 44 = .ok (.ifCond .ne 7, 3) := by decide +kernel
theorem dX12_worth_47 : decode cX12_worth 47 = .ok (.ldc2_w 175, 3) := by decide +kernel
theorem dX12_worth_50 : decode cX12_worth 50 = .ok (.lreturn, 1) := by decide +kernel
theorem dX12_worth_51 : decode cX12_worth 51 = .ok (.aload_n 0, 1) := by decide +kernel
theorem dX12_worth_52 : decode cX12_worth 52 = .ok (.iload_n 1, 1) := by decide +kernel
theorem dX12_worth_53 : decode cX12_worth 53 = .ok (.invokevirtual 154, 3) := by decide +kernel
theorem dX12_worth_56 : decode cX12_worth 56 = .ok (.aload_n 0, 1) := by decide +kernel
theorem dX12_worth_57 : decode cX12_worth 57 = .ok (.iload_n 2, 1) := by decide +kernel
theorem dX12_worth_58 : decode cX12_worth 58 = .ok (.iload_n 3, 1) := by decide +kernel
theorem dX12_worth_59 : decode cX12_worth 59 = .ok (.invokevirtual 177, 3) := by decide +kernel
theorem dX12_worth_62 : decode cX12_worth 62 = .ok (.ldc2_w 168, 3) := by decide +kernel
theorem dX12_worth_65 : decode cX12_worth 65 = .ok (.aload_n 0, 1) := by decide +kernel
theorem dX12_worth_66 : decode cX12_worth 66 = .ok (.getfield 117, 3) := by decide +kernel
theorem dX12_worth_69 : decode cX12_worth 69 = .ok (.lmul, 1) := by decide +kernel
theorem dX12_worth_70 : decode cX12_worth 70 = .ok (.iload 4, 2) := by decide +kernel
theorem dX12_worth_72 : decode cX12_worth 72 = .ok (.invokestatic 133, 3) := by decide +kernel
theorem dX12_worth_75 : decode cX12_worth 75 = .ok (.lreturn, 1) := by decide +kernel
theorem kw_222 : (.constantLong RX12 170 (-2000000000000000001) : Cond) ∈ gw_tbl := gw_in (by decide +kernel) (by decide +kernel)

set_option maxHeartbeats 4000000 in
set_option maxRecDepth 100000 in
theorem m_worth (l : Launch) (D : va_G) (m0 : Nat) (mp : Nat) (mw : Nat) (mh : Nat) (mo : Nat) (m5 : Nat) (m6 : Nat) (m7 : Nat) (mk : Nat) (mn : Nat) (mq : Nat) (m8 : Nat) (m9 : Nat) (ma : Nat) (mb : Nat) (md : Nat) (p1 : Int32) (p2 : Int32) (p3 : Int32) (p4 : Int32) : Met l yX12_worth (Cond.code yX12_worth cX12_worth 5 (some .long) :: gw_tbl) ({ frames := 2, cells := 0, slots := 0, locals := 46 }) (pc_S D [] [(m0, .inr (12, [.ref mp, .int 0, .int 0, .int 0, .ref mw, .ref mh, .ref mo, .int 0, .int 0, .int 0, .int 0, .int 0, .int 0, .ref m5, .ref m6, .ref m7, .long 0, .int 0, .ref mk, .ref mn, .int 0, .ref mq, .ref m8, .ref m9, .int 0, .int 0, .int 0, .int 0, .ref ma, .int 0, .ref mb, .ref md, .long 0]))] [.ref m0, .int p1, .int p2, .int p3, .int p4]) (vp_Sl (fun r => r = (-2000000000000000001))) 0 0 (fun _ => False) := by
  refine Met.ofW (cc := cX12_worth) (maxL := 5) (ret := (some .long)) (by decide) rfl ?_
  intro p e s m args below meth c s₁ B hml hv
  obtain ⟨hargs, hP, hK⟩ := hv
  have hx := B.exec
  have hb := B.bytes
  have hr := B.returns
  have hts := atoms_spec (ws := Cond.code yX12_worth cX12_worth 5 (some .long) :: gw_tbl) B.pre
  have hg := fun (w : Cond) (h : w ∈ gw_tbl) => hts w (List.mem_cons_of_mem _ h)
  have hown : s.vm.findClass RX12 = some m.cls := findClass_of_methodNamed B.named
  have hlocks := B.notSynchronized
  have hl := lv_entry ([.ref m0, .int p1, .int p2, .int p3, .int p4]) (n := 5) (Nat.le_of_ble_eq_true rfl)
  rw [show entryFrame m args 5 = F0 m 0 (lg_sl ([.ref m0, .int p1, .int p2, .int p3, .int p4]) ++ List.replicate (5 - (lg_sl ([.ref m0, .int p1, .int p2, .int p3, .int p4])).length) Slot.unset).toArray [] from by rw [hargs]; exact lg_entry_eq ..]
  generalize (lg_sl ([.ref m0, .int p1, .int p2, .int p3, .int p4]) ++ List.replicate (5 - (lg_sl ([.ref m0, .int p1, .int p2, .int p3, .int p4])).length) Slot.unset).toArray = ls at hl ⊢
  have hl : lv_has ls 5 [(0, .ref m0), (1, .int p1), (2, .int p2), (3, .int p3), (4, .int p4)] := hl
  refine W_genQ (fun Q hQ => ?_)
  refine lv_aload_n hx hb dX12_worth_0 rfl (lv_at hl 0 rfl) ?_
  refine lv_iload_n hx hb dX12_worth_1 rfl (lv_at hl 1 rfl) ?_
  have hPc := hP.sub (ws' := [(m0, .inr (12, [.ref mp, .int 0, .int 0, .int 0, .ref mw, .ref mh, .ref mo, .int 0, .int 0, .int 0, .int 0, .int 0, .int 0, .ref m5, .ref m6, .ref m7, .long 0, .int 0, .ref mk, .ref mn, .int 0, .ref mq, .ref m8, .ref m9, .int 0, .int 0, .int 0, .int 0, .ref ma, .int 0, .ref mb, .ref md, .long 0]))]) [0] rfl
  have hKc := hK.sub (tys' := []) [] rfl
  refine vp_callSi (W.runV (As := [.int p1]) (rest := []) ⟨hx, hb, hml, hown, hg⟩ (m_isPay l D m0 mp mw mh mo m5 m6 m7 mk mn mq m8 m9 ma mb md p1) (cwV 1 hg (gw_V kw_213 kw_214 kw_215 kw_210 kw_212) rfl rfl rfl (by decide +kernel) ⟨Nat.le_of_ble_eq_true rfl, Nat.le_of_ble_eq_true rfl⟩) (pr_SV (q := (RX12, TX12, 33)) 12 0 hKc hPc rfl rfl) rfl rfl hl.1 rfl (lv_room (Nat.le_of_ble_eq_true rfl)) dX12_worth_2 ⟨Nat.le_of_ble_eq_true rfl, Nat.le_of_ble_eq_true rfl⟩) (fun r_2 h_2 => ?_)
  obtain rfl : r_2 = (0 : Int32) := h_2
  refine lv_if_eq (tgt := 16) hx hb dX12_worth_5 (by decide) (fun c_5 => ?_) (fun c_5 => absurd (by decide) c_5)
  refine lv_ldc2 hx hb hown (hg _ kw_222) dX12_worth_16 ?_
  subst hQ
  exact W.lret (v := (-2000000000000000001)) hx hb hr (fun t ht hW => ⟨(-2000000000000000001), rfl, rfl, ht⟩) (fun _ h => absurd h List.not_mem_nil) dX12_worth_19

theorem dX12_rests_0 : decode cX12_rests 0 = .ok (.aload_n 0, 1) := by decide +kernel
theorem dX12_rests_1 : decode cX12_rests 1 = .ok (.iload_n 1, 1) := by decide +kernel
theorem dX12_rests_2 : decode cX12_rests 2 = .ok (.iload_n 2, 1) := by decide +kernel
theorem dX12_rests_3 : decode cX12_rests 3 = .ok (.iload_n 3, 1) := by decide +kernel
theorem dX12_rests_4 : decode cX12_rests 4 = .ok (.i2l, 1) := by decide +kernel
theorem dX12_rests_5 : decode cX12_rests 5 = .ok (.lconst 0, 1) := by decide +kernel
theorem dX12_rests_6 : decode cX12_rests 6 = .ok (.ldc2_w 191, 3) := by decide +kernel
theorem dX12_rests_9 : decode cX12_rests 9 = .ok (.invokestatic 70, 3) := by decide +kernel
theorem dX12_rests_12 : decode cX12_rests 12 = .ok (.invokevirtual 193, 3) := by decide +kernel
theorem dX12_rests_15 : decode cX12_rests 15 = .ok (.istore 4, 2) := by decide +kernel
theorem dX12_rests_17 : decode cX12_rests 17 = .ok (.iload 4, 2) := by decide +kernel
theorem dX12_rests_19 : decode cX12_rests 19 = .ok (.ifCond .eq 6, 3) := by decide +kernel
theorem dX12_rests_22 : decode cX12_rests 22 = .ok (.iload 4, 2) := by decide +kernel
theorem dX12_rests_24 : decode cX12_rests 24 = .ok (.ireturn, 1) := by decide +kernel
theorem dX12_rests_25 : decode cX12_rests 25 = .ok (.aload_n 0, 1) := by decide +kernel
theorem dX12_rests_26 : decode cX12_rests 26 = .ok (.iload_n 1, 1) := by decide +kernel
theorem dX12_rests_27 : decode cX12_rests 27 = .ok (.invokevirtual 197, 3) := by decide +kernel
theorem dX12_rests_30 : decode cX12_rests 30 = .ok (.aload_n 0, 1) := by decide +kernel
theorem dX12_rests_31 : decode cX12_rests 31 = .ok (.iload_n 2, 1) := by decide +kernel
theorem dX12_rests_32 : decode cX12_rests 32 = .ok (.invokevirtual 200, 3) := by decide +kernel
theorem dX12_rests_35 : decode cX12_rests 35 = .ok (.istore 5, 2) := by decide +kernel
theorem dX12_rests_37 : decode cX12_rests 37 = .ok (.iload_n 3, 1) := by decide +kernel
theorem dX12_rests_38 : decode cX12_rests 38 = .ok (.ifCond .ne 17, 3) := by decide +kernel
theorem dX12_rests_41 : decode cX12_rests 41 = .ok (.iload 5, 2) := by decide +kernel
theorem dX12_rests_43 : decode cX12_rests 43 = .ok (.iconst (-1), 1) := by decide +kernel
theorem dX12_rests_44 : decode cX12_rests 44 = .ok (.if_icmp .ne 7, 3) := by decide +kernel
theorem dX12_rests_47 : decode cX12_rests 47 = .ok (.iconst 1, 1) := by decide +kernel
theorem dX12_rests_48 : decode cX12_rests 48 = .ok (.goto 30, 3) := by decide +kernel
theorem dX12_rests_51 : decode cX12_rests 51 = .ok (.iconst 0, 1) := by decide +kernel
theorem dX12_rests_52 : decode cX12_rests 52 = .ok (.goto 26, 3) := by decide +kernel
theorem dX12_rests_55 : decode cX12_rests 55 = .ok (.iload_n 3, 1) := by decide +kernel
theorem dX12_rests_56 : decode cX12_rests 56 = .ok (.iconst 1, 1) := by decide +kernel
theorem dX12_rests_57 : decode cX12_rests 57 = .ok (.if_icmp .eq 9, 3) := by decide +kernel
theorem dX12_rests_60 : decode cX12_rests 60 = .ok (.iload 5, 2) := by decide +kernel
theorem dX12_rests_62 : decode cX12_rests 62 = .ok (.iconst (-1), 1) := by decide +kernel
theorem dX12_rests_63 : decode cX12_rests 63 = .ok (.if_icmp .ne 8, 3) := by decide +kernel
theorem dX12_rests_66 : decode cX12_rests 66 = .ok (.iload 5, 2) := by decide +kernel
theorem dX12_rests_68 : decode cX12_rests 68 = .ok (.goto 10, 3) := by decide +kernel
theorem dX12_rests_71 : decode cX12_rests 71 = .ok (.aload_n 0, 1) := by decide +kernel
theorem dX12_rests_72 : decode cX12_rests 72 = .ok (.iload_n 2, 1) := by decide +kernel
theorem dX12_rests_73 : decode cX12_rests 73 = .ok (.iload 5, 2) := by decide +kernel
theorem dX12_rests_75 : decode cX12_rests 75 = .ok (.invokevirtual 185, 3) := by decide +kernel
theorem dX12_rests_78 : decode cX12_rests 78 = .ok (.ireturn, 1) := by decide +kernel
theorem kw_223 : (.constantLong RX12 191 (2) : Cond) ∈ gw_tbl := gw_in (by decide +kernel) (by decide +kernel)
theorem kw_224 : (.code yX12_refusal cX12_refusal 4 (some .int) : Cond) ∈ gw_tbl := gw_in (by decide +kernel) (by decide +kernel)
theorem kw_225 : (.methodLink RX12 193 yX12_refusal : Cond) ∈ gw_tbl := gw_in (by decide +kernel) (by decide +kernel)
theorem kw_226 : (.instanceMethod yX12_refusal : Cond) ∈ gw_tbl := gw_in (by decide +kernel) (by decide +kernel)
theorem kw_227 : (.selects RX12 yX12_refusal yX12_refusal : Cond) ∈ gw_tbl := gw_in (by decide +kernel) (by decide +kernel)

set_option maxHeartbeats 4000000 in
set_option maxRecDepth 100000 in
theorem m_rests (l : Launch) (D : va_G) (m0 : Nat) (mp : Nat) (mw : Nat) (mh : Nat) (mo : Nat) (m5 : Nat) (m6 : Nat) (m7 : Nat) (mk : Nat) (mn : Nat) (mq : Nat) (m8 : Nat) (m9 : Nat) (ma : Nat) (mb : Nat) (md : Nat) (p1 : Int32) (p2 : Int32) (p3 : Int32) : Met l yX12_rests (Cond.code yX12_rests cX12_rests 6 (some .int) :: gw_tbl) ({ frames := 3, cells := 0, slots := 0, locals := 69 }) (pc_S D [] [(m0, .inr (12, [.ref mp, .int 0, .int 0, .int 0, .ref mw, .ref mh, .ref mo, .int 0, .int 0, .int 0, .int 0, .int 0, .int 0, .ref m5, .ref m6, .ref m7, .long 0, .int 0, .ref mk, .ref mn, .int 0, .ref mq, .ref m8, .ref m9, .int 0, .int 0, .int 0, .int 0, .ref ma, .int 0, .ref mb, .ref md, .long 0]))] [.ref m0, .int p1, .int p2, .int p3]) (vp_Si (fun r => r = (-101))) 0 0 (fun _ => False) := by
  refine Met.ofW (cc := cX12_rests) (maxL := 6) (ret := (some .int)) (by decide) rfl ?_
  intro p e s m args below meth c s₁ B hml hv
  obtain ⟨hargs, hP, hK⟩ := hv
  have hx := B.exec
  have hb := B.bytes
  have hr := B.returns
  have hts := atoms_spec (ws := Cond.code yX12_rests cX12_rests 6 (some .int) :: gw_tbl) B.pre
  have hg := fun (w : Cond) (h : w ∈ gw_tbl) => hts w (List.mem_cons_of_mem _ h)
  have hown : s.vm.findClass RX12 = some m.cls := findClass_of_methodNamed B.named
  have hlocks := B.notSynchronized
  have hl := lv_entry ([.ref m0, .int p1, .int p2, .int p3]) (n := 6) (Nat.le_of_ble_eq_true rfl)
  rw [show entryFrame m args 6 = F0 m 0 (lg_sl ([.ref m0, .int p1, .int p2, .int p3]) ++ List.replicate (6 - (lg_sl ([.ref m0, .int p1, .int p2, .int p3])).length) Slot.unset).toArray [] from by rw [hargs]; exact lg_entry_eq ..]
  generalize (lg_sl ([.ref m0, .int p1, .int p2, .int p3]) ++ List.replicate (6 - (lg_sl ([.ref m0, .int p1, .int p2, .int p3])).length) Slot.unset).toArray = ls at hl ⊢
  have hl : lv_has ls 6 [(0, .ref m0), (1, .int p1), (2, .int p2), (3, .int p3)] := hl
  refine W_genQ (fun Q hQ => ?_)
  refine lv_aload_n hx hb dX12_rests_0 rfl (lv_at hl 0 rfl) ?_
  refine lv_iload_n hx hb dX12_rests_1 rfl (lv_at hl 1 rfl) ?_
  refine lv_iload_n hx hb dX12_rests_2 rfl (lv_at hl 2 rfl) ?_
  refine lv_iload_n hx hb dX12_rests_3 rfl (lv_at hl 3 rfl) ?_
  refine lv_i2l hx hb dX12_rests_4 rfl ?_
  refine lv_topl (fun z_4 e_4 => ?_)
  refine lv_lconst (v := 0) hx hb dX12_rests_5 (by decide) ?_
  refine lv_ldc2 hx hb hown (hg _ kw_223) dX12_rests_6 ?_
  refine vp_callSi (W.runS (As := [.long z_4, .long 0, .long 2]) (rest := [.int p2, .int p1, .ref m0]) ⟨hx, hb, hml, hown, hg⟩ (c_in l z_4 0 2) (va_cwS 3 hg (gw_S kw_208 kw_209 kw_210 kw_207) rfl rfl rfl (by decide +kernel) ⟨Nat.le_of_ble_eq_true rfl, Nat.le_of_ble_eq_true rfl⟩) pr_0 rfl rfl hl.1 rfl (lv_room (Nat.le_of_ble_eq_true rfl)) dX12_rests_9 ⟨Nat.le_of_ble_eq_true rfl, Nat.le_of_ble_eq_true rfl⟩) (fun r_9 h_9 => ?_)
  try dsimp only at h_9
  have hPc := hP.sub (ws' := [(m0, .inr (12, [.ref mp, .int 0, .int 0, .int 0, .ref mw, .ref mh, .ref mo, .int 0, .int 0, .int 0, .int 0, .int 0, .int 0, .ref m5, .ref m6, .ref m7, .long 0, .int 0, .ref mk, .ref mn, .int 0, .ref mq, .ref m8, .ref m9, .int 0, .int 0, .int 0, .int 0, .ref ma, .int 0, .ref mb, .ref md, .long 0]))]) [0] rfl
  have hKc := hK.sub (tys' := []) [] rfl
  refine vp_callSi (W.runV (As := [.int p1, .int p2, .int r_9]) (rest := []) ⟨hx, hb, hml, hown, hg⟩ (m_refusal l D m0 mp mw mh mo m5 m6 m7 mk mn mq m8 m9 ma mb md p1 p2 r_9) (cwV 3 hg (gw_V kw_225 kw_226 kw_227 kw_210 kw_224) rfl rfl rfl (by decide +kernel) ⟨Nat.le_of_ble_eq_true rfl, Nat.le_of_ble_eq_true rfl⟩) (pr_SV (q := (RX12, TX12, 33)) 12 0 hKc hPc rfl rfl) rfl rfl hl.1 rfl (lv_room (Nat.le_of_ble_eq_true rfl)) dX12_rests_12 ⟨Nat.le_of_ble_eq_true rfl, Nat.le_of_ble_eq_true rfl⟩) (fun r_12 h_12 => ?_)
  obtain rfl : r_12 = ((-101) : Int32) := h_12
  refine lv_istore (lv' := [(4, .int (-101)), (0, .ref m0), (1, .int p1), (2, .int p2), (3, .int p3)]) hx hb dX12_rests_15 hl (by decide) rfl (fun ls hl => ?_)
  refine lv_iload hx hb dX12_rests_17 (lv_at hl 0 rfl) ?_
  refine lv_if_eq (tgt := 25) hx hb dX12_rests_19 (by decide) (fun c_19 => absurd c_19 (by decide)) (fun c_19 => ?_)
  refine lv_iload hx hb dX12_rests_22 (lv_at hl 0 rfl) ?_
  subst hQ
  exact W.iret (v := (-101)) hx hb hr (fun t ht hW => ⟨(-101), rfl, rfl, ht⟩) (fun _ h => absurd h List.not_mem_nil) dX12_rests_24

theorem dX12_gain_0 : decode cX12_gain 0 = .ok (.aload_n 0, 1) := by decide +kernel
theorem dX12_gain_1 : decode cX12_gain 1 = .ok (.iload_n 1, 1) := by decide +kernel
theorem dX12_gain_2 : decode cX12_gain 2 = .ok (.invokevirtual 142, 3) := by decide +kernel
theorem dX12_gain_5 : decode cX12_gain 5 = .ok (.ifCond .eq 11, 3) := by decide +kernel
theorem dX12_gain_8 : decode cX12_gain 8 = .ok (.aload_n 0, 1) := by decide +kernel
theorem dX12_gain_9 : decode cX12_gain 9 = .ok (.iload_n 3, 1) := by decide +kernel
theorem dX12_gain_10 : decode cX12_gain 10 = .ok (.invokevirtual 112, 3) := by decide +kernel
theorem dX12_gain_13 : decode cX12_gain 13 = .ok (.ifCond .ne 7, 3) := by decide +kernel
theorem dX12_gain_16 : decode cX12_gain 16 = .ok (.ldc2_w 127, 3) := by decide +kernel
theorem dX12_gain_19 : decode cX12_gain 19 = .ok (.lreturn, 1) := by decide +kernel
theorem dX12_gain_20 : decode cX12_gain 20 = .ok (.iload_n 2, 1) := by decide +kernel
theorem dX12_gain_21 : decode cX12_gain 21 = .ok (.i2l, 1) := by decide +kernel
theorem dX12_gain_22 : decode cX12_gain 22 = .ok (.lconst 0, 1) := by decide +kernel
theorem dX12_gain_23 : decode cX12_gain 23 = .ok (.aload_n 0, 1) := by decide +kernel
theorem dX12_gain_24 : decode cX12_gain 24 = .ok (.invokevirtual 172, 3) := by decide +kernel
theorem dX12_gain_27 : decode cX12_gain 27 = .ok (.iconst 1, 1) := by decide +kernel
theorem dX12_gain_28 : decode cX12_gain 28 = .ok (.isub, 1) := by decide +kernel
theorem dX12_gain_29 : decode cX12_gain 29 = .ok (.i2l, 1) := by decide +kernel
theorem dX12_gain_30 : decode cX12_gain 30 = .ok (.invokestatic 70, 3) := by decide +kernel
theorem dX12_gain_33 : decode cX12_gain 33 = .ok (.ifCond .eq 14, 3) := by decide +kernel
theorem dX12_gain_36 : decode cX12_gain 36 = .ok (.iload 4, 2) := by decide +kernel
theorem dX12_gain_38 : decode cX12_gain 38 = .ok (.i2l, 1) := by decide +kernel
theorem dX12_gain_39 : decode cX12_gain 39 = .ok (.lconst 0, 1) := by decide +kernel
theorem dX12_gain_40 : decode cX12_gain 40 = .ok (.lconst 1, 1) := by decide +kernel
theorem dX12_gain_41 : decode cX12_gain 41 = .ok (.invokestatic 70, 3) := by decide +kernel
theorem dX12_gain_44 : decode cX12_gain 44 = .ok (.ifCond .ne 7, 3) := by decide +kernel
theorem dX12_gain_47 : decode cX12_gain 47 = .ok (.ldc2_w 129, 3) := by decide +kernel
theorem dX12_gain_50 : decode cX12_gain 50 = .ok (.lreturn, 1) := by decide +kernel
theorem dX12_gain_51 : decode cX12_gain 51 = .ok (.aload_n 0, 1) := by decide +kernel
theorem dX12_gain_52 : decode cX12_gain 52 = .ok (.iload_n 1, 1) := by decide +kernel
theorem dX12_gain_53 : decode cX12_gain 53 = .ok (.invokevirtual 197, 3) := by decide +kernel
theorem dX12_gain_56 : decode cX12_gain 56 = .ok (.aload_n 0, 1) := by decide +kernel
theorem dX12_gain_57 : decode cX12_gain 57 = .ok (.iload_n 2, 1) := by decide +kernel
theorem dX12_gain_58 : decode cX12_gain 58 = .ok (.iload_n 3, 1) := by decide +kernel
theorem dX12_gain_59 : decode cX12_gain 59 = .ok (.invokevirtual 188, 3) := by decide +kernel
theorem dX12_gain_62 : decode cX12_gain 62 = .ok (.ldc2_w 168, 3) := by decide +kernel
theorem dX12_gain_65 : decode cX12_gain 65 = .ok (.aload_n 0, 1) := by decide +kernel
theorem dX12_gain_66 : decode cX12_gain 66 = .ok (.getfield 117, 3) := by decide +kernel
theorem dX12_gain_69 : decode cX12_gain 69 = .ok (.lmul, 1) := by decide +kernel
theorem dX12_gain_70 : decode cX12_gain 70 = .ok (.iload 4, 2) := by decide +kernel
theorem dX12_gain_72 : decode cX12_gain 72 = .ok (.invokestatic 133, 3) := by decide +kernel
theorem dX12_gain_75 : decode cX12_gain 75 = .ok (.lreturn, 1) := by decide +kernel

set_option maxHeartbeats 4000000 in
set_option maxRecDepth 100000 in
theorem m_gain (l : Launch) (D : va_G) (m0 : Nat) (mp : Nat) (mw : Nat) (mh : Nat) (mo : Nat) (m5 : Nat) (m6 : Nat) (m7 : Nat) (mk : Nat) (mn : Nat) (mq : Nat) (m8 : Nat) (m9 : Nat) (ma : Nat) (mb : Nat) (md : Nat) (p1 : Int32) (p2 : Int32) (p3 : Int32) (p4 : Int32) : Met l yX12_gain (Cond.code yX12_gain cX12_gain 5 (some .long) :: gw_tbl) ({ frames := 2, cells := 0, slots := 0, locals := 46 }) (pc_S D [] [(m0, .inr (12, [.ref mp, .int 0, .int 0, .int 0, .ref mw, .ref mh, .ref mo, .int 0, .int 0, .int 0, .int 0, .int 0, .int 0, .ref m5, .ref m6, .ref m7, .long 0, .int 0, .ref mk, .ref mn, .int 0, .ref mq, .ref m8, .ref m9, .int 0, .int 0, .int 0, .int 0, .ref ma, .int 0, .ref mb, .ref md, .long 0]))] [.ref m0, .int p1, .int p2, .int p3, .int p4]) (vp_Sl (fun r => r = (-101))) 0 0 (fun _ => False) := by
  refine Met.ofW (cc := cX12_gain) (maxL := 5) (ret := (some .long)) (by decide) rfl ?_
  intro p e s m args below meth c s₁ B hml hv
  obtain ⟨hargs, hP, hK⟩ := hv
  have hx := B.exec
  have hb := B.bytes
  have hr := B.returns
  have hts := atoms_spec (ws := Cond.code yX12_gain cX12_gain 5 (some .long) :: gw_tbl) B.pre
  have hg := fun (w : Cond) (h : w ∈ gw_tbl) => hts w (List.mem_cons_of_mem _ h)
  have hown : s.vm.findClass RX12 = some m.cls := findClass_of_methodNamed B.named
  have hlocks := B.notSynchronized
  have hl := lv_entry ([.ref m0, .int p1, .int p2, .int p3, .int p4]) (n := 5) (Nat.le_of_ble_eq_true rfl)
  rw [show entryFrame m args 5 = F0 m 0 (lg_sl ([.ref m0, .int p1, .int p2, .int p3, .int p4]) ++ List.replicate (5 - (lg_sl ([.ref m0, .int p1, .int p2, .int p3, .int p4])).length) Slot.unset).toArray [] from by rw [hargs]; exact lg_entry_eq ..]
  generalize (lg_sl ([.ref m0, .int p1, .int p2, .int p3, .int p4]) ++ List.replicate (5 - (lg_sl ([.ref m0, .int p1, .int p2, .int p3, .int p4])).length) Slot.unset).toArray = ls at hl ⊢
  have hl : lv_has ls 5 [(0, .ref m0), (1, .int p1), (2, .int p2), (3, .int p3), (4, .int p4)] := hl
  refine W_genQ (fun Q hQ => ?_)
  refine lv_aload_n hx hb dX12_gain_0 rfl (lv_at hl 0 rfl) ?_
  refine lv_iload_n hx hb dX12_gain_1 rfl (lv_at hl 1 rfl) ?_
  have hPc := hP.sub (ws' := [(m0, .inr (12, [.ref mp, .int 0, .int 0, .int 0, .ref mw, .ref mh, .ref mo, .int 0, .int 0, .int 0, .int 0, .int 0, .int 0, .ref m5, .ref m6, .ref m7, .long 0, .int 0, .ref mk, .ref mn, .int 0, .ref mq, .ref m8, .ref m9, .int 0, .int 0, .int 0, .int 0, .ref ma, .int 0, .ref mb, .ref md, .long 0]))]) [0] rfl
  have hKc := hK.sub (tys' := []) [] rfl
  refine vp_callSi (W.runV (As := [.int p1]) (rest := []) ⟨hx, hb, hml, hown, hg⟩ (m_isPay l D m0 mp mw mh mo m5 m6 m7 mk mn mq m8 m9 ma mb md p1) (cwV 1 hg (gw_V kw_213 kw_214 kw_215 kw_210 kw_212) rfl rfl rfl (by decide +kernel) ⟨Nat.le_of_ble_eq_true rfl, Nat.le_of_ble_eq_true rfl⟩) (pr_SV (q := (RX12, TX12, 33)) 12 0 hKc hPc rfl rfl) rfl rfl hl.1 rfl (lv_room (Nat.le_of_ble_eq_true rfl)) dX12_gain_2 ⟨Nat.le_of_ble_eq_true rfl, Nat.le_of_ble_eq_true rfl⟩) (fun r_2 h_2 => ?_)
  obtain rfl : r_2 = (0 : Int32) := h_2
  refine lv_if_eq (tgt := 16) hx hb dX12_gain_5 (by decide) (fun c_5 => ?_) (fun c_5 => absurd (by decide) c_5)
  refine lv_ldc2 hx hb hown (hg _ kw_221) dX12_gain_16 ?_
  subst hQ
  exact W.lret (v := (-101)) hx hb hr (fun t ht hW => ⟨(-101), rfl, rfl, ht⟩) (fun _ h => absurd h List.not_mem_nil) dX12_gain_19

theorem dX12_all_0 : decode cX12_all 0 = .ok (.aload_n 0, 1) := by decide +kernel
theorem dX12_all_1 : decode cX12_all 1 = .ok (.iload_n 1, 1) := by decide +kernel
theorem dX12_all_2 : decode cX12_all 2 = .ok (.iconst 0, 1) := by decide +kernel
theorem dX12_all_3 : decode cX12_all 3 = .ok (.iload_n 2, 1) := by decide +kernel
theorem dX12_all_4 : decode cX12_all 4 = .ok (.i2l, 1) := by decide +kernel
theorem dX12_all_5 : decode cX12_all 5 = .ok (.lconst 0, 1) := by decide +kernel
theorem dX12_all_6 : decode cX12_all 6 = .ok (.lconst 1, 1) := by decide +kernel
theorem dX12_all_7 : decode cX12_all 7 = .ok (.invokestatic 70, 3) := by decide +kernel
theorem dX12_all_10 : decode cX12_all 10 = .ok (.ifCond .ne 17, 3) := by decide +kernel
theorem dX12_all_13 : decode cX12_all 13 = .ok (.iload_n 2, 1) := by decide +kernel
theorem dX12_all_14 : decode cX12_all 14 = .ok (.i2l, 1) := by decide +kernel
theorem dX12_all_15 : decode cX12_all 15 = .ok (.ldc2_w 207, 3) := by decide +kernel
theorem dX12_all_18 : decode cX12_all 18 = .ok (.ldc2_w 209, 3) := by decide +kernel
theorem dX12_all_21 : decode cX12_all 21 = .ok (.invokestatic 70, 3) := by decide +kernel
theorem dX12_all_24 : decode cX12_all 24 = .ok (.ifCond .eq 7, 3) := by decide +kernel
theorem dX12_all_27 : decode cX12_all 27 = .ok (.iconst 1, 1) := by decide +kernel
theorem dX12_all_28 : decode cX12_all 28 = .ok (.goto 4, 3) := by decide +kernel
theorem dX12_all_31 : decode cX12_all 31 = .ok (.iconst 0, 1) := by decide +kernel
theorem dX12_all_32 : decode cX12_all 32 = .ok (.invokevirtual 193, 3) := by decide +kernel
theorem dX12_all_35 : decode cX12_all 35 = .ok (.istore_n 3, 1) := by decide +kernel
theorem dX12_all_36 : decode cX12_all 36 = .ok (.iload_n 3, 1) := by decide +kernel
theorem dX12_all_37 : decode cX12_all 37 = .ok (.ifCond .eq 7, 3) := by decide +kernel
theorem dX12_all_40 : decode cX12_all 40 = .ok (.iload_n 3, 1) := by decide +kernel
theorem dX12_all_41 : decode cX12_all 41 = .ok (.goto 9, 3) := by decide +kernel
theorem dX12_all_44 : decode cX12_all 44 = .ok (.aload_n 0, 1) := by decide +kernel
theorem dX12_all_45 : decode cX12_all 45 = .ok (.iload_n 1, 1) := by decide +kernel
theorem dX12_all_46 : decode cX12_all 46 = .ok (.iload_n 2, 1) := by decide +kernel
theorem dX12_all_47 : decode cX12_all 47 = .ok (.invokevirtual 211, 3) := by decide +kernel
theorem dX12_all_50 : decode cX12_all 50 = .ok (.ireturn, 1) := by decide +kernel
theorem kw_228 : (.constantLong RX12 207 (10) : Cond) ∈ gw_tbl := gw_in (by decide +kernel) (by decide +kernel)
theorem kw_229 : (.constantLong RX12 209 (99) : Cond) ∈ gw_tbl := gw_in (by decide +kernel) (by decide +kernel)

set_option maxHeartbeats 4000000 in
set_option maxRecDepth 100000 in
theorem m_all (l : Launch) (D : va_G) (m0 : Nat) (mp : Nat) (mw : Nat) (mh : Nat) (mo : Nat) (m5 : Nat) (m6 : Nat) (m7 : Nat) (mk : Nat) (mn : Nat) (mq : Nat) (m8 : Nat) (m9 : Nat) (ma : Nat) (mb : Nat) (md : Nat) (p1 : Int32) (p2 : Int32) : Met l yX12_all (Cond.code yX12_all cX12_all 4 (some .int) :: gw_tbl) ({ frames := 3, cells := 0, slots := 0, locals := 69 }) (pc_S D [] [(m0, .inr (12, [.ref mp, .int 0, .int 0, .int 0, .ref mw, .ref mh, .ref mo, .int 0, .int 0, .int 0, .int 0, .int 0, .int 0, .ref m5, .ref m6, .ref m7, .long 0, .int 0, .ref mk, .ref mn, .int 0, .ref mq, .ref m8, .ref m9, .int 0, .int 0, .int 0, .int 0, .ref ma, .int 0, .ref mb, .ref md, .long 0]))] [.ref m0, .int p1, .int p2]) (vp_Si (fun r => r = (-101))) 0 0 (fun _ => False) := by
  refine Met.ofW (cc := cX12_all) (maxL := 4) (ret := (some .int)) (by decide) rfl ?_
  intro p e s m args below meth c s₁ B hml hv
  obtain ⟨hargs, hP, hK⟩ := hv
  have hx := B.exec
  have hb := B.bytes
  have hr := B.returns
  have hts := atoms_spec (ws := Cond.code yX12_all cX12_all 4 (some .int) :: gw_tbl) B.pre
  have hg := fun (w : Cond) (h : w ∈ gw_tbl) => hts w (List.mem_cons_of_mem _ h)
  have hown : s.vm.findClass RX12 = some m.cls := findClass_of_methodNamed B.named
  have hlocks := B.notSynchronized
  have hl := lv_entry ([.ref m0, .int p1, .int p2]) (n := 4) (Nat.le_of_ble_eq_true rfl)
  rw [show entryFrame m args 4 = F0 m 0 (lg_sl ([.ref m0, .int p1, .int p2]) ++ List.replicate (4 - (lg_sl ([.ref m0, .int p1, .int p2])).length) Slot.unset).toArray [] from by rw [hargs]; exact lg_entry_eq ..]
  generalize (lg_sl ([.ref m0, .int p1, .int p2]) ++ List.replicate (4 - (lg_sl ([.ref m0, .int p1, .int p2])).length) Slot.unset).toArray = ls at hl ⊢
  have hl : lv_has ls 4 [(0, .ref m0), (1, .int p1), (2, .int p2)] := hl
  refine W_genQ (fun Q hQ => ?_)
  refine lv_aload_n hx hb dX12_all_0 rfl (lv_at hl 0 rfl) ?_
  refine lv_iload_n hx hb dX12_all_1 rfl (lv_at hl 1 rfl) ?_
  refine lv_iconst (v := 0) hx hb dX12_all_2 (by decide) ?_
  refine lv_iload_n hx hb dX12_all_3 rfl (lv_at hl 2 rfl) ?_
  refine lv_i2l hx hb dX12_all_4 rfl ?_
  refine lv_topl (fun z_4 e_4 => ?_)
  refine lv_lconst (v := 0) hx hb dX12_all_5 (by decide) ?_
  refine lv_lconst (v := 1) hx hb dX12_all_6 (by decide) ?_
  refine vp_callSi (W.runS (As := [.long z_4, .long 0, .long 1]) (rest := [.int 0, .int p1, .ref m0]) ⟨hx, hb, hml, hown, hg⟩ (c_in l z_4 0 1) (va_cwS 3 hg (gw_S kw_208 kw_209 kw_210 kw_207) rfl rfl rfl (by decide +kernel) ⟨Nat.le_of_ble_eq_true rfl, Nat.le_of_ble_eq_true rfl⟩) pr_0 rfl rfl hl.1 rfl (lv_room (Nat.le_of_ble_eq_true rfl)) dX12_all_7 ⟨Nat.le_of_ble_eq_true rfl, Nat.le_of_ble_eq_true rfl⟩) (fun r_7 h_7 => ?_)
  try dsimp only at h_7
  refine lv_if_ne (tgt := 27) hx hb dX12_all_10 (by decide) (fun c_10 => ?_) (fun c_10 => ?_)
  · refine lv_iconst (v := 1) hx hb dX12_all_27 (by decide) ?_
    refine lv_goto (tgt := 32) hx hb dX12_all_28 (by decide) ?_
    have hPc := hP.sub (ws' := [(m0, .inr (12, [.ref mp, .int 0, .int 0, .int 0, .ref mw, .ref mh, .ref mo, .int 0, .int 0, .int 0, .int 0, .int 0, .int 0, .ref m5, .ref m6, .ref m7, .long 0, .int 0, .ref mk, .ref mn, .int 0, .ref mq, .ref m8, .ref m9, .int 0, .int 0, .int 0, .int 0, .ref ma, .int 0, .ref mb, .ref md, .long 0]))]) [0] rfl
    have hKc := hK.sub (tys' := []) [] rfl
    refine vp_callSi (W.runV (As := [.int p1, .int 0, .int 1]) (rest := []) ⟨hx, hb, hml, hown, hg⟩ (m_refusal l D m0 mp mw mh mo m5 m6 m7 mk mn mq m8 m9 ma mb md p1 0 1) (cwV 3 hg (gw_V kw_225 kw_226 kw_227 kw_210 kw_224) rfl rfl rfl (by decide +kernel) ⟨Nat.le_of_ble_eq_true rfl, Nat.le_of_ble_eq_true rfl⟩) (pr_SV (q := (RX12, TX12, 33)) 12 0 hKc hPc rfl rfl) rfl rfl hl.1 rfl (lv_room (Nat.le_of_ble_eq_true rfl)) dX12_all_32 ⟨Nat.le_of_ble_eq_true rfl, Nat.le_of_ble_eq_true rfl⟩) (fun r_32 h_32 => ?_)
    obtain rfl : r_32 = ((-101) : Int32) := h_32
    refine lv_istore_n (lv' := [(3, .int (-101)), (0, .ref m0), (1, .int p1), (2, .int p2)]) hx hb dX12_all_35 rfl hl (by decide) rfl (fun ls hl => ?_)
    refine lv_iload_n hx hb dX12_all_36 rfl (lv_at hl 0 rfl) ?_
    refine lv_if_eq (tgt := 44) hx hb dX12_all_37 (by decide) (fun c_37 => absurd c_37 (by decide)) (fun c_37 => ?_)
    refine lv_iload_n hx hb dX12_all_40 rfl (lv_at hl 0 rfl) ?_
    refine lv_goto (tgt := 50) hx hb dX12_all_41 (by decide) ?_
    subst hQ
    exact W.iret (v := (-101)) hx hb hr (fun t ht hW => ⟨(-101), rfl, rfl, ht⟩) (fun _ h => absurd h List.not_mem_nil) dX12_all_50
  · refine lv_iload_n hx hb dX12_all_13 rfl (lv_at hl 2 rfl) ?_
    refine lv_i2l hx hb dX12_all_14 rfl ?_
    refine lv_topl (fun z_14 e_14 => ?_)
    refine lv_ldc2 hx hb hown (hg _ kw_228) dX12_all_15 ?_
    refine lv_ldc2 hx hb hown (hg _ kw_229) dX12_all_18 ?_
    refine vp_callSi (W.runS (As := [.long z_14, .long 10, .long 99]) (rest := [.int 0, .int p1, .ref m0]) ⟨hx, hb, hml, hown, hg⟩ (c_in l z_14 10 99) (va_cwS 3 hg (gw_S kw_208 kw_209 kw_210 kw_207) rfl rfl rfl (by decide +kernel) ⟨Nat.le_of_ble_eq_true rfl, Nat.le_of_ble_eq_true rfl⟩) pr_0 rfl rfl hl.1 rfl (lv_room (Nat.le_of_ble_eq_true rfl)) dX12_all_21 ⟨Nat.le_of_ble_eq_true rfl, Nat.le_of_ble_eq_true rfl⟩) (fun r_21 h_21 => ?_)
    try dsimp only at h_21
    refine lv_if_eq (tgt := 31) hx hb dX12_all_24 (by decide) (fun c_24 => ?_) (fun c_24 => ?_)
    · refine lv_iconst (v := 0) hx hb dX12_all_31 (by decide) ?_
      have hPc := hP.sub (ws' := [(m0, .inr (12, [.ref mp, .int 0, .int 0, .int 0, .ref mw, .ref mh, .ref mo, .int 0, .int 0, .int 0, .int 0, .int 0, .int 0, .ref m5, .ref m6, .ref m7, .long 0, .int 0, .ref mk, .ref mn, .int 0, .ref mq, .ref m8, .ref m9, .int 0, .int 0, .int 0, .int 0, .ref ma, .int 0, .ref mb, .ref md, .long 0]))]) [0] rfl
      have hKc := hK.sub (tys' := []) [] rfl
      refine vp_callSi (W.runV (As := [.int p1, .int 0, .int 0]) (rest := []) ⟨hx, hb, hml, hown, hg⟩ (m_refusal l D m0 mp mw mh mo m5 m6 m7 mk mn mq m8 m9 ma mb md p1 0 0) (cwV 3 hg (gw_V kw_225 kw_226 kw_227 kw_210 kw_224) rfl rfl rfl (by decide +kernel) ⟨Nat.le_of_ble_eq_true rfl, Nat.le_of_ble_eq_true rfl⟩) (pr_SV (q := (RX12, TX12, 33)) 12 0 hKc hPc rfl rfl) rfl rfl hl.1 rfl (lv_room (Nat.le_of_ble_eq_true rfl)) dX12_all_32 ⟨Nat.le_of_ble_eq_true rfl, Nat.le_of_ble_eq_true rfl⟩) (fun r_32 h_32 => ?_)
      obtain rfl : r_32 = ((-101) : Int32) := h_32
      refine lv_istore_n (lv' := [(3, .int (-101)), (0, .ref m0), (1, .int p1), (2, .int p2)]) hx hb dX12_all_35 rfl hl (by decide) rfl (fun ls hl => ?_)
      refine lv_iload_n hx hb dX12_all_36 rfl (lv_at hl 0 rfl) ?_
      refine lv_if_eq (tgt := 44) hx hb dX12_all_37 (by decide) (fun c_37 => absurd c_37 (by decide)) (fun c_37 => ?_)
      refine lv_iload_n hx hb dX12_all_40 rfl (lv_at hl 0 rfl) ?_
      refine lv_goto (tgt := 50) hx hb dX12_all_41 (by decide) ?_
      subst hQ
      exact W.iret (v := (-101)) hx hb hr (fun t ht hW => ⟨(-101), rfl, rfl, ht⟩) (fun _ h => absurd h List.not_mem_nil) dX12_all_50
    · refine lv_iconst (v := 1) hx hb dX12_all_27 (by decide) ?_
      refine lv_goto (tgt := 32) hx hb dX12_all_28 (by decide) ?_
      have hPc := hP.sub (ws' := [(m0, .inr (12, [.ref mp, .int 0, .int 0, .int 0, .ref mw, .ref mh, .ref mo, .int 0, .int 0, .int 0, .int 0, .int 0, .int 0, .ref m5, .ref m6, .ref m7, .long 0, .int 0, .ref mk, .ref mn, .int 0, .ref mq, .ref m8, .ref m9, .int 0, .int 0, .int 0, .int 0, .ref ma, .int 0, .ref mb, .ref md, .long 0]))]) [0] rfl
      have hKc := hK.sub (tys' := []) [] rfl
      refine vp_callSi (W.runV (As := [.int p1, .int 0, .int 1]) (rest := []) ⟨hx, hb, hml, hown, hg⟩ (m_refusal l D m0 mp mw mh mo m5 m6 m7 mk mn mq m8 m9 ma mb md p1 0 1) (cwV 3 hg (gw_V kw_225 kw_226 kw_227 kw_210 kw_224) rfl rfl rfl (by decide +kernel) ⟨Nat.le_of_ble_eq_true rfl, Nat.le_of_ble_eq_true rfl⟩) (pr_SV (q := (RX12, TX12, 33)) 12 0 hKc hPc rfl rfl) rfl rfl hl.1 rfl (lv_room (Nat.le_of_ble_eq_true rfl)) dX12_all_32 ⟨Nat.le_of_ble_eq_true rfl, Nat.le_of_ble_eq_true rfl⟩) (fun r_32 h_32 => ?_)
      obtain rfl : r_32 = ((-101) : Int32) := h_32
      refine lv_istore_n (lv' := [(3, .int (-101)), (0, .ref m0), (1, .int p1), (2, .int p2)]) hx hb dX12_all_35 rfl hl (by decide) rfl (fun ls hl => ?_)
      refine lv_iload_n hx hb dX12_all_36 rfl (lv_at hl 0 rfl) ?_
      refine lv_if_eq (tgt := 44) hx hb dX12_all_37 (by decide) (fun c_37 => absurd c_37 (by decide)) (fun c_37 => ?_)
      refine lv_iload_n hx hb dX12_all_40 rfl (lv_at hl 0 rfl) ?_
      refine lv_goto (tgt := 50) hx hb dX12_all_41 (by decide) ?_
      subst hQ
      exact W.iret (v := (-101)) hx hb hr (fun t ht hW => ⟨(-101), rfl, rfl, ht⟩) (fun _ h => absurd h List.not_mem_nil) dX12_all_50

theorem dX12_group_0 : decode cX12_group 0 = .ok (.aload_n 0, 1) := by decide +kernel
theorem dX12_group_1 : decode cX12_group 1 = .ok (.iload_n 1, 1) := by decide +kernel
theorem dX12_group_2 : decode cX12_group 2 = .ok (.iload_n 2, 1) := by decide +kernel
theorem dX12_group_3 : decode cX12_group 3 = .ok (.iload_n 3, 1) := by decide +kernel
theorem dX12_group_4 : decode cX12_group 4 = .ok (.i2l, 1) := by decide +kernel
theorem dX12_group_5 : decode cX12_group 5 = .ok (.lconst 0, 1) := by decide +kernel
theorem dX12_group_6 : decode cX12_group 6 = .ok (.lconst 1, 1) := by decide +kernel
theorem dX12_group_7 : decode cX12_group 7 = .ok (.invokestatic 70, 3) := by decide +kernel
theorem dX12_group_10 : decode cX12_group 10 = .ok (.invokevirtual 193, 3) := by decide +kernel
theorem dX12_group_13 : decode cX12_group 13 = .ok (.istore 4, 2) := by decide +kernel
theorem dX12_group_15 : decode cX12_group 15 = .ok (.iload 4, 2) := by decide +kernel
theorem dX12_group_17 : decode cX12_group 17 = .ok (.ifCond .eq 6, 3) := by decide +kernel
theorem dX12_group_20 : decode cX12_group 20 = .ok (.iload 4, 2) := by decide +kernel
theorem dX12_group_22 : decode cX12_group 22 = .ok (.ireturn, 1) := by decide +kernel
theorem dX12_group_23 : decode cX12_group 23 = .ok (.aload_n 0, 1) := by decide +kernel
theorem dX12_group_24 : decode cX12_group 24 = .ok (.iload_n 1, 1) := by decide +kernel
theorem dX12_group_25 : decode cX12_group 25 = .ok (.invokevirtual 197, 3) := by decide +kernel
theorem dX12_group_28 : decode cX12_group 28 = .ok (.iconst (-1), 1) := by decide +kernel
theorem dX12_group_29 : decode cX12_group 29 = .ok (.istore 5, 2) := by decide +kernel
theorem dX12_group_31 : decode cX12_group 31 = .ok (.iconst (-1), 1) := by decide +kernel
theorem dX12_group_32 : decode cX12_group 32 = .ok (.istore 6, 2) := by decide +kernel
theorem dX12_group_34 : decode cX12_group 34 = .ok (.iconst 1, 1) := by decide +kernel
theorem dX12_group_35 : decode cX12_group 35 = .ok (.istore 7, 2) := by decide +kernel
theorem dX12_group_37 : decode cX12_group 37 = .ok (.iload 7, 2) := by decide +kernel
theorem dX12_group_39 : decode cX12_group 39 = .ok (.iconst 1, 1) := by decide +kernel
theorem dX12_group_40 : decode cX12_group 40 = .ok (.aload_n 0, 1) := by decide +kernel
theorem dX12_group_41 : decode cX12_group 41 = .ok (.getfield 57, 3) := by decide +kernel
theorem dX12_group_44 : decode cX12_group 44 = .ok (.ishl, 1) := by decide +kernel
theorem dX12_group_45 : decode cX12_group 45 = .ok (.if_icmp .ge 101, 3) := by decide +kernel
theorem dX12_group_48 : decode cX12_group 48 = .ok (.iload 5, 2) := by decide +kernel
theorem dX12_group_50 : decode cX12_group 50 = .ok (.iconst (-1), 1) := by decide +kernel
theorem dX12_group_51 : decode cX12_group 51 = .ok (.if_icmp .eq 16, 3) := by decide +kernel
theorem dX12_group_54 : decode cX12_group 54 = .ok (.iload 7, 2) := by decide +kernel
theorem dX12_group_56 : decode cX12_group 56 = .ok (.invokestatic 150, 3) := by decide +kernel
theorem dX12_group_59 : decode cX12_group 59 = .ok (.iload 5, 2) := by decide +kernel
theorem dX12_group_61 : decode cX12_group 61 = .ok (.invokestatic 150, 3) := by decide +kernel
theorem dX12_group_64 : decode cX12_group 64 = .ok (.if_icmp .ge 76, 3) := by decide +kernel
theorem dX12_group_67 : decode cX12_group 67 = .ok (.iconst (-1), 1) := by decide +kernel
theorem dX12_group_68 : decode cX12_group 68 = .ok (.istore 8, 2) := by decide +kernel
theorem dX12_group_70 : decode cX12_group 70 = .ok (.aload_n 0, 1) := by decide +kernel
theorem dX12_group_71 : decode cX12_group 71 = .ok (.invokevirtual 172, 3) := by decide +kernel
theorem dX12_group_74 : decode cX12_group 74 = .ok (.iconst 1, 1) := by decide +kernel
theorem dX12_group_75 : decode cX12_group 75 = .ok (.isub, 1) := by decide +kernel
theorem dX12_group_76 : decode cX12_group 76 = .ok (.istore 9, 2) := by decide +kernel
theorem dX12_group_78 : decode cX12_group 78 = .ok (.iload 9, 2) := by decide +kernel
theorem dX12_group_80 : decode cX12_group 80 = .ok (.ifCond .lt 30, 3) := by decide +kernel
theorem dX12_group_83 : decode cX12_group 83 = .ok (.aload_n 0, 1) := by decide +kernel
theorem dX12_group_84 : decode cX12_group 84 = .ok (.iload_n 2, 1) := by decide +kernel
theorem dX12_group_85 : decode cX12_group 85 = .ok (.iload 9, 2) := by decide +kernel
theorem dX12_group_87 : decode cX12_group 87 = .ok (.iload 7, 2) := by decide +kernel
theorem dX12_group_89 : decode cX12_group 89 = .ok (.invokevirtual 214, 3) := by decide +kernel
theorem dX12_group_92 : decode cX12_group 92 = .ok (.ifCond .eq 8, 3) := by decide +kernel
theorem dX12_group_95 : decode cX12_group 95 = .ok (.iload 9, 2) := by decide +kernel
theorem dX12_group_97 : decode cX12_group 97 = .ok (.goto 5, 3) := by decide +kernel
theorem dX12_group_100 : decode cX12_group 100 = .ok (.iload 8, 2) := by decide +kernel
theorem dX12_group_102 : decode cX12_group 102 = .ok (.istore 8, 2) := by decide +kernel
theorem dX12_group_104 : decode cX12_group 104 = .ok (.iinc 9 (-1), 3) := by decide +kernel
theorem dX12_group_107 : decode cX12_group 107 = .ok (.goto (-29), 3) := by decide +kernel
theorem dX12_group_110 : decode cX12_group 110 = .ok (.iload 8, 2) := by decide +kernel
theorem dX12_group_112 : decode cX12_group 112 = .ok (.iconst (-1), 1) := by decide +kernel
theorem dX12_group_113 : decode cX12_group 113 = .ok (.if_icmp .eq 8, 3) := by decide +kernel
theorem dX12_group_116 : decode cX12_group 116 = .ok (.iload 7, 2) := by decide +kernel
theorem dX12_group_118 : decode cX12_group 118 = .ok (.goto 5, 3) := by decide +kernel
theorem dX12_group_121 : decode cX12_group 121 = .ok (.iload 5, 2) := by decide +kernel
theorem dX12_group_123 : decode cX12_group 123 = .ok (.istore 5, 2) := by decide +kernel
theorem dX12_group_125 : decode cX12_group 125 = .ok (.iload 8, 2) := by decide +kernel
theorem dX12_group_127 : decode cX12_group 127 = .ok (.iconst (-1), 1) := by decide +kernel
theorem dX12_group_128 : decode cX12_group 128 = .ok (.if_icmp .eq 8, 3) := by decide +kernel
theorem dX12_group_131 : decode cX12_group 131 = .ok (.iload 8, 2) := by decide +kernel
theorem dX12_group_133 : decode cX12_group 133 = .ok (.goto 5, 3) := by decide +kernel
theorem dX12_group_136 : decode cX12_group 136 = .ok (.iload 6, 2) := by decide +kernel
theorem dX12_group_138 : decode cX12_group 138 = .ok (.istore 6, 2) := by decide +kernel
theorem dX12_group_140 : decode cX12_group 140 = .ok (.iinc 7 1, 3) := by decide +kernel
theorem dX12_group_143 : decode cX12_group 143 = .ok (.goto (-106), 3) := by decide +kernel
theorem dX12_group_146 : decode cX12_group 146 = .ok (.iload_n 3, 1) := by decide +kernel
theorem dX12_group_147 : decode cX12_group 147 = .ok (.ifCond .ne 8, 3) := by decide +kernel
theorem dX12_group_150 : decode cX12_group 150 = .ok (.iload 5, 2) := by decide +kernel
theorem dX12_group_152 : decode cX12_group 152 = .ok (.goto 5, 3) := by decide +kernel
theorem dX12_group_155 : decode cX12_group 155 = .ok (.iload 6, 2) := by decide +kernel
theorem dX12_group_157 : decode cX12_group 157 = .ok (.ireturn, 1) := by decide +kernel

set_option maxHeartbeats 4000000 in
set_option maxRecDepth 100000 in
theorem m_group (l : Launch) (D : va_G) (m0 : Nat) (mp : Nat) (mw : Nat) (mh : Nat) (mo : Nat) (m5 : Nat) (m6 : Nat) (m7 : Nat) (mk : Nat) (mn : Nat) (mq : Nat) (m8 : Nat) (m9 : Nat) (ma : Nat) (mb : Nat) (md : Nat) (p1 : Int32) (p2 : Int32) (p3 : Int32) : Met l yX12_group (Cond.code yX12_group cX12_group 10 (some .int) :: gw_tbl) ({ frames := 3, cells := 0, slots := 0, locals := 69 }) (pc_S D [] [(m0, .inr (12, [.ref mp, .int 0, .int 0, .int 0, .ref mw, .ref mh, .ref mo, .int 0, .int 0, .int 0, .int 0, .int 0, .int 0, .ref m5, .ref m6, .ref m7, .long 0, .int 0, .ref mk, .ref mn, .int 0, .ref mq, .ref m8, .ref m9, .int 0, .int 0, .int 0, .int 0, .ref ma, .int 0, .ref mb, .ref md, .long 0]))] [.ref m0, .int p1, .int p2, .int p3]) (vp_Si (fun r => r = (-101))) 0 0 (fun _ => False) := by
  refine Met.ofW (cc := cX12_group) (maxL := 10) (ret := (some .int)) (by decide) rfl ?_
  intro p e s m args below meth c s₁ B hml hv
  obtain ⟨hargs, hP, hK⟩ := hv
  have hx := B.exec
  have hb := B.bytes
  have hr := B.returns
  have hts := atoms_spec (ws := Cond.code yX12_group cX12_group 10 (some .int) :: gw_tbl) B.pre
  have hg := fun (w : Cond) (h : w ∈ gw_tbl) => hts w (List.mem_cons_of_mem _ h)
  have hown : s.vm.findClass RX12 = some m.cls := findClass_of_methodNamed B.named
  have hlocks := B.notSynchronized
  have hl := lv_entry ([.ref m0, .int p1, .int p2, .int p3]) (n := 10) (Nat.le_of_ble_eq_true rfl)
  rw [show entryFrame m args 10 = F0 m 0 (lg_sl ([.ref m0, .int p1, .int p2, .int p3]) ++ List.replicate (10 - (lg_sl ([.ref m0, .int p1, .int p2, .int p3])).length) Slot.unset).toArray [] from by rw [hargs]; exact lg_entry_eq ..]
  generalize (lg_sl ([.ref m0, .int p1, .int p2, .int p3]) ++ List.replicate (10 - (lg_sl ([.ref m0, .int p1, .int p2, .int p3])).length) Slot.unset).toArray = ls at hl ⊢
  have hl : lv_has ls 10 [(0, .ref m0), (1, .int p1), (2, .int p2), (3, .int p3)] := hl
  refine W_genQ (fun Q hQ => ?_)
  refine lv_aload_n hx hb dX12_group_0 rfl (lv_at hl 0 rfl) ?_
  refine lv_iload_n hx hb dX12_group_1 rfl (lv_at hl 1 rfl) ?_
  refine lv_iload_n hx hb dX12_group_2 rfl (lv_at hl 2 rfl) ?_
  refine lv_iload_n hx hb dX12_group_3 rfl (lv_at hl 3 rfl) ?_
  refine lv_i2l hx hb dX12_group_4 rfl ?_
  refine lv_topl (fun z_4 e_4 => ?_)
  refine lv_lconst (v := 0) hx hb dX12_group_5 (by decide) ?_
  refine lv_lconst (v := 1) hx hb dX12_group_6 (by decide) ?_
  refine vp_callSi (W.runS (As := [.long z_4, .long 0, .long 1]) (rest := [.int p2, .int p1, .ref m0]) ⟨hx, hb, hml, hown, hg⟩ (c_in l z_4 0 1) (va_cwS 3 hg (gw_S kw_208 kw_209 kw_210 kw_207) rfl rfl rfl (by decide +kernel) ⟨Nat.le_of_ble_eq_true rfl, Nat.le_of_ble_eq_true rfl⟩) pr_0 rfl rfl hl.1 rfl (lv_room (Nat.le_of_ble_eq_true rfl)) dX12_group_7 ⟨Nat.le_of_ble_eq_true rfl, Nat.le_of_ble_eq_true rfl⟩) (fun r_7 h_7 => ?_)
  try dsimp only at h_7
  have hPc := hP.sub (ws' := [(m0, .inr (12, [.ref mp, .int 0, .int 0, .int 0, .ref mw, .ref mh, .ref mo, .int 0, .int 0, .int 0, .int 0, .int 0, .int 0, .ref m5, .ref m6, .ref m7, .long 0, .int 0, .ref mk, .ref mn, .int 0, .ref mq, .ref m8, .ref m9, .int 0, .int 0, .int 0, .int 0, .ref ma, .int 0, .ref mb, .ref md, .long 0]))]) [0] rfl
  have hKc := hK.sub (tys' := []) [] rfl
  refine vp_callSi (W.runV (As := [.int p1, .int p2, .int r_7]) (rest := []) ⟨hx, hb, hml, hown, hg⟩ (m_refusal l D m0 mp mw mh mo m5 m6 m7 mk mn mq m8 m9 ma mb md p1 p2 r_7) (cwV 3 hg (gw_V kw_225 kw_226 kw_227 kw_210 kw_224) rfl rfl rfl (by decide +kernel) ⟨Nat.le_of_ble_eq_true rfl, Nat.le_of_ble_eq_true rfl⟩) (pr_SV (q := (RX12, TX12, 33)) 12 0 hKc hPc rfl rfl) rfl rfl hl.1 rfl (lv_room (Nat.le_of_ble_eq_true rfl)) dX12_group_10 ⟨Nat.le_of_ble_eq_true rfl, Nat.le_of_ble_eq_true rfl⟩) (fun r_10 h_10 => ?_)
  obtain rfl : r_10 = ((-101) : Int32) := h_10
  refine lv_istore (lv' := [(4, .int (-101)), (0, .ref m0), (1, .int p1), (2, .int p2), (3, .int p3)]) hx hb dX12_group_13 hl (by decide) rfl (fun ls hl => ?_)
  refine lv_iload hx hb dX12_group_15 (lv_at hl 0 rfl) ?_
  refine lv_if_eq (tgt := 23) hx hb dX12_group_17 (by decide) (fun c_17 => absurd c_17 (by decide)) (fun c_17 => ?_)
  refine lv_iload hx hb dX12_group_20 (lv_at hl 0 rfl) ?_
  subst hQ
  exact W.iret (v := (-101)) hx hb hr (fun t ht hW => ⟨(-101), rfl, rfl, ht⟩) (fun _ h => absurd h List.not_mem_nil) dX12_group_22

theorem dX12_goes_0 : decode cX12_goes 0 = .ok (.aload_n 0, 1) := by decide +kernel
theorem dX12_goes_1 : decode cX12_goes 1 = .ok (.iload_n 1, 1) := by decide +kernel
theorem dX12_goes_2 : decode cX12_goes 2 = .ok (.iload_n 2, 1) := by decide +kernel
theorem dX12_goes_3 : decode cX12_goes 3 = .ok (.iload_n 3, 1) := by decide +kernel
theorem dX12_goes_4 : decode cX12_goes 4 = .ok (.i2l, 1) := by decide +kernel
theorem dX12_goes_5 : decode cX12_goes 5 = .ok (.lconst 0, 1) := by decide +kernel
theorem dX12_goes_6 : decode cX12_goes 6 = .ok (.ldc2_w 191, 3) := by decide +kernel
theorem dX12_goes_9 : decode cX12_goes 9 = .ok (.invokestatic 70, 3) := by decide +kernel
theorem dX12_goes_12 : decode cX12_goes 12 = .ok (.invokevirtual 193, 3) := by decide +kernel
theorem dX12_goes_15 : decode cX12_goes 15 = .ok (.istore 4, 2) := by decide +kernel
theorem dX12_goes_17 : decode cX12_goes 17 = .ok (.iload 4, 2) := by decide +kernel
theorem dX12_goes_19 : decode cX12_goes 19 = .ok (.ifCond .eq 6, 3) := by decide +kernel
theorem dX12_goes_22 : decode cX12_goes 22 = .ok (.iload 4, 2) := by decide +kernel
theorem dX12_goes_24 : decode cX12_goes 24 = .ok (.ireturn, 1) := by decide +kernel
theorem dX12_goes_25 : decode cX12_goes 25 = .ok (.aload_n 0, 1) := by decide +kernel
theorem dX12_goes_26 : decode cX12_goes 26 = .ok (.iload_n 1, 1) := by decide +kernel
theorem dX12_goes_27 : decode cX12_goes 27 = .ok (.invokevirtual 197, 3) := by decide +kernel
theorem dX12_goes_30 : decode cX12_goes 30 = .ok (.aload_n 0, 1) := by decide +kernel
theorem dX12_goes_31 : decode cX12_goes 31 = .ok (.iload_n 2, 1) := by decide +kernel
theorem dX12_goes_32 : decode cX12_goes 32 = .ok (.invokevirtual 228, 3) := by decide +kernel
theorem dX12_goes_35 : decode cX12_goes 35 = .ok (.iload_n 3, 1) := by decide +kernel
theorem dX12_goes_36 : decode cX12_goes 36 = .ok (.ifCond .ne 10, 3) := by decide +kernel
theorem dX12_goes_39 : decode cX12_goes 39 = .ok (.aload_n 0, 1) := by decide +kernel
theorem dX12_goes_40 : decode cX12_goes 40 = .ok (.getfield 218, 3) := by decide +kernel
theorem dX12_goes_43 : decode cX12_goes 43 = .ok (.goto 27, 3) := by decide +kernel
theorem dX12_goes_46 : decode cX12_goes 46 = .ok (.iload_n 3, 1) := by decide +kernel
theorem dX12_goes_47 : decode cX12_goes 47 = .ok (.iconst 1, 1) := by decide +kernel
theorem dX12_goes_48 : decode cX12_goes 48 = .ok (.if_icmp .ne 10, 3) := by decide +kernel
theorem dX12_goes_51 : decode cX12_goes 51 = .ok (.aload_n 0, 1) := by decide +kernel
theorem dX12_goes_52 : decode cX12_goes 52 = .ok (.getfield 221, 3) := by decide +kernel
theorem dX12_goes_55 : decode cX12_goes 55 = .ok (.goto 15, 3) := by decide +kernel
theorem dX12_goes_58 : decode cX12_goes 58 = .ok (.aload_n 0, 1) := by decide +kernel
theorem dX12_goes_59 : decode cX12_goes 59 = .ok (.getfield 224, 3) := by decide +kernel
theorem dX12_goes_62 : decode cX12_goes 62 = .ok (.ifCond .eq 7, 3) := by decide +kernel
theorem dX12_goes_65 : decode cX12_goes 65 = .ok (.iconst 1, 1) := by decide +kernel
theorem dX12_goes_66 : decode cX12_goes 66 = .ok (.goto 4, 3) := by decide +kernel
theorem dX12_goes_69 : decode cX12_goes 69 = .ok (.iconst 0, 1) := by decide +kernel
theorem dX12_goes_70 : decode cX12_goes 70 = .ok (.ireturn, 1) := by decide +kernel

set_option maxHeartbeats 4000000 in
set_option maxRecDepth 100000 in
theorem m_goes (l : Launch) (D : va_G) (m0 : Nat) (mp : Nat) (mw : Nat) (mh : Nat) (mo : Nat) (m5 : Nat) (m6 : Nat) (m7 : Nat) (mk : Nat) (mn : Nat) (mq : Nat) (m8 : Nat) (m9 : Nat) (ma : Nat) (mb : Nat) (md : Nat) (p1 : Int32) (p2 : Int32) (p3 : Int32) : Met l yX12_goes (Cond.code yX12_goes cX12_goes 5 (some .int) :: gw_tbl) ({ frames := 3, cells := 0, slots := 0, locals := 69 }) (pc_S D [] [(m0, .inr (12, [.ref mp, .int 0, .int 0, .int 0, .ref mw, .ref mh, .ref mo, .int 0, .int 0, .int 0, .int 0, .int 0, .int 0, .ref m5, .ref m6, .ref m7, .long 0, .int 0, .ref mk, .ref mn, .int 0, .ref mq, .ref m8, .ref m9, .int 0, .int 0, .int 0, .int 0, .ref ma, .int 0, .ref mb, .ref md, .long 0]))] [.ref m0, .int p1, .int p2, .int p3]) (vp_Si (fun r => r = (-101))) 0 0 (fun _ => False) := by
  refine Met.ofW (cc := cX12_goes) (maxL := 5) (ret := (some .int)) (by decide) rfl ?_
  intro p e s m args below meth c s₁ B hml hv
  obtain ⟨hargs, hP, hK⟩ := hv
  have hx := B.exec
  have hb := B.bytes
  have hr := B.returns
  have hts := atoms_spec (ws := Cond.code yX12_goes cX12_goes 5 (some .int) :: gw_tbl) B.pre
  have hg := fun (w : Cond) (h : w ∈ gw_tbl) => hts w (List.mem_cons_of_mem _ h)
  have hown : s.vm.findClass RX12 = some m.cls := findClass_of_methodNamed B.named
  have hlocks := B.notSynchronized
  have hl := lv_entry ([.ref m0, .int p1, .int p2, .int p3]) (n := 5) (Nat.le_of_ble_eq_true rfl)
  rw [show entryFrame m args 5 = F0 m 0 (lg_sl ([.ref m0, .int p1, .int p2, .int p3]) ++ List.replicate (5 - (lg_sl ([.ref m0, .int p1, .int p2, .int p3])).length) Slot.unset).toArray [] from by rw [hargs]; exact lg_entry_eq ..]
  generalize (lg_sl ([.ref m0, .int p1, .int p2, .int p3]) ++ List.replicate (5 - (lg_sl ([.ref m0, .int p1, .int p2, .int p3])).length) Slot.unset).toArray = ls at hl ⊢
  have hl : lv_has ls 5 [(0, .ref m0), (1, .int p1), (2, .int p2), (3, .int p3)] := hl
  refine W_genQ (fun Q hQ => ?_)
  refine lv_aload_n hx hb dX12_goes_0 rfl (lv_at hl 0 rfl) ?_
  refine lv_iload_n hx hb dX12_goes_1 rfl (lv_at hl 1 rfl) ?_
  refine lv_iload_n hx hb dX12_goes_2 rfl (lv_at hl 2 rfl) ?_
  refine lv_iload_n hx hb dX12_goes_3 rfl (lv_at hl 3 rfl) ?_
  refine lv_i2l hx hb dX12_goes_4 rfl ?_
  refine lv_topl (fun z_4 e_4 => ?_)
  refine lv_lconst (v := 0) hx hb dX12_goes_5 (by decide) ?_
  refine lv_ldc2 hx hb hown (hg _ kw_223) dX12_goes_6 ?_
  refine vp_callSi (W.runS (As := [.long z_4, .long 0, .long 2]) (rest := [.int p2, .int p1, .ref m0]) ⟨hx, hb, hml, hown, hg⟩ (c_in l z_4 0 2) (va_cwS 3 hg (gw_S kw_208 kw_209 kw_210 kw_207) rfl rfl rfl (by decide +kernel) ⟨Nat.le_of_ble_eq_true rfl, Nat.le_of_ble_eq_true rfl⟩) pr_0 rfl rfl hl.1 rfl (lv_room (Nat.le_of_ble_eq_true rfl)) dX12_goes_9 ⟨Nat.le_of_ble_eq_true rfl, Nat.le_of_ble_eq_true rfl⟩) (fun r_9 h_9 => ?_)
  try dsimp only at h_9
  have hPc := hP.sub (ws' := [(m0, .inr (12, [.ref mp, .int 0, .int 0, .int 0, .ref mw, .ref mh, .ref mo, .int 0, .int 0, .int 0, .int 0, .int 0, .int 0, .ref m5, .ref m6, .ref m7, .long 0, .int 0, .ref mk, .ref mn, .int 0, .ref mq, .ref m8, .ref m9, .int 0, .int 0, .int 0, .int 0, .ref ma, .int 0, .ref mb, .ref md, .long 0]))]) [0] rfl
  have hKc := hK.sub (tys' := []) [] rfl
  refine vp_callSi (W.runV (As := [.int p1, .int p2, .int r_9]) (rest := []) ⟨hx, hb, hml, hown, hg⟩ (m_refusal l D m0 mp mw mh mo m5 m6 m7 mk mn mq m8 m9 ma mb md p1 p2 r_9) (cwV 3 hg (gw_V kw_225 kw_226 kw_227 kw_210 kw_224) rfl rfl rfl (by decide +kernel) ⟨Nat.le_of_ble_eq_true rfl, Nat.le_of_ble_eq_true rfl⟩) (pr_SV (q := (RX12, TX12, 33)) 12 0 hKc hPc rfl rfl) rfl rfl hl.1 rfl (lv_room (Nat.le_of_ble_eq_true rfl)) dX12_goes_12 ⟨Nat.le_of_ble_eq_true rfl, Nat.le_of_ble_eq_true rfl⟩) (fun r_12 h_12 => ?_)
  obtain rfl : r_12 = ((-101) : Int32) := h_12
  refine lv_istore (lv' := [(4, .int (-101)), (0, .ref m0), (1, .int p1), (2, .int p2), (3, .int p3)]) hx hb dX12_goes_15 hl (by decide) rfl (fun ls hl => ?_)
  refine lv_iload hx hb dX12_goes_17 (lv_at hl 0 rfl) ?_
  refine lv_if_eq (tgt := 25) hx hb dX12_goes_19 (by decide) (fun c_19 => absurd c_19 (by decide)) (fun c_19 => ?_)
  refine lv_iload hx hb dX12_goes_22 (lv_at hl 0 rfl) ?_
  subst hQ
  exact W.iret (v := (-101)) hx hb hr (fun t ht hW => ⟨(-101), rfl, rfl, ht⟩) (fun _ h => absurd h List.not_mem_nil) dX12_goes_24

theorem dX12_drawn_0 : decode cX12_drawn 0 = .ok (.aload_n 0, 1) := by decide +kernel
theorem dX12_drawn_1 : decode cX12_drawn 1 = .ok (.iload_n 1, 1) := by decide +kernel
theorem dX12_drawn_2 : decode cX12_drawn 2 = .ok (.iconst 0, 1) := by decide +kernel
theorem dX12_drawn_3 : decode cX12_drawn 3 = .ok (.iconst 1, 1) := by decide +kernel
theorem dX12_drawn_4 : decode cX12_drawn 4 = .ok (.invokevirtual 193, 3) := by decide +kernel
theorem dX12_drawn_7 : decode cX12_drawn 7 = .ok (.istore_n 2, 1) := by decide +kernel
theorem dX12_drawn_8 : decode cX12_drawn 8 = .ok (.iload_n 2, 1) := by decide +kernel
theorem dX12_drawn_9 : decode cX12_drawn 9 = .ok (.ifCond .eq 5, 3) := by decide +kernel
theorem dX12_drawn_12 : decode cX12_drawn 12 = .ok (.iload_n 2, 1) := by decide +kernel
theorem dX12_drawn_13 : decode cX12_drawn 13 = .ok (.ireturn, 1) := by decide +kernel
theorem dX12_drawn_14 : decode cX12_drawn 14 = .ok (.aload_n 0, 1) := by decide +kernel
theorem dX12_drawn_15 : decode cX12_drawn 15 = .ok (.iload_n 1, 1) := by decide +kernel
theorem dX12_drawn_16 : decode cX12_drawn 16 = .ok (.invokevirtual 197, 3) := by decide +kernel
theorem dX12_drawn_19 : decode cX12_drawn 19 = .ok (.iconst 0, 1) := by decide +kernel
theorem dX12_drawn_20 : decode cX12_drawn 20 = .ok (.istore_n 3, 1) := by decide +kernel
theorem dX12_drawn_21 : decode cX12_drawn 21 = .ok (.iconst 0, 1) := by decide +kernel
theorem dX12_drawn_22 : decode cX12_drawn 22 = .ok (.istore 4, 2) := by decide +kernel
theorem dX12_drawn_24 : decode cX12_drawn 24 = .ok (.iload 4, 2) := by decide +kernel
theorem dX12_drawn_26 : decode cX12_drawn 26 = .ok (.aload_n 0, 1) := by decide +kernel
theorem dX12_drawn_27 : decode cX12_drawn 27 = .ok (.invokevirtual 172, 3) := by decide +kernel
theorem dX12_drawn_30 : decode cX12_drawn 30 = .ok (.if_icmp .ge 37, 3) := by decide +kernel
theorem dX12_drawn_33 : decode cX12_drawn 33 = .ok (.aload_n 0, 1) := by decide +kernel
theorem dX12_drawn_34 : decode cX12_drawn 34 = .ok (.iload 4, 2) := by decide +kernel
theorem dX12_drawn_36 : decode cX12_drawn 36 = .ok (.invokevirtual 228, 3) := by decide +kernel
theorem dX12_drawn_39 : decode cX12_drawn 39 = .ok (.iload_n 3, 1) := by decide +kernel
theorem dX12_drawn_40 : decode cX12_drawn 40 = .ok (.aload_n 0, 1) := by decide +kernel
theorem dX12_drawn_41 : decode cX12_drawn 41 = .ok (.getfield 218, 3) := by decide +kernel
theorem dX12_drawn_44 : decode cX12_drawn 44 = .ok (.ifCond .ne 14, 3) := by decide +kernel
theorem dX12_drawn_47 : decode cX12_drawn 47 = .ok (.aload_n 0, 1) := by decide +kernel
theorem dX12_drawn_48 : decode cX12_drawn 48 = .ok (.getfield 224, 3) := by decide +kernel
theorem dX12_drawn_51 : decode cX12_drawn 51 = .ok (.ifCond .ne 7, 3) := by decide +kernel
theorem dX12_drawn_54 : decode cX12_drawn 54 = .ok (.iconst 1, 1) := by decide +kernel
theorem dX12_drawn_55 : decode cX12_drawn 55 = .ok (.goto 4, 3) := by decide +kernel
theorem dX12_drawn_58 : decode cX12_drawn 58 = .ok (.iconst 0, 1) := by decide +kernel
theorem dX12_drawn_59 : decode cX12_drawn 59 = .ok (.iadd, 1) := by decide +kernel
theorem dX12_drawn_60 : decode cX12_drawn 60 = .ok (.istore_n 3, 1) := by decide +kernel
theorem dX12_drawn_61 : decode cX12_drawn 61 = .ok (.iinc 4 1, 3) := by decide +kernel
theorem dX12_drawn_64 : decode cX12_drawn 64 = .ok (.goto (-40), 3) := by decide +kernel
theorem dX12_drawn_67 : decode cX12_drawn 67 = .ok (.iload_n 3, 1) := by decide +kernel
theorem dX12_drawn_68 : decode cX12_drawn 68 = .ok (.ireturn, 1) := by decide +kernel

set_option maxHeartbeats 4000000 in
set_option maxRecDepth 100000 in
theorem m_drawn (l : Launch) (D : va_G) (m0 : Nat) (mp : Nat) (mw : Nat) (mh : Nat) (mo : Nat) (m5 : Nat) (m6 : Nat) (m7 : Nat) (mk : Nat) (mn : Nat) (mq : Nat) (m8 : Nat) (m9 : Nat) (ma : Nat) (mb : Nat) (md : Nat) (p1 : Int32) : Met l yX12_drawn (Cond.code yX12_drawn cX12_drawn 5 (some .int) :: gw_tbl) ({ frames := 3, cells := 0, slots := 0, locals := 69 }) (pc_S D [] [(m0, .inr (12, [.ref mp, .int 0, .int 0, .int 0, .ref mw, .ref mh, .ref mo, .int 0, .int 0, .int 0, .int 0, .int 0, .int 0, .ref m5, .ref m6, .ref m7, .long 0, .int 0, .ref mk, .ref mn, .int 0, .ref mq, .ref m8, .ref m9, .int 0, .int 0, .int 0, .int 0, .ref ma, .int 0, .ref mb, .ref md, .long 0]))] [.ref m0, .int p1]) (vp_Si (fun r => r = (-101))) 0 0 (fun _ => False) := by
  refine Met.ofW (cc := cX12_drawn) (maxL := 5) (ret := (some .int)) (by decide) rfl ?_
  intro p e s m args below meth c s₁ B hml hv
  obtain ⟨hargs, hP, hK⟩ := hv
  have hx := B.exec
  have hb := B.bytes
  have hr := B.returns
  have hts := atoms_spec (ws := Cond.code yX12_drawn cX12_drawn 5 (some .int) :: gw_tbl) B.pre
  have hg := fun (w : Cond) (h : w ∈ gw_tbl) => hts w (List.mem_cons_of_mem _ h)
  have hown : s.vm.findClass RX12 = some m.cls := findClass_of_methodNamed B.named
  have hlocks := B.notSynchronized
  have hl := lv_entry ([.ref m0, .int p1]) (n := 5) (Nat.le_of_ble_eq_true rfl)
  rw [show entryFrame m args 5 = F0 m 0 (lg_sl ([.ref m0, .int p1]) ++ List.replicate (5 - (lg_sl ([.ref m0, .int p1])).length) Slot.unset).toArray [] from by rw [hargs]; exact lg_entry_eq ..]
  generalize (lg_sl ([.ref m0, .int p1]) ++ List.replicate (5 - (lg_sl ([.ref m0, .int p1])).length) Slot.unset).toArray = ls at hl ⊢
  have hl : lv_has ls 5 [(0, .ref m0), (1, .int p1)] := hl
  refine W_genQ (fun Q hQ => ?_)
  refine lv_aload_n hx hb dX12_drawn_0 rfl (lv_at hl 0 rfl) ?_
  refine lv_iload_n hx hb dX12_drawn_1 rfl (lv_at hl 1 rfl) ?_
  refine lv_iconst (v := 0) hx hb dX12_drawn_2 (by decide) ?_
  refine lv_iconst (v := 1) hx hb dX12_drawn_3 (by decide) ?_
  have hPc := hP.sub (ws' := [(m0, .inr (12, [.ref mp, .int 0, .int 0, .int 0, .ref mw, .ref mh, .ref mo, .int 0, .int 0, .int 0, .int 0, .int 0, .int 0, .ref m5, .ref m6, .ref m7, .long 0, .int 0, .ref mk, .ref mn, .int 0, .ref mq, .ref m8, .ref m9, .int 0, .int 0, .int 0, .int 0, .ref ma, .int 0, .ref mb, .ref md, .long 0]))]) [0] rfl
  have hKc := hK.sub (tys' := []) [] rfl
  refine vp_callSi (W.runV (As := [.int p1, .int 0, .int 1]) (rest := []) ⟨hx, hb, hml, hown, hg⟩ (m_refusal l D m0 mp mw mh mo m5 m6 m7 mk mn mq m8 m9 ma mb md p1 0 1) (cwV 3 hg (gw_V kw_225 kw_226 kw_227 kw_210 kw_224) rfl rfl rfl (by decide +kernel) ⟨Nat.le_of_ble_eq_true rfl, Nat.le_of_ble_eq_true rfl⟩) (pr_SV (q := (RX12, TX12, 33)) 12 0 hKc hPc rfl rfl) rfl rfl hl.1 rfl (lv_room (Nat.le_of_ble_eq_true rfl)) dX12_drawn_4 ⟨Nat.le_of_ble_eq_true rfl, Nat.le_of_ble_eq_true rfl⟩) (fun r_4 h_4 => ?_)
  obtain rfl : r_4 = ((-101) : Int32) := h_4
  refine lv_istore_n (lv' := [(2, .int (-101)), (0, .ref m0), (1, .int p1)]) hx hb dX12_drawn_7 rfl hl (by decide) rfl (fun ls hl => ?_)
  refine lv_iload_n hx hb dX12_drawn_8 rfl (lv_at hl 0 rfl) ?_
  refine lv_if_eq (tgt := 14) hx hb dX12_drawn_9 (by decide) (fun c_9 => absurd c_9 (by decide)) (fun c_9 => ?_)
  refine lv_iload_n hx hb dX12_drawn_12 rfl (lv_at hl 0 rfl) ?_
  subst hQ
  exact W.iret (v := (-101)) hx hb hr (fun t ht hW => ⟨(-101), rfl, rfl, ht⟩) (fun _ h => absurd h List.not_mem_nil) dX12_drawn_13

theorem dX12_leastSame_0 : decode cX12_leastSame 0 = .ok (.aload_n 0, 1) := by decide +kernel
theorem dX12_leastSame_1 : decode cX12_leastSame 1 = .ok (.getfield 57, 3) := by decide +kernel
theorem dX12_leastSame_4 : decode cX12_leastSame 4 = .ok (.ifCond .ne 6, 3) := by decide +kernel
theorem dX12_leastSame_7 : decode cX12_leastSame 7 = .ok (.bipush (-103), 2) := by decide +kernel
theorem dX12_leastSame_9 : decode cX12_leastSame 9 = .ok (.ireturn, 1) := by decide +kernel
theorem dX12_leastSame_10 : decode cX12_leastSame 10 = .ok (.aload_n 0, 1) := by decide +kernel
theorem dX12_leastSame_11 : decode cX12_leastSame 11 = .ok (.iconst 1, 1) := by decide +kernel
theorem dX12_leastSame_12 : decode cX12_leastSame 12 = .ok (.putfield 147, 3) := by decide +kernel
theorem dX12_leastSame_15 : decode cX12_leastSame 15 = .ok (.iconst 0, 1) := by decide +kernel
theorem dX12_leastSame_16 : decode cX12_leastSame 16 = .ok (.istore_n 1, 1) := by decide +kernel
theorem dX12_leastSame_17 : decode cX12_leastSame 17 = .ok (.iload_n 1, 1) := by decide +kernel
theorem dX12_leastSame_18 : decode cX12_leastSame 18 = .ok (.sipush 1000, 3) := by decide +kernel
theorem dX12_leastSame_21 : decode cX12_leastSame 21 = .ok (.if_icmp .ge 25, 3) := by decide +kernel
theorem dX12_leastSame_24 : decode cX12_leastSame 24 = .ok (.aload_n 0, 1) := by decide +kernel
theorem dX12_leastSame_25 : decode cX12_leastSame 25 = .ok (.getfield 38, 3) := by decide +kernel
theorem dX12_leastSame_28 : decode cX12_leastSame 28 = .ok (.iconst 0, 1) := by decide +kernel
theorem dX12_leastSame_29 : decode cX12_leastSame 29 = .ok (.iload_n 1, 1) := by decide +kernel
theorem dX12_leastSame_30 : decode cX12_leastSame 30 = .ok (.iastore, 1) := by decide +kernel
theorem dX12_leastSame_31 : decode cX12_leastSame 31 = .ok (.aload_n 0, 1) := by decide +kernel
theorem dX12_leastSame_32 : decode cX12_leastSame 32 = .ok (.invokevirtual 231, 3) := by decide +kernel
theorem dX12_leastSame_35 : decode cX12_leastSame 35 = .ok (.ifCond .eq 5, 3) := by decide +kernel
theorem dX12_leastSame_38 : decode cX12_leastSame 38 = .ok (.iload_n 1, 1) := by decide +kernel
theorem dX12_leastSame_39 : decode cX12_leastSame 39 = .ok (.ireturn, 1) := by decide +kernel
theorem dX12_leastSame_40 : decode cX12_leastSame 40 = .ok (.iinc 1 1, 3) := by decide +kernel
theorem dX12_leastSame_43 : decode cX12_leastSame 43 = .ok (.goto (-26), 3) := by decide +kernel
theorem dX12_leastSame_46 : decode cX12_leastSame 46 = .ok (.iconst (-1), 1) := by decide +kernel
theorem dX12_leastSame_47 : decode cX12_leastSame 47 = .ok (.ireturn, 1) := by decide +kernel

set_option maxHeartbeats 4000000 in
set_option maxRecDepth 100000 in
theorem m_leastSame (l : Launch) (D : va_G) (m0 : Nat) (mp : Nat) (mw : Nat) (mh : Nat) (mo : Nat) (m5 : Nat) (m6 : Nat) (m7 : Nat) (mk : Nat) (mn : Nat) (mq : Nat) (m8 : Nat) (m9 : Nat) (ma : Nat) (mb : Nat) (md : Nat) : Met l yX12_leastSame (Cond.code yX12_leastSame cX12_leastSame 2 (some .int) :: gw_tbl) ({ frames := 0, cells := 0, slots := 0, locals := 0 }) (pc_S D [] [(m0, .inr (12, [.ref mp, .int 0, .int 0, .int 0, .ref mw, .ref mh, .ref mo, .int 0, .int 0, .int 0, .int 0, .int 0, .int 0, .ref m5, .ref m6, .ref m7, .long 0, .int 0, .ref mk, .ref mn, .int 0, .ref mq, .ref m8, .ref m9, .int 0, .int 0, .int 0, .int 0, .ref ma, .int 0, .ref mb, .ref md, .long 0]))] [.ref m0]) (vp_Si (fun r => r = (-103))) 0 0 (fun _ => False) := by
  refine Met.ofW (cc := cX12_leastSame) (maxL := 2) (ret := (some .int)) (by decide) rfl ?_
  intro p e s m args below meth c s₁ B hml hv
  obtain ⟨hargs, hP, hK⟩ := hv
  have hx := B.exec
  have hb := B.bytes
  have hr := B.returns
  have hts := atoms_spec (ws := Cond.code yX12_leastSame cX12_leastSame 2 (some .int) :: gw_tbl) B.pre
  have hg := fun (w : Cond) (h : w ∈ gw_tbl) => hts w (List.mem_cons_of_mem _ h)
  have hown : s.vm.findClass RX12 = some m.cls := findClass_of_methodNamed B.named
  have hlocks := B.notSynchronized
  have hl := lv_entry ([.ref m0]) (n := 2) (Nat.le_of_ble_eq_true rfl)
  rw [show entryFrame m args 2 = F0 m 0 (lg_sl ([.ref m0]) ++ List.replicate (2 - (lg_sl ([.ref m0])).length) Slot.unset).toArray [] from by rw [hargs]; exact lg_entry_eq ..]
  generalize (lg_sl ([.ref m0]) ++ List.replicate (2 - (lg_sl ([.ref m0])).length) Slot.unset).toArray = ls at hl ⊢
  have hl : lv_has ls 2 [(0, .ref m0)] := hl
  refine W_genQ (fun Q hQ => ?_)
  refine lv_aload_n hx hb dX12_leastSame_0 rfl (lv_at hl 0 rfl) ?_
  refine va_get (D := D) (ci := 12) (v := .int 0) (C := RX12) (T := TX12) (N := 33) hx hb hg gwX12 hown hK hP 0 rfl rfl 3 (by decide) (hg _ kw_206) (fun _ h9 => h9) rfl dX12_leastSame_1 ?_
  refine lv_if_ne (tgt := 10) hx hb dX12_leastSame_4 (by decide) (fun c_4 => absurd c_4 (by decide)) (fun c_4 => ?_)
  refine lv_bipush (v := (-103)) hx hb dX12_leastSame_7 (by decide) ?_
  subst hQ
  exact W.iret (v := (-103)) hx hb hr (fun t ht hW => ⟨(-103), rfl, rfl, ht⟩) (fun _ h => absurd h List.not_mem_nil) dX12_leastSame_9

theorem dX12_leastTable_0 : decode cX12_leastTable 0 = .ok (.aload_n 0, 1) := by decide +kernel
theorem dX12_leastTable_1 : decode cX12_leastTable 1 = .ok (.getfield 57, 3) := by decide +kernel
theorem dX12_leastTable_4 : decode cX12_leastTable 4 = .ok (.ifCond .ne 6, 3) := by decide +kernel
theorem dX12_leastTable_7 : decode cX12_leastTable 7 = .ok (.bipush (-103), 2) := by decide +kernel
theorem dX12_leastTable_9 : decode cX12_leastTable 9 = .ok (.ireturn, 1) := by decide +kernel
theorem dX12_leastTable_10 : decode cX12_leastTable 10 = .ok (.iload_n 1, 1) := by decide +kernel
theorem dX12_leastTable_11 : decode cX12_leastTable 11 = .ok (.i2l, 1) := by decide +kernel
theorem dX12_leastTable_12 : decode cX12_leastTable 12 = .ok (.lconst 0, 1) := by decide +kernel
theorem dX12_leastTable_13 : decode cX12_leastTable 13 = .ok (.ldc2_w 137, 3) := by decide +kernel
theorem dX12_leastTable_16 : decode cX12_leastTable 16 = .ok (.invokestatic 70, 3) := by decide +kernel
theorem dX12_leastTable_19 : decode cX12_leastTable 19 = .ok (.ifCond .ne 6, 3) := by decide +kernel
theorem dX12_leastTable_22 : decode cX12_leastTable 22 = .ok (.bipush (-102), 2) := by decide +kernel
theorem dX12_leastTable_24 : decode cX12_leastTable 24 = .ok (.ireturn, 1) := by decide +kernel
theorem dX12_leastTable_25 : decode cX12_leastTable 25 = .ok (.aload_n 0, 1) := by decide +kernel
theorem dX12_leastTable_26 : decode cX12_leastTable 26 = .ok (.getfield 241, 3) := by decide +kernel
theorem dX12_leastTable_29 : decode cX12_leastTable 29 = .ok (.bipush 10, 2) := by decide +kernel
theorem dX12_leastTable_31 : decode cX12_leastTable 31 = .ok (.if_icmp .ne 6, 3) := by decide +kernel
theorem dX12_leastTable_34 : decode cX12_leastTable 34 = .ok (.bipush (-103), 2) := by decide +kernel
theorem dX12_leastTable_36 : decode cX12_leastTable 36 = .ok (.ireturn, 1) := by decide +kernel
theorem dX12_leastTable_37 : decode cX12_leastTable 37 = .ok (.aload_n 0, 1) := by decide +kernel
theorem dX12_leastTable_38 : decode cX12_leastTable 38 = .ok (.dup, 1) := by decide +kernel
theorem dX12_leastTable_39 : decode cX12_leastTable 39 = .ok (.getfield 241, 3) := by decide +kernel
theorem dX12_leastTable_42 : decode cX12_leastTable 42 = .ok (.iconst 1, 1) := by decide +kernel
theorem dX12_leastTable_43 : decode cX12_leastTable 43 = .ok (.iadd, 1) := by decide +kernel
theorem dX12_leastTable_44 : decode cX12_leastTable 44 = .ok (.putfield 241, 3) := by decide +kernel
theorem dX12_leastTable_47 : decode cX12_leastTable 47 = .ok (.aload_n 0, 1) := by decide +kernel
theorem dX12_leastTable_48 : decode cX12_leastTable 48 = .ok (.invokevirtual 244, 3) := by decide +kernel
theorem dX12_leastTable_51 : decode cX12_leastTable 51 = .ok (.iconst (-1), 1) := by decide +kernel
theorem dX12_leastTable_52 : decode cX12_leastTable 52 = .ok (.istore_n 2, 1) := by decide +kernel
theorem dX12_leastTable_53 : decode cX12_leastTable 53 = .ok (.iconst 0, 1) := by decide +kernel
theorem dX12_leastTable_54 : decode cX12_leastTable 54 = .ok (.istore_n 3, 1) := by decide +kernel
theorem dX12_leastTable_55 : decode cX12_leastTable 55 = .ok (.lconst 0, 1) := by decide +kernel
theorem dX12_leastTable_56 : decode cX12_leastTable 56 = .ok (.lstore 4, 2) := by decide +kernel
theorem dX12_leastTable_58 : decode cX12_leastTable 58 = .ok (.iconst 0, 1) := by decide +kernel
theorem dX12_leastTable_59 : decode cX12_leastTable 59 = .ok (.istore 6, 2) := by decide +kernel
theorem dX12_leastTable_61 : decode cX12_leastTable 61 = .ok (.iload 6, 2) := by decide +kernel
theorem dX12_leastTable_63 : decode cX12_leastTable 63 = .ok (.sipush 10000, 3) := by decide +kernel
theorem dX12_leastTable_66 : decode cX12_leastTable 66 = .ok (.if_icmp .ge 114, 3) := by decide +kernel
theorem dX12_leastTable_69 : decode cX12_leastTable 69 = .ok (.aload_n 0, 1) := by decide +kernel
theorem dX12_leastTable_70 : decode cX12_leastTable 70 = .ok (.iload 6, 2) := by decide +kernel
theorem dX12_leastTable_72 : decode cX12_leastTable 72 = .ok (.invokevirtual 247, 3) := by decide +kernel
theorem dX12_leastTable_75 : decode cX12_leastTable 75 = .ok (.ifCond .eq 99, 3) := by decide +kernel
theorem dX12_leastTable_78 : decode cX12_leastTable 78 = .ok (.lconst 0, 1) := by decide +kernel
theorem dX12_leastTable_79 : decode cX12_leastTable 79 = .ok (.lstore 7, 2) := by decide +kernel
theorem dX12_leastTable_81 : decode cX12_leastTable 81 = .ok (.iconst 0, 1) := by decide +kernel
theorem dX12_leastTable_82 : decode cX12_leastTable 82 = .ok (.istore 9, 2) := by decide +kernel
theorem dX12_leastTable_84 : decode cX12_leastTable 84 = .ok (.iload 9, 2) := by decide +kernel
theorem dX12_leastTable_86 : decode cX12_leastTable 86 = .ok (.aload_n 0, 1) := by decide +kernel
theorem dX12_leastTable_87 : decode cX12_leastTable 87 = .ok (.getfield 57, 3) := by decide +kernel
theorem dX12_leastTable_90 : decode cX12_leastTable 90 = .ok (.if_icmp .ge 41, 3) := by decide +kernel
theorem dX12_leastTable_93 : decode cX12_leastTable 93 = .ok (.lload 7, 2) := by decide +kernel
theorem dX12_leastTable_95 : decode cX12_leastTable 95 = .ok (.aload_n 0, 1) := by decide +kernel
theorem dX12_leastTable_96 : decode cX12_leastTable 96 = .ok (.iload 9, 2) := by decide +kernel
theorem dX12_leastTable_98 : decode cX12_leastTable 98 = .ok (.iconst 0, 1) := by decide +kernel
theorem dX12_leastTable_99 : decode cX12_leastTable 99 = .ok (.iload 6, 2) := by decide +kernel
theorem dX12_leastTable_101 : decode cX12_leastTable 101 = .ok (.invokevirtual 237, 3) := by decide +kernel
theorem dX12_leastTable_104 : decode cX12_leastTable 104 = .ok (.ldc2_w 168, 3) := by decide +kernel
theorem dX12_leastTable_107 : decode cX12_leastTable 107 = .ok (.aload_n 0, 1) := by decide +kernel
theorem dX12_leastTable_108 : decode cX12_leastTable 108 = .ok (.getfield 117, 3) := by decide +kernel
theorem dX12_leastTable_111 : decode cX12_leastTable 111 = .ok (.lmul, 1) := by decide +kernel
theorem dX12_leastTable_112 : decode cX12_leastTable 112 = .ok (.aload_n 0, 1) := by decide +kernel
theorem dX12_leastTable_113 : decode cX12_leastTable 113 = .ok (.getfield 19, 3) := by decide +kernel
theorem dX12_leastTable_116 : decode cX12_leastTable 116 = .ok (.iload 9, 2) := by decide +kernel
theorem dX12_leastTable_118 : decode cX12_leastTable 118 = .ok (.iaload, 1) := by decide +kernel
theorem dX12_leastTable_119 : decode cX12_leastTable 119 = .ok (.i2l, 1) := by decide +kernel
theorem dX12_leastTable_120 : decode cX12_leastTable 120 = .ok (.lmul, 1) := by decide +kernel
theorem dX12_leastTable_121 : decode cX12_leastTable 121 = .ok (.ladd, 1) := by decide +kernel
theorem dX12_leastTable_122 : decode cX12_leastTable 122 = .ok (.ladd, 1) := by decide +kernel
theorem dX12_leastTable_123 : decode cX12_leastTable 123 = .ok (.lstore 7, 2) := by decide +kernel
theorem dX12_leastTable_125 : decode cX12_leastTable 125 = .ok (.iinc 9 1, 3) := by decide +kernel
theorem dX12_leastTable_128 : decode cX12_leastTable 128 = .ok (.goto (-44), 3) := by decide +kernel
theorem dX12_leastTable_131 : decode cX12_leastTable 131 = .ok (.iload_n 3, 1) := by decide +kernel
theorem dX12_leastTable_132 : decode cX12_leastTable 132 = .ok (.ifCond .eq 11, 3) := by decide +kernel
theorem dX12_leastTable_135 : decode cX12_leastTable 135 = .ok (.lload 7, 2) := by decide +kernel
theorem dX12_leastTable_137 : decode cX12_leastTable 137 = .ok (.lload 4, 2) := by decide +kernel
theorem dX12_leastTable_139 : decode cX12_leastTable 139 = .ok (.lcmp, 1) := by decide +kernel
theorem dX12_leastTable_140 : decode cX12_leastTable 140 = .ok (.ifCond .ge 8, 3) := by decide +kernel
theorem dX12_leastTable_143 : decode cX12_leastTable 143 = .ok (.iload 6, 2) := by decide +kernel
theorem dX12_leastTable_145 : decode cX12_leastTable 145 = .ok (.goto 4, 3) := by decide +kernel
theorem dX12_leastTable_148 : decode cX12_leastTable 148 = .ok (.iload_n 2, 1) := by decide +kernel
theorem dX12_leastTable_149 : decode cX12_leastTable 149 = .ok (.istore_n 2, 1) := by decide +kernel
theorem dX12_leastTable_150 : decode cX12_leastTable 150 = .ok (.iload_n 3, 1) := by decide +kernel
theorem dX12_leastTable_151 : decode cX12_leastTable 151 = .ok (.ifCond .eq 11, 3) := by decide +kernel
theorem dX12_leastTable_154 : decode cX12_leastTable 154 = .ok (.lload 7, 2) := by decide +kernel
theorem dX12_leastTable_156 : decode cX12_leastTable 156 = .ok (.lload 4, 2) := by decide +kernel
theorem dX12_leastTable_158 : decode cX12_leastTable 158 = .ok (.lcmp, 1) := by decide +kernel
theorem dX12_leastTable_159 : decode cX12_leastTable 159 = .ok (.ifCond .ge 8, 3) := by decide +kernel
theorem dX12_leastTable_162 : decode cX12_leastTable 162 = .ok (.lload 7, 2) := by decide +kernel
theorem dX12_leastTable_164 : decode cX12_leastTable 164 = .ok (.goto 5, 3) := by decide +kernel
theorem dX12_leastTable_167 : decode cX12_leastTable 167 = .ok (.lload 4, 2) := by decide +kernel
theorem dX12_leastTable_169 : decode cX12_leastTable 169 = .ok (.lstore 4, 2) := by decide +kernel
theorem dX12_leastTable_171 : decode cX12_leastTable 171 = .ok (.iinc 3 1, 3) := by decide +kernel
theorem dX12_leastTable_174 : decode cX12_leastTable 174 = .ok (.iinc 6 1, 3) := by decide +kernel
theorem dX12_leastTable_177 : decode cX12_leastTable 177 = .ok (.goto (-116), 3) := by decide +kernel
theorem dX12_leastTable_180 : decode cX12_leastTable 180 = .ok (.iload_n 1, 1) := by decide +kernel
theorem dX12_leastTable_181 : decode cX12_leastTable 181 = .ok (.iconst 4, 1) := by decide +kernel
theorem dX12_leastTable_182 : decode cX12_leastTable 182 = .ok (.if_icmp .ne 5, 3) := by decide +kernel
theorem dX12_leastTable_185 : decode cX12_leastTable 185 = .ok (.iload_n 3, 1) := by decide +kernel
theorem dX12_leastTable_186 : decode cX12_leastTable 186 = .ok (.ireturn, 1) := by decide +kernel
theorem dX12_leastTable_187 : decode cX12_leastTable 187 = .ok (.iload_n 2, 1) := by decide +kernel
theorem dX12_leastTable_188 : decode cX12_leastTable 188 = .ok (.istore 6, 2) := by decide +kernel
theorem dX12_leastTable_190 : decode cX12_leastTable 190 = .ok (.iconst 3, 1) := by decide +kernel
theorem dX12_leastTable_191 : decode cX12_leastTable 191 = .ok (.istore 7, 2) := by decide +kernel
theorem dX12_leastTable_193 : decode cX12_leastTable 193 = .ok (.iload 7, 2) := by decide +kernel
theorem dX12_leastTable_195 : decode cX12_leastTable 195 = .ok (.iload_n 1, 1) := by decide +kernel
theorem dX12_leastTable_196 : decode cX12_leastTable 196 = .ok (.if_icmp .le 21, 3) := by decide +kernel
theorem dX12_leastTable_199 : decode cX12_leastTable 199 = .ok (.iload_n 2, 1) := by decide +kernel
theorem dX12_leastTable_200 : decode cX12_leastTable 200 = .ok (.iconst (-1), 1) := by decide +kernel
theorem dX12_leastTable_201 : decode cX12_leastTable 201 = .ok (.if_icmp .eq 16, 3) := by decide +kernel
theorem dX12_leastTable_204 : decode cX12_leastTable 204 = .ok (.iload 6, 2) := by decide +kernel
theorem dX12_leastTable_206 : decode cX12_leastTable 206 = .ok (.bipush 10, 2) := by decide +kernel
theorem dX12_leastTable_208 : decode cX12_leastTable 208 = .ok (.idiv, 1) := by decide +kernel
theorem dX12_leastTable_209 : decode cX12_leastTable 209 = .ok (.istore 6, 2) := by decide +kernel
theorem dX12_leastTable_211 : decode cX12_leastTable 211 = .ok (.iinc 7 (-1), 3) := by decide +kernel
theorem dX12_leastTable_214 : decode cX12_leastTable 214 = .ok (.goto (-21), 3) := by decide +kernel
theorem dX12_leastTable_217 : decode cX12_leastTable 217 = .ok (.iload_n 2, 1) := by decide +kernel
theorem dX12_leastTable_218 : decode cX12_leastTable 218 = .ok (.iconst (-1), 1) := by decide +kernel
theorem dX12_leastTable_219 : decode cX12_leastTable 219 = .ok (.if_icmp .ne 7, 3) := by decide +kernel
theorem dX12_leastTable_222 : decode cX12_leastTable 222 = .ok (.iconst (-1), 1) := by decide +kernel
theorem dX12_leastTable_223 : decode cX12_leastTable 223 = .ok (.goto 8, 3) := by decide +kernel
theorem dX12_leastTable_226 : decode cX12_leastTable 226 = .ok (.iload 6, 2) := by decide +kernel
theorem dX12_leastTable_228 : decode cX12_leastTable 228 = .ok (.bipush 10, 2) := by decide +kernel
theorem dX12_leastTable_230 : decode cX12_leastTable 230 = .ok (.irem, 1) := by decide +kernel
theorem dX12_leastTable_231 : decode cX12_leastTable 231 = .ok (.ireturn, 1) := by decide +kernel

set_option maxHeartbeats 4000000 in
set_option maxRecDepth 100000 in
theorem m_leastTable (l : Launch) (D : va_G) (m0 : Nat) (mp : Nat) (mw : Nat) (mh : Nat) (mo : Nat) (m5 : Nat) (m6 : Nat) (m7 : Nat) (mk : Nat) (mn : Nat) (mq : Nat) (m8 : Nat) (m9 : Nat) (ma : Nat) (mb : Nat) (md : Nat) (p1 : Int32) : Met l yX12_leastTable (Cond.code yX12_leastTable cX12_leastTable 10 (some .int) :: gw_tbl) ({ frames := 0, cells := 0, slots := 0, locals := 0 }) (pc_S D [] [(m0, .inr (12, [.ref mp, .int 0, .int 0, .int 0, .ref mw, .ref mh, .ref mo, .int 0, .int 0, .int 0, .int 0, .int 0, .int 0, .ref m5, .ref m6, .ref m7, .long 0, .int 0, .ref mk, .ref mn, .int 0, .ref mq, .ref m8, .ref m9, .int 0, .int 0, .int 0, .int 0, .ref ma, .int 0, .ref mb, .ref md, .long 0]))] [.ref m0, .int p1]) (vp_Si (fun r => r = (-103))) 0 0 (fun _ => False) := by
  refine Met.ofW (cc := cX12_leastTable) (maxL := 10) (ret := (some .int)) (by decide) rfl ?_
  intro p e s m args below meth c s₁ B hml hv
  obtain ⟨hargs, hP, hK⟩ := hv
  have hx := B.exec
  have hb := B.bytes
  have hr := B.returns
  have hts := atoms_spec (ws := Cond.code yX12_leastTable cX12_leastTable 10 (some .int) :: gw_tbl) B.pre
  have hg := fun (w : Cond) (h : w ∈ gw_tbl) => hts w (List.mem_cons_of_mem _ h)
  have hown : s.vm.findClass RX12 = some m.cls := findClass_of_methodNamed B.named
  have hlocks := B.notSynchronized
  have hl := lv_entry ([.ref m0, .int p1]) (n := 10) (Nat.le_of_ble_eq_true rfl)
  rw [show entryFrame m args 10 = F0 m 0 (lg_sl ([.ref m0, .int p1]) ++ List.replicate (10 - (lg_sl ([.ref m0, .int p1])).length) Slot.unset).toArray [] from by rw [hargs]; exact lg_entry_eq ..]
  generalize (lg_sl ([.ref m0, .int p1]) ++ List.replicate (10 - (lg_sl ([.ref m0, .int p1])).length) Slot.unset).toArray = ls at hl ⊢
  have hl : lv_has ls 10 [(0, .ref m0), (1, .int p1)] := hl
  refine W_genQ (fun Q hQ => ?_)
  refine lv_aload_n hx hb dX12_leastTable_0 rfl (lv_at hl 0 rfl) ?_
  refine va_get (D := D) (ci := 12) (v := .int 0) (C := RX12) (T := TX12) (N := 33) hx hb hg gwX12 hown hK hP 0 rfl rfl 3 (by decide) (hg _ kw_206) (fun _ h9 => h9) rfl dX12_leastTable_1 ?_
  refine lv_if_ne (tgt := 10) hx hb dX12_leastTable_4 (by decide) (fun c_4 => absurd c_4 (by decide)) (fun c_4 => ?_)
  refine lv_bipush (v := (-103)) hx hb dX12_leastTable_7 (by decide) ?_
  subst hQ
  exact W.iret (v := (-103)) hx hb hr (fun t ht hW => ⟨(-103), rfl, rfl, ht⟩) (fun _ h => absurd h List.not_mem_nil) dX12_leastTable_9

theorem dX12_leastLook_0 : decode cX12_leastLook 0 = .ok (.aload_n 0, 1) := by decide +kernel
theorem dX12_leastLook_1 : decode cX12_leastLook 1 = .ok (.iload_n 1, 1) := by decide +kernel
theorem dX12_leastLook_2 : decode cX12_leastLook 2 = .ok (.invokevirtual 142, 3) := by decide +kernel
theorem dX12_leastLook_5 : decode cX12_leastLook 5 = .ok (.ifCond .ne 6, 3) := by decide +kernel
theorem dX12_leastLook_8 : decode cX12_leastLook 8 = .ok (.bipush (-101), 2) := by decide +kernel
theorem dX12_leastLook_10 : decode cX12_leastLook 10 = .ok (.ireturn, 1) := by decide +kernel
theorem dX12_leastLook_11 : decode cX12_leastLook 11 = .ok (.aload_n 0, 1) := by decide +kernel
theorem dX12_leastLook_12 : decode cX12_leastLook 12 = .ok (.getfield 57, 3) := by decide +kernel
theorem dX12_leastLook_15 : decode cX12_leastLook 15 = .ok (.ifCond .eq 13, 3) := by decide +kernel
theorem dX12_leastLook_18 : decode cX12_leastLook 18 = .ok (.aload_n 0, 1) := by decide +kernel
theorem dX12_leastLook_19 : decode cX12_leastLook 19 = .ok (.getfield 32, 3) := by decide +kernel
theorem dX12_leastLook_22 : decode cX12_leastLook 22 = .ok (.iload_n 1, 1) := by decide +kernel
theorem dX12_leastLook_23 : decode cX12_leastLook 23 = .ok (.iaload, 1) := by decide +kernel
theorem dX12_leastLook_24 : decode cX12_leastLook 24 = .ok (.iconst 4, 1) := by decide +kernel
theorem dX12_leastLook_25 : decode cX12_leastLook 25 = .ok (.if_icmp .eq 6, 3) := by decide +kernel
theorem dX12_leastLook_28 : decode cX12_leastLook 28 = .ok (.bipush (-103), 2) := by decide +kernel
theorem dX12_leastLook_30 : decode cX12_leastLook 30 = .ok (.ireturn, 1) := by decide +kernel
theorem dX12_leastLook_31 : decode cX12_leastLook 31 = .ok (.aload_n 0, 1) := by decide +kernel
theorem dX12_leastLook_32 : decode cX12_leastLook 32 = .ok (.iload_n 1, 1) := by decide +kernel
theorem dX12_leastLook_33 : decode cX12_leastLook 33 = .ok (.invokevirtual 154, 3) := by decide +kernel
theorem dX12_leastLook_36 : decode cX12_leastLook 36 = .ok (.iconst 0, 1) := by decide +kernel
theorem dX12_leastLook_37 : decode cX12_leastLook 37 = .ok (.istore_n 2, 1) := by decide +kernel
theorem dX12_leastLook_38 : decode cX12_leastLook 38 = .ok (.iload_n 2, 1) := by decide +kernel
theorem dX12_leastLook_39 : decode cX12_leastLook 39 = .ok (.bipush 101, 2) := by decide +kernel
theorem dX12_leastLook_41 : decode cX12_leastLook 41 = .ok (.if_icmp .ge 25, 3) := by decide +kernel
theorem dX12_leastLook_44 : decode cX12_leastLook 44 = .ok (.aload_n 0, 1) := by decide +kernel
theorem dX12_leastLook_45 : decode cX12_leastLook 45 = .ok (.getfield 38, 3) := by decide +kernel
theorem dX12_leastLook_48 : decode cX12_leastLook 48 = .ok (.iconst 1, 1) := by decide +kernel
theorem dX12_leastLook_49 : decode cX12_leastLook 49 = .ok (.iload_n 2, 1) := by decide +kernel
theorem dX12_leastLook_50 : decode cX12_leastLook 50 = .ok (.iastore, 1) := by decide +kernel
theorem dX12_leastLook_51 : decode cX12_leastLook 51 = .ok (.aload_n 0, 1) := by decide +kernel
theorem dX12_leastLook_52 : decode cX12_leastLook 52 = .ok (.invokevirtual 231, 3) := by decide +kernel
theorem dX12_leastLook_55 : decode cX12_leastLook 55 = .ok (.ifCond .eq 5, 3) := by decide +kernel
theorem dX12_leastLook_58 : decode cX12_leastLook 58 = .ok (.iload_n 2, 1) := by decide +kernel
theorem dX12_leastLook_59 : decode cX12_leastLook 59 = .ok (.ireturn, 1) := by decide +kernel
theorem dX12_leastLook_60 : decode cX12_leastLook 60 = .ok (.iinc 2 1, 3) := by decide +kernel
theorem dX12_leastLook_63 : decode cX12_leastLook 63 = .ok (.goto (-25), 3) := by decide +kernel
theorem dX12_leastLook_66 : decode cX12_leastLook 66 = .ok (.iconst (-1), 1) := by decide +kernel
theorem dX12_leastLook_67 : decode cX12_leastLook 67 = .ok (.ireturn, 1) := by decide +kernel

set_option maxHeartbeats 4000000 in
set_option maxRecDepth 100000 in
theorem m_leastLook (l : Launch) (D : va_G) (m0 : Nat) (mp : Nat) (mw : Nat) (mh : Nat) (mo : Nat) (m5 : Nat) (m6 : Nat) (m7 : Nat) (mk : Nat) (mn : Nat) (mq : Nat) (m8 : Nat) (m9 : Nat) (ma : Nat) (mb : Nat) (md : Nat) (p1 : Int32) : Met l yX12_leastLook (Cond.code yX12_leastLook cX12_leastLook 3 (some .int) :: gw_tbl) ({ frames := 2, cells := 0, slots := 0, locals := 46 }) (pc_S D [] [(m0, .inr (12, [.ref mp, .int 0, .int 0, .int 0, .ref mw, .ref mh, .ref mo, .int 0, .int 0, .int 0, .int 0, .int 0, .int 0, .ref m5, .ref m6, .ref m7, .long 0, .int 0, .ref mk, .ref mn, .int 0, .ref mq, .ref m8, .ref m9, .int 0, .int 0, .int 0, .int 0, .ref ma, .int 0, .ref mb, .ref md, .long 0]))] [.ref m0, .int p1]) (vp_Si (fun r => r = (-101))) 0 0 (fun _ => False) := by
  refine Met.ofW (cc := cX12_leastLook) (maxL := 3) (ret := (some .int)) (by decide) rfl ?_
  intro p e s m args below meth c s₁ B hml hv
  obtain ⟨hargs, hP, hK⟩ := hv
  have hx := B.exec
  have hb := B.bytes
  have hr := B.returns
  have hts := atoms_spec (ws := Cond.code yX12_leastLook cX12_leastLook 3 (some .int) :: gw_tbl) B.pre
  have hg := fun (w : Cond) (h : w ∈ gw_tbl) => hts w (List.mem_cons_of_mem _ h)
  have hown : s.vm.findClass RX12 = some m.cls := findClass_of_methodNamed B.named
  have hlocks := B.notSynchronized
  have hl := lv_entry ([.ref m0, .int p1]) (n := 3) (Nat.le_of_ble_eq_true rfl)
  rw [show entryFrame m args 3 = F0 m 0 (lg_sl ([.ref m0, .int p1]) ++ List.replicate (3 - (lg_sl ([.ref m0, .int p1])).length) Slot.unset).toArray [] from by rw [hargs]; exact lg_entry_eq ..]
  generalize (lg_sl ([.ref m0, .int p1]) ++ List.replicate (3 - (lg_sl ([.ref m0, .int p1])).length) Slot.unset).toArray = ls at hl ⊢
  have hl : lv_has ls 3 [(0, .ref m0), (1, .int p1)] := hl
  refine W_genQ (fun Q hQ => ?_)
  refine lv_aload_n hx hb dX12_leastLook_0 rfl (lv_at hl 0 rfl) ?_
  refine lv_iload_n hx hb dX12_leastLook_1 rfl (lv_at hl 1 rfl) ?_
  have hPc := hP.sub (ws' := [(m0, .inr (12, [.ref mp, .int 0, .int 0, .int 0, .ref mw, .ref mh, .ref mo, .int 0, .int 0, .int 0, .int 0, .int 0, .int 0, .ref m5, .ref m6, .ref m7, .long 0, .int 0, .ref mk, .ref mn, .int 0, .ref mq, .ref m8, .ref m9, .int 0, .int 0, .int 0, .int 0, .ref ma, .int 0, .ref mb, .ref md, .long 0]))]) [0] rfl
  have hKc := hK.sub (tys' := []) [] rfl
  refine vp_callSi (W.runV (As := [.int p1]) (rest := []) ⟨hx, hb, hml, hown, hg⟩ (m_isPay l D m0 mp mw mh mo m5 m6 m7 mk mn mq m8 m9 ma mb md p1) (cwV 1 hg (gw_V kw_213 kw_214 kw_215 kw_210 kw_212) rfl rfl rfl (by decide +kernel) ⟨Nat.le_of_ble_eq_true rfl, Nat.le_of_ble_eq_true rfl⟩) (pr_SV (q := (RX12, TX12, 33)) 12 0 hKc hPc rfl rfl) rfl rfl hl.1 rfl (lv_room (Nat.le_of_ble_eq_true rfl)) dX12_leastLook_2 ⟨Nat.le_of_ble_eq_true rfl, Nat.le_of_ble_eq_true rfl⟩) (fun r_2 h_2 => ?_)
  obtain rfl : r_2 = (0 : Int32) := h_2
  refine lv_if_ne (tgt := 11) hx hb dX12_leastLook_5 (by decide) (fun c_5 => absurd c_5 (by decide)) (fun c_5 => ?_)
  refine lv_bipush (v := (-101)) hx hb dX12_leastLook_8 (by decide) ?_
  subst hQ
  exact W.iret (v := (-101)) hx hb hr (fun t ht hW => ⟨(-101), rfl, rfl, ht⟩) (fun _ h => absurd h List.not_mem_nil) dX12_leastLook_10

theorem dX12_mayBe_0 : decode cX12_mayBe 0 = .ok (.aload_n 0, 1) := by decide +kernel
theorem dX12_mayBe_1 : decode cX12_mayBe 1 = .ok (.iload_n 1, 1) := by decide +kernel
theorem dX12_mayBe_2 : decode cX12_mayBe 2 = .ok (.invokevirtual 142, 3) := by decide +kernel
theorem dX12_mayBe_5 : decode cX12_mayBe 5 = .ok (.ifCond .ne 6, 3) := by decide +kernel
theorem dX12_mayBe_8 : decode cX12_mayBe 8 = .ok (.bipush (-101), 2) := by decide +kernel
theorem dX12_mayBe_10 : decode cX12_mayBe 10 = .ok (.ireturn, 1) := by decide +kernel
theorem dX12_mayBe_11 : decode cX12_mayBe 11 = .ok (.aload_n 0, 1) := by decide +kernel
theorem dX12_mayBe_12 : decode cX12_mayBe 12 = .ok (.getfield 57, 3) := by decide +kernel
theorem dX12_mayBe_15 : decode cX12_mayBe 15 = .ok (.ifCond .ne 6, 3) := by decide +kernel
theorem dX12_mayBe_18 : decode cX12_mayBe 18 = .ok (.bipush (-103), 2) := by decide +kernel
theorem dX12_mayBe_20 : decode cX12_mayBe 20 = .ok (.ireturn, 1) := by decide +kernel
theorem dX12_mayBe_21 : decode cX12_mayBe 21 = .ok (.iload_n 2, 1) := by decide +kernel
theorem dX12_mayBe_22 : decode cX12_mayBe 22 = .ok (.i2l, 1) := by decide +kernel
theorem dX12_mayBe_23 : decode cX12_mayBe 23 = .ok (.lconst 0, 1) := by decide +kernel
theorem dX12_mayBe_24 : decode cX12_mayBe 24 = .ok (.ldc2_w 121, 3) := by decide +kernel
theorem dX12_mayBe_27 : decode cX12_mayBe 27 = .ok (.invokestatic 70, 3) := by decide +kernel
theorem dX12_mayBe_30 : decode cX12_mayBe 30 = .ok (.ifCond .ne 6, 3) := by decide +kernel
theorem dX12_mayBe_33 : decode cX12_mayBe 33 = .ok (.bipush (-102), 2) := by decide +kernel
theorem dX12_mayBe_35 : decode cX12_mayBe 35 = .ok (.ireturn, 1) := by decide +kernel
theorem dX12_mayBe_36 : decode cX12_mayBe 36 = .ok (.aload_n 0, 1) := by decide +kernel
theorem dX12_mayBe_37 : decode cX12_mayBe 37 = .ok (.iload_n 1, 1) := by decide +kernel
theorem dX12_mayBe_38 : decode cX12_mayBe 38 = .ok (.invokevirtual 154, 3) := by decide +kernel
theorem dX12_mayBe_41 : decode cX12_mayBe 41 = .ok (.aload_n 0, 1) := by decide +kernel
theorem dX12_mayBe_42 : decode cX12_mayBe 42 = .ok (.invokevirtual 231, 3) := by decide +kernel
theorem dX12_mayBe_45 : decode cX12_mayBe 45 = .ok (.ifCond .eq 7, 3) := by decide +kernel
theorem dX12_mayBe_48 : decode cX12_mayBe 48 = .ok (.iconst 1, 1) := by decide +kernel
theorem dX12_mayBe_49 : decode cX12_mayBe 49 = .ok (.goto 4, 3) := by decide +kernel
theorem dX12_mayBe_52 : decode cX12_mayBe 52 = .ok (.iconst 0, 1) := by decide +kernel
theorem dX12_mayBe_53 : decode cX12_mayBe 53 = .ok (.istore_n 3, 1) := by decide +kernel
theorem dX12_mayBe_54 : decode cX12_mayBe 54 = .ok (.iconst 0, 1) := by decide +kernel
theorem dX12_mayBe_55 : decode cX12_mayBe 55 = .ok (.istore 4, 2) := by decide +kernel
theorem dX12_mayBe_57 : decode cX12_mayBe 57 = .ok (.iload 4, 2) := by decide +kernel
theorem dX12_mayBe_59 : decode cX12_mayBe 59 = .ok (.aload_n 0, 1) := by decide +kernel
theorem dX12_mayBe_60 : decode cX12_mayBe 60 = .ok (.getfield 103, 3) := by decide +kernel
theorem dX12_mayBe_63 : decode cX12_mayBe 63 = .ok (.if_icmp .ge 149, 3) := by decide +kernel
theorem dX12_mayBe_66 : decode cX12_mayBe 66 = .ok (.iconst 0, 1) := by decide +kernel
theorem dX12_mayBe_67 : decode cX12_mayBe 67 = .ok (.istore 5, 2) := by decide +kernel
theorem dX12_mayBe_69 : decode cX12_mayBe 69 = .ok (.iload 5, 2) := by decide +kernel
theorem dX12_mayBe_71 : decode cX12_mayBe 71 = .ok (.aload_n 0, 1) := by decide +kernel
theorem dX12_mayBe_72 : decode cX12_mayBe 72 = .ok (.getfield 57, 3) := by decide +kernel
theorem dX12_mayBe_75 : decode cX12_mayBe 75 = .ok (.if_icmp .ge 131, 3) := by decide +kernel
theorem dX12_mayBe_78 : decode cX12_mayBe 78 = .ok (.aload_n 0, 1) := by decide +kernel
theorem dX12_mayBe_79 : decode cX12_mayBe 79 = .ok (.getfield 16, 3) := by decide +kernel
theorem dX12_mayBe_82 : decode cX12_mayBe 82 = .ok (.iconst 4, 1) := by decide +kernel
theorem dX12_mayBe_83 : decode cX12_mayBe 83 = .ok (.iload 4, 2) := by decide +kernel
theorem dX12_mayBe_85 : decode cX12_mayBe 85 = .ok (.imul, 1) := by decide +kernel
theorem dX12_mayBe_86 : decode cX12_mayBe 86 = .ok (.iload 5, 2) := by decide +kernel
theorem dX12_mayBe_88 : decode cX12_mayBe 88 = .ok (.iadd, 1) := by decide +kernel
theorem dX12_mayBe_89 : decode cX12_mayBe 89 = .ok (.iaload, 1) := by decide +kernel
theorem dX12_mayBe_90 : decode cX12_mayBe 90 = .ok (.istore 6, 2) := by decide +kernel
theorem dX12_mayBe_92 : decode cX12_mayBe 92 = .ok (.aload_n 0, 1) := by decide +kernel
theorem dX12_mayBe_93 : decode cX12_mayBe 93 = .ok (.getfield 16, 3) := by decide +kernel
theorem dX12_mayBe_96 : decode cX12_mayBe 96 = .ok (.iconst 4, 1) := by decide +kernel
theorem dX12_mayBe_97 : decode cX12_mayBe 97 = .ok (.iload 4, 2) := by decide +kernel
theorem dX12_mayBe_99 : decode cX12_mayBe 99 = .ok (.imul, 1) := by decide +kernel
theorem dX12_mayBe_100 : decode cX12_mayBe 100 = .ok (.iload 5, 2) := by decide +kernel
theorem dX12_mayBe_102 : decode cX12_mayBe 102 = .ok (.iadd, 1) := by decide +kernel
theorem dX12_mayBe_103 : decode cX12_mayBe 103 = .ok (.iload 6, 2) := by decide +kernel
theorem dX12_mayBe_105 : decode cX12_mayBe 105 = .ok (.iload_n 2, 1) := by decide +kernel
theorem dX12_mayBe_106 : decode cX12_mayBe 106 = .ok (.if_icmp .ge 7, 3) := by decide +kernel
theorem dX12_mayBe_109 : decode cX12_mayBe 109 = .ok (.iconst 0, 1) := by decide +kernel
theorem dX12_mayBe_110 : decode cX12_mayBe 110 = .ok (.goto 7, 3) := by decide +kernel
theorem dX12_mayBe_113 : decode cX12_mayBe 113 = .ok (.iload 6, 2) := by decide +kernel
theorem dX12_mayBe_115 : decode cX12_mayBe 115 = .ok (.iload_n 2, 1) := by decide +kernel
theorem dX12_mayBe_116 : decode cX12_mayBe 116 = .ok (.isub, 1) := by decide +kernel
theorem dX12_mayBe_117 : decode cX12_mayBe 117 = .ok (.iastore, 1) := by decide +kernel
theorem dX12_mayBe_118 : decode cX12_mayBe 118 = .ok (.aload_n 0, 1) := by decide +kernel
theorem dX12_mayBe_119 : decode cX12_mayBe 119 = .ok (.invokevirtual 109, 3) := by decide +kernel
theorem dX12_mayBe_122 : decode cX12_mayBe 122 = .ok (.iload_n 3, 1) := by decide +kernel
theorem dX12_mayBe_123 : decode cX12_mayBe 123 = .ok (.aload_n 0, 1) := by decide +kernel
theorem dX12_mayBe_124 : decode cX12_mayBe 124 = .ok (.invokevirtual 231, 3) := by decide +kernel
theorem dX12_mayBe_127 : decode cX12_mayBe 127 = .ok (.ifCond .eq 7, 3) := by decide +kernel
theorem dX12_mayBe_130 : decode cX12_mayBe 130 = .ok (.iconst 1, 1) := by decide +kernel
theorem dX12_mayBe_131 : decode cX12_mayBe 131 = .ok (.goto 4, 3) := by decide +kernel
theorem dX12_mayBe_134 : decode cX12_mayBe 134 = .ok (.iconst 0, 1) := by decide +kernel
theorem dX12_mayBe_135 : decode cX12_mayBe 135 = .ok (.iadd, 1) := by decide +kernel
theorem dX12_mayBe_136 : decode cX12_mayBe 136 = .ok (.istore_n 3, 1) := by decide +kernel
theorem dX12_mayBe_137 : decode cX12_mayBe 137 = .ok (.aload_n 0, 1) := by decide +kernel
theorem dX12_mayBe_138 : decode cX12_mayBe 138 = .ok (.getfield 16, 3) := by decide +kernel
theorem dX12_mayBe_141 : decode cX12_mayBe 141 = .ok (.iconst 4, 1) := by decide +kernel
theorem dX12_mayBe_142 : decode cX12_mayBe 142 = .ok (.iload 4, 2) := by decide +kernel
theorem dX12_mayBe_144 : decode cX12_mayBe 144 = .ok (.imul, 1) := by decide +kernel
theorem dX12_mayBe_145 : decode cX12_mayBe 145 = .ok (.iload 5, 2) := by decide +kernel
theorem dX12_mayBe_147 : decode cX12_mayBe 147 = .ok (.iadd, 1) := by decide +kernel
theorem dX12_mayBe_148 : decode cX12_mayBe 148 = .ok (.iload 6, 2) := by decide +kernel
theorem dX12_mayBe_150 : decode cX12_mayBe 150 = .ok (.iload_n 2, 1) := by decide +kernel
theorem dX12_mayBe_151 : decode cX12_mayBe 151 = .ok (.iadd, 1) := by decide +kernel
theorem dX12_mayBe_152 : decode cX12_mayBe 152 = .ok (.bipush 100, 2) := by decide +kernel
theorem dX12_mayBe_154 : decode cX12_mayBe 154 = .ok (.if_icmp .le 8, 3) := by decide +kernel
theorem dX12_mayBe_157 : decode cX12_mayBe 157 = .ok (.bipush 100, 2) := by decide +kernel
theorem dX12_mayBe_159 : decode cX12_mayBe 159 = .ok (.goto 7, 3) := by decide +kernel
theorem dX12_mayBe_162 : decode cX12_mayBe 162 = .ok (.iload 6, 2) := by decide +kernel
theorem dX12_mayBe_164 : decode cX12_mayBe 164 = .ok (.iload_n 2, 1) := by decide +kernel
theorem dX12_mayBe_165 : decode cX12_mayBe 165 = .ok (.iadd, 1) := by decide +kernel
theorem dX12_mayBe_166 : decode cX12_mayBe 166 = .ok (.iastore, 1) := by decide +kernel
theorem dX12_mayBe_167 : decode cX12_mayBe 167 = .ok (.aload_n 0, 1) := by decide +kernel
theorem dX12_mayBe_168 : decode cX12_mayBe 168 = .ok (.invokevirtual 109, 3) := by decide +kernel
theorem dX12_mayBe_171 : decode cX12_mayBe 171 = .ok (.iload_n 3, 1) := by decide +kernel
theorem dX12_mayBe_172 : decode cX12_mayBe 172 = .ok (.aload_n 0, 1) := by decide +kernel
theorem dX12_mayBe_173 : decode cX12_mayBe 173 = .ok (.invokevirtual 231, 3) := by decide +kernel
theorem dX12_mayBe_176 : decode cX12_mayBe 176 = .ok (.ifCond .eq 7, 3) := by decide +kernel
theorem dX12_mayBe_179 : decode cX12_mayBe 179 = .ok (.iconst 1, 1) := by decide +kernel
theorem dX12_mayBe_180 : decode cX12_mayBe 180 = .ok (.goto 4, 3) := by decide +kernel
theorem dX12_mayBe_183 : decode cX12_mayBe 183 = .ok (.iconst 0, 1) := by decide +kernel
theorem dX12_mayBe_184 : decode cX12_mayBe 184 = .ok (.iadd, 1) := by decide +kernel
theorem dX12_mayBe_185 : decode cX12_mayBe 185 = .ok (.istore_n 3, 1) := by decide +kernel
theorem dX12_mayBe_186 : decode cX12_mayBe 186 = .ok (.aload_n 0, 1) := by decide +kernel
theorem dX12_mayBe_187 : decode cX12_mayBe 187 = .ok (.getfield 16, 3) := by decide +kernel
theorem dX12_mayBe_190 : decode cX12_mayBe 190 = .ok (.iconst 4, 1) := by decide +kernel
theorem dX12_mayBe_191 : decode cX12_mayBe 191 = .ok (.iload 4, 2) := by decide +kernel
theorem dX12_mayBe_193 : decode cX12_mayBe 193 = .ok (.imul, 1) := by decide +kernel
theorem dX12_mayBe_194 : decode cX12_mayBe 194 = .ok (.iload 5, 2) := by decide +kernel
theorem dX12_mayBe_196 : decode cX12_mayBe 196 = .ok (.iadd, 1) := by decide +kernel
theorem dX12_mayBe_197 : decode cX12_mayBe 197 = .ok (.iload 6, 2) := by decide +kernel
theorem dX12_mayBe_199 : decode cX12_mayBe 199 = .ok (.iastore, 1) := by decide +kernel
theorem dX12_mayBe_200 : decode cX12_mayBe 200 = .ok (.iinc 5 1, 3) := by decide +kernel
theorem dX12_mayBe_203 : decode cX12_mayBe 203 = .ok (.goto (-134), 3) := by decide +kernel
theorem dX12_mayBe_206 : decode cX12_mayBe 206 = .ok (.iinc 4 1, 3) := by decide +kernel
theorem dX12_mayBe_209 : decode cX12_mayBe 209 = .ok (.goto (-152), 3) := by decide +kernel
theorem dX12_mayBe_212 : decode cX12_mayBe 212 = .ok (.aload_n 0, 1) := by decide +kernel
theorem dX12_mayBe_213 : decode cX12_mayBe 213 = .ok (.invokevirtual 109, 3) := by decide +kernel
theorem dX12_mayBe_216 : decode cX12_mayBe 216 = .ok (.iload_n 3, 1) := by decide +kernel
theorem dX12_mayBe_217 : decode cX12_mayBe 217 = .ok (.ireturn, 1) := by decide +kernel

set_option maxHeartbeats 4000000 in
set_option maxRecDepth 100000 in
theorem m_mayBe (l : Launch) (D : va_G) (m0 : Nat) (mp : Nat) (mw : Nat) (mh : Nat) (mo : Nat) (m5 : Nat) (m6 : Nat) (m7 : Nat) (mk : Nat) (mn : Nat) (mq : Nat) (m8 : Nat) (m9 : Nat) (ma : Nat) (mb : Nat) (md : Nat) (p1 : Int32) (p2 : Int32) : Met l yX12_mayBe (Cond.code yX12_mayBe cX12_mayBe 7 (some .int) :: gw_tbl) ({ frames := 2, cells := 0, slots := 0, locals := 46 }) (pc_S D [] [(m0, .inr (12, [.ref mp, .int 0, .int 0, .int 0, .ref mw, .ref mh, .ref mo, .int 0, .int 0, .int 0, .int 0, .int 0, .int 0, .ref m5, .ref m6, .ref m7, .long 0, .int 0, .ref mk, .ref mn, .int 0, .ref mq, .ref m8, .ref m9, .int 0, .int 0, .int 0, .int 0, .ref ma, .int 0, .ref mb, .ref md, .long 0]))] [.ref m0, .int p1, .int p2]) (vp_Si (fun r => r = (-101))) 0 0 (fun _ => False) := by
  refine Met.ofW (cc := cX12_mayBe) (maxL := 7) (ret := (some .int)) (by decide) rfl ?_
  intro p e s m args below meth c s₁ B hml hv
  obtain ⟨hargs, hP, hK⟩ := hv
  have hx := B.exec
  have hb := B.bytes
  have hr := B.returns
  have hts := atoms_spec (ws := Cond.code yX12_mayBe cX12_mayBe 7 (some .int) :: gw_tbl) B.pre
  have hg := fun (w : Cond) (h : w ∈ gw_tbl) => hts w (List.mem_cons_of_mem _ h)
  have hown : s.vm.findClass RX12 = some m.cls := findClass_of_methodNamed B.named
  have hlocks := B.notSynchronized
  have hl := lv_entry ([.ref m0, .int p1, .int p2]) (n := 7) (Nat.le_of_ble_eq_true rfl)
  rw [show entryFrame m args 7 = F0 m 0 (lg_sl ([.ref m0, .int p1, .int p2]) ++ List.replicate (7 - (lg_sl ([.ref m0, .int p1, .int p2])).length) Slot.unset).toArray [] from by rw [hargs]; exact lg_entry_eq ..]
  generalize (lg_sl ([.ref m0, .int p1, .int p2]) ++ List.replicate (7 - (lg_sl ([.ref m0, .int p1, .int p2])).length) Slot.unset).toArray = ls at hl ⊢
  have hl : lv_has ls 7 [(0, .ref m0), (1, .int p1), (2, .int p2)] := hl
  refine W_genQ (fun Q hQ => ?_)
  refine lv_aload_n hx hb dX12_mayBe_0 rfl (lv_at hl 0 rfl) ?_
  refine lv_iload_n hx hb dX12_mayBe_1 rfl (lv_at hl 1 rfl) ?_
  have hPc := hP.sub (ws' := [(m0, .inr (12, [.ref mp, .int 0, .int 0, .int 0, .ref mw, .ref mh, .ref mo, .int 0, .int 0, .int 0, .int 0, .int 0, .int 0, .ref m5, .ref m6, .ref m7, .long 0, .int 0, .ref mk, .ref mn, .int 0, .ref mq, .ref m8, .ref m9, .int 0, .int 0, .int 0, .int 0, .ref ma, .int 0, .ref mb, .ref md, .long 0]))]) [0] rfl
  have hKc := hK.sub (tys' := []) [] rfl
  refine vp_callSi (W.runV (As := [.int p1]) (rest := []) ⟨hx, hb, hml, hown, hg⟩ (m_isPay l D m0 mp mw mh mo m5 m6 m7 mk mn mq m8 m9 ma mb md p1) (cwV 1 hg (gw_V kw_213 kw_214 kw_215 kw_210 kw_212) rfl rfl rfl (by decide +kernel) ⟨Nat.le_of_ble_eq_true rfl, Nat.le_of_ble_eq_true rfl⟩) (pr_SV (q := (RX12, TX12, 33)) 12 0 hKc hPc rfl rfl) rfl rfl hl.1 rfl (lv_room (Nat.le_of_ble_eq_true rfl)) dX12_mayBe_2 ⟨Nat.le_of_ble_eq_true rfl, Nat.le_of_ble_eq_true rfl⟩) (fun r_2 h_2 => ?_)
  obtain rfl : r_2 = (0 : Int32) := h_2
  refine lv_if_ne (tgt := 11) hx hb dX12_mayBe_5 (by decide) (fun c_5 => absurd c_5 (by decide)) (fun c_5 => ?_)
  refine lv_bipush (v := (-101)) hx hb dX12_mayBe_8 (by decide) ?_
  subst hQ
  exact W.iret (v := (-101)) hx hb hr (fun t ht hW => ⟨(-101), rfl, rfl, ht⟩) (fun _ h => absurd h List.not_mem_nil) dX12_mayBe_10

theorem dX12_row_0 : decode cX12_row 0 = .ok (.aload_n 0, 1) := by decide +kernel
theorem dX12_row_1 : decode cX12_row 1 = .ok (.getfield 57, 3) := by decide +kernel
theorem dX12_row_4 : decode cX12_row 4 = .ok (.ifCond .ne 6, 3) := by decide +kernel
theorem dX12_row_7 : decode cX12_row 7 = .ok (.bipush (-103), 2) := by decide +kernel
theorem dX12_row_9 : decode cX12_row 9 = .ok (.ireturn, 1) := by decide +kernel
theorem dX12_row_10 : decode cX12_row 10 = .ok (.iconst 1, 1) := by decide +kernel
theorem dX12_row_11 : decode cX12_row 11 = .ok (.istore 4, 2) := by decide +kernel
theorem dX12_row_13 : decode cX12_row 13 = .ok (.lconst 1, 1) := by decide +kernel
theorem dX12_row_14 : decode cX12_row 14 = .ok (.lstore 5, 2) := by decide +kernel
theorem dX12_row_16 : decode cX12_row 16 = .ok (.iconst 0, 1) := by decide +kernel
theorem dX12_row_17 : decode cX12_row 17 = .ok (.istore 7, 2) := by decide +kernel
theorem dX12_row_19 : decode cX12_row 19 = .ok (.iload 7, 2) := by decide +kernel
theorem dX12_row_21 : decode cX12_row 21 = .ok (.aload_n 0, 1) := by decide +kernel
theorem dX12_row_22 : decode cX12_row 22 = .ok (.getfield 57, 3) := by decide +kernel
theorem dX12_row_25 : decode cX12_row 25 = .ok (.if_icmp .ge 23, 3) := by decide +kernel
theorem dX12_row_28 : decode cX12_row 28 = .ok (.iload 4, 2) := by decide +kernel
theorem dX12_row_30 : decode cX12_row 30 = .ok (.iconst 3, 1) := by decide +kernel
theorem dX12_row_31 : decode cX12_row 31 = .ok (.imul, 1) := by decide +kernel
theorem dX12_row_32 : decode cX12_row 32 = .ok (.istore 4, 2) := by decide +kernel
theorem dX12_row_34 : decode cX12_row 34 = .ok (.lload 5, 2) := by decide +kernel
theorem dX12_row_36 : decode cX12_row 36 = .ok (.ldc2_w 250, 3) := by decide +kernel
theorem dX12_row_39 : decode cX12_row 39 = .ok (.lmul, 1) := by decide +kernel
theorem dX12_row_40 : decode cX12_row 40 = .ok (.lstore 5, 2) := by decide +kernel
theorem dX12_row_42 : decode cX12_row 42 = .ok (.iinc 7 1, 3) := by decide +kernel
theorem dX12_row_45 : decode cX12_row 45 = .ok (.goto (-26), 3) := by decide +kernel
theorem dX12_row_48 : decode cX12_row 48 = .ok (.iload_n 1, 1) := by decide +kernel
theorem dX12_row_49 : decode cX12_row 49 = .ok (.i2l, 1) := by decide +kernel
theorem dX12_row_50 : decode cX12_row 50 = .ok (.lconst 0, 1) := by decide +kernel
theorem dX12_row_51 : decode cX12_row 51 = .ok (.iload 4, 2) := by decide +kernel
theorem dX12_row_53 : decode cX12_row 53 = .ok (.iconst 1, 1) := by decide +kernel
theorem dX12_row_54 : decode cX12_row 54 = .ok (.isub, 1) := by decide +kernel
theorem dX12_row_55 : decode cX12_row 55 = .ok (.i2l, 1) := by decide +kernel
theorem dX12_row_56 : decode cX12_row 56 = .ok (.invokestatic 70, 3) := by decide +kernel
theorem dX12_row_59 : decode cX12_row 59 = .ok (.ifCond .eq 23, 3) := by decide +kernel
theorem dX12_row_62 : decode cX12_row 62 = .ok (.lload_n 2, 1) := by decide +kernel
theorem dX12_row_63 : decode cX12_row 63 = .ok (.ldc2_w 131, 3) := by decide +kernel
theorem dX12_row_66 : decode cX12_row 66 = .ok (.lcmp, 1) := by decide +kernel
theorem dX12_row_67 : decode cX12_row 67 = .ok (.ifCond .eq 18, 3) := by decide +kernel
theorem dX12_row_70 : decode cX12_row 70 = .ok (.lload_n 2, 1) := by decide +kernel
theorem dX12_row_71 : decode cX12_row 71 = .ok (.lconst 0, 1) := by decide +kernel
theorem dX12_row_72 : decode cX12_row 72 = .ok (.lload 5, 2) := by decide +kernel
theorem dX12_row_74 : decode cX12_row 74 = .ok (.lconst 1, 1) := by decide +kernel
theorem dX12_row_75 : decode cX12_row 75 = .ok (.lsub, 1) := by decide +kernel
theorem dX12_row_76 : decode cX12_row 76 = .ok (.invokestatic 70, 3) := by decide +kernel
theorem dX12_row_79 : decode cX12_row 79 = .ok (.ifCond .ne 6, 3) := by decide +kernel
theorem dX12_row_82 : decode cX12_row 82 = .ok (.bipush (-102), 2) := by decide +kernel
theorem dX12_row_84 : decode cX12_row 84 = .ok (.ireturn, 1) := by decide +kernel
theorem dX12_row_85 : decode cX12_row 85 = .ok (.aload_n 0, 1) := by decide +kernel
theorem dX12_row_86 : decode cX12_row 86 = .ok (.getfield 106, 3) := by decide +kernel
theorem dX12_row_89 : decode cX12_row 89 = .ok (.bipush 24, 2) := by decide +kernel
theorem dX12_row_91 : decode cX12_row 91 = .ok (.if_icmp .ne 6, 3) := by decide +kernel
theorem dX12_row_94 : decode cX12_row 94 = .ok (.bipush (-104), 2) := by decide +kernel
theorem dX12_row_96 : decode cX12_row 96 = .ok (.ireturn, 1) := by decide +kernel
theorem dX12_row_97 : decode cX12_row 97 = .ok (.aload_n 0, 1) := by decide +kernel
theorem dX12_row_98 : decode cX12_row 98 = .ok (.getfield 51, 3) := by decide +kernel
theorem dX12_row_101 : decode cX12_row 101 = .ok (.aload_n 0, 1) := by decide +kernel
theorem dX12_row_102 : decode cX12_row 102 = .ok (.getfield 106, 3) := by decide +kernel
theorem dX12_row_105 : decode cX12_row 105 = .ok (.iload_n 1, 1) := by decide +kernel
theorem dX12_row_106 : decode cX12_row 106 = .ok (.iastore, 1) := by decide +kernel
theorem dX12_row_107 : decode cX12_row 107 = .ok (.aload_n 0, 1) := by decide +kernel
theorem dX12_row_108 : decode cX12_row 108 = .ok (.getfield 54, 3) := by decide +kernel
theorem dX12_row_111 : decode cX12_row 111 = .ok (.aload_n 0, 1) := by decide +kernel
theorem dX12_row_112 : decode cX12_row 112 = .ok (.getfield 106, 3) := by decide +kernel
theorem dX12_row_115 : decode cX12_row 115 = .ok (.lload_n 2, 1) := by decide +kernel
theorem dX12_row_116 : decode cX12_row 116 = .ok (.lastore, 1) := by decide +kernel
theorem dX12_row_117 : decode cX12_row 117 = .ok (.aload_n 0, 1) := by decide +kernel
theorem dX12_row_118 : decode cX12_row 118 = .ok (.dup, 1) := by decide +kernel
theorem dX12_row_119 : decode cX12_row 119 = .ok (.getfield 106, 3) := by decide +kernel
theorem dX12_row_122 : decode cX12_row 122 = .ok (.iconst 1, 1) := by decide +kernel
theorem dX12_row_123 : decode cX12_row 123 = .ok (.iadd, 1) := by decide +kernel
theorem dX12_row_124 : decode cX12_row 124 = .ok (.putfield 106, 3) := by decide +kernel
theorem dX12_row_127 : decode cX12_row 127 = .ok (.aload_n 0, 1) := by decide +kernel
theorem dX12_row_128 : decode cX12_row 128 = .ok (.getfield 106, 3) := by decide +kernel
theorem dX12_row_131 : decode cX12_row 131 = .ok (.ireturn, 1) := by decide +kernel

set_option maxHeartbeats 4000000 in
set_option maxRecDepth 100000 in
theorem m_row (l : Launch) (D : va_G) (m0 : Nat) (mp : Nat) (mw : Nat) (mh : Nat) (mo : Nat) (m5 : Nat) (m6 : Nat) (m7 : Nat) (mk : Nat) (mn : Nat) (mq : Nat) (m8 : Nat) (m9 : Nat) (ma : Nat) (mb : Nat) (md : Nat) (p1 : Int32) (p2 : Int64) : Met l yX12_row (Cond.code yX12_row cX12_row 8 (some .int) :: gw_tbl) ({ frames := 0, cells := 0, slots := 0, locals := 0 }) (pc_S D [] [(m0, .inr (12, [.ref mp, .int 0, .int 0, .int 0, .ref mw, .ref mh, .ref mo, .int 0, .int 0, .int 0, .int 0, .int 0, .int 0, .ref m5, .ref m6, .ref m7, .long 0, .int 0, .ref mk, .ref mn, .int 0, .ref mq, .ref m8, .ref m9, .int 0, .int 0, .int 0, .int 0, .ref ma, .int 0, .ref mb, .ref md, .long 0]))] [.ref m0, .int p1, .long p2]) (vp_Si (fun r => r = (-103))) 0 0 (fun _ => False) := by
  refine Met.ofW (cc := cX12_row) (maxL := 8) (ret := (some .int)) (by decide) rfl ?_
  intro p e s m args below meth c s₁ B hml hv
  obtain ⟨hargs, hP, hK⟩ := hv
  have hx := B.exec
  have hb := B.bytes
  have hr := B.returns
  have hts := atoms_spec (ws := Cond.code yX12_row cX12_row 8 (some .int) :: gw_tbl) B.pre
  have hg := fun (w : Cond) (h : w ∈ gw_tbl) => hts w (List.mem_cons_of_mem _ h)
  have hown : s.vm.findClass RX12 = some m.cls := findClass_of_methodNamed B.named
  have hlocks := B.notSynchronized
  have hl := lv_entry ([.ref m0, .int p1, .long p2]) (n := 8) (Nat.le_of_ble_eq_true rfl)
  rw [show entryFrame m args 8 = F0 m 0 (lg_sl ([.ref m0, .int p1, .long p2]) ++ List.replicate (8 - (lg_sl ([.ref m0, .int p1, .long p2])).length) Slot.unset).toArray [] from by rw [hargs]; exact lg_entry_eq ..]
  generalize (lg_sl ([.ref m0, .int p1, .long p2]) ++ List.replicate (8 - (lg_sl ([.ref m0, .int p1, .long p2])).length) Slot.unset).toArray = ls at hl ⊢
  have hl : lv_has ls 8 [(0, .ref m0), (1, .int p1), (2, .long p2)] := hl
  refine W_genQ (fun Q hQ => ?_)
  refine lv_aload_n hx hb dX12_row_0 rfl (lv_at hl 0 rfl) ?_
  refine va_get (D := D) (ci := 12) (v := .int 0) (C := RX12) (T := TX12) (N := 33) hx hb hg gwX12 hown hK hP 0 rfl rfl 3 (by decide) (hg _ kw_206) (fun _ h9 => h9) rfl dX12_row_1 ?_
  refine lv_if_ne (tgt := 10) hx hb dX12_row_4 (by decide) (fun c_4 => absurd c_4 (by decide)) (fun c_4 => ?_)
  refine lv_bipush (v := (-103)) hx hb dX12_row_7 (by decide) ?_
  subst hQ
  exact W.iret (v := (-103)) hx hb hr (fun t ht hW => ⟨(-103), rfl, rfl, ht⟩) (fun _ h => absurd h List.not_mem_nil) dX12_row_9

theorem dX12_alike_0 : decode cX12_alike 0 = .ok (.aload_n 0, 1) := by decide +kernel
theorem dX12_alike_1 : decode cX12_alike 1 = .ok (.iload_n 1, 1) := by decide +kernel
theorem dX12_alike_2 : decode cX12_alike 2 = .ok (.invokevirtual 112, 3) := by decide +kernel
theorem dX12_alike_5 : decode cX12_alike 5 = .ok (.ifCond .eq 16, 3) := by decide +kernel
theorem dX12_alike_8 : decode cX12_alike 8 = .ok (.aload_n 0, 1) := by decide +kernel
theorem dX12_alike_9 : decode cX12_alike 9 = .ok (.iload_n 2, 1) := by decide +kernel
theorem dX12_alike_10 : decode cX12_alike 10 = .ok (.invokevirtual 112, 3) := by decide +kernel
theorem dX12_alike_13 : decode cX12_alike 13 = .ok (.ifCond .eq 8, 3) := by decide +kernel
theorem dX12_alike_16 : decode cX12_alike 16 = .ok (.iload_n 1, 1) := by decide +kernel
theorem dX12_alike_17 : decode cX12_alike 17 = .ok (.iload_n 2, 1) := by decide +kernel
theorem dX12_alike_18 : decode cX12_alike 18 = .ok (.if_icmp .ne 6, 3) := by decide +kernel
theorem dX12_alike_21 : decode cX12_alike 21 = .ok (.ldc 255, 2) := by decide +kernel
theorem dX12_alike_23 : decode cX12_alike 23 = .ok (.ireturn, 1) := by decide +kernel
theorem dX12_alike_24 : decode cX12_alike 24 = .ok (.iload_n 3, 1) := by decide +kernel
theorem dX12_alike_25 : decode cX12_alike 25 = .ok (.i2l, 1) := by decide +kernel
theorem dX12_alike_26 : decode cX12_alike 26 = .ok (.lconst 0, 1) := by decide +kernel
theorem dX12_alike_27 : decode cX12_alike 27 = .ok (.ldc2_w 145, 3) := by decide +kernel
theorem dX12_alike_30 : decode cX12_alike 30 = .ok (.invokestatic 70, 3) := by decide +kernel
theorem dX12_alike_33 : decode cX12_alike 33 = .ok (.ifCond .ne 7, 3) := by decide +kernel
theorem dX12_alike_36 : decode cX12_alike 36 = .ok (.ldc_w 256, 3) := by decide +kernel
theorem dX12_alike_39 : decode cX12_alike 39 = .ok (.ireturn, 1) := by decide +kernel
theorem dX12_alike_40 : decode cX12_alike 40 = .ok (.iconst 0, 1) := by decide +kernel
theorem dX12_alike_41 : decode cX12_alike 41 = .ok (.istore 4, 2) := by decide +kernel
theorem dX12_alike_43 : decode cX12_alike 43 = .ok (.iconst 0, 1) := by decide +kernel
theorem dX12_alike_44 : decode cX12_alike 44 = .ok (.istore 5, 2) := by decide +kernel
theorem dX12_alike_46 : decode cX12_alike 46 = .ok (.iconst 0, 1) := by decide +kernel
theorem dX12_alike_47 : decode cX12_alike 47 = .ok (.istore 6, 2) := by decide +kernel
theorem dX12_alike_49 : decode cX12_alike 49 = .ok (.iconst 0, 1) := by decide +kernel
theorem dX12_alike_50 : decode cX12_alike 50 = .ok (.istore 7, 2) := by decide +kernel
theorem dX12_alike_52 : decode cX12_alike 52 = .ok (.iload 7, 2) := by decide +kernel
theorem dX12_alike_54 : decode cX12_alike 54 = .ok (.aload_n 0, 1) := by decide +kernel
theorem dX12_alike_55 : decode cX12_alike 55 = .ok (.getfield 106, 3) := by decide +kernel
theorem dX12_alike_58 : decode cX12_alike 58 = .ok (.if_icmp .ge 113, 3) := by decide +kernel
theorem dX12_alike_61 : decode cX12_alike 61 = .ok (.aload_n 0, 1) := by decide +kernel
theorem dX12_alike_62 : decode cX12_alike 62 = .ok (.iload 7, 2) := by decide +kernel
theorem dX12_alike_64 : decode cX12_alike 64 = .ok (.iload_n 1, 1) := by decide +kernel
theorem dX12_alike_65 : decode cX12_alike 65 = .ok (.iload_n 2, 1) := by decide +kernel
theorem dX12_alike_66 : decode cX12_alike 66 = .ok (.invokevirtual 257, 3) := by decide +kernel
theorem dX12_alike_69 : decode cX12_alike 69 = .ok (.ifCond .eq 96, 3) := by decide +kernel
theorem dX12_alike_72 : decode cX12_alike 72 = .ok (.iinc 4 1, 3) := by decide +kernel
theorem dX12_alike_75 : decode cX12_alike 75 = .ok (.iload 5, 2) := by decide +kernel
theorem dX12_alike_77 : decode cX12_alike 77 = .ok (.aload_n 0, 1) := by decide +kernel
theorem dX12_alike_78 : decode cX12_alike 78 = .ok (.iload 7, 2) := by decide +kernel
theorem dX12_alike_80 : decode cX12_alike 80 = .ok (.iload_n 1, 1) := by decide +kernel
theorem dX12_alike_81 : decode cX12_alike 81 = .ok (.invokevirtual 252, 3) := by decide +kernel
theorem dX12_alike_84 : decode cX12_alike 84 = .ok (.aload_n 0, 1) := by decide +kernel
theorem dX12_alike_85 : decode cX12_alike 85 = .ok (.iload 7, 2) := by decide +kernel
theorem dX12_alike_87 : decode cX12_alike 87 = .ok (.iload_n 2, 1) := by decide +kernel
theorem dX12_alike_88 : decode cX12_alike 88 = .ok (.invokevirtual 252, 3) := by decide +kernel
theorem dX12_alike_91 : decode cX12_alike 91 = .ok (.if_icmp .ne 7, 3) := by decide +kernel
theorem dX12_alike_94 : decode cX12_alike 94 = .ok (.iconst 1, 1) := by decide +kernel
theorem dX12_alike_95 : decode cX12_alike 95 = .ok (.goto 4, 3) := by decide +kernel
theorem dX12_alike_98 : decode cX12_alike 98 = .ok (.iconst 0, 1) := by decide +kernel
theorem dX12_alike_99 : decode cX12_alike 99 = .ok (.iadd, 1) := by decide +kernel
theorem dX12_alike_100 : decode cX12_alike 100 = .ok (.istore 5, 2) := by decide +kernel
theorem dX12_alike_102 : decode cX12_alike 102 = .ok (.iconst 0, 1) := by decide +kernel
theorem dX12_alike_103 : decode cX12_alike 103 = .ok (.istore 8, 2) := by decide +kernel
theorem dX12_alike_105 : decode cX12_alike 105 = .ok (.iload 8, 2) := by decide +kernel
theorem dX12_alike_107 : decode cX12_alike 107 = .ok (.aload_n 0, 1) := by decide +kernel
theorem dX12_alike_108 : decode cX12_alike 108 = .ok (.getfield 106, 3) := by decide +kernel
theorem dX12_alike_111 : decode cX12_alike 111 = .ok (.if_icmp .ge 54, 3) := by decide +kernel
theorem dX12_alike_114 : decode cX12_alike 114 = .ok (.iload 6, 2) := by decide +kernel
theorem dX12_alike_116 : decode cX12_alike 116 = .ok (.iload 8, 2) := by decide +kernel
theorem dX12_alike_118 : decode cX12_alike 118 = .ok (.iload 7, 2) := by decide +kernel
theorem dX12_alike_120 : decode cX12_alike 120 = .ok (.if_icmp .eq 35, 3) := by decide +kernel
theorem dX12_alike_123 : decode cX12_alike 123 = .ok (.aload_n 0, 1) := by decide +kernel
theorem dX12_alike_124 : decode cX12_alike 124 = .ok (.iload 8, 2) := by decide +kernel
theorem dX12_alike_126 : decode cX12_alike 126 = .ok (.iload_n 1, 1) := by decide +kernel
theorem dX12_alike_127 : decode cX12_alike 127 = .ok (.iload_n 2, 1) := by decide +kernel
theorem dX12_alike_128 : decode cX12_alike 128 = .ok (.invokevirtual 257, 3) := by decide +kernel
theorem dX12_alike_131 : decode cX12_alike 131 = .ok (.ifCond .eq 24, 3) := by decide +kernel
theorem dX12_alike_134 : decode cX12_alike 134 = .ok (.aload_n 0, 1) := by decide +kernel
theorem dX12_alike_135 : decode cX12_alike 135 = .ok (.iload 7, 2) := by decide +kernel
theorem dX12_alike_137 : decode cX12_alike 137 = .ok (.iload_n 1, 1) := by decide +kernel
theorem dX12_alike_138 : decode cX12_alike 138 = .ok (.invokevirtual 252, 3) := by decide +kernel
theorem dX12_alike_141 : decode cX12_alike 141 = .ok (.aload_n 0, 1) := by decide +kernel
theorem dX12_alike_142 : decode cX12_alike 142 = .ok (.iload 8, 2) := by decide +kernel
theorem dX12_alike_144 : decode cX12_alike 144 = .ok (.iload_n 2, 1) := by decide +kernel
theorem dX12_alike_145 : decode cX12_alike 145 = .ok (.invokevirtual 252, 3) := by decide +kernel
theorem dX12_alike_148 : decode cX12_alike 148 = .ok (.if_icmp .ne 7, 3) := by decide +kernel
theorem dX12_alike_151 : decode cX12_alike 151 = .ok (.iconst 1, 1) := by decide +kernel
theorem dX12_alike_152 : decode cX12_alike 152 = .ok (.goto 4, 3) := by decide +kernel
theorem dX12_alike_155 : decode cX12_alike 155 = .ok (.iconst 0, 1) := by decide +kernel
theorem dX12_alike_156 : decode cX12_alike 156 = .ok (.iadd, 1) := by decide +kernel
theorem dX12_alike_157 : decode cX12_alike 157 = .ok (.istore 6, 2) := by decide +kernel
theorem dX12_alike_159 : decode cX12_alike 159 = .ok (.iinc 8 1, 3) := by decide +kernel
theorem dX12_alike_162 : decode cX12_alike 162 = .ok (.goto (-57), 3) := by decide +kernel
theorem dX12_alike_165 : decode cX12_alike 165 = .ok (.iinc 7 1, 3) := by decide +kernel
theorem dX12_alike_168 : decode cX12_alike 168 = .ok (.goto (-116), 3) := by decide +kernel
theorem dX12_alike_171 : decode cX12_alike 171 = .ok (.iload 4, 2) := by decide +kernel
theorem dX12_alike_173 : decode cX12_alike 173 = .ok (.iload_n 3, 1) := by decide +kernel
theorem dX12_alike_174 : decode cX12_alike 174 = .ok (.iconst 2, 1) := by decide +kernel
theorem dX12_alike_175 : decode cX12_alike 175 = .ok (.if_icmp .ge 7, 3) := by decide +kernel
theorem dX12_alike_178 : decode cX12_alike 178 = .ok (.iconst 1, 1) := by decide +kernel
theorem dX12_alike_179 : decode cX12_alike 179 = .ok (.goto 4, 3) := by decide +kernel
theorem dX12_alike_182 : decode cX12_alike 182 = .ok (.iconst 2, 1) := by decide +kernel
theorem dX12_alike_183 : decode cX12_alike 183 = .ok (.if_icmp .ge 7, 3) := by decide +kernel
theorem dX12_alike_186 : decode cX12_alike 186 = .ok (.ldc_w 260, 3) := by decide +kernel
theorem dX12_alike_189 : decode cX12_alike 189 = .ok (.ireturn, 1) := by decide +kernel
theorem dX12_alike_190 : decode cX12_alike 190 = .ok (.iload_n 3, 1) := by decide +kernel
theorem dX12_alike_191 : decode cX12_alike 191 = .ok (.iconst 2, 1) := by decide +kernel
theorem dX12_alike_192 : decode cX12_alike 192 = .ok (.if_icmp .ge 9, 3) := by decide +kernel
theorem dX12_alike_195 : decode cX12_alike 195 = .ok (.iload 5, 2) := by decide +kernel
theorem dX12_alike_197 : decode cX12_alike 197 = .ok (.i2l, 1) := by decide +kernel
theorem dX12_alike_198 : decode cX12_alike 198 = .ok (.goto 14, 3) := by decide +kernel
theorem dX12_alike_201 : decode cX12_alike 201 = .ok (.iload 5, 2) := by decide +kernel
theorem dX12_alike_203 : decode cX12_alike 203 = .ok (.iload 4, 2) := by decide +kernel
theorem dX12_alike_205 : decode cX12_alike 205 = .ok (.iconst 1, 1) := by decide +kernel
theorem dX12_alike_206 : decode cX12_alike 206 = .ok (.isub, 1) := by decide +kernel
theorem dX12_alike_207 : decode cX12_alike 207 = .ok (.imul, 1) := by decide +kernel
theorem dX12_alike_208 : decode cX12_alike 208 = .ok (.iload 6, 2) := by decide +kernel
theorem dX12_alike_210 : decode cX12_alike 210 = .ok (.isub, 1) := by decide +kernel
theorem dX12_alike_211 : decode cX12_alike 211 = .ok (.i2l, 1) := by decide +kernel
theorem dX12_alike_212 : decode cX12_alike 212 = .ok (.lstore 7, 2) := by decide +kernel
theorem dX12_alike_214 : decode cX12_alike 214 = .ok (.iload_n 3, 1) := by decide +kernel
theorem dX12_alike_215 : decode cX12_alike 215 = .ok (.iconst 2, 1) := by decide +kernel
theorem dX12_alike_216 : decode cX12_alike 216 = .ok (.if_icmp .ge 9, 3) := by decide +kernel
theorem dX12_alike_219 : decode cX12_alike 219 = .ok (.iload 4, 2) := by decide +kernel
theorem dX12_alike_221 : decode cX12_alike 221 = .ok (.i2l, 1) := by decide +kernel
theorem dX12_alike_222 : decode cX12_alike 222 = .ok (.goto 12, 3) := by decide +kernel
theorem dX12_alike_225 : decode cX12_alike 225 = .ok (.iload 4, 2) := by decide +kernel
theorem dX12_alike_227 : decode cX12_alike 227 = .ok (.i2l, 1) := by decide +kernel
theorem dX12_alike_228 : decode cX12_alike 228 = .ok (.iload 4, 2) := by decide +kernel
theorem dX12_alike_230 : decode cX12_alike 230 = .ok (.iconst 1, 1) := by decide +kernel
theorem dX12_alike_231 : decode cX12_alike 231 = .ok (.isub, 1) := by decide +kernel
theorem dX12_alike_232 : decode cX12_alike 232 = .ok (.i2l, 1) := by decide +kernel
theorem dX12_alike_233 : decode cX12_alike 233 = .ok (.lmul, 1) := by decide +kernel
theorem dX12_alike_234 : decode cX12_alike 234 = .ok (.lstore 9, 2) := by decide +kernel
theorem dX12_alike_236 : decode cX12_alike 236 = .ok (.lload 7, 2) := by decide +kernel
theorem dX12_alike_238 : decode cX12_alike 238 = .ok (.lload 9, 2) := by decide +kernel
theorem dX12_alike_240 : decode cX12_alike 240 = .ok (.iload_n 3, 1) := by decide +kernel
theorem dX12_alike_241 : decode cX12_alike 241 = .ok (.iconst 2, 1) := by decide +kernel
theorem dX12_alike_242 : decode cX12_alike 242 = .ok (.irem, 1) := by decide +kernel
theorem dX12_alike_243 : decode cX12_alike 243 = .ok (.invokestatic 133, 3) := by decide +kernel
theorem dX12_alike_246 : decode cX12_alike 246 = .ok (.l2i, 1) := by decide +kernel
theorem dX12_alike_247 : decode cX12_alike 247 = .ok (.ireturn, 1) := by decide +kernel
theorem kw_230 : (.constant RX12 255 (-1000001) : Cond) ∈ gw_tbl := gw_in (by decide +kernel) (by decide +kernel)

set_option maxHeartbeats 4000000 in
set_option maxRecDepth 100000 in
theorem m_alike (l : Launch) (D : va_G) (m0 : Nat) (mp : Nat) (mw : Nat) (mh : Nat) (mo : Nat) (m5 : Nat) (m6 : Nat) (m7 : Nat) (mk : Nat) (mn : Nat) (mq : Nat) (m8 : Nat) (m9 : Nat) (ma : Nat) (mb : Nat) (md : Nat) (p1 : Int32) (p2 : Int32) (p3 : Int32) : Met l yX12_alike (Cond.code yX12_alike cX12_alike 11 (some .int) :: gw_tbl) ({ frames := 2, cells := 0, slots := 0, locals := 46 }) (pc_S D [] [(m0, .inr (12, [.ref mp, .int 0, .int 0, .int 0, .ref mw, .ref mh, .ref mo, .int 0, .int 0, .int 0, .int 0, .int 0, .int 0, .ref m5, .ref m6, .ref m7, .long 0, .int 0, .ref mk, .ref mn, .int 0, .ref mq, .ref m8, .ref m9, .int 0, .int 0, .int 0, .int 0, .ref ma, .int 0, .ref mb, .ref md, .long 0]))] [.ref m0, .int p1, .int p2, .int p3]) (vp_Si (fun r => r = (-1000001))) 0 0 (fun _ => False) := by
  refine Met.ofW (cc := cX12_alike) (maxL := 11) (ret := (some .int)) (by decide) rfl ?_
  intro p e s m args below meth c s₁ B hml hv
  obtain ⟨hargs, hP, hK⟩ := hv
  have hx := B.exec
  have hb := B.bytes
  have hr := B.returns
  have hts := atoms_spec (ws := Cond.code yX12_alike cX12_alike 11 (some .int) :: gw_tbl) B.pre
  have hg := fun (w : Cond) (h : w ∈ gw_tbl) => hts w (List.mem_cons_of_mem _ h)
  have hown : s.vm.findClass RX12 = some m.cls := findClass_of_methodNamed B.named
  have hlocks := B.notSynchronized
  have hl := lv_entry ([.ref m0, .int p1, .int p2, .int p3]) (n := 11) (Nat.le_of_ble_eq_true rfl)
  rw [show entryFrame m args 11 = F0 m 0 (lg_sl ([.ref m0, .int p1, .int p2, .int p3]) ++ List.replicate (11 - (lg_sl ([.ref m0, .int p1, .int p2, .int p3])).length) Slot.unset).toArray [] from by rw [hargs]; exact lg_entry_eq ..]
  generalize (lg_sl ([.ref m0, .int p1, .int p2, .int p3]) ++ List.replicate (11 - (lg_sl ([.ref m0, .int p1, .int p2, .int p3])).length) Slot.unset).toArray = ls at hl ⊢
  have hl : lv_has ls 11 [(0, .ref m0), (1, .int p1), (2, .int p2), (3, .int p3)] := hl
  refine W_genQ (fun Q hQ => ?_)
  refine lv_aload_n hx hb dX12_alike_0 rfl (lv_at hl 0 rfl) ?_
  refine lv_iload_n hx hb dX12_alike_1 rfl (lv_at hl 1 rfl) ?_
  have hPc := hP.sub (ws' := [(m0, .inr (12, [.ref mp, .int 0, .int 0, .int 0, .ref mw, .ref mh, .ref mo, .int 0, .int 0, .int 0, .int 0, .int 0, .int 0, .ref m5, .ref m6, .ref m7, .long 0, .int 0, .ref mk, .ref mn, .int 0, .ref mq, .ref m8, .ref m9, .int 0, .int 0, .int 0, .int 0, .ref ma, .int 0, .ref mb, .ref md, .long 0]))]) [0] rfl
  have hKc := hK.sub (tys' := []) [] rfl
  refine vp_callSi (W.runV (As := [.int p1]) (rest := []) ⟨hx, hb, hml, hown, hg⟩ (m_isPerson l D m0 mp mw mh mo m5 m6 m7 mk mn mq m8 m9 ma mb md p1) (cwV 1 hg (gw_V kw_218 kw_219 kw_220 kw_210 kw_217) rfl rfl rfl (by decide +kernel) ⟨Nat.le_of_ble_eq_true rfl, Nat.le_of_ble_eq_true rfl⟩) (pr_SV (q := (RX12, TX12, 33)) 12 0 hKc hPc rfl rfl) rfl rfl hl.1 rfl (lv_room (Nat.le_of_ble_eq_true rfl)) dX12_alike_2 ⟨Nat.le_of_ble_eq_true rfl, Nat.le_of_ble_eq_true rfl⟩) (fun r_2 h_2 => ?_)
  obtain rfl : r_2 = (0 : Int32) := h_2
  refine lv_if_eq (tgt := 21) hx hb dX12_alike_5 (by decide) (fun c_5 => ?_) (fun c_5 => absurd (by decide) c_5)
  refine lv_ldc hx hb hown (hg _ kw_230) dX12_alike_21 ?_
  subst hQ
  exact W.iret (v := (-1000001)) hx hb hr (fun t ht hW => ⟨(-1000001), rfl, rfl, ht⟩) (fun _ h => absurd h List.not_mem_nil) dX12_alike_23

theorem dX12_crowd_0 : decode cX12_crowd 0 = .ok (.iload_n 1, 1) := by decide +kernel
theorem dX12_crowd_1 : decode cX12_crowd 1 = .ok (.i2l, 1) := by decide +kernel
theorem dX12_crowd_2 : decode cX12_crowd 2 = .ok (.lconst 0, 1) := by decide +kernel
theorem dX12_crowd_3 : decode cX12_crowd 3 = .ok (.aload_n 0, 1) := by decide +kernel
theorem dX12_crowd_4 : decode cX12_crowd 4 = .ok (.getfield 106, 3) := by decide +kernel
theorem dX12_crowd_7 : decode cX12_crowd 7 = .ok (.iconst 1, 1) := by decide +kernel
theorem dX12_crowd_8 : decode cX12_crowd 8 = .ok (.isub, 1) := by decide +kernel
theorem dX12_crowd_9 : decode cX12_crowd 9 = .ok (.i2l, 1) := by decide +kernel
theorem dX12_crowd_10 : decode cX12_crowd 10 = .ok (.invokestatic 70, 3) := by decide +kernel
theorem dX12_crowd_13 : decode cX12_crowd 13 = .ok (.ifCond .ne 6, 3) := by decide +kernel
theorem dX12_crowd_16 : decode cX12_crowd 16 = .ok (.bipush (-101), 2) := by decide +kernel
theorem dX12_crowd_18 : decode cX12_crowd 18 = .ok (.ireturn, 1) := by decide +kernel
theorem dX12_crowd_19 : decode cX12_crowd 19 = .ok (.iload_n 2, 1) := by decide +kernel
theorem dX12_crowd_20 : decode cX12_crowd 20 = .ok (.i2l, 1) := by decide +kernel
theorem dX12_crowd_21 : decode cX12_crowd 21 = .ok (.lconst 0, 1) := by decide +kernel
theorem dX12_crowd_22 : decode cX12_crowd 22 = .ok (.lconst 1, 1) := by decide +kernel
theorem dX12_crowd_23 : decode cX12_crowd 23 = .ok (.invokestatic 70, 3) := by decide +kernel
theorem dX12_crowd_26 : decode cX12_crowd 26 = .ok (.ifCond .eq 12, 3) := by decide +kernel
theorem dX12_crowd_29 : decode cX12_crowd 29 = .ok (.aload_n 0, 1) := by decide +kernel
theorem dX12_crowd_30 : decode cX12_crowd 30 = .ok (.iload_n 1, 1) := by decide +kernel
theorem dX12_crowd_31 : decode cX12_crowd 31 = .ok (.iload_n 2, 1) := by decide +kernel
theorem dX12_crowd_32 : decode cX12_crowd 32 = .ok (.invokevirtual 261, 3) := by decide +kernel
theorem dX12_crowd_35 : decode cX12_crowd 35 = .ok (.goto 5, 3) := by decide +kernel
theorem dX12_crowd_38 : decode cX12_crowd 38 = .ok (.bipush (-102), 2) := by decide +kernel
theorem dX12_crowd_40 : decode cX12_crowd 40 = .ok (.ireturn, 1) := by decide +kernel
theorem kw_231 : (.fieldLink RX12 106 "NobodyChecksModel" "rows" "I" : Cond) ∈ gw_tbl := gw_in (by decide +kernel) (by decide +kernel)

set_option maxHeartbeats 4000000 in
set_option maxRecDepth 100000 in
theorem m_crowd (l : Launch) (D : va_G) (m0 : Nat) (mp : Nat) (mw : Nat) (mh : Nat) (mo : Nat) (m5 : Nat) (m6 : Nat) (m7 : Nat) (mk : Nat) (mn : Nat) (mq : Nat) (m8 : Nat) (m9 : Nat) (ma : Nat) (mb : Nat) (md : Nat) (p1 : Int32) (p2 : Int32) : Met l yX12_crowd (Cond.code yX12_crowd cX12_crowd 3 (some .int) :: gw_tbl) ({ frames := 1, cells := 0, slots := 0, locals := 25 }) (pc_S D [] [(m0, .inr (12, [.ref mp, .int 0, .int 0, .int 0, .ref mw, .ref mh, .ref mo, .int 0, .int 0, .int 0, .int 0, .int 0, .int 0, .ref m5, .ref m6, .ref m7, .long 0, .int 0, .ref mk, .ref mn, .int 0, .ref mq, .ref m8, .ref m9, .int 0, .int 0, .int 0, .int 0, .ref ma, .int 0, .ref mb, .ref md, .long 0]))] [.ref m0, .int p1, .int p2]) (vp_Si (fun r => r = (-101))) 0 0 (fun _ => False) := by
  refine Met.ofW (cc := cX12_crowd) (maxL := 3) (ret := (some .int)) (by decide) rfl ?_
  intro p e s m args below meth c s₁ B hml hv
  obtain ⟨hargs, hP, hK⟩ := hv
  have hx := B.exec
  have hb := B.bytes
  have hr := B.returns
  have hts := atoms_spec (ws := Cond.code yX12_crowd cX12_crowd 3 (some .int) :: gw_tbl) B.pre
  have hg := fun (w : Cond) (h : w ∈ gw_tbl) => hts w (List.mem_cons_of_mem _ h)
  have hown : s.vm.findClass RX12 = some m.cls := findClass_of_methodNamed B.named
  have hlocks := B.notSynchronized
  have hl := lv_entry ([.ref m0, .int p1, .int p2]) (n := 3) (Nat.le_of_ble_eq_true rfl)
  rw [show entryFrame m args 3 = F0 m 0 (lg_sl ([.ref m0, .int p1, .int p2]) ++ List.replicate (3 - (lg_sl ([.ref m0, .int p1, .int p2])).length) Slot.unset).toArray [] from by rw [hargs]; exact lg_entry_eq ..]
  generalize (lg_sl ([.ref m0, .int p1, .int p2]) ++ List.replicate (3 - (lg_sl ([.ref m0, .int p1, .int p2])).length) Slot.unset).toArray = ls at hl ⊢
  have hl : lv_has ls 3 [(0, .ref m0), (1, .int p1), (2, .int p2)] := hl
  refine W_genQ (fun Q hQ => ?_)
  refine lv_iload_n hx hb dX12_crowd_0 rfl (lv_at hl 1 rfl) ?_
  refine lv_i2l hx hb dX12_crowd_1 rfl ?_
  refine lv_topl (fun z_1 e_1 => ?_)
  refine lv_lconst (v := 0) hx hb dX12_crowd_2 (by decide) ?_
  refine lv_aload_n hx hb dX12_crowd_3 rfl (lv_at hl 0 rfl) ?_
  refine va_get (D := D) (ci := 12) (v := .int 0) (C := RX12) (T := TX12) (N := 33) hx hb hg gwX12 hown hK hP 0 rfl rfl 29 (by decide) (hg _ kw_231) (fun _ h9 => h9) rfl dX12_crowd_4 ?_
  refine lv_iconst (v := 1) hx hb dX12_crowd_7 (by decide) ?_
  refine lv_isub hx hb dX12_crowd_8 ?_
  refine lv_topi (fun z_8 e_8 => ?_)
  obtain rfl : z_8 = ((-1) : Int32) := e_8.trans (by decide)
  refine lv_i2l hx hb dX12_crowd_9 rfl ?_
  refine lv_topl (fun z_9 e_9 => ?_)
  obtain rfl : z_9 = ((-1) : Int64) := e_9.trans (by decide)
  refine vp_callSi (W.runS (As := [.long z_1, .long 0, .long (-1)]) (rest := []) ⟨hx, hb, hml, hown, hg⟩ (c_in l z_1 0 (-1)) (va_cwS 3 hg (gw_S kw_208 kw_209 kw_210 kw_207) rfl rfl rfl (by decide +kernel) ⟨Nat.le_of_ble_eq_true rfl, Nat.le_of_ble_eq_true rfl⟩) pr_0 rfl rfl hl.1 rfl (lv_room (Nat.le_of_ble_eq_true rfl)) dX12_crowd_10 ⟨Nat.le_of_ble_eq_true rfl, Nat.le_of_ble_eq_true rfl⟩) (fun r_10 h_10 => ?_)
  obtain rfl : r_10 = (0 : Int32) := h_10.trans (il_no (by decide))
  refine lv_if_ne (tgt := 19) hx hb dX12_crowd_13 (by decide) (fun c_13 => absurd c_13 (by decide)) (fun c_13 => ?_)
  refine lv_bipush (v := (-101)) hx hb dX12_crowd_16 (by decide) ?_
  subst hQ
  exact W.iret (v := (-101)) hx hb hr (fun t ht hW => ⟨(-101), rfl, rfl, ht⟩) (fun _ h => absurd h List.not_mem_nil) dX12_crowd_18

theorem dX12_countOf_0 : decode cX12_countOf 0 = .ok (.iload_n 1, 1) := by decide +kernel
theorem dX12_countOf_1 : decode cX12_countOf 1 = .ok (.tableswitch 69 0 5 #[39, 44, 49, 54, 59, 64], 39) := by decide +kernel
theorem dX12_countOf_40 : decode cX12_countOf 40 = .ok (.aload_n 0, 1) := by decide +kernel
theorem dX12_countOf_41 : decode cX12_countOf 41 = .ok (.getfield 103, 3) := by decide +kernel
theorem dX12_countOf_44 : decode cX12_countOf 44 = .ok (.ireturn, 1) := by decide +kernel
theorem dX12_countOf_45 : decode cX12_countOf 45 = .ok (.aload_n 0, 1) := by decide +kernel
theorem dX12_countOf_46 : decode cX12_countOf 46 = .ok (.getfield 57, 3) := by decide +kernel
theorem dX12_countOf_49 : decode cX12_countOf 49 = .ok (.ireturn, 1) := by decide +kernel
theorem dX12_countOf_50 : decode cX12_countOf 50 = .ok (.aload_n 0, 1) := by decide +kernel
theorem dX12_countOf_51 : decode cX12_countOf 51 = .ok (.getfield 139, 3) := by decide +kernel
theorem dX12_countOf_54 : decode cX12_countOf 54 = .ok (.ireturn, 1) := by decide +kernel
theorem dX12_countOf_55 : decode cX12_countOf 55 = .ok (.aload_n 0, 1) := by decide +kernel
theorem dX12_countOf_56 : decode cX12_countOf 56 = .ok (.getfield 106, 3) := by decide +kernel
theorem dX12_countOf_59 : decode cX12_countOf 59 = .ok (.ireturn, 1) := by decide +kernel
theorem dX12_countOf_60 : decode cX12_countOf 60 = .ok (.aload_n 0, 1) := by decide +kernel
theorem dX12_countOf_61 : decode cX12_countOf 61 = .ok (.getfield 63, 3) := by decide +kernel
theorem dX12_countOf_64 : decode cX12_countOf 64 = .ok (.ireturn, 1) := by decide +kernel
theorem dX12_countOf_65 : decode cX12_countOf 65 = .ok (.aload_n 0, 1) := by decide +kernel
theorem dX12_countOf_66 : decode cX12_countOf 66 = .ok (.getfield 241, 3) := by decide +kernel
theorem dX12_countOf_69 : decode cX12_countOf 69 = .ok (.ireturn, 1) := by decide +kernel
theorem dX12_countOf_70 : decode cX12_countOf 70 = .ok (.bipush (-102), 2) := by decide +kernel
theorem dX12_countOf_72 : decode cX12_countOf 72 = .ok (.ireturn, 1) := by decide +kernel
theorem kw_232 : (.fieldLink RX12 63 "NobodyChecksModel" "pageMany" "I" : Cond) ∈ gw_tbl := gw_in (by decide +kernel) (by decide +kernel)
theorem kw_233 : (.fieldLink RX12 241 "NobodyChecksModel" "tablesDone" "I" : Cond) ∈ gw_tbl := gw_in (by decide +kernel) (by decide +kernel)

set_option maxHeartbeats 4000000 in
set_option maxRecDepth 100000 in
theorem m_countOf (l : Launch) (D : va_G) (m0 : Nat) (mp : Nat) (mw : Nat) (mh : Nat) (mo : Nat) (m5 : Nat) (m6 : Nat) (m7 : Nat) (mk : Nat) (mn : Nat) (mq : Nat) (m8 : Nat) (m9 : Nat) (ma : Nat) (mb : Nat) (md : Nat) (p1 : Int32) : Met l yX12_countOf (Cond.code yX12_countOf cX12_countOf 2 (some .int) :: gw_tbl) ({ frames := 0, cells := 0, slots := 0, locals := 0 }) (pc_S D [] [(m0, .inr (12, [.ref mp, .int 0, .int 0, .int 0, .ref mw, .ref mh, .ref mo, .int 0, .int 0, .int 0, .int 0, .int 0, .int 0, .ref m5, .ref m6, .ref m7, .long 0, .int 0, .ref mk, .ref mn, .int 0, .ref mq, .ref m8, .ref m9, .int 0, .int 0, .int 0, .int 0, .ref ma, .int 0, .ref mb, .ref md, .long 0]))] [.ref m0, .int p1]) (vp_Si (fun r => r = cntf p1)) 0 0 (fun _ => False) := by
  refine Met.ofW (cc := cX12_countOf) (maxL := 2) (ret := (some .int)) (by decide) rfl ?_
  intro p e s m args below meth c s₁ B hml hv
  obtain ⟨hargs, hP, hK⟩ := hv
  have hx := B.exec
  have hb := B.bytes
  have hr := B.returns
  have hts := atoms_spec (ws := Cond.code yX12_countOf cX12_countOf 2 (some .int) :: gw_tbl) B.pre
  have hg := fun (w : Cond) (h : w ∈ gw_tbl) => hts w (List.mem_cons_of_mem _ h)
  have hown : s.vm.findClass RX12 = some m.cls := findClass_of_methodNamed B.named
  have hlocks := B.notSynchronized
  have hl := lv_entry ([.ref m0, .int p1]) (n := 2) (Nat.le_of_ble_eq_true rfl)
  rw [show entryFrame m args 2 = F0 m 0 (lg_sl ([.ref m0, .int p1]) ++ List.replicate (2 - (lg_sl ([.ref m0, .int p1])).length) Slot.unset).toArray [] from by rw [hargs]; exact lg_entry_eq ..]
  generalize (lg_sl ([.ref m0, .int p1]) ++ List.replicate (2 - (lg_sl ([.ref m0, .int p1])).length) Slot.unset).toArray = ls at hl ⊢
  have hl : lv_has ls 2 [(0, .ref m0), (1, .int p1)] := hl
  refine W_genQ (fun Q hQ => ?_)
  refine lv_iload_n hx hb dX12_countOf_0 rfl (lv_at hl 1 rfl) ?_
  by_cases t_1 : p1.toInt < 0 ∨ 5 < p1.toInt
  · refine lv_tableOut (tgt := 70) hx hb dX12_countOf_1 t_1 (by decide) ?_
    refine lv_bipush (v := (-102)) hx hb dX12_countOf_70 (by decide) ?_
    subst hQ
    exact W.iret (v := (-102)) hx hb hr (fun t ht hW => ⟨(-102), rfl, (if_pos t_1).symm, ht⟩) (fun _ h => absurd h List.not_mem_nil) dX12_countOf_72
  · rcases tw_5 t_1 with rfl | rfl | rfl | rfl | rfl | rfl
    · refine lv_tableIn (tgt := 40) hx hb dX12_countOf_1 (by decide) (by decide) rfl (by decide) ?_
      refine lv_aload_n hx hb dX12_countOf_40 rfl (lv_at hl 0 rfl) ?_
      refine va_get (D := D) (ci := 12) (v := .int 0) (C := RX12) (T := TX12) (N := 33) hx hb hg gwX12 hown hK hP 0 rfl rfl 2 (by decide) (hg _ kw_216) (fun _ h9 => h9) rfl dX12_countOf_41 ?_
      subst hQ
      exact W.iret (v := 0) hx hb hr (fun t ht hW => ⟨0, rfl, rfl, ht⟩) (fun _ h => absurd h List.not_mem_nil) dX12_countOf_44
    · refine lv_tableIn (tgt := 45) hx hb dX12_countOf_1 (by decide) (by decide) rfl (by decide) ?_
      refine lv_aload_n hx hb dX12_countOf_45 rfl (lv_at hl 0 rfl) ?_
      refine va_get (D := D) (ci := 12) (v := .int 0) (C := RX12) (T := TX12) (N := 33) hx hb hg gwX12 hown hK hP 0 rfl rfl 3 (by decide) (hg _ kw_206) (fun _ h9 => h9) rfl dX12_countOf_46 ?_
      subst hQ
      exact W.iret (v := 0) hx hb hr (fun t ht hW => ⟨0, rfl, rfl, ht⟩) (fun _ h => absurd h List.not_mem_nil) dX12_countOf_49
    · refine lv_tableIn (tgt := 50) hx hb dX12_countOf_1 (by decide) (by decide) rfl (by decide) ?_
      refine lv_aload_n hx hb dX12_countOf_50 rfl (lv_at hl 0 rfl) ?_
      refine va_get (D := D) (ci := 12) (v := .int 0) (C := RX12) (T := TX12) (N := 33) hx hb hg gwX12 hown hK hP 0 rfl rfl 17 (by decide) (hg _ kw_211) (fun _ h9 => h9) rfl dX12_countOf_51 ?_
      subst hQ
      exact W.iret (v := 0) hx hb hr (fun t ht hW => ⟨0, rfl, rfl, ht⟩) (fun _ h => absurd h List.not_mem_nil) dX12_countOf_54
    · refine lv_tableIn (tgt := 55) hx hb dX12_countOf_1 (by decide) (by decide) rfl (by decide) ?_
      refine lv_aload_n hx hb dX12_countOf_55 rfl (lv_at hl 0 rfl) ?_
      refine va_get (D := D) (ci := 12) (v := .int 0) (C := RX12) (T := TX12) (N := 33) hx hb hg gwX12 hown hK hP 0 rfl rfl 29 (by decide) (hg _ kw_231) (fun _ h9 => h9) rfl dX12_countOf_56 ?_
      subst hQ
      exact W.iret (v := 0) hx hb hr (fun t ht hW => ⟨0, rfl, rfl, ht⟩) (fun _ h => absurd h List.not_mem_nil) dX12_countOf_59
    · refine lv_tableIn (tgt := 60) hx hb dX12_countOf_1 (by decide) (by decide) rfl (by decide) ?_
      refine lv_aload_n hx hb dX12_countOf_60 rfl (lv_at hl 0 rfl) ?_
      refine va_get (D := D) (ci := 12) (v := .int 0) (C := RX12) (T := TX12) (N := 33) hx hb hg gwX12 hown hK hP 0 rfl rfl 1 (by decide) (hg _ kw_232) (fun _ h9 => h9) rfl dX12_countOf_61 ?_
      subst hQ
      exact W.iret (v := 0) hx hb hr (fun t ht hW => ⟨0, rfl, rfl, ht⟩) (fun _ h => absurd h List.not_mem_nil) dX12_countOf_64
    · refine lv_tableIn (tgt := 65) hx hb dX12_countOf_1 (by decide) (by decide) rfl (by decide) ?_
      refine lv_aload_n hx hb dX12_countOf_65 rfl (lv_at hl 0 rfl) ?_
      refine va_get (D := D) (ci := 12) (v := .int 0) (C := RX12) (T := TX12) (N := 33) hx hb hg gwX12 hown hK hP 0 rfl rfl 27 (by decide) (hg _ kw_233) (fun _ h9 => h9) rfl dX12_countOf_66 ?_
      subst hQ
      exact W.iret (v := 0) hx hb hr (fun t ht hW => ⟨0, rfl, rfl, ht⟩) (fun _ h => absurd h List.not_mem_nil) dX12_countOf_69

theorem dX12_count_0 : decode cX12_count 0 = .ok (.aload_n 0, 1) := by decide +kernel
theorem dX12_count_1 : decode cX12_count 1 = .ok (.iload_n 1, 1) := by decide +kernel
theorem dX12_count_2 : decode cX12_count 2 = .ok (.invokevirtual 264, 3) := by decide +kernel
theorem dX12_count_5 : decode cX12_count 5 = .ok (.ireturn, 1) := by decide +kernel
theorem kw_234 : (.code yX12_countOf cX12_countOf 2 (some .int) : Cond) ∈ gw_tbl := gw_in (by decide +kernel) (by decide +kernel)
theorem kw_235 : (.methodLink RX12 264 yX12_countOf : Cond) ∈ gw_tbl := gw_in (by decide +kernel) (by decide +kernel)
theorem kw_236 : (.instanceMethod yX12_countOf : Cond) ∈ gw_tbl := gw_in (by decide +kernel) (by decide +kernel)
theorem kw_237 : (.selects RX12 yX12_countOf yX12_countOf : Cond) ∈ gw_tbl := gw_in (by decide +kernel) (by decide +kernel)

set_option maxHeartbeats 4000000 in
set_option maxRecDepth 100000 in
theorem m_count (l : Launch) (D : va_G) (m0 : Nat) (mp : Nat) (mw : Nat) (mh : Nat) (mo : Nat) (m5 : Nat) (m6 : Nat) (m7 : Nat) (mk : Nat) (mn : Nat) (mq : Nat) (m8 : Nat) (m9 : Nat) (ma : Nat) (mb : Nat) (md : Nat) (p1 : Int32) : Met l yX12_count (Cond.code yX12_count cX12_count 2 (some .int) :: gw_tbl) ({ frames := 1, cells := 0, slots := 0, locals := 21 }) (pc_S D [] [(m0, .inr (12, [.ref mp, .int 0, .int 0, .int 0, .ref mw, .ref mh, .ref mo, .int 0, .int 0, .int 0, .int 0, .int 0, .int 0, .ref m5, .ref m6, .ref m7, .long 0, .int 0, .ref mk, .ref mn, .int 0, .ref mq, .ref m8, .ref m9, .int 0, .int 0, .int 0, .int 0, .ref ma, .int 0, .ref mb, .ref md, .long 0]))] [.ref m0, .int p1]) (vp_Si (fun r => r = cntf p1)) 0 0 (fun _ => False) := by
  refine Met.ofW (cc := cX12_count) (maxL := 2) (ret := (some .int)) (by decide) rfl ?_
  intro p e s m args below meth c s₁ B hml hv
  obtain ⟨hargs, hP, hK⟩ := hv
  have hx := B.exec
  have hb := B.bytes
  have hr := B.returns
  have hts := atoms_spec (ws := Cond.code yX12_count cX12_count 2 (some .int) :: gw_tbl) B.pre
  have hg := fun (w : Cond) (h : w ∈ gw_tbl) => hts w (List.mem_cons_of_mem _ h)
  have hown : s.vm.findClass RX12 = some m.cls := findClass_of_methodNamed B.named
  have hlocks := B.notSynchronized
  have hl := lv_entry ([.ref m0, .int p1]) (n := 2) (Nat.le_of_ble_eq_true rfl)
  rw [show entryFrame m args 2 = F0 m 0 (lg_sl ([.ref m0, .int p1]) ++ List.replicate (2 - (lg_sl ([.ref m0, .int p1])).length) Slot.unset).toArray [] from by rw [hargs]; exact lg_entry_eq ..]
  generalize (lg_sl ([.ref m0, .int p1]) ++ List.replicate (2 - (lg_sl ([.ref m0, .int p1])).length) Slot.unset).toArray = ls at hl ⊢
  have hl : lv_has ls 2 [(0, .ref m0), (1, .int p1)] := hl
  refine W_genQ (fun Q hQ => ?_)
  refine lv_aload_n hx hb dX12_count_0 rfl (lv_at hl 0 rfl) ?_
  refine lv_iload_n hx hb dX12_count_1 rfl (lv_at hl 1 rfl) ?_
  have hPc := hP.sub (ws' := [(m0, .inr (12, [.ref mp, .int 0, .int 0, .int 0, .ref mw, .ref mh, .ref mo, .int 0, .int 0, .int 0, .int 0, .int 0, .int 0, .ref m5, .ref m6, .ref m7, .long 0, .int 0, .ref mk, .ref mn, .int 0, .ref mq, .ref m8, .ref m9, .int 0, .int 0, .int 0, .int 0, .ref ma, .int 0, .ref mb, .ref md, .long 0]))]) [0] rfl
  have hKc := hK.sub (tys' := []) [] rfl
  refine vp_callSi (W.runV (As := [.int p1]) (rest := []) ⟨hx, hb, hml, hown, hg⟩ (m_countOf l D m0 mp mw mh mo m5 m6 m7 mk mn mq m8 m9 ma mb md p1) (cwV 1 hg (gw_V kw_235 kw_236 kw_237 kw_210 kw_234) rfl rfl rfl (by decide +kernel) ⟨Nat.le_of_ble_eq_true rfl, Nat.le_of_ble_eq_true rfl⟩) (pr_SV (q := (RX12, TX12, 33)) 12 0 hKc hPc rfl rfl) rfl rfl hl.1 rfl (lv_room (Nat.le_of_ble_eq_true rfl)) dX12_count_2 ⟨Nat.le_of_ble_eq_true rfl, Nat.le_of_ble_eq_true rfl⟩) (fun r_2 h_2 => ?_)
  try dsimp only at h_2
  subst hQ
  exact W.iret (v := r_2) hx hb hr (fun t ht hW => ⟨r_2, rfl, h_2, ht⟩) (fun _ h => absurd h List.not_mem_nil) dX12_count_5
end
