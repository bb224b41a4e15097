section
-- ===== PART A: goes FIRST, ahead of the names: the tables' words, and 'selects' of the private methods out of them =====
/-- a private method of a class that the tables say can be made, by its rows of tables_1 -/
def lw_okq (q : MethodName × Nat) : Prop := (q.1.cls ≠ "java/lang/invoke/MethodHandle" ∧ q.1.cls ≠ "java/lang/invoke/VarHandle") ∧ Cond.instantiable q.1.cls q.2 ∈ tables_1 ∧ Cond.privateMethod q.1 ∈ tables_1 ∧ Cond.instanceMethod q.1 ∈ tables_1
theorem lw_p0 : lw_okq (⟨"NobodyChecks$Reader", "beginCase", "()V"⟩, 7) := ⟨⟨by decide +kernel, by decide +kernel⟩, List.mem_of_getElem? (i := 43) (by decide +kernel), List.mem_of_getElem? (i := 338) (by decide +kernel), List.mem_of_getElem? (i := 339) (by decide +kernel)⟩
theorem lw_p1 : lw_okq (⟨"NobodyChecks$Reader", "takes", "(I)Z"⟩, 7) := ⟨⟨by decide +kernel, by decide +kernel⟩, List.mem_of_getElem? (i := 43) (by decide +kernel), List.mem_of_getElem? (i := 342) (by decide +kernel), List.mem_of_getElem? (i := 343) (by decide +kernel)⟩
theorem lw_p2 : lw_okq (⟨"NobodyChecks$Reader", "takesOfWeight", "(I)Z"⟩, 7) := ⟨⟨by decide +kernel, by decide +kernel⟩, List.mem_of_getElem? (i := 43) (by decide +kernel), List.mem_of_getElem? (i := 346) (by decide +kernel), List.mem_of_getElem? (i := 347) (by decide +kernel)⟩
theorem lw_p3 : lw_okq (⟨"NobodyChecks$Reader", "takeDigit", "(I)V"⟩, 7) := ⟨⟨by decide +kernel, by decide +kernel⟩, List.mem_of_getElem? (i := 43) (by decide +kernel), List.mem_of_getElem? (i := 350) (by decide +kernel), List.mem_of_getElem? (i := 351) (by decide +kernel)⟩
theorem lw_p4 : lw_okq (⟨"NobodyChecks$Reader", "takesOfChance", "(I)Z"⟩, 7) := ⟨⟨by decide +kernel, by decide +kernel⟩, List.mem_of_getElem? (i := 43) (by decide +kernel), List.mem_of_getElem? (i := 354) (by decide +kernel), List.mem_of_getElem? (i := 355) (by decide +kernel)⟩
theorem lw_p5 : lw_okq (⟨"NobodyChecks$Reader", "endsWeight", "()Z"⟩, 7) := ⟨⟨by decide +kernel, by decide +kernel⟩, List.mem_of_getElem? (i := 43) (by decide +kernel), List.mem_of_getElem? (i := 358) (by decide +kernel), List.mem_of_getElem? (i := 359) (by decide +kernel)⟩
theorem lw_p6 : lw_okq (⟨"NobodyChecks$Reader", "beginChance", "()V"⟩, 7) := ⟨⟨by decide +kernel, by decide +kernel⟩, List.mem_of_getElem? (i := 43) (by decide +kernel), List.mem_of_getElem? (i := 362) (by decide +kernel), List.mem_of_getElem? (i := 363) (by decide +kernel)⟩
theorem lw_p7 : lw_okq (⟨"NobodyChecks$Reader", "endsChance", "()Z"⟩, 7) := ⟨⟨by decide +kernel, by decide +kernel⟩, List.mem_of_getElem? (i := 43) (by decide +kernel), List.mem_of_getElem? (i := 366) (by decide +kernel), List.mem_of_getElem? (i := 367) (by decide +kernel)⟩
theorem lw_p8 : lw_okq (⟨"NobodyChecks$Reader", "endsCase", "()Z"⟩, 7) := ⟨⟨by decide +kernel, by decide +kernel⟩, List.mem_of_getElem? (i := 43) (by decide +kernel), List.mem_of_getElem? (i := 370) (by decide +kernel), List.mem_of_getElem? (i := 371) (by decide +kernel)⟩
theorem lw_p9 : lw_okq (⟨"NobodyChecks$Reader", "mayEndCase", "()Z"⟩, 7) := ⟨⟨by decide +kernel, by decide +kernel⟩, List.mem_of_getElem? (i := 43) (by decide +kernel), List.mem_of_getElem? (i := 374) (by decide +kernel), List.mem_of_getElem? (i := 375) (by decide +kernel)⟩
theorem lw_p10 : lw_okq (⟨"NobodyChecks$Question", "likely", "(III)I"⟩, 7) := ⟨⟨by decide +kernel, by decide +kernel⟩, List.mem_of_getElem? (i := 77) (by decide +kernel), List.mem_of_getElem? (i := 399) (by decide +kernel), List.mem_of_getElem? (i := 400) (by decide +kernel)⟩
theorem lw_p11 : lw_okq (⟨"NobodyChecks", "forgetWorths", "()V"⟩, 9) := ⟨⟨by decide +kernel, by decide +kernel⟩, List.mem_of_getElem? (i := 17) (by decide +kernel), List.mem_of_getElem? (i := 403) (by decide +kernel), List.mem_of_getElem? (i := 404) (by decide +kernel)⟩
theorem lw_p12 : lw_okq (⟨"NobodyChecks", "payOf", "(I)LNobodyChecks$Pay;"⟩, 9) := ⟨⟨by decide +kernel, by decide +kernel⟩, List.mem_of_getElem? (i := 17) (by decide +kernel), List.mem_of_getElem? (i := 407) (by decide +kernel), List.mem_of_getElem? (i := 408) (by decide +kernel)⟩
theorem lw_p13 : lw_okq (⟨"NobodyChecks", "refusalOf", "(LNobodyChecks$Pay;III)I"⟩, 9) := ⟨⟨by decide +kernel, by decide +kernel⟩, List.mem_of_getElem? (i := 17) (by decide +kernel), List.mem_of_getElem? (i := 611) (by decide +kernel), List.mem_of_getElem? (i := 612) (by decide +kernel)⟩
theorem lw_p14 : lw_okq (⟨"NobodyChecks$Play", "isRested", "(II)Z"⟩, 10) := ⟨⟨by decide +kernel, by decide +kernel⟩, List.mem_of_getElem? (i := 124) (by decide +kernel), List.mem_of_getElem? (i := 623) (by decide +kernel), List.mem_of_getElem? (i := 624) (by decide +kernel)⟩
theorem lw_p15 : lw_okq (⟨"NobodyChecks$Play", "togetherAbove", "(I)J"⟩, 10) := ⟨⟨by decide +kernel, by decide +kernel⟩, List.mem_of_getElem? (i := 124) (by decide +kernel), List.mem_of_getElem? (i := 657) (by decide +kernel), List.mem_of_getElem? (i := 658) (by decide +kernel)⟩
def lw_privs_1 : List (MethodName × Nat) := [(⟨"NobodyChecks$Reader", "beginCase", "()V"⟩, 7), (⟨"NobodyChecks$Reader", "takes", "(I)Z"⟩, 7), (⟨"NobodyChecks$Reader", "takesOfWeight", "(I)Z"⟩, 7), (⟨"NobodyChecks$Reader", "takeDigit", "(I)V"⟩, 7), (⟨"NobodyChecks$Reader", "takesOfChance", "(I)Z"⟩, 7), (⟨"NobodyChecks$Reader", "endsWeight", "()Z"⟩, 7), (⟨"NobodyChecks$Reader", "beginChance", "()V"⟩, 7), (⟨"NobodyChecks$Reader", "endsChance", "()Z"⟩, 7), (⟨"NobodyChecks$Reader", "endsCase", "()Z"⟩, 7), (⟨"NobodyChecks$Reader", "mayEndCase", "()Z"⟩, 7), (⟨"NobodyChecks$Question", "likely", "(III)I"⟩, 7), (⟨"NobodyChecks", "forgetWorths", "()V"⟩, 9), (⟨"NobodyChecks", "payOf", "(I)LNobodyChecks$Pay;"⟩, 9), (⟨"NobodyChecks", "refusalOf", "(LNobodyChecks$Pay;III)I"⟩, 9), (⟨"NobodyChecks$Play", "isRested", "(II)Z"⟩, 10), (⟨"NobodyChecks$Play", "togetherAbove", "(I)J"⟩, 10)]
theorem lw_r1 : ∀ q ∈ lw_privs_1, lw_okq q := List.forall_mem_cons.mpr ⟨lw_p0, List.forall_mem_cons.mpr ⟨lw_p1, List.forall_mem_cons.mpr ⟨lw_p2, List.forall_mem_cons.mpr ⟨lw_p3, List.forall_mem_cons.mpr ⟨lw_p4, List.forall_mem_cons.mpr ⟨lw_p5, List.forall_mem_cons.mpr ⟨lw_p6, List.forall_mem_cons.mpr ⟨lw_p7, List.forall_mem_cons.mpr ⟨lw_p8, List.forall_mem_cons.mpr ⟨lw_p9, List.forall_mem_cons.mpr ⟨lw_p10, List.forall_mem_cons.mpr ⟨lw_p11, List.forall_mem_cons.mpr ⟨lw_p12, List.forall_mem_cons.mpr ⟨lw_p13, List.forall_mem_cons.mpr ⟨lw_p14, List.forall_mem_cons.mpr ⟨lw_p15, fun _ h => absurd h List.not_mem_nil⟩⟩⟩⟩⟩⟩⟩⟩⟩⟩⟩⟩⟩⟩⟩⟩
theorem lw_p16 : lw_okq (⟨"NobodyChecks$Play", "changedIn", "(II)I"⟩, 10) := ⟨⟨by decide +kernel, by decide +kernel⟩, List.mem_of_getElem? (i := 124) (by decide +kernel), List.mem_of_getElem? (i := 673) (by decide +kernel), List.mem_of_getElem? (i := 674) (by decide +kernel)⟩
theorem lw_p17 : lw_okq (⟨"NobodyChecks$Play", "allGain", "(III)Z"⟩, 10) := ⟨⟨by decide +kernel, by decide +kernel⟩, List.mem_of_getElem? (i := 124) (by decide +kernel), List.mem_of_getElem? (i := 677) (by decide +kernel), List.mem_of_getElem? (i := 678) (by decide +kernel)⟩
theorem lw_p18 : lw_okq (⟨"NobodyChecks$Play", "nextOf", "(I)I"⟩, 10) := ⟨⟨by decide +kernel, by decide +kernel⟩, List.mem_of_getElem? (i := 124) (by decide +kernel), List.mem_of_getElem? (i := 689) (by decide +kernel), List.mem_of_getElem? (i := 690) (by decide +kernel)⟩
theorem lw_p19 : lw_okq (⟨"NobodyChecks$Cheapest", "fillLeads", "(LNobodyChecks$Pay;[J[J)V"⟩, 12) := ⟨⟨by decide +kernel, by decide +kernel⟩, List.mem_of_getElem? (i := 167) (by decide +kernel), List.mem_of_getElem? (i := 714) (by decide +kernel), List.mem_of_getElem? (i := 715) (by decide +kernel)⟩
theorem lw_p20 : lw_okq (⟨"NobodyChecks$Cheapest", "fillNeeds", "(LNobodyChecks$Pay;)V"⟩, 12) := ⟨⟨by decide +kernel, by decide +kernel⟩, List.mem_of_getElem? (i := 167) (by decide +kernel), List.mem_of_getElem? (i := 719) (by decide +kernel), List.mem_of_getElem? (i := 720) (by decide +kernel)⟩
theorem lw_p21 : lw_okq (⟨"NobodyChecks$Cheapest", "triedRests", "(I)Z"⟩, 12) := ⟨⟨by decide +kernel, by decide +kernel⟩, List.mem_of_getElem? (i := 167) (by decide +kernel), List.mem_of_getElem? (i := 724) (by decide +kernel), List.mem_of_getElem? (i := 725) (by decide +kernel)⟩
theorem lw_p22 : lw_okq (⟨"NobodyChecks$Cheapest", "togetherByTruth", "(LNobodyChecks$Pay;)J"⟩, 12) := ⟨⟨by decide +kernel, by decide +kernel⟩, List.mem_of_getElem? (i := 167) (by decide +kernel), List.mem_of_getElem? (i := 740) (by decide +kernel), List.mem_of_getElem? (i := 741) (by decide +kernel)⟩
theorem lw_p23 : lw_okq (⟨"NobodyChecks$Cheapest", "keepIfCheaper", "()V"⟩, 12) := ⟨⟨by decide +kernel, by decide +kernel⟩, List.mem_of_getElem? (i := 167) (by decide +kernel), List.mem_of_getElem? (i := 744) (by decide +kernel), List.mem_of_getElem? (i := 745) (by decide +kernel)⟩
theorem lw_p24 : lw_okq (⟨"NobodyChecks$Cheapest", "countOn", "()V"⟩, 12) := ⟨⟨by decide +kernel, by decide +kernel⟩, List.mem_of_getElem? (i := 167) (by decide +kernel), List.mem_of_getElem? (i := 748) (by decide +kernel), List.mem_of_getElem? (i := 749) (by decide +kernel)⟩
theorem lw_p25 : lw_okq (⟨"NobodyChecks$Cheapest", "truthRests", "(LNobodyChecks$Pay;[J)I"⟩, 12) := ⟨⟨by decide +kernel, by decide +kernel⟩, List.mem_of_getElem? (i := 167) (by decide +kernel), List.mem_of_getElem? (i := 771) (by decide +kernel), List.mem_of_getElem? (i := 772) (by decide +kernel)⟩
theorem lw_p26 : lw_okq (⟨"NobodyChecks$Cheapest", "fillChangedMass", "(III)V"⟩, 12) := ⟨⟨by decide +kernel, by decide +kernel⟩, List.mem_of_getElem? (i := 167) (by decide +kernel), List.mem_of_getElem? (i := 776) (by decide +kernel), List.mem_of_getElem? (i := 777) (by decide +kernel)⟩
theorem lw_p27 : lw_okq (⟨"NobodyChecks$Rows", "bothAnswered", "(III)Z"⟩, 3) := ⟨⟨by decide +kernel, by decide +kernel⟩, List.mem_of_getElem? (i := 265) (by decide +kernel), List.mem_of_getElem? (i := 809) (by decide +kernel), List.mem_of_getElem? (i := 810) (by decide +kernel)⟩
theorem lw_p28 : lw_okq (⟨"NobodyChecks$Rows", "answerOf", "(II)I"⟩, 3) := ⟨⟨by decide +kernel, by decide +kernel⟩, List.mem_of_getElem? (i := 265) (by decide +kernel), List.mem_of_getElem? (i := 813) (by decide +kernel), List.mem_of_getElem? (i := 814) (by decide +kernel)⟩
theorem lw_p29 : lw_okq (⟨"NobodyChecks$Rows", "sameElsewhere", "(III)I"⟩, 3) := ⟨⟨by decide +kernel, by decide +kernel⟩, List.mem_of_getElem? (i := 265) (by decide +kernel), List.mem_of_getElem? (i := 826) (by decide +kernel), List.mem_of_getElem? (i := 827) (by decide +kernel)⟩
theorem lw_p30 : lw_okq (⟨"NobodyChecks$Rows", "guessOf", "(II)I"⟩, 3) := ⟨⟨by decide +kernel, by decide +kernel⟩, List.mem_of_getElem? (i := 265) (by decide +kernel), List.mem_of_getElem? (i := 846) (by decide +kernel), List.mem_of_getElem? (i := 847) (by decide +kernel)⟩
theorem lw_p31 : lw_okq (⟨"NobodyChecks", "withQuestion", "(J)J"⟩, 9) := ⟨⟨by decide +kernel, by decide +kernel⟩, List.mem_of_getElem? (i := 17) (by decide +kernel), List.mem_of_getElem? (i := 859) (by decide +kernel), List.mem_of_getElem? (i := 860) (by decide +kernel)⟩
def lw_privs_2 : List (MethodName × Nat) := [(⟨"NobodyChecks$Play", "changedIn", "(II)I"⟩, 10), (⟨"NobodyChecks$Play", "allGain", "(III)Z"⟩, 10), (⟨"NobodyChecks$Play", "nextOf", "(I)I"⟩, 10), (⟨"NobodyChecks$Cheapest", "fillLeads", "(LNobodyChecks$Pay;[J[J)V"⟩, 12), (⟨"NobodyChecks$Cheapest", "fillNeeds", "(LNobodyChecks$Pay;)V"⟩, 12), (⟨"NobodyChecks$Cheapest", "triedRests", "(I)Z"⟩, 12), (⟨"NobodyChecks$Cheapest", "togetherByTruth", "(LNobodyChecks$Pay;)J"⟩, 12), (⟨"NobodyChecks$Cheapest", "keepIfCheaper", "()V"⟩, 12), (⟨"NobodyChecks$Cheapest", "countOn", "()V"⟩, 12), (⟨"NobodyChecks$Cheapest", "truthRests", "(LNobodyChecks$Pay;[J)I"⟩, 12), (⟨"NobodyChecks$Cheapest", "fillChangedMass", "(III)V"⟩, 12), (⟨"NobodyChecks$Rows", "bothAnswered", "(III)Z"⟩, 3), (⟨"NobodyChecks$Rows", "answerOf", "(II)I"⟩, 3), (⟨"NobodyChecks$Rows", "sameElsewhere", "(III)I"⟩, 3), (⟨"NobodyChecks$Rows", "guessOf", "(II)I"⟩, 3), (⟨"NobodyChecks", "withQuestion", "(J)J"⟩, 9)]
theorem lw_r2 : ∀ q ∈ lw_privs_2, lw_okq q := List.forall_mem_cons.mpr ⟨lw_p16, List.forall_mem_cons.mpr ⟨lw_p17, List.forall_mem_cons.mpr ⟨lw_p18, List.forall_mem_cons.mpr ⟨lw_p19, List.forall_mem_cons.mpr ⟨lw_p20, List.forall_mem_cons.mpr ⟨lw_p21, List.forall_mem_cons.mpr ⟨lw_p22, List.forall_mem_cons.mpr ⟨lw_p23, List.forall_mem_cons.mpr ⟨lw_p24, List.forall_mem_cons.mpr ⟨lw_p25, List.forall_mem_cons.mpr ⟨lw_p26, List.forall_mem_cons.mpr ⟨lw_p27, List.forall_mem_cons.mpr ⟨lw_p28, List.forall_mem_cons.mpr ⟨lw_p29, List.forall_mem_cons.mpr ⟨lw_p30, List.forall_mem_cons.mpr ⟨lw_p31, fun _ h => absurd h List.not_mem_nil⟩⟩⟩⟩⟩⟩⟩⟩⟩⟩⟩⟩⟩⟩⟩⟩
theorem lw_p32 : lw_okq (⟨"NobodyChecks", "withPays", "(J)J"⟩, 9) := ⟨⟨by decide +kernel, by decide +kernel⟩, List.mem_of_getElem? (i := 17) (by decide +kernel), List.mem_of_getElem? (i := 867) (by decide +kernel), List.mem_of_getElem? (i := 868) (by decide +kernel)⟩
theorem lw_p33 : lw_okq (⟨"NobodyChecks", "withPay", "(JLNobodyChecks$Pay;)J"⟩, 9) := ⟨⟨by decide +kernel, by decide +kernel⟩, List.mem_of_getElem? (i := 17) (by decide +kernel), List.mem_of_getElem? (i := 871) (by decide +kernel), List.mem_of_getElem? (i := 872) (by decide +kernel)⟩
theorem lw_p34 : lw_okq (⟨"NobodyChecks", "withRows", "(J)J"⟩, 9) := ⟨⟨by decide +kernel, by decide +kernel⟩, List.mem_of_getElem? (i := 17) (by decide +kernel), List.mem_of_getElem? (i := 875) (by decide +kernel), List.mem_of_getElem? (i := 876) (by decide +kernel)⟩
theorem lw_p35 : lw_okq (⟨"NobodyChecksModel", "faultOf", "()I"⟩, 33) := ⟨⟨by decide +kernel, by decide +kernel⟩, List.mem_of_getElem? (i := 880) (by decide +kernel), List.mem_of_getElem? (i := 1000) (by decide +kernel), List.mem_of_getElem? (i := 1001) (by decide +kernel)⟩
theorem lw_p36 : lw_okq (⟨"NobodyChecksModel", "go", "(I)Z"⟩, 33) := ⟨⟨by decide +kernel, by decide +kernel⟩, List.mem_of_getElem? (i := 880) (by decide +kernel), List.mem_of_getElem? (i := 1004) (by decide +kernel), List.mem_of_getElem? (i := 1005) (by decide +kernel)⟩
theorem lw_p37 : lw_okq (⟨"NobodyChecksModel", "goChance", "(I)Z"⟩, 33) := ⟨⟨by decide +kernel, by decide +kernel⟩, List.mem_of_getElem? (i := 880) (by decide +kernel), List.mem_of_getElem? (i := 1013) (by decide +kernel), List.mem_of_getElem? (i := 1014) (by decide +kernel)⟩
theorem lw_p38 : lw_okq (⟨"NobodyChecksModel", "layLikely", "()V"⟩, 33) := ⟨⟨by decide +kernel, by decide +kernel⟩, List.mem_of_getElem? (i := 880) (by decide +kernel), List.mem_of_getElem? (i := 1021) (by decide +kernel), List.mem_of_getElem? (i := 1022) (by decide +kernel)⟩
theorem lw_p39 : lw_okq (⟨"NobodyChecksModel", "isPerson", "(I)Z"⟩, 33) := ⟨⟨by decide +kernel, by decide +kernel⟩, List.mem_of_getElem? (i := 880) (by decide +kernel), List.mem_of_getElem? (i := 1030) (by decide +kernel), List.mem_of_getElem? (i := 1031) (by decide +kernel)⟩
theorem lw_p40 : lw_okq (⟨"NobodyChecksModel", "isPay", "(I)Z"⟩, 33) := ⟨⟨by decide +kernel, by decide +kernel⟩, List.mem_of_getElem? (i := 880) (by decide +kernel), List.mem_of_getElem? (i := 1061) (by decide +kernel), List.mem_of_getElem? (i := 1062) (by decide +kernel)⟩
theorem lw_p41 : lw_okq (⟨"NobodyChecksModel", "takePay", "(I)V"⟩, 33) := ⟨⟨by decide +kernel, by decide +kernel⟩, List.mem_of_getElem? (i := 880) (by decide +kernel), List.mem_of_getElem? (i := 1074) (by decide +kernel), List.mem_of_getElem? (i := 1075) (by decide +kernel)⟩
theorem lw_p42 : lw_okq (⟨"NobodyChecksModel", "getsOf", "(II)I"⟩, 33) := ⟨⟨by decide +kernel, by decide +kernel⟩, List.mem_of_getElem? (i := 880) (by decide +kernel), List.mem_of_getElem? (i := 1078) (by decide +kernel), List.mem_of_getElem? (i := 1079) (by decide +kernel)⟩
theorem lw_p43 : lw_okq (⟨"NobodyChecksModel", "profiles", "()I"⟩, 33) := ⟨⟨by decide +kernel, by decide +kernel⟩, List.mem_of_getElem? (i := 880) (by decide +kernel), List.mem_of_getElem? (i := 1090) (by decide +kernel), List.mem_of_getElem? (i := 1091) (by decide +kernel)⟩
theorem lw_p44 : lw_okq (⟨"NobodyChecksModel", "worthOf", "(II)J"⟩, 33) := ⟨⟨by decide +kernel, by decide +kernel⟩, List.mem_of_getElem? (i := 880) (by decide +kernel), List.mem_of_getElem? (i := 1095) (by decide +kernel), List.mem_of_getElem? (i := 1096) (by decide +kernel)⟩
theorem lw_p45 : lw_okq (⟨"NobodyChecksModel", "refusal", "(IIZ)I"⟩, 33) := ⟨⟨by decide +kernel, by decide +kernel⟩, List.mem_of_getElem? (i := 880) (by decide +kernel), List.mem_of_getElem? (i := 1111) (by decide +kernel), List.mem_of_getElem? (i := 1112) (by decide +kernel)⟩
theorem lw_p46 : lw_okq (⟨"NobodyChecksModel", "layWorths", "(I)V"⟩, 33) := ⟨⟨by decide +kernel, by decide +kernel⟩, List.mem_of_getElem? (i := 880) (by decide +kernel), List.mem_of_getElem? (i := 1115) (by decide +kernel), List.mem_of_getElem? (i := 1116) (by decide +kernel)⟩
theorem lw_p47 : lw_okq (⟨"NobodyChecksModel", "firstOf", "(I)I"⟩, 33) := ⟨⟨by decide +kernel, by decide +kernel⟩, List.mem_of_getElem? (i := 880) (by decide +kernel), List.mem_of_getElem? (i := 1119) (by decide +kernel), List.mem_of_getElem? (i := 1120) (by decide +kernel)⟩
def lw_privs_3 : List (MethodName × Nat) := [(⟨"NobodyChecks", "withPays", "(J)J"⟩, 9), (⟨"NobodyChecks", "withPay", "(JLNobodyChecks$Pay;)J"⟩, 9), (⟨"NobodyChecks", "withRows", "(J)J"⟩, 9), (⟨"NobodyChecksModel", "faultOf", "()I"⟩, 33), (⟨"NobodyChecksModel", "go", "(I)Z"⟩, 33), (⟨"NobodyChecksModel", "goChance", "(I)Z"⟩, 33), (⟨"NobodyChecksModel", "layLikely", "()V"⟩, 33), (⟨"NobodyChecksModel", "isPerson", "(I)Z"⟩, 33), (⟨"NobodyChecksModel", "isPay", "(I)Z"⟩, 33), (⟨"NobodyChecksModel", "takePay", "(I)V"⟩, 33), (⟨"NobodyChecksModel", "getsOf", "(II)I"⟩, 33), (⟨"NobodyChecksModel", "profiles", "()I"⟩, 33), (⟨"NobodyChecksModel", "worthOf", "(II)J"⟩, 33), (⟨"NobodyChecksModel", "refusal", "(IIZ)I"⟩, 33), (⟨"NobodyChecksModel", "layWorths", "(I)V"⟩, 33), (⟨"NobodyChecksModel", "firstOf", "(I)I"⟩, 33)]
theorem lw_r3 : ∀ q ∈ lw_privs_3, lw_okq q := List.forall_mem_cons.mpr ⟨lw_p32, List.forall_mem_cons.mpr ⟨lw_p33, List.forall_mem_cons.mpr ⟨lw_p34, List.forall_mem_cons.mpr ⟨lw_p35, List.forall_mem_cons.mpr ⟨lw_p36, List.forall_mem_cons.mpr ⟨lw_p37, List.forall_mem_cons.mpr ⟨lw_p38, List.forall_mem_cons.mpr ⟨lw_p39, List.forall_mem_cons.mpr ⟨lw_p40, List.forall_mem_cons.mpr ⟨lw_p41, List.forall_mem_cons.mpr ⟨lw_p42, List.forall_mem_cons.mpr ⟨lw_p43, List.forall_mem_cons.mpr ⟨lw_p44, List.forall_mem_cons.mpr ⟨lw_p45, List.forall_mem_cons.mpr ⟨lw_p46, List.forall_mem_cons.mpr ⟨lw_p47, fun _ h => absurd h List.not_mem_nil⟩⟩⟩⟩⟩⟩⟩⟩⟩⟩⟩⟩⟩⟩⟩⟩
theorem lw_p48 : lw_okq (⟨"NobodyChecksModel", "gainOf", "(II)J"⟩, 33) := ⟨⟨by decide +kernel, by decide +kernel⟩, List.mem_of_getElem? (i := 880) (by decide +kernel), List.mem_of_getElem? (i := 1123) (by decide +kernel), List.mem_of_getElem? (i := 1124) (by decide +kernel)⟩
theorem lw_p49 : lw_okq (⟨"NobodyChecksModel", "bestWay", "(II)I"⟩, 33) := ⟨⟨by decide +kernel, by decide +kernel⟩, List.mem_of_getElem? (i := 880) (by decide +kernel), List.mem_of_getElem? (i := 1127) (by decide +kernel), List.mem_of_getElem? (i := 1128) (by decide +kernel)⟩
theorem lw_p50 : lw_okq (⟨"NobodyChecksModel", "allOf", "(II)I"⟩, 33) := ⟨⟨by decide +kernel, by decide +kernel⟩, List.mem_of_getElem? (i := 880) (by decide +kernel), List.mem_of_getElem? (i := 1144) (by decide +kernel), List.mem_of_getElem? (i := 1145) (by decide +kernel)⟩
theorem lw_p51 : lw_okq (⟨"NobodyChecksModel", "together", "(I)J"⟩, 33) := ⟨⟨by decide +kernel, by decide +kernel⟩, List.mem_of_getElem? (i := 880) (by decide +kernel), List.mem_of_getElem? (i := 1148) (by decide +kernel), List.mem_of_getElem? (i := 1149) (by decide +kernel)⟩
theorem lw_p52 : lw_okq (⟨"NobodyChecksModel", "gains", "(III)Z"⟩, 33) := ⟨⟨by decide +kernel, by decide +kernel⟩, List.mem_of_getElem? (i := 880) (by decide +kernel), List.mem_of_getElem? (i := 1156) (by decide +kernel), List.mem_of_getElem? (i := 1157) (by decide +kernel)⟩
theorem lw_p53 : lw_okq (⟨"NobodyChecksModel", "goOn", "(I)V"⟩, 33) := ⟨⟨by decide +kernel, by decide +kernel⟩, List.mem_of_getElem? (i := 880) (by decide +kernel), List.mem_of_getElem? (i := 1164) (by decide +kernel), List.mem_of_getElem? (i := 1165) (by decide +kernel)⟩
theorem lw_p54 : lw_okq (⟨"NobodyChecksModel", "truthRests", "()Z"⟩, 33) := ⟨⟨by decide +kernel, by decide +kernel⟩, List.mem_of_getElem? (i := 880) (by decide +kernel), List.mem_of_getElem? (i := 1176) (by decide +kernel), List.mem_of_getElem? (i := 1177) (by decide +kernel)⟩
theorem lw_p55 : lw_okq (⟨"NobodyChecksModel", "layOften", "()V"⟩, 33) := ⟨⟨by decide +kernel, by decide +kernel⟩, List.mem_of_getElem? (i := 880) (by decide +kernel), List.mem_of_getElem? (i := 1184) (by decide +kernel), List.mem_of_getElem? (i := 1185) (by decide +kernel)⟩
theorem lw_p56 : lw_okq (⟨"NobodyChecksModel", "tableRests", "(I)Z"⟩, 33) := ⟨⟨by decide +kernel, by decide +kernel⟩, List.mem_of_getElem? (i := 880) (by decide +kernel), List.mem_of_getElem? (i := 1188) (by decide +kernel), List.mem_of_getElem? (i := 1189) (by decide +kernel)⟩
theorem lw_p57 : lw_okq (⟨"NobodyChecksModel", "tableWorth", "(III)J"⟩, 33) := ⟨⟨by decide +kernel, by decide +kernel⟩, List.mem_of_getElem? (i := 880) (by decide +kernel), List.mem_of_getElem? (i := 1192) (by decide +kernel), List.mem_of_getElem? (i := 1193) (by decide +kernel)⟩
theorem lw_p58 : lw_okq (⟨"NobodyChecksModel", "bothAnswered", "(III)Z"⟩, 33) := ⟨⟨by decide +kernel, by decide +kernel⟩, List.mem_of_getElem? (i := 880) (by decide +kernel), List.mem_of_getElem? (i := 1216) (by decide +kernel), List.mem_of_getElem? (i := 1217) (by decide +kernel)⟩
theorem lw_p59 : lw_okq (⟨"NobodyChecksModel", "answerOf", "(II)I"⟩, 33) := ⟨⟨by decide +kernel, by decide +kernel⟩, List.mem_of_getElem? (i := 880) (by decide +kernel), List.mem_of_getElem? (i := 1220) (by decide +kernel), List.mem_of_getElem? (i := 1221) (by decide +kernel)⟩
theorem lw_p60 : lw_okq (⟨"NobodyChecksModel", "crowdOf", "(II)I"⟩, 33) := ⟨⟨by decide +kernel, by decide +kernel⟩, List.mem_of_getElem? (i := 880) (by decide +kernel), List.mem_of_getElem? (i := 1229) (by decide +kernel), List.mem_of_getElem? (i := 1230) (by decide +kernel)⟩
theorem lw_p61 : lw_okq (⟨"NobodyChecksModel", "countOf", "(I)I"⟩, 33) := ⟨⟨by decide +kernel, by decide +kernel⟩, List.mem_of_getElem? (i := 880) (by decide +kernel), List.mem_of_getElem? (i := 1237) (by decide +kernel), List.mem_of_getElem? (i := 1238) (by decide +kernel)⟩
theorem lw_p62 : lw_okq (⟨"NobodyChecksModel", "tell", "(J)V"⟩, 33) := ⟨⟨by decide +kernel, by decide +kernel⟩, List.mem_of_getElem? (i := 880) (by decide +kernel), List.mem_of_getElem? (i := 1246) (by decide +kernel), List.mem_of_getElem? (i := 1247) (by decide +kernel)⟩
theorem lw_p63 : lw_okq (⟨"NobodyChecksModel", "tellPay", "(I)V"⟩, 33) := ⟨⟨by decide +kernel, by decide +kernel⟩, List.mem_of_getElem? (i := 880) (by decide +kernel), List.mem_of_getElem? (i := 1251) (by decide +kernel), List.mem_of_getElem? (i := 1252) (by decide +kernel)⟩
def lw_privs_4 : List (MethodName × Nat) := [(⟨"NobodyChecksModel", "gainOf", "(II)J"⟩, 33), (⟨"NobodyChecksModel", "bestWay", "(II)I"⟩, 33), (⟨"NobodyChecksModel", "allOf", "(II)I"⟩, 33), (⟨"NobodyChecksModel", "together", "(I)J"⟩, 33), (⟨"NobodyChecksModel", "gains", "(III)Z"⟩, 33), (⟨"NobodyChecksModel", "goOn", "(I)V"⟩, 33), (⟨"NobodyChecksModel", "truthRests", "()Z"⟩, 33), (⟨"NobodyChecksModel", "layOften", "()V"⟩, 33), (⟨"NobodyChecksModel", "tableRests", "(I)Z"⟩, 33), (⟨"NobodyChecksModel", "tableWorth", "(III)J"⟩, 33), (⟨"NobodyChecksModel", "bothAnswered", "(III)Z"⟩, 33), (⟨"NobodyChecksModel", "answerOf", "(II)I"⟩, 33), (⟨"NobodyChecksModel", "crowdOf", "(II)I"⟩, 33), (⟨"NobodyChecksModel", "countOf", "(I)I"⟩, 33), (⟨"NobodyChecksModel", "tell", "(J)V"⟩, 33), (⟨"NobodyChecksModel", "tellPay", "(I)V"⟩, 33)]
theorem lw_r4 : ∀ q ∈ lw_privs_4, lw_okq q := List.forall_mem_cons.mpr ⟨lw_p48, List.forall_mem_cons.mpr ⟨lw_p49, List.forall_mem_cons.mpr ⟨lw_p50, List.forall_mem_cons.mpr ⟨lw_p51, List.forall_mem_cons.mpr ⟨lw_p52, List.forall_mem_cons.mpr ⟨lw_p53, List.forall_mem_cons.mpr ⟨lw_p54, List.forall_mem_cons.mpr ⟨lw_p55, List.forall_mem_cons.mpr ⟨lw_p56, List.forall_mem_cons.mpr ⟨lw_p57, List.forall_mem_cons.mpr ⟨lw_p58, List.forall_mem_cons.mpr ⟨lw_p59, List.forall_mem_cons.mpr ⟨lw_p60, List.forall_mem_cons.mpr ⟨lw_p61, List.forall_mem_cons.mpr ⟨lw_p62, List.forall_mem_cons.mpr ⟨lw_p63, fun _ h => absurd h List.not_mem_nil⟩⟩⟩⟩⟩⟩⟩⟩⟩⟩⟩⟩⟩⟩⟩⟩
def lw_privs : List (MethodName × Nat) := lw_privs_1 ++ (lw_privs_2 ++ (lw_privs_3 ++ (lw_privs_4)))
def lw_tbl : List Cond := k2_sels lw_privs ++ tables_1
theorem lw_privs_ok : ∀ q ∈ lw_privs, lw_okq q := by
  show ∀ q ∈ lw_privs_1 ++ (lw_privs_2 ++ (lw_privs_3 ++ (lw_privs_4))), lw_okq q
  exact List.forall_mem_append.mpr ⟨lw_r1, List.forall_mem_append.mpr ⟨lw_r2, List.forall_mem_append.mpr ⟨lw_r3, lw_r4⟩⟩⟩
end
section
/-! ===== BEGIN printed: names, fields, word lists, decode rows ===== -/
def RX0 : String := "NobodyChecks$Cheapest"
def TX0 : u_T := fun k => match k with
  | 0 => ("NobodyChecks$Cheapest", "asked", "LNobodyChecks$Question;", true)
  | 1 => ("NobodyChecks$Cheapest", "same", "LNobodyChecks$Same;", true)
  | 2 => ("NobodyChecks$Cheapest", "table", "LNobodyChecks$Table;", true)
  | 3 => ("NobodyChecks$Cheapest", "check", "LNobodyChecks$Check;", true)
  | 4 => ("NobodyChecks$Cheapest", "changedMass", "[J", true)
  | 5 => ("NobodyChecks$Cheapest", "leads", "[[J", true)
  | 6 => ("NobodyChecks$Cheapest", "needs", "[J", true)
  | 7 => ("NobodyChecks$Cheapest", "prices", "[J", true)
  | 8 => ("NobodyChecks$Cheapest", "tried", "[I", true)
  | 9 => ("NobodyChecks$Cheapest", "leastNumbers", "[I", true)
  | 10 => ("NobodyChecks$Cheapest", "tablesResting", "I", false)
  | _ => ("NobodyChecks$Cheapest", "leastPrice", "J", false)
def tyX0 : Nat → FieldType := fun k => match k with
  | 0 => .object "NobodyChecks$Question"
  | 1 => .object "NobodyChecks$Same"
  | 2 => .object "NobodyChecks$Table"
  | 3 => .object "NobodyChecks$Check"
  | 4 => .array .long
  | 5 => .array (.array .long)
  | 6 => .array .long
  | 7 => .array .long
  | 8 => .array .int
  | 9 => .array .int
  | 10 => .int
  | _ => .long
theorem nmX0 : ∀ a, a < 12 → ∀ b, b < 12 → a ≠ b → (TX0 a).2.1 ≠ (TX0 b).2.1 := by decide +kernel
theorem tyX0_ok : ∀ k, k < 12 → parseFieldDescriptor (TX0 k).2.2.1 = some (tyX0 k) := by decide +kernel
abbrev cX0_init : ByteArray := prog_2_method_1_code
def yX0_init : MethodName := ⟨RX0, "<init>", "(LNobodyChecks$Question;)V"⟩
abbrev cX0_seekSame : ByteArray := prog_2_method_2_code
def yX0_seekSame : MethodName := ⟨RX0, "seekSame", "()I"⟩
abbrev cX0_seekLook : ByteArray := prog_2_method_3_code
def yX0_seekLook : MethodName := ⟨RX0, "seekLook", "(LNobodyChecks$Pay;)I"⟩
abbrev cX0_seekTable : ByteArray := prog_2_method_4_code
def yX0_seekTable : MethodName := ⟨RX0, "seekTable", "()V"⟩
abbrev cX0_countMayBe : ByteArray := prog_2_method_5_code
def yX0_countMayBe : MethodName := ⟨RX0, "countMayBe", "(LNobodyChecks$Pay;I)I"⟩
abbrev cX0_fillChangedMass : ByteArray := prog_2_method_6_code
def yX0_fillChangedMass : MethodName := ⟨RX0, "fillChangedMass", "(III)V"⟩
abbrev cX0_truthRests : ByteArray := prog_2_method_7_code
def yX0_truthRests : MethodName := ⟨RX0, "truthRests", "(LNobodyChecks$Pay;[J)I"⟩
abbrev cX0_fillLeads : ByteArray := prog_2_method_8_code
def yX0_fillLeads : MethodName := ⟨RX0, "fillLeads", "(LNobodyChecks$Pay;[J[J)V"⟩
abbrev cX0_fillNeeds : ByteArray := prog_2_method_9_code
def yX0_fillNeeds : MethodName := ⟨RX0, "fillNeeds", "(LNobodyChecks$Pay;)V"⟩
abbrev cX0_triedRests : ByteArray := prog_2_method_10_code
def yX0_triedRests : MethodName := ⟨RX0, "triedRests", "(I)Z"⟩
abbrev cX0_togetherByTruth : ByteArray := prog_2_method_11_code
def yX0_togetherByTruth : MethodName := ⟨RX0, "togetherByTruth", "(LNobodyChecks$Pay;)J"⟩
abbrev cX0_keepIfCheaper : ByteArray := prog_2_method_12_code
def yX0_keepIfCheaper : MethodName := ⟨RX0, "keepIfCheaper", "()V"⟩
abbrev cX0_countOn : ByteArray := prog_2_method_13_code
def yX0_countOn : MethodName := ⟨RX0, "countOn", "()V"⟩
def RX1 : String := "NobodyChecks$Check"
def TX1 : u_T := fun k => match k with
  | 0 => ("NobodyChecks$Pay", "numbers", "[I", true)
  | 1 => ("NobodyChecks$Pay", "averages", "[J", false)
  | _ => ("NobodyChecks$Pay", "reckoned", "Z", false)
def tyX1 : Nat → FieldType := fun k => match k with
  | 0 => .array .int
  | 1 => .array .long
  | _ => .boolean
theorem nmX1 : ∀ a, a < 3 → ∀ b, b < 3 → a ≠ b → (TX1 a).2.1 ≠ (TX1 b).2.1 := by decide +kernel
theorem tyX1_ok : ∀ k, k < 3 → parseFieldDescriptor (TX1 k).2.2.1 = some (tyX1 k) := by decide +kernel
abbrev cX1_init : ByteArray := prog_3_method_1_code
def yX1_init : MethodName := ⟨RX1, "<init>", "()V"⟩
abbrev cX1_kind : ByteArray := prog_3_method_2_code
def yX1_kind : MethodName := ⟨RX1, "kind", "()I"⟩
abbrev cX1_unit : ByteArray := prog_3_method_3_code
def yX1_unit : MethodName := ⟨RX1, "unit", "()I"⟩
abbrev cX1_added : ByteArray := prog_3_method_4_code
def yX1_added : MethodName := ⟨RX1, "added", "(IZ)I"⟩
def RX2 : String := "NobodyChecks$Page"
def TX2 : u_T := fun k => match k with
  | 0 => ("NobodyChecks$Page", "codes", "[I", true)
  | _ => ("NobodyChecks$Page", "size", "I", false)
def tyX2 : Nat → FieldType := fun k => match k with
  | 0 => .array .int
  | _ => .int
theorem nmX2 : ∀ a, a < 2 → ∀ b, b < 2 → a ≠ b → (TX2 a).2.1 ≠ (TX2 b).2.1 := by decide +kernel
theorem tyX2_ok : ∀ k, k < 2 → parseFieldDescriptor (TX2 k).2.2.1 = some (tyX2 k) := by decide +kernel
abbrev cX2_init : ByteArray := prog_4_method_1_code
def yX2_init : MethodName := ⟨RX2, "<init>", "()V"⟩
abbrev cX2_toldBy : ByteArray := prog_4_method_2_code
def yX2_toldBy : MethodName := ⟨RX2, "toldBy", "(J)I"⟩
abbrev cX2_append : ByteArray := prog_4_method_3_code
def yX2_append : MethodName := ⟨RX2, "append", "(JI)V"⟩
abbrev cX2_codeAt : ByteArray := prog_4_method_4_code
def yX2_codeAt : MethodName := ⟨RX2, "codeAt", "(JI)I"⟩
def RX3 : String := "NobodyChecks$Pay"
def TX3 : u_T := fun k => match k with
  | 0 => ("NobodyChecks$Pay", "numbers", "[I", true)
  | 1 => ("NobodyChecks$Pay", "averages", "[J", false)
  | _ => ("NobodyChecks$Pay", "reckoned", "Z", false)
def tyX3 : Nat → FieldType := fun k => match k with
  | 0 => .array .int
  | 1 => .array .long
  | _ => .boolean
theorem nmX3 : ∀ a, a < 3 → ∀ b, b < 3 → a ≠ b → (TX3 a).2.1 ≠ (TX3 b).2.1 := by decide +kernel
theorem tyX3_ok : ∀ k, k < 3 → parseFieldDescriptor (TX3 k).2.2.1 = some (tyX3 k) := by decide +kernel
abbrev cX3_init : ByteArray := prog_5_method_1_code
def yX3_init : MethodName := ⟨RX3, "<init>", "()V"⟩
abbrev cX3_become : ByteArray := prog_5_method_2_code
def yX3_become : MethodName := ⟨RX3, "become", "(IIII)V"⟩
abbrev cX3_kind : ByteArray := prog_5_method_3_code
def yX3_kind : MethodName := ⟨RX3, "kind", "()I"⟩
abbrev cX3_amount : ByteArray := prog_5_method_4_code
def yX3_amount : MethodName := ⟨RX3, "amount", "(III)I"⟩
abbrev cX3_unit : ByteArray := prog_5_method_5_code
def yX3_unit : MethodName := ⟨RX3, "unit", "()I"⟩
abbrev cX3_added : ByteArray := prog_5_method_6_code
def yX3_added : MethodName := ⟨RX3, "added", "(IZ)I"⟩
def RX4 : String := "NobodyChecks$Play"
def TX4 : u_T := fun k => match k with
  | 0 => ("NobodyChecks$Play", "asked", "LNobodyChecks$Question;", true)
  | 1 => ("NobodyChecks$Play", "next", "[I", true)
  | 2 => ("NobodyChecks$Play", "seen", "[I", true)
  | 3 => ("NobodyChecks$Play", "averages", "[J", false)
  | 4 => ("NobodyChecks$Play", "below", "J", false)
  | 5 => ("NobodyChecks$Play", "groupSet", "I", false)
  | 6 => ("NobodyChecks$Play", "groupProfile", "I", false)
  | 7 => ("NobodyChecks$Play", "last", "I", false)
  | 8 => ("NobodyChecks$Play", "steps", "I", false)
  | _ => ("NobodyChecks$Play", "round", "I", false)
def tyX4 : Nat → FieldType := fun k => match k with
  | 0 => .object "NobodyChecks$Question"
  | 1 => .array .int
  | 2 => .array .int
  | 3 => .array .long
  | 4 => .long
  | 5 => .int
  | 6 => .int
  | 7 => .int
  | 8 => .int
  | _ => .int
theorem nmX4 : ∀ a, a < 10 → ∀ b, b < 10 → a ≠ b → (TX4 a).2.1 ≠ (TX4 b).2.1 := by decide +kernel
theorem tyX4_ok : ∀ k, k < 10 → parseFieldDescriptor (TX4 k).2.2.1 = some (tyX4 k) := by decide +kernel
abbrev cX4_init : ByteArray := prog_6_method_1_code
def yX4_init : MethodName := ⟨RX4, "<init>", "(LNobodyChecks$Question;)V"⟩
abbrev cX4_load : ByteArray := prog_6_method_2_code
def yX4_load : MethodName := ⟨RX4, "load", "(LNobodyChecks$Pay;)V"⟩
abbrev cX4_average : ByteArray := prog_6_method_3_code
def yX4_average : MethodName := ⟨RX4, "average", "(LNobodyChecks$Pay;LNobodyChecks$Question;[JII)J"⟩
abbrev cX4_above : ByteArray := prog_6_method_4_code
def yX4_above : MethodName := ⟨RX4, "above", "(II)J"⟩
abbrev cX4_bestWay : ByteArray := prog_6_method_5_code
def yX4_bestWay : MethodName := ⟨RX4, "bestWay", "(II)I"⟩
abbrev cX4_gainAbove : ByteArray := prog_6_method_6_code
def yX4_gainAbove : MethodName := ⟨RX4, "gainAbove", "(II)J"⟩
abbrev cX4_firstUnrested : ByteArray := prog_6_method_7_code
def yX4_firstUnrested : MethodName := ⟨RX4, "firstUnrested", "(I)I"⟩
abbrev cX4_isRested : ByteArray := prog_6_method_8_code
def yX4_isRested : MethodName := ⟨RX4, "isRested", "(II)Z"⟩
abbrev cX4_countRests : ByteArray := prog_6_method_9_code
def yX4_countRests : MethodName := ⟨RX4, "countRests", "()I"⟩
abbrev cX4_countRicher : ByteArray := prog_6_method_10_code
def yX4_countRicher : MethodName := ⟨RX4, "countRicher", "()I"⟩
abbrev cX4_restAt : ByteArray := prog_6_method_11_code
def yX4_restAt : MethodName := ⟨RX4, "restAt", "(I)I"⟩
abbrev cX4_seekGroup : ByteArray := prog_6_method_12_code
def yX4_seekGroup : MethodName := ⟨RX4, "seekGroup", "(I)V"⟩
abbrev cX4_travel : ByteArray := prog_6_method_13_code
def yX4_travel : MethodName := ⟨RX4, "travel", "(I)V"⟩
abbrev cX4_countDrawn : ByteArray := prog_6_method_14_code
def yX4_countDrawn : MethodName := ⟨RX4, "countDrawn", "()I"⟩
abbrev cX4_nextOf : ByteArray := prog_6_method_15_code
def yX4_nextOf : MethodName := ⟨RX4, "nextOf", "(I)I"⟩
abbrev cX4_togetherAbove : ByteArray := prog_6_method_16_code
def yX4_togetherAbove : MethodName := ⟨RX4, "togetherAbove", "(I)J"⟩
abbrev cX4_changedIn : ByteArray := prog_6_method_17_code
def yX4_changedIn : MethodName := ⟨RX4, "changedIn", "(II)I"⟩
abbrev cX4_allGain : ByteArray := prog_6_method_18_code
def yX4_allGain : MethodName := ⟨RX4, "allGain", "(III)Z"⟩
abbrev cX4_withWay : ByteArray := prog_6_method_19_code
def yX4_withWay : MethodName := ⟨RX4, "withWay", "(III)I"⟩
abbrev cX4_placeOf : ByteArray := prog_6_method_20_code
def yX4_placeOf : MethodName := ⟨RX4, "placeOf", "(II)I"⟩
def RX5 : String := "NobodyChecks$Question"
def TX5 : u_T := fun k => match k with
  | 0 => ("NobodyChecks$Question", "weights", "[I", true)
  | 1 => ("NobodyChecks$Question", "chances", "[[I", true)
  | 2 => ("NobodyChecks$Question", "costs", "[I", true)
  | 3 => ("NobodyChecks$Question", "mass", "[J", true)
  | 4 => ("NobodyChecks$Question", "cases", "I", false)
  | 5 => ("NobodyChecks$Question", "persons", "I", false)
  | _ => ("NobodyChecks$Question", "total", "J", false)
def tyX5 : Nat → FieldType := fun k => match k with
  | 0 => .array .int
  | 1 => .array (.array .int)
  | 2 => .array .int
  | 3 => .array .long
  | 4 => .int
  | 5 => .int
  | _ => .long
theorem nmX5 : ∀ a, a < 7 → ∀ b, b < 7 → a ≠ b → (TX5 a).2.1 ≠ (TX5 b).2.1 := by decide +kernel
theorem tyX5_ok : ∀ k, k < 7 → parseFieldDescriptor (TX5 k).2.2.1 = some (tyX5 k) := by decide +kernel
abbrev cX5_init : ByteArray := prog_7_method_1_code
def yX5_init : MethodName := ⟨RX5, "<init>", "()V"⟩
abbrev cX5_adopt : ByteArray := prog_7_method_2_code
def yX5_adopt : MethodName := ⟨RX5, "adopt", "(LNobodyChecks$Reader;)V"⟩
abbrev cX5_stands : ByteArray := prog_7_method_3_code
def yX5_stands : MethodName := ⟨RX5, "stands", "()Z"⟩
abbrev cX5_hasCase : ByteArray := prog_7_method_4_code
def yX5_hasCase : MethodName := ⟨RX5, "hasCase", "(I)Z"⟩
abbrev cX5_hasPerson : ByteArray := prog_7_method_5_code
def yX5_hasPerson : MethodName := ⟨RX5, "hasPerson", "(I)Z"⟩
abbrev cX5_hasProfile : ByteArray := prog_7_method_6_code
def yX5_hasProfile : MethodName := ⟨RX5, "hasProfile", "(I)Z"⟩
abbrev cX5_signLimit : ByteArray := prog_7_method_7_code
def yX5_signLimit : MethodName := ⟨RX5, "signLimit", "()I"⟩
abbrev cX5_profileLimit : ByteArray := prog_7_method_8_code
def yX5_profileLimit : MethodName := ⟨RX5, "profileLimit", "()I"⟩
abbrev cX5_fillMass : ByteArray := prog_7_method_9_code
def yX5_fillMass : MethodName := ⟨RX5, "fillMass", "([J)V"⟩
abbrev cX5_seenBelow : ByteArray := prog_7_method_10_code
def yX5_seenBelow : MethodName := ⟨RX5, "seenBelow", "(II)J"⟩
abbrev cX5_seenAbove : ByteArray := prog_7_method_11_code
def yX5_seenAbove : MethodName := ⟨RX5, "seenAbove", "(III)J"⟩
abbrev cX5_likely : ByteArray := prog_7_method_12_code
def yX5_likely : MethodName := ⟨RX5, "likely", "(III)I"⟩
def RX6 : String := "NobodyChecks$Rare"
def TX6 : u_T := fun k => match k with
  | 0 => ("NobodyChecks$Pay", "numbers", "[I", true)
  | 1 => ("NobodyChecks$Pay", "averages", "[J", false)
  | _ => ("NobodyChecks$Pay", "reckoned", "Z", false)
def tyX6 : Nat → FieldType := fun k => match k with
  | 0 => .array .int
  | 1 => .array .long
  | _ => .boolean
theorem nmX6 : ∀ a, a < 3 → ∀ b, b < 3 → a ≠ b → (TX6 a).2.1 ≠ (TX6 b).2.1 := by decide +kernel
theorem tyX6_ok : ∀ k, k < 3 → parseFieldDescriptor (TX6 k).2.2.1 = some (tyX6 k) := by decide +kernel
abbrev cX6_init : ByteArray := prog_8_method_1_code
def yX6_init : MethodName := ⟨RX6, "<init>", "()V"⟩
abbrev cX6_kind : ByteArray := prog_8_method_2_code
def yX6_kind : MethodName := ⟨RX6, "kind", "()I"⟩
abbrev cX6_amount : ByteArray := prog_8_method_3_code
def yX6_amount : MethodName := ⟨RX6, "amount", "(III)I"⟩
def RX7 : String := "NobodyChecks$Reader"
def TX7 : u_T := fun k => match k with
  | 0 => ("NobodyChecks$Reader", "weights", "[I", true)
  | 1 => ("NobodyChecks$Reader", "chances", "[[I", true)
  | 2 => ("NobodyChecks$Reader", "cases", "I", false)
  | 3 => ("NobodyChecks$Reader", "persons", "I", false)
  | 4 => ("NobodyChecks$Reader", "agreed", "I", false)
  | 5 => ("NobodyChecks$Reader", "digits", "I", false)
  | _ => ("NobodyChecks$Reader", "value", "I", false)
def tyX7 : Nat → FieldType := fun k => match k with
  | 0 => .array .int
  | 1 => .array (.array .int)
  | 2 => .int
  | 3 => .int
  | 4 => .int
  | 5 => .int
  | _ => .int
theorem nmX7 : ∀ a, a < 7 → ∀ b, b < 7 → a ≠ b → (TX7 a).2.1 ≠ (TX7 b).2.1 := by decide +kernel
theorem tyX7_ok : ∀ k, k < 7 → parseFieldDescriptor (TX7 k).2.2.1 = some (tyX7 k) := by decide +kernel
abbrev cX7_init : ByteArray := prog_9_method_1_code
def yX7_init : MethodName := ⟨RX7, "<init>", "()V"⟩
abbrev cX7_readUntilFault : ByteArray := prog_9_method_2_code
def yX7_readUntilFault : MethodName := ⟨RX7, "readUntilFault", "(LNobodyChecks$Page;)I"⟩
abbrev cX7_isWhole : ByteArray := prog_9_method_3_code
def yX7_isWhole : MethodName := ⟨RX7, "isWhole", "()Z"⟩
abbrev cX7_takes : ByteArray := prog_9_method_4_code
def yX7_takes : MethodName := ⟨RX7, "takes", "(I)Z"⟩
abbrev cX7_takesOfWeight : ByteArray := prog_9_method_5_code
def yX7_takesOfWeight : MethodName := ⟨RX7, "takesOfWeight", "(I)Z"⟩
abbrev cX7_takesOfChance : ByteArray := prog_9_method_6_code
def yX7_takesOfChance : MethodName := ⟨RX7, "takesOfChance", "(I)Z"⟩
abbrev cX7_takeDigit : ByteArray := prog_9_method_7_code
def yX7_takeDigit : MethodName := ⟨RX7, "takeDigit", "(I)V"⟩
abbrev cX7_endsWeight : ByteArray := prog_9_method_8_code
def yX7_endsWeight : MethodName := ⟨RX7, "endsWeight", "()Z"⟩
abbrev cX7_endsChance : ByteArray := prog_9_method_9_code
def yX7_endsChance : MethodName := ⟨RX7, "endsChance", "()Z"⟩
abbrev cX7_endsCase : ByteArray := prog_9_method_10_code
def yX7_endsCase : MethodName := ⟨RX7, "endsCase", "()Z"⟩
abbrev cX7_mayEndCase : ByteArray := prog_9_method_11_code
def yX7_mayEndCase : MethodName := ⟨RX7, "mayEndCase", "()Z"⟩
abbrev cX7_beginCase : ByteArray := prog_9_method_12_code
def yX7_beginCase : MethodName := ⟨RX7, "beginCase", "()V"⟩
abbrev cX7_beginChance : ByteArray := prog_9_method_13_code
def yX7_beginChance : MethodName := ⟨RX7, "beginChance", "()V"⟩
def RX8 : String := "NobodyChecks$Rows"
def TX8 : u_T := fun k => match k with
  | 0 => ("NobodyChecks$Rows", "answers", "[I", true)
  | 1 => ("NobodyChecks$Rows", "guesses", "[J", true)
  | _ => ("NobodyChecks$Rows", "size", "I", false)
def tyX8 : Nat → FieldType := fun k => match k with
  | 0 => .array .int
  | 1 => .array .long
  | _ => .int
theorem nmX8 : ∀ a, a < 3 → ∀ b, b < 3 → a ≠ b → (TX8 a).2.1 ≠ (TX8 b).2.1 := by decide +kernel
theorem tyX8_ok : ∀ k, k < 3 → parseFieldDescriptor (TX8 k).2.2.1 = some (tyX8 k) := by decide +kernel
abbrev cX8_init : ByteArray := prog_10_method_1_code
def yX8_init : MethodName := ⟨RX8, "<init>", "()V"⟩
abbrev cX8_answersLimit : ByteArray := prog_10_method_2_code
def yX8_answersLimit : MethodName := ⟨RX8, "answersLimit", "(I)I"⟩
abbrev cX8_guessesLimit : ByteArray := prog_10_method_3_code
def yX8_guessesLimit : MethodName := ⟨RX8, "guessesLimit", "(I)J"⟩
abbrev cX8_append : ByteArray := prog_10_method_4_code
def yX8_append : MethodName := ⟨RX8, "append", "(IJ)V"⟩
abbrev cX8_answeredByBoth : ByteArray := prog_10_method_5_code
def yX8_answeredByBoth : MethodName := ⟨RX8, "answeredByBoth", "(II)I"⟩
abbrev cX8_sameInOneRow : ByteArray := prog_10_method_6_code
def yX8_sameInOneRow : MethodName := ⟨RX8, "sameInOneRow", "(II)I"⟩
abbrev cX8_sameInTwoRows : ByteArray := prog_10_method_7_code
def yX8_sameInTwoRows : MethodName := ⟨RX8, "sameInTwoRows", "(II)I"⟩
abbrev cX8_says : ByteArray := prog_10_method_8_code
def yX8_says : MethodName := ⟨RX8, "says", "(II)I"⟩
abbrev cX8_surprisedAt : ByteArray := prog_10_method_9_code
def yX8_surprisedAt : MethodName := ⟨RX8, "surprisedAt", "(II)I"⟩
abbrev cX8_sideOf : ByteArray := prog_10_method_10_code
def yX8_sideOf : MethodName := ⟨RX8, "sideOf", "(II)I"⟩
abbrev cX8_sameElsewhere : ByteArray := prog_10_method_11_code
def yX8_sameElsewhere : MethodName := ⟨RX8, "sameElsewhere", "(III)I"⟩
abbrev cX8_bothAnswered : ByteArray := prog_10_method_12_code
def yX8_bothAnswered : MethodName := ⟨RX8, "bothAnswered", "(III)Z"⟩
abbrev cX8_answerOf : ByteArray := prog_10_method_13_code
def yX8_answerOf : MethodName := ⟨RX8, "answerOf", "(II)I"⟩
abbrev cX8_guessOf : ByteArray := prog_10_method_14_code
def yX8_guessOf : MethodName := ⟨RX8, "guessOf", "(II)I"⟩
def RX9 : String := "NobodyChecks$Same"
def TX9 : u_T := fun k => match k with
  | 0 => ("NobodyChecks$Pay", "numbers", "[I", true)
  | 1 => ("NobodyChecks$Pay", "averages", "[J", false)
  | _ => ("NobodyChecks$Pay", "reckoned", "Z", false)
def tyX9 : Nat → FieldType := fun k => match k with
  | 0 => .array .int
  | 1 => .array .long
  | _ => .boolean
theorem nmX9 : ∀ a, a < 3 → ∀ b, b < 3 → a ≠ b → (TX9 a).2.1 ≠ (TX9 b).2.1 := by decide +kernel
theorem tyX9_ok : ∀ k, k < 3 → parseFieldDescriptor (TX9 k).2.2.1 = some (tyX9 k) := by decide +kernel
abbrev cX9_init : ByteArray := prog_11_method_1_code
def yX9_init : MethodName := ⟨RX9, "<init>", "()V"⟩
abbrev cX9_kind : ByteArray := prog_11_method_2_code
def yX9_kind : MethodName := ⟨RX9, "kind", "()I"⟩
abbrev cX9_amount : ByteArray := prog_11_method_3_code
def yX9_amount : MethodName := ⟨RX9, "amount", "(III)I"⟩
def RX10 : String := "NobodyChecks$Table"
def TX10 : u_T := fun k => match k with
  | 0 => ("NobodyChecks$Pay", "numbers", "[I", true)
  | 1 => ("NobodyChecks$Pay", "averages", "[J", false)
  | _ => ("NobodyChecks$Pay", "reckoned", "Z", false)
def tyX10 : Nat → FieldType := fun k => match k with
  | 0 => .array .int
  | 1 => .array .long
  | _ => .boolean
theorem nmX10 : ∀ a, a < 3 → ∀ b, b < 3 → a ≠ b → (TX10 a).2.1 ≠ (TX10 b).2.1 := by decide +kernel
theorem tyX10_ok : ∀ k, k < 3 → parseFieldDescriptor (TX10 k).2.2.1 = some (tyX10 k) := by decide +kernel
abbrev cX10_init : ByteArray := prog_12_method_1_code
def yX10_init : MethodName := ⟨RX10, "<init>", "()V"⟩
abbrev cX10_kind : ByteArray := prog_12_method_2_code
def yX10_kind : MethodName := ⟨RX10, "kind", "()I"⟩
abbrev cX10_amount : ByteArray := prog_12_method_3_code
def yX10_amount : MethodName := ⟨RX10, "amount", "(III)I"⟩
def RX11 : String := "NobodyChecks"
def TX11 : u_T := fun k => match k with
  | 0 => ("NobodyChecks", "page", "LNobodyChecks$Page;", true)
  | 1 => ("NobodyChecks", "reader", "LNobodyChecks$Reader;", true)
  | 2 => ("NobodyChecks", "asked", "LNobodyChecks$Question;", true)
  | 3 => ("NobodyChecks", "pays", "[LNobodyChecks$Pay;", true)
  | 4 => ("NobodyChecks", "play", "LNobodyChecks$Play;", true)
  | 5 => ("NobodyChecks", "cheapest", "LNobodyChecks$Cheapest;", true)
  | 6 => ("NobodyChecks", "rows", "LNobodyChecks$Rows;", true)
  | 7 => ("NobodyChecks", "payCount", "I", false)
  | _ => ("NobodyChecks", "tablesDone", "I", false)
def tyX11 : Nat → FieldType := fun k => match k with
  | 0 => .object "NobodyChecks$Page"
  | 1 => .object "NobodyChecks$Reader"
  | 2 => .object "NobodyChecks$Question"
  | 3 => .array (.object "NobodyChecks$Pay")
  | 4 => .object "NobodyChecks$Play"
  | 5 => .object "NobodyChecks$Cheapest"
  | 6 => .object "NobodyChecks$Rows"
  | 7 => .int
  | _ => .int
theorem nmX11 : ∀ a, a < 9 → ∀ b, b < 9 → a ≠ b → (TX11 a).2.1 ≠ (TX11 b).2.1 := by decide +kernel
theorem tyX11_ok : ∀ k, k < 9 → parseFieldDescriptor (TX11 k).2.2.1 = some (tyX11 k) := by decide +kernel
abbrev cX11_init : ByteArray := prog_1_method_1_code
def yX11_init : MethodName := ⟨RX11, "<init>", "()V"⟩
abbrev cX11_letters : ByteArray := prog_1_method_2_code
def yX11_letters : MethodName := ⟨RX11, "letters", "(J)I"⟩
abbrev cX11_blank : ByteArray := prog_1_method_3_code
def yX11_blank : MethodName := ⟨RX11, "blank", "()I"⟩
abbrev cX11_fault : ByteArray := prog_1_method_4_code
def yX11_fault : MethodName := ⟨RX11, "fault", "()I"⟩
abbrev cX11_question : ByteArray := prog_1_method_5_code
def yX11_question : MethodName := ⟨RX11, "question", "()I"⟩
abbrev cX11_chance : ByteArray := prog_1_method_6_code
def yX11_chance : MethodName := ⟨RX11, "chance", "(II)I"⟩
abbrev cX11_cost : ByteArray := prog_1_method_7_code
def yX11_cost : MethodName := ⟨RX11, "cost", "(II)I"⟩
abbrev cX11_thinks : ByteArray := prog_1_method_8_code
def yX11_thinks : MethodName := ⟨RX11, "thinks", "(IIII)J"⟩
abbrev cX11_pay : ByteArray := prog_1_method_9_code
def yX11_pay : MethodName := ⟨RX11, "pay", "(IIIII)I"⟩
abbrev cX11_as : ByteArray := prog_1_method_10_code
def yX11_as : MethodName := ⟨RX11, "as", "(II)I"⟩
abbrev cX11_about : ByteArray := prog_1_method_11_code
def yX11_about : MethodName := ⟨RX11, "about", "(II)I"⟩
abbrev cX11_gets : ByteArray := prog_1_method_12_code
def yX11_gets : MethodName := ⟨RX11, "gets", "(III)I"⟩
abbrev cX11_worth : ByteArray := prog_1_method_13_code
def yX11_worth : MethodName := ⟨RX11, "worth", "(IIII)J"⟩
abbrev cX11_rests : ByteArray := prog_1_method_14_code
def yX11_rests : MethodName := ⟨RX11, "rests", "(III)I"⟩
abbrev cX11_gain : ByteArray := prog_1_method_15_code
def yX11_gain : MethodName := ⟨RX11, "gain", "(IIII)J"⟩
abbrev cX11_all : ByteArray := prog_1_method_16_code
def yX11_all : MethodName := ⟨RX11, "all", "(II)I"⟩
abbrev cX11_group : ByteArray := prog_1_method_17_code
def yX11_group : MethodName := ⟨RX11, "group", "(III)I"⟩
abbrev cX11_goes : ByteArray := prog_1_method_18_code
def yX11_goes : MethodName := ⟨RX11, "goes", "(III)I"⟩
abbrev cX11_drawn : ByteArray := prog_1_method_19_code
def yX11_drawn : MethodName := ⟨RX11, "drawn", "(I)I"⟩
abbrev cX11_leastSame : ByteArray := prog_1_method_20_code
def yX11_leastSame : MethodName := ⟨RX11, "leastSame", "()I"⟩
abbrev cX11_leastTable : ByteArray := prog_1_method_21_code
def yX11_leastTable : MethodName := ⟨RX11, "leastTable", "(I)I"⟩
abbrev cX11_leastLook : ByteArray := prog_1_method_22_code
def yX11_leastLook : MethodName := ⟨RX11, "leastLook", "(I)I"⟩
abbrev cX11_mayBe : ByteArray := prog_1_method_23_code
def yX11_mayBe : MethodName := ⟨RX11, "mayBe", "(II)I"⟩
abbrev cX11_row : ByteArray := prog_1_method_24_code
def yX11_row : MethodName := ⟨RX11, "row", "(IJ)I"⟩
abbrev cX11_alike : ByteArray := prog_1_method_25_code
def yX11_alike : MethodName := ⟨RX11, "alike", "(III)I"⟩
abbrev cX11_crowd : ByteArray := prog_1_method_26_code
def yX11_crowd : MethodName := ⟨RX11, "crowd", "(II)I"⟩
abbrev cX11_count : ByteArray := prog_1_method_27_code
def yX11_count : MethodName := ⟨RX11, "count", "(I)I"⟩
abbrev cX11_digest : ByteArray := prog_1_method_28_code
def yX11_digest : MethodName := ⟨RX11, "digest", "()J"⟩
abbrev cX11_withQuestion : ByteArray := prog_1_method_29_code
def yX11_withQuestion : MethodName := ⟨RX11, "withQuestion", "(J)J"⟩
abbrev cX11_withPays : ByteArray := prog_1_method_30_code
def yX11_withPays : MethodName := ⟨RX11, "withPays", "(J)J"⟩
abbrev cX11_withPay : ByteArray := prog_1_method_31_code
def yX11_withPay : MethodName := ⟨RX11, "withPay", "(JLNobodyChecks$Pay;)J"⟩
abbrev cX11_withRows : ByteArray := prog_1_method_32_code
def yX11_withRows : MethodName := ⟨RX11, "withRows", "(J)J"⟩
abbrev cX11_mixed : ByteArray := prog_1_method_33_code
def yX11_mixed : MethodName := ⟨RX11, "mixed", "(JJ)J"⟩
abbrev cX11_payOf : ByteArray := prog_1_method_34_code
def yX11_payOf : MethodName := ⟨RX11, "payOf", "(I)LNobodyChecks$Pay;"⟩
abbrev cX11_forgetWorths : ByteArray := prog_1_method_35_code
def yX11_forgetWorths : MethodName := ⟨RX11, "forgetWorths", "()V"⟩
abbrev cX11_refusalOf : ByteArray := prog_1_method_36_code
def yX11_refusalOf : MethodName := ⟨RX11, "refusalOf", "(LNobodyChecks$Pay;III)I"⟩
abbrev cX11_isWithin : ByteArray := prog_1_method_37_code
def yX11_isWithin : MethodName := ⟨RX11, "isWithin", "(III)Z"⟩
abbrev cX11_areNumbers : ByteArray := prog_1_method_38_code
def yX11_areNumbers : MethodName := ⟨RX11, "areNumbers", "(IIIII)Z"⟩
abbrev cX11_madeOf : ByteArray := prog_1_method_39_code
def yX11_madeOf : MethodName := ⟨RX11, "madeOf", "(I)LNobodyChecks$Pay;"⟩
abbrev cX11_isOf : ByteArray := prog_1_method_40_code
def yX11_isOf : MethodName := ⟨RX11, "isOf", "(LNobodyChecks$Pay;I)Z"⟩
abbrev cX11_inLowestTerms : ByteArray := prog_1_method_41_code
def yX11_inLowestTerms : MethodName := ⟨RX11, "inLowestTerms", "(JJI)J"⟩
abbrev cX11_greatestMeasure : ByteArray := prog_1_method_42_code
def yX11_greatestMeasure : MethodName := ⟨RX11, "greatestMeasure", "(JJ)J"⟩
def RX12 : String := "NobodyChecksModel"
def TX12 : u_T := fun k => match k with
  | 0 => ("NobodyChecksModel", "page", "[I", true)
  | 1 => ("NobodyChecksModel", "pageMany", "I", false)
  | 2 => ("NobodyChecksModel", "cases", "I", false)
  | 3 => ("NobodyChecksModel", "persons", "I", false)
  | 4 => ("NobodyChecksModel", "weights", "[I", true)
  | 5 => ("NobodyChecksModel", "chances", "[I", true)
  | 6 => ("NobodyChecksModel", "costs", "[I", true)
  | 7 => ("NobodyChecksModel", "state", "I", false)
  | 8 => ("NobodyChecksModel", "value", "I", false)
  | 9 => ("NobodyChecksModel", "digits", "I", false)
  | 10 => ("NobodyChecksModel", "readCases", "I", false)
  | 11 => ("NobodyChecksModel", "readPersons", "I", false)
  | 12 => ("NobodyChecksModel", "inCase", "I", false)
  | 13 => ("NobodyChecksModel", "readWeights", "[I", true)
  | 14 => ("NobodyChecksModel", "readChances", "[I", true)
  | 15 => ("NobodyChecksModel", "likely", "[J", true)
  | 16 => ("NobodyChecksModel", "all", "J", false)
  | 17 => ("NobodyChecksModel", "pays", "I", false)
  | 18 => ("NobodyChecksModel", "payKind", "[I", true)
  | 19 => ("NobodyChecksModel", "payNumbers", "[I", true)
  | 20 => ("NobodyChecksModel", "kind", "I", false)
  | 21 => ("NobodyChecksModel", "q", "[I", true)
  | 22 => ("NobodyChecksModel", "worths", "[J", true)
  | 23 => ("NobodyChecksModel", "isMet", "[Z", true)
  | 24 => ("NobodyChecksModel", "last", "I", false)
  | 25 => ("NobodyChecksModel", "steps", "I", false)
  | 26 => ("NobodyChecksModel", "isRound", "Z", false)
  | 27 => ("NobodyChecksModel", "tablesDone", "I", false)
  | 28 => ("NobodyChecksModel", "often", "[J", true)
  | 29 => ("NobodyChecksModel", "rows", "I", false)
  | 30 => ("NobodyChecksModel", "rowAnswers", "[I", true)
  | 31 => ("NobodyChecksModel", "rowGuesses", "[J", true)
  | _ => ("NobodyChecksModel", "hash", "J", false)
def tyX12 : Nat → FieldType := fun k => match k with
  | 0 => .array .int
  | 1 => .int
  | 2 => .int
  | 3 => .int
  | 4 => .array .int
  | 5 => .array .int
  | 6 => .array .int
  | 7 => .int
  | 8 => .int
  | 9 => .int
  | 10 => .int
  | 11 => .int
  | 12 => .int
  | 13 => .array .int
  | 14 => .array .int
  | 15 => .array .long
  | 16 => .long
  | 17 => .int
  | 18 => .array .int
  | 19 => .array .int
  | 20 => .int
  | 21 => .array .int
  | 22 => .array .long
  | 23 => .array .boolean
  | 24 => .int
  | 25 => .int
  | 26 => .boolean
  | 27 => .int
  | 28 => .array .long
  | 29 => .int
  | 30 => .array .int
  | 31 => .array .long
  | _ => .long
theorem nmX12 : ∀ a, a < 33 → ∀ b, b < 33 → a ≠ b → (TX12 a).2.1 ≠ (TX12 b).2.1 := by decide +kernel
theorem tyX12_ok : ∀ k, k < 33 → parseFieldDescriptor (TX12 k).2.2.1 = some (tyX12 k) := by decide +kernel
abbrev cX12_init : ByteArray := prog_14_method_1_code
def yX12_init : MethodName := ⟨RX12, "<init>", "()V"⟩
abbrev cX12_in : ByteArray := prog_14_method_2_code
def yX12_in : MethodName := ⟨RX12, "in", "(JJJ)Z"⟩
abbrev cX12_letters : ByteArray := prog_14_method_3_code
def yX12_letters : MethodName := ⟨RX12, "letters", "(J)I"⟩
abbrev cX12_blank : ByteArray := prog_14_method_4_code
def yX12_blank : MethodName := ⟨RX12, "blank", "()I"⟩
abbrev cX12_goChance : ByteArray := prog_14_method_5_code
def yX12_goChance : MethodName := ⟨RX12, "goChance", "(I)Z"⟩
abbrev cX12_go : ByteArray := prog_14_method_6_code
def yX12_go : MethodName := ⟨RX12, "go", "(I)Z"⟩
abbrev cX12_faultOf : ByteArray := prog_14_method_7_code
def yX12_faultOf : MethodName := ⟨RX12, "faultOf", "()I"⟩
abbrev cX12_fault : ByteArray := prog_14_method_8_code
def yX12_fault : MethodName := ⟨RX12, "fault", "()I"⟩
abbrev cX12_question : ByteArray := prog_14_method_9_code
def yX12_question : MethodName := ⟨RX12, "question", "()I"⟩
abbrev cX12_isPerson : ByteArray := prog_14_method_10_code
def yX12_isPerson : MethodName := ⟨RX12, "isPerson", "(I)Z"⟩
abbrev cX12_chance : ByteArray := prog_14_method_11_code
def yX12_chance : MethodName := ⟨RX12, "chance", "(II)I"⟩
abbrev cX12_cost : ByteArray := prog_14_method_12_code
def yX12_cost : MethodName := ⟨RX12, "cost", "(II)I"⟩
abbrev cX12_layLikely : ByteArray := prog_14_method_13_code
def yX12_layLikely : MethodName := ⟨RX12, "layLikely", "()V"⟩
abbrev cX12_common : ByteArray := prog_14_method_14_code
def yX12_common : MethodName := ⟨RX12, "common", "(JJ)J"⟩
abbrev cX12_part : ByteArray := prog_14_method_15_code
def yX12_part : MethodName := ⟨RX12, "part", "(JJI)J"⟩
abbrev cX12_thinks : ByteArray := prog_14_method_16_code
def yX12_thinks : MethodName := ⟨RX12, "thinks", "(IIII)J"⟩
abbrev cX12_pay : ByteArray := prog_14_method_17_code
def yX12_pay : MethodName := ⟨RX12, "pay", "(IIIII)I"⟩
abbrev cX12_isPay : ByteArray := prog_14_method_18_code
def yX12_isPay : MethodName := ⟨RX12, "isPay", "(I)Z"⟩
abbrev cX12_as : ByteArray := prog_14_method_19_code
def yX12_as : MethodName := ⟨RX12, "as", "(II)I"⟩
abbrev cX12_about : ByteArray := prog_14_method_20_code
def yX12_about : MethodName := ⟨RX12, "about", "(II)I"⟩
abbrev cX12_takePay : ByteArray := prog_14_method_21_code
def yX12_takePay : MethodName := ⟨RX12, "takePay", "(I)V"⟩
abbrev cX12_bitsOf : ByteArray := prog_14_method_22_code
def yX12_bitsOf : MethodName := ⟨RX12, "bitsOf", "(I)I"⟩
abbrev cX12_getsOf : ByteArray := prog_14_method_23_code
def yX12_getsOf : MethodName := ⟨RX12, "getsOf", "(II)I"⟩
abbrev cX12_gets : ByteArray := prog_14_method_24_code
def yX12_gets : MethodName := ⟨RX12, "gets", "(III)I"⟩
abbrev cX12_answer : ByteArray := prog_14_method_25_code
def yX12_answer : MethodName := ⟨RX12, "answer", "(II)I"⟩
abbrev cX12_wayOf : ByteArray := prog_14_method_26_code
def yX12_wayOf : MethodName := ⟨RX12, "wayOf", "(II)I"⟩
abbrev cX12_worthOf : ByteArray := prog_14_method_27_code
def yX12_worthOf : MethodName := ⟨RX12, "worthOf", "(II)J"⟩
abbrev cX12_profiles : ByteArray := prog_14_method_28_code
def yX12_profiles : MethodName := ⟨RX12, "profiles", "()I"⟩
abbrev cX12_worth : ByteArray := prog_14_method_29_code
def yX12_worth : MethodName := ⟨RX12, "worth", "(IIII)J"⟩
abbrev cX12_layWorths : ByteArray := prog_14_method_30_code
def yX12_layWorths : MethodName := ⟨RX12, "layWorths", "(I)V"⟩
abbrev cX12_with : ByteArray := prog_14_method_31_code
def yX12_with : MethodName := ⟨RX12, "with", "(III)I"⟩
abbrev cX12_bestWay : ByteArray := prog_14_method_32_code
def yX12_bestWay : MethodName := ⟨RX12, "bestWay", "(II)I"⟩
abbrev cX12_gainOf : ByteArray := prog_14_method_33_code
def yX12_gainOf : MethodName := ⟨RX12, "gainOf", "(II)J"⟩
abbrev cX12_firstOf : ByteArray := prog_14_method_34_code
def yX12_firstOf : MethodName := ⟨RX12, "firstOf", "(I)I"⟩
abbrev cX12_refusal : ByteArray := prog_14_method_35_code
def yX12_refusal : MethodName := ⟨RX12, "refusal", "(IIZ)I"⟩
abbrev cX12_rests : ByteArray := prog_14_method_36_code
def yX12_rests : MethodName := ⟨RX12, "rests", "(III)I"⟩
abbrev cX12_gain : ByteArray := prog_14_method_37_code
def yX12_gain : MethodName := ⟨RX12, "gain", "(IIII)J"⟩
abbrev cX12_together : ByteArray := prog_14_method_38_code
def yX12_together : MethodName := ⟨RX12, "together", "(I)J"⟩
abbrev cX12_allOf : ByteArray := prog_14_method_39_code
def yX12_allOf : MethodName := ⟨RX12, "allOf", "(II)I"⟩
abbrev cX12_all : ByteArray := prog_14_method_40_code
def yX12_all : MethodName := ⟨RX12, "all", "(II)I"⟩
abbrev cX12_gains : ByteArray := prog_14_method_41_code
def yX12_gains : MethodName := ⟨RX12, "gains", "(III)Z"⟩
abbrev cX12_group : ByteArray := prog_14_method_42_code
def yX12_group : MethodName := ⟨RX12, "group", "(III)I"⟩
abbrev cX12_goOn : ByteArray := prog_14_method_43_code
def yX12_goOn : MethodName := ⟨RX12, "goOn", "(I)V"⟩
abbrev cX12_goes : ByteArray := prog_14_method_44_code
def yX12_goes : MethodName := ⟨RX12, "goes", "(III)I"⟩
abbrev cX12_drawn : ByteArray := prog_14_method_45_code
def yX12_drawn : MethodName := ⟨RX12, "drawn", "(I)I"⟩
abbrev cX12_truthRests : ByteArray := prog_14_method_46_code
def yX12_truthRests : MethodName := ⟨RX12, "truthRests", "()Z"⟩
abbrev cX12_leastSame : ByteArray := prog_14_method_47_code
def yX12_leastSame : MethodName := ⟨RX12, "leastSame", "()I"⟩
abbrev cX12_layOften : ByteArray := prog_14_method_48_code
def yX12_layOften : MethodName := ⟨RX12, "layOften", "()V"⟩
abbrev cX12_tableWorth : ByteArray := prog_14_method_49_code
def yX12_tableWorth : MethodName := ⟨RX12, "tableWorth", "(III)J"⟩
abbrev cX12_tableRests : ByteArray := prog_14_method_50_code
def yX12_tableRests : MethodName := ⟨RX12, "tableRests", "(I)Z"⟩
abbrev cX12_leastTable : ByteArray := prog_14_method_51_code
def yX12_leastTable : MethodName := ⟨RX12, "leastTable", "(I)I"⟩
abbrev cX12_leastLook : ByteArray := prog_14_method_52_code
def yX12_leastLook : MethodName := ⟨RX12, "leastLook", "(I)I"⟩
abbrev cX12_mayBe : ByteArray := prog_14_method_53_code
def yX12_mayBe : MethodName := ⟨RX12, "mayBe", "(II)I"⟩
abbrev cX12_row : ByteArray := prog_14_method_54_code
def yX12_row : MethodName := ⟨RX12, "row", "(IJ)I"⟩
abbrev cX12_answerOf : ByteArray := prog_14_method_55_code
def yX12_answerOf : MethodName := ⟨RX12, "answerOf", "(II)I"⟩
abbrev cX12_bothAnswered : ByteArray := prog_14_method_56_code
def yX12_bothAnswered : MethodName := ⟨RX12, "bothAnswered", "(III)Z"⟩
abbrev cX12_alike : ByteArray := prog_14_method_57_code
def yX12_alike : MethodName := ⟨RX12, "alike", "(III)I"⟩
abbrev cX12_crowdOf : ByteArray := prog_14_method_58_code
def yX12_crowdOf : MethodName := ⟨RX12, "crowdOf", "(II)I"⟩
abbrev cX12_crowd : ByteArray := prog_14_method_59_code
def yX12_crowd : MethodName := ⟨RX12, "crowd", "(II)I"⟩
abbrev cX12_countOf : ByteArray := prog_14_method_60_code
def yX12_countOf : MethodName := ⟨RX12, "countOf", "(I)I"⟩
abbrev cX12_count : ByteArray := prog_14_method_61_code
def yX12_count : MethodName := ⟨RX12, "count", "(I)I"⟩
abbrev cX12_tell : ByteArray := prog_14_method_62_code
def yX12_tell : MethodName := ⟨RX12, "tell", "(J)V"⟩
abbrev cX12_tellPay : ByteArray := prog_14_method_63_code
def yX12_tellPay : MethodName := ⟨RX12, "tellPay", "(I)V"⟩
abbrev cX12_digest : ByteArray := prog_14_method_64_code
def yX12_digest : MethodName := ⟨RX12, "digest", "()J"⟩
def RJ6 : String := "java/lang/Integer"
def TJ6 : u_T := fun k => match k with
  | _ => ("", "", "", false)
def tyJ6 : Nat → FieldType := fun k => match k with
  | _ => .int
theorem nmJ6 : ∀ a, a < 0 → ∀ b, b < 0 → a ≠ b → (TJ6 a).2.1 ≠ (TJ6 b).2.1 := by decide +kernel
theorem tyJ6_ok : ∀ k, k < 0 → parseFieldDescriptor (TJ6 k).2.2.1 = some (tyJ6 k) := by decide +kernel
abbrev cJ6_bitCount_0f7a4 : ByteArray := prog_15_method_49_code
def yJ6_bitCount_0f7a4 : MethodName := ⟨RJ6, "bitCount", "(I)I"⟩
def RJ9 : String := "java/lang/Math"
def TJ9 : u_T := fun k => match k with
  | _ => ("", "", "", false)
def tyJ9 : Nat → FieldType := fun k => match k with
  | _ => .int
theorem nmJ9 : ∀ a, a < 0 → ∀ b, b < 0 → a ≠ b → (TJ9 a).2.1 ≠ (TJ9 b).2.1 := by decide +kernel
theorem tyJ9_ok : ∀ k, k < 0 → parseFieldDescriptor (TJ9 k).2.2.1 = some (tyJ9 k) := by decide +kernel
abbrev cJ9_abs_067f4 : ByteArray := prog_16_method_61_code
def yJ9_abs_067f4 : MethodName := ⟨RJ9, "abs", "(J)J"⟩
abbrev cJ9_max_7cf53 : ByteArray := prog_16_method_65_code
def yJ9_max_7cf53 : MethodName := ⟨RJ9, "max", "(II)I"⟩
abbrev cJ9_min_7cf53 : ByteArray := prog_16_method_69_code
def yJ9_min_7cf53 : MethodName := ⟨RJ9, "min", "(II)I"⟩
def RL : String := "NobodyChecksLaw"
abbrev cL_law : ByteArray := code
def yL_law : MethodName := ⟨RL, "law", "([I)Z"⟩
abbrev vwCl : List vw_C := [(RX0, TX0, 12), (RX1, TX1, 3), (RX2, TX2, 2), (RX3, TX3, 3), (RX4, TX4, 10), (RX5, TX5, 7), (RX6, TX6, 3), (RX7, TX7, 7), (RX8, TX8, 3), (RX9, TX9, 3), (RX10, TX10, 3), (RX11, TX11, 9), (RX12, TX12, 33)]
end
section
/-! the words of the tables that every method carries -/
def gw_tbl : List Cond := lw_tbl.filter goodWord
theorem gw_in {w : Cond} (h : w ∈ lw_tbl) (g : goodWord w = true) : w ∈ gw_tbl := List.mem_filter.mpr ⟨h, g⟩
theorem gw_lw {w : Cond} (h : w ∈ gw_tbl) : w ∈ lw_tbl := (List.mem_filter.mp h).1
theorem gw_all {ws : List Cond} (h : ∀ w ∈ ws, w ∈ lw_tbl) (g : ws.all goodWord = true) : ∀ w ∈ ws, w ∈ gw_tbl := fun w hw => gw_in (h w hw) (List.all_eq_true.mp g w hw)
theorem gw_good {ws : List Cond} (h : ∀ w ∈ ws, w ∈ gw_tbl) : GoodIn gw_tbl ws := fun w hw => ⟨h w hw, good_of_word (List.mem_filter.mp (h w hw)).2⟩
theorem gw_S {own : String} {idx : Nat} {y : MethodName} {cc : ByteArray} {n : Nat} {ret : Option FieldType} (h1 : Cond.methodLink own idx y ∈ gw_tbl) (h2 : Cond.static y ∈ gw_tbl) (h3 : Cond.initialized y.cls ∈ gw_tbl) (h4 : Cond.code y cc n ret ∈ gw_tbl) : GoodIn gw_tbl (va_wsS own idx y (Cond.code y cc n ret :: gw_tbl)) := gw_good (by
  intro w hw
  rcases List.mem_append.mp hw with h | h
  · simp only [List.mem_cons, List.not_mem_nil, or_false] at h
    rcases h with rfl | rfl | rfl <;> assumption
  · rcases List.mem_cons.mp h with rfl | h
    · exact h4
    · exact h)
theorem gw_V {own C : String} {idx : Nat} {y : MethodName} {cc : ByteArray} {n : Nat} {ret : Option FieldType} (h1 : Cond.methodLink own idx y ∈ gw_tbl) (h2 : Cond.instanceMethod y ∈ gw_tbl) (h5 : Cond.selects C y y ∈ gw_tbl) (h3 : Cond.initialized C ∈ gw_tbl) (h4 : Cond.code y cc n ret ∈ gw_tbl) : GoodIn gw_tbl (wsV own idx C y (Cond.code y cc n ret :: gw_tbl)) := gw_good (by
  intro w hw
  rcases List.mem_append.mp hw with h | h
  · simp only [List.mem_cons, List.not_mem_nil, or_false] at h
    rcases h with rfl | rfl | rfl | rfl <;> assumption
  · rcases List.mem_cons.mp h with rfl | h
    · exact h4
    · exact h)
theorem gw_U {own C owner : String} {idx : Nat} {x y : MethodName} {cc : ByteArray} {n : Nat} {ret : Option FieldType} (h1 : Cond.methodLink own idx x ∈ gw_tbl) (h6 : Cond.sameMethod x.cls owner x.name x.desc ∈ gw_tbl) (h5 : Cond.selects C x y ∈ gw_tbl) (h2 : Cond.instanceMethod y ∈ gw_tbl) (h3 : Cond.initialized y.cls ∈ gw_tbl) (h4 : Cond.code y cc n ret ∈ gw_tbl) : GoodIn gw_tbl (va_wsU own idx C owner x y (Cond.code y cc n ret :: gw_tbl)) := gw_good (by
  intro w hw
  rcases List.mem_append.mp hw with h | h
  · simp only [List.mem_cons, List.not_mem_nil, or_false] at h
    rcases h with rfl | rfl | rfl | rfl | rfl <;> assumption
  · rcases List.mem_cons.mp h with rfl | h
    · exact h4
    · exact h)
theorem gw_I {y : MethodName} {cc : ByteArray} {n : Nat} {ret : Option FieldType} (h4 : Cond.code y cc n ret ∈ gw_tbl) : GoodIn gw_tbl (Cond.code y cc n ret :: gw_tbl) := gw_good (fun w h => (List.mem_cons.mp h).elim (fun e => e ▸ h4) id)
/-! the starts of contracts -/
def pc_0 (av : List Value) : Array Value → State → Prop := va_Pc av (fun _ => True)
theorem pc_0_fb {av : List Value} : FrameBlind (pc_0 av) := fun _ _ _ _ q => ⟨q.1, trivial⟩
theorem pr_0 {s : State} {H : Heap} {As : List Value} : PreS s H (pc_0 As) As := ⟨pc_0_fb, fun _ _ _ => ⟨rfl, trivial⟩⟩
def pc_S (D : va_G) (tys : List (ClassId × FieldType)) (ws : va_W) (av : List Value) : Array Value → State → Prop := va_Pc av (fun U => va_P D vwCl ws U.heap ∧ va_K D vwCl tys U)
theorem pc_S_fb {D : va_G} {tys : List (ClassId × FieldType)} {ws : va_W} {av : List Value} : FrameBlind (pc_S D tys ws av) := fun a U g mk q => ⟨q.1, q.2.1, va_K.moved (u := U) (U := U.calling g mk a) (Vm.Alike.refl U.vm) q.2.2⟩
theorem pr_SS {s : State} {H : Heap} {D : va_G} {tys : List (ClassId × FieldType)} {ws : va_W} {As : List Value} (hK : va_K D vwCl tys s) (hP : va_P D vwCl ws H) : PreS s H (pc_S D tys ws As) As := ⟨pc_S_fb, fun U hU hW => ⟨rfl, by rw [hU]; exact hP, va_K.moved hW.alike hK⟩⟩
theorem pr_SV {s : State} {H : Heap} {D : va_G} {tys : List (ClassId × FieldType)} {ws : va_W} {As : List Value} {b : Addr} {fs : List Value} {q : vw_C} (ci q0 : Nat) (hK : va_K D vwCl tys s) (hP : va_P D vwCl ws H) (hc : vwCl[ci]? = some q) (he : ws[q0]? = some (b, .inr (ci, fs))) : PreV s H q.1 b (pc_S D tys ws (.ref b :: As)) As := ⟨pc_S_fb, va_recv hK hP hc he, fun U hU hW => ⟨rfl, by rw [hU]; exact hP, va_K.moved hW.alike hK⟩⟩
def pc_M (D : va_G) (tys : List (ClassId × FieldType)) (ws : va_W) (sz : Nat) (av : List Value) : Array Value → State → Prop := va_Pc av (fun U => U.heap.size = sz ∧ va_P D vwCl ws U.heap ∧ va_K D vwCl tys U ∧ va_D (fun _ => True) ws)
theorem pc_M_fb {D : va_G} {tys : List (ClassId × FieldType)} {ws : va_W} {sz : Nat} {av : List Value} : FrameBlind (pc_M D tys ws sz av) := fun a U g mk q => ⟨q.1, q.2.1, q.2.2.1, va_K.moved (u := U) (U := U.calling g mk a) (Vm.Alike.refl U.vm) q.2.2.2.1, q.2.2.2.2⟩
theorem pr_MS {s : State} {H : Heap} {D : va_G} {tys : List (ClassId × FieldType)} {ws : va_W} {As : List Value} {A : Nat → Prop} (hK : va_K D vwCl tys s) (hP : va_P D vwCl ws H) (hD : va_D A ws) : PreS s H (pc_M D tys ws H.size As) As := ⟨pc_M_fb, fun U hU hW => ⟨rfl, by rw [hU], by rw [hU]; exact hP, va_K.moved hW.alike hK, hD.weaken (fun _ _ _ _ => trivial)⟩⟩
theorem pr_MV {s : State} {H : Heap} {D : va_G} {tys : List (ClassId × FieldType)} {ws : va_W} {As : List Value} {A : Nat → Prop} {b : Addr} {fs : List Value} {q : vw_C} (ci q0 : Nat) (hK : va_K D vwCl tys s) (hP : va_P D vwCl ws H) (hD : va_D A ws) (hc : vwCl[ci]? = some q) (he : ws[q0]? = some (b, .inr (ci, fs))) : PreV s H q.1 b (pc_M D tys ws H.size (.ref b :: As)) As := ⟨pc_M_fb, va_recv hK hP hc he, fun U hU hW => ⟨rfl, by rw [hU], by rw [hU]; exact hP, va_K.moved hW.alike hK, hD.weaken (fun _ _ _ _ => trivial)⟩⟩
/-! the words that no list carries: private constructors of nest mates, classes of arrays of references -/
def va_AOA (ty : FieldType) (U : State) : Prop := (Cond.arrayOver (.array ty)).before #[] U = true
theorem va_AOA.use {ty : FieldType} {A : Array Value} {U : State} (h : va_AOA ty U) : (Cond.arrayOver (.array ty)).before A U = true := h
theorem va_AOA.of {ty : FieldType} {A : Array Value} {U : State} (h : (Cond.arrayOver (.array ty)).before A U = true) : va_AOA ty U := h
theorem va_AOA.moved {ty : FieldType} {u U : State} (hvm : u.vm.Alike U.vm) (h : va_AOA ty u) : va_AOA ty U := by
  have e : (Cond.arrayOver (.array ty)).before #[] (u.setVm U.vm) = true := (Cond.arrayOver_setVmC hvm (.array ty)).trans h
  exact e
def nw_qs : List (String × Nat × MethodName) := [(RX11, 9, yX2_init), (RX11, 18, yX7_init), (RX11, 25, yX5_init), (RX11, 54, yX8_init), (RX11, 336, yX9_init), (RX11, 339, yX10_init), (RX11, 342, yX6_init), (RX11, 345, yX1_init), (RX11, 346, yX3_init), (RX0, 13, yX9_init), (RX0, 20, yX10_init), (RX0, 27, yX1_init), (RX1, 3, yX9_init), (RX6, 3, yX10_init), (RX9, 3, yX3_init), (RX10, 3, yX3_init)]
def nw_C (U : State) : Prop := (∀ q ∈ nw_qs, va_Nw (.methodLinkNest q.1 q.2.1 q.2.2 RX11) U) ∧ va_AO RX3 U ∧ va_AOA .int U ∧ va_AOA .long U
theorem nw_C.same {u U : State} (h : u.vm = U.vm) (hZ : nw_C u) : nw_C U := ⟨fun q hq => va_Nw.same rfl h (hZ.1 q hq), va_AO.moved (by rw [h]; exact Vm.Alike.refl _) hZ.2.1, va_AOA.moved (by rw [h]; exact Vm.Alike.refl _) hZ.2.2.1, va_AOA.moved (by rw [h]; exact Vm.Alike.refl _) hZ.2.2.2⟩
theorem nw_C.warm {s U : State} (hW : s.WarmedH U.vm) (hZ : nw_C s) : nw_C U := ⟨fun q hq => va_Nw.warmM hW (hZ.1 q hq), va_AO.moved hW.alike hZ.2.1, va_AOA.moved hW.alike hZ.2.2.1, va_AOA.moved hW.alike hZ.2.2.2⟩
def pc_C (D : va_G) (tys : List (ClassId × FieldType)) (ws : va_W) (sz : Nat) (av : List Value) : Array Value → State → Prop := va_Pc av (fun U => U.heap.size = sz ∧ va_P D vwCl ws U.heap ∧ va_K D vwCl tys U ∧ va_D (fun _ => True) ws ∧ nw_C U)
theorem pc_C_fb {D : va_G} {tys : List (ClassId × FieldType)} {ws : va_W} {sz : Nat} {av : List Value} : FrameBlind (pc_C D tys ws sz av) := fun a U g mk q => ⟨q.1, q.2.1, q.2.2.1, va_K.moved (u := U) (U := U.calling g mk a) (Vm.Alike.refl U.vm) q.2.2.2.1, q.2.2.2.2.1, nw_C.same (u := U) rfl q.2.2.2.2.2⟩
theorem pr_C {s : State} {H : Heap} {D : va_G} {tys : List (ClassId × FieldType)} {ws : va_W} {As : List Value} {A : Nat → Prop} (hK : va_K D vwCl tys s) (hP : va_P D vwCl ws H) (hD : va_D A ws) (hN : nw_C s) : PreS s H (pc_C D tys ws H.size As) As := ⟨pc_C_fb, fun U hU hW => ⟨rfl, by rw [hU], by rw [hU]; exact hP, va_K.moved hW.alike hK, hD.weaken (fun _ _ _ _ => trivial), nw_C.warm hW hN⟩⟩
theorem pr_CV {s : State} {H : Heap} {D : va_G} {tys : List (ClassId × FieldType)} {ws : va_W} {As : List Value} {A : Nat → Prop} {b : Addr} {fs : List Value} {q : vw_C} (ci q0 : Nat) (hK : va_K D vwCl tys s) (hP : va_P D vwCl ws H) (hD : va_D A ws) (hN : nw_C s) (hc : vwCl[ci]? = some q) (he : ws[q0]? = some (b, .inr (ci, fs))) : PreV s H q.1 b (pc_C D tys ws H.size (.ref b :: As)) As := ⟨pc_C_fb, va_recv hK hP hc he, fun U hU hW => ⟨rfl, by rw [hU], by rw [hU]; exact hP, va_K.moved hW.alike hK, hD.weaken (fun _ _ _ _ => trivial), nw_C.warm hW hN⟩⟩
/-! numbers -/
theorem fa_lt (a b : Int32) : a < b ↔ a.toInt < b.toInt := Int32.lt_iff_toInt_lt
theorem fa_le (a b : Int32) : a ≤ b ↔ a.toInt ≤ b.toInt := Int32.le_iff_toInt_le
theorem fa_eq (a b : Int32) : a = b ↔ a.toInt = b.toInt := Int32.toInt_inj.symm
theorem fa_lt64 (a b : Int64) : a < b ↔ a.toInt < b.toInt := Int64.lt_iff_toInt_lt
theorem fa_le64 (a b : Int64) : a ≤ b ↔ a.toInt ≤ b.toInt := Int64.le_iff_toInt_le
theorem fa_eq64 (a b : Int64) : a = b ↔ a.toInt = b.toInt := Int64.toInt_inj.symm
theorem W_genQ {p : Program} {l : Launch} {e : Env} {R : Room} {s : State} {m : MethodId} {args : Array Value} {below : List Frame} {meth : Method} {c : Code} {H : Heap} {locs : List Loc} {cells slots : Nat} {Q : State → Prop} {g : JFrame} (k : ∀ Q' : State → Prop, Q' = Q → W p l e R s m args below meth c H locs cells slots Q' g) : W p l e R s m args below meth c H locs cells slots Q g := k Q rfl
theorem p_nil {D : va_G} {H : Heap} : va_P D vwCl [] H := fun k q h => by simp at h
theorem d_nil {A : Nat → Prop} : va_D A [] := ⟨fun i j p q h => by simp at h, fun k q h => by simp at h⟩
end
section
theorem dX11_isWithin_0 : decode cX11_isWithin 0 = .ok (.iload_n 0, 1) := by decide +kernel
theorem dX11_isWithin_1 : decode cX11_isWithin 1 = .ok (.iload_n 1, 1) := by decide +kernel
theorem dX11_isWithin_2 : decode cX11_isWithin 2 = .ok (.if_icmp .lt 12, 3) := by decide +kernel
theorem dX11_isWithin_5 : decode cX11_isWithin 5 = .ok (.iload_n 0, 1) := by decide +kernel
theorem dX11_isWithin_6 : decode cX11_isWithin 6 = .ok (.iload_n 2, 1) := by decide +kernel
theorem dX11_isWithin_7 : decode cX11_isWithin 7 = .ok (.if_icmp .gt 7, 3) := by decide +kernel
theorem dX11_isWithin_10 : decode cX11_isWithin 10 = .ok (.iconst 1, 1) := by decide +kernel
theorem dX11_isWithin_11 : decode cX11_isWithin 11 = .ok (.goto 4, 3) := by decide +kernel
theorem dX11_isWithin_14 : decode cX11_isWithin 14 = .ok (.iconst 0, 1) := by decide +kernel
theorem dX11_isWithin_15 : decode cX11_isWithin 15 = .ok (.ireturn, 1) := by decide +kernel
theorem dX12_in_0 : decode cX12_in 0 = .ok (.lload_n 0, 1) := by decide +kernel
theorem dX12_in_1 : decode cX12_in 1 = .ok (.lload_n 2, 1) := by decide +kernel
theorem dX12_in_2 : decode cX12_in 2 = .ok (.lcmp, 1) := by decide +kernel
theorem dX12_in_3 : decode cX12_in 3 = .ok (.ifCond .lt 14, 3) := by decide +kernel
theorem dX12_in_6 : decode cX12_in 6 = .ok (.lload_n 0, 1) := by decide +kernel
theorem dX12_in_7 : decode cX12_in 7 = .ok (.lload 4, 2) := by decide +kernel
theorem dX12_in_9 : decode cX12_in 9 = .ok (.lcmp, 1) := by decide +kernel
theorem dX12_in_10 : decode cX12_in 10 = .ok (.ifCond .gt 7, 3) := by decide +kernel
theorem dX12_in_13 : decode cX12_in 13 = .ok (.iconst 1, 1) := by decide +kernel
theorem dX12_in_14 : decode cX12_in 14 = .ok (.goto 4, 3) := by decide +kernel
theorem dX12_in_17 : decode cX12_in 17 = .ok (.iconst 0, 1) := by decide +kernel
theorem dX12_in_18 : decode cX12_in 18 = .ok (.ireturn, 1) := by decide +kernel
end
section
theorem gwX0 : ∀ w ∈ u_ws RX0 TX0 12, w ∈ gw_tbl := gw_all (by decide +kernel) (by decide +kernel)
theorem gwX1 : ∀ w ∈ u_ws RX1 TX1 3, w ∈ gw_tbl := gw_all (by decide +kernel) (by decide +kernel)
theorem gwX2 : ∀ w ∈ u_ws RX2 TX2 2, w ∈ gw_tbl := gw_all (by decide +kernel) (by decide +kernel)
theorem gwX3 : ∀ w ∈ u_ws RX3 TX3 3, w ∈ gw_tbl := gw_all (by decide +kernel) (by decide +kernel)
theorem gwX4 : ∀ w ∈ u_ws RX4 TX4 10, w ∈ gw_tbl := gw_all (by decide +kernel) (by decide +kernel)
theorem gwX5 : ∀ w ∈ u_ws RX5 TX5 7, w ∈ gw_tbl := gw_all (by decide +kernel) (by decide +kernel)
theorem gwX6 : ∀ w ∈ u_ws RX6 TX6 3, w ∈ gw_tbl := gw_all (by decide +kernel) (by decide +kernel)
theorem gwX7 : ∀ w ∈ u_ws RX7 TX7 7, w ∈ gw_tbl := gw_all (by decide +kernel) (by decide +kernel)
theorem gwX8 : ∀ w ∈ u_ws RX8 TX8 3, w ∈ gw_tbl := gw_all (by decide +kernel) (by decide +kernel)
theorem gwX9 : ∀ w ∈ u_ws RX9 TX9 3, w ∈ gw_tbl := gw_all (by decide +kernel) (by decide +kernel)
theorem gwX10 : ∀ w ∈ u_ws RX10 TX10 3, w ∈ gw_tbl := gw_all (by decide +kernel) (by decide +kernel)
theorem gwX11 : ∀ w ∈ u_ws RX11 TX11 9, w ∈ gw_tbl := gw_all (by decide +kernel) (by decide +kernel)
theorem gwX12 : ∀ w ∈ u_ws RX12 TX12 33, w ∈ gw_tbl := gw_all (by decide +kernel) (by decide +kernel)
end
section
def iw (v a b : Int32) : Int32 := if a ≤ v ∧ v ≤ b then 1 else 0
theorem iw_a {v a b : Int32} (h : v < a) : (0 : Int32) = iw v a b := by
  unfold iw; rw [if_neg]; rintro ⟨h1, -⟩; rw [fa_lt] at h; rw [fa_le] at h1; omega
theorem iw_b {v a b : Int32} (h : b < v) : (0 : Int32) = iw v a b := by
  unfold iw; rw [if_neg]; rintro ⟨-, h1⟩; rw [fa_lt] at h; rw [fa_le] at h1; omega
theorem iw_1 {v a b : Int32} (h : ¬ v < a) (h2 : ¬ b < v) : (1 : Int32) = iw v a b := by
  unfold iw; rw [if_pos]; rw [fa_lt] at h h2; constructor <;> rw [fa_le] <;> omega
def il (v a b : Int64) : Int32 := if a ≤ v ∧ v ≤ b then 1 else 0
theorem cmp_lt {x y : Int64} : lg_cmp x y < 0 ↔ x < y := by
  unfold lg_cmp
  split
  · next h => constructor
              · intro q; exact absurd q (by decide)
              · intro q; rw [gt_iff_lt, fa_lt64] at h; rw [fa_lt64] at q; omega
  · next h => split
              · next h2 => subst h2; constructor
                           · intro q; exact absurd q (by decide)
                           · intro q; exact absurd q h
              · next h2 => constructor
                           · intro _; rw [gt_iff_lt, fa_lt64] at h; rw [fa_eq64] at h2; rw [fa_lt64]; omega
                           · intro _; decide
theorem cmp_gt {x y : Int64} : 0 < lg_cmp x y ↔ y < x := by
  unfold lg_cmp
  split
  · next h => exact ⟨fun _ => h, fun _ => by decide⟩
  · next h => split
              · exact ⟨fun q => absurd q (by decide), fun q => absurd q h⟩
              · exact ⟨fun q => absurd q (by decide), fun q => absurd q h⟩
theorem cmp_eq {x y : Int64} : lg_cmp x y = 0 ↔ x = y := by
  unfold lg_cmp
  split
  · next h => exact ⟨fun q => absurd q (by decide), fun q => by subst q; rw [gt_iff_lt, fa_lt64] at h; omega⟩
  · next h => split
              · next h2 => exact ⟨fun _ => h2, fun _ => rfl⟩
              · next h2 => exact ⟨fun q => absurd q (by decide), fun q => absurd q h2⟩
theorem il_a {v a b : Int64} {z : Int32} (e : z = lg_cmp v a) (h : z < 0) : (0 : Int32) = il v a b := by
  rw [e, cmp_lt] at h
  unfold il; rw [if_neg]; rintro ⟨h1, -⟩; rw [fa_lt64] at h; rw [fa_le64] at h1; omega
theorem il_b {v a b : Int64} {z : Int32} (e : z = lg_cmp v b) (h : 0 < z) : (0 : Int32) = il v a b := by
  rw [e, cmp_gt] at h
  unfold il; rw [if_neg]; rintro ⟨-, h1⟩; rw [fa_lt64] at h; rw [fa_le64] at h1; omega
theorem il_1 {v a b : Int64} {z y : Int32} (e : z = lg_cmp v a) (e2 : y = lg_cmp v b) (h : ¬ z < 0) (h2 : ¬ 0 < y) : (1 : Int32) = il v a b := by
  rw [e, cmp_lt] at h; rw [e2, cmp_gt] at h2
  unfold il; rw [if_pos]; rw [fa_lt64] at h h2; constructor <;> rw [fa_le64] <;> omega
theorem il_no {v a b : Int64} (h : ¬ a ≤ b) : il v a b = 0 := by
  unfold il; rw [if_neg]; rintro ⟨h1, h2⟩; rw [fa_le64] at h h1 h2; omega
theorem iw_no {v a b : Int32} (h : ¬ a ≤ b) : iw v a b = 0 := by
  unfold iw; rw [if_neg]; rintro ⟨h1, h2⟩; rw [fa_le] at h h1 h2; omega

set_option maxHeartbeats 4000000 in
set_option maxRecDepth 100000 in
theorem c_isWithin (l : Launch) (v : Int32) (a : Int32) (b : Int32) : Met l yX11_isWithin (Cond.code yX11_isWithin cX11_isWithin 3 (some .boolean) :: gw_tbl) ({ frames := 0, cells := 0, slots := 0, locals := 0 }) (pc_0 [.int v, .int a, .int b]) (vp_Si (fun r => r = iw v a b)) 0 0 (fun _ => False) := by
  refine Met.ofW (cc := cX11_isWithin) (maxL := 3) (ret := (some .boolean)) (by decide) rfl ?_
  intro p e s m args below meth c s₁ B hml hv
  obtain ⟨hargs, -⟩ := hv
  have hx := B.exec
  have hb := B.bytes
  have hr := B.returns
  have hts := atoms_spec (ws := Cond.code yX11_isWithin cX11_isWithin 3 (some .boolean) :: gw_tbl) B.pre
  have hg := fun (w : Cond) (h : w ∈ gw_tbl) => hts w (List.mem_cons_of_mem _ h)
  have hown : s.vm.findClass RX11 = some m.cls := findClass_of_methodNamed B.named
  have hlocks := B.notSynchronized
  have hl := lv_entry ([.int v, .int a, .int b]) (n := 3) (Nat.le_of_ble_eq_true rfl)
  rw [show entryFrame m args 3 = F0 m 0 (lg_sl ([.int v, .int a, .int b]) ++ List.replicate (3 - (lg_sl ([.int v, .int a, .int b])).length) Slot.unset).toArray [] from by rw [hargs]; exact lg_entry_eq ..]
  generalize (lg_sl ([.int v, .int a, .int b]) ++ List.replicate (3 - (lg_sl ([.int v, .int a, .int b])).length) Slot.unset).toArray = ls at hl ⊢
  have hl : lv_has ls 3 [(0, .int v), (1, .int a), (2, .int b)] := hl
  refine W_genQ (fun Q hQ => ?_)
  refine lv_iload_n hx hb dX11_isWithin_0 rfl (lv_at hl 0 rfl) ?_
  refine lv_iload_n hx hb dX11_isWithin_1 rfl (lv_at hl 1 rfl) ?_
  refine lv_icmp_lt (tgt := 14) hx hb dX11_isWithin_2 (by decide) (fun c_2 => ?_) (fun c_2 => ?_)
  · refine lv_iconst (v := 0) hx hb dX11_isWithin_14 (by decide) ?_
    subst hQ
    exact W.zret (v := 0) hx hb hr (by decide) (fun t ht hW => ⟨0, rfl, (iw_a c_2), ht⟩) (fun _ h => absurd h List.not_mem_nil) dX11_isWithin_15
  · refine lv_iload_n hx hb dX11_isWithin_5 rfl (lv_at hl 0 rfl) ?_
    refine lv_iload_n hx hb dX11_isWithin_6 rfl (lv_at hl 2 rfl) ?_
    refine lv_icmp_gt (tgt := 14) hx hb dX11_isWithin_7 (by decide) (fun c_7 => ?_) (fun c_7 => ?_)
    · refine lv_iconst (v := 0) hx hb dX11_isWithin_14 (by decide) ?_
      subst hQ
      exact W.zret (v := 0) hx hb hr (by decide) (fun t ht hW => ⟨0, rfl, (iw_b c_7), ht⟩) (fun _ h => absurd h List.not_mem_nil) dX11_isWithin_15
    · refine lv_iconst (v := 1) hx hb dX11_isWithin_10 (by decide) ?_
      refine lv_goto (tgt := 15) hx hb dX11_isWithin_11 (by decide) ?_
      subst hQ
      exact W.zret (v := 1) hx hb hr (by decide) (fun t ht hW => ⟨1, rfl, (iw_1 c_2 c_7), ht⟩) (fun _ h => absurd h List.not_mem_nil) dX11_isWithin_15

set_option maxHeartbeats 4000000 in
set_option maxRecDepth 100000 in
theorem c_in (l : Launch) (v : Int64) (a : Int64) (b : Int64) : Met l yX12_in (Cond.code yX12_in cX12_in 6 (some .boolean) :: gw_tbl) ({ frames := 0, cells := 0, slots := 0, locals := 0 }) (pc_0 [.long v, .long a, .long b]) (vp_Si (fun r => r = il v a b)) 0 0 (fun _ => False) := by
  refine Met.ofW (cc := cX12_in) (maxL := 6) (ret := (some .boolean)) (by decide) rfl ?_
  intro p e s m args below meth c s₁ B hml hv
  obtain ⟨hargs, -⟩ := hv
  have hx := B.exec
  have hb := B.bytes
  have hr := B.returns
  have hts := atoms_spec (ws := Cond.code yX12_in cX12_in 6 (some .boolean) :: gw_tbl) B.pre
  have hg := fun (w : Cond) (h : w ∈ gw_tbl) => hts w (List.mem_cons_of_mem _ h)
  have hown : s.vm.findClass RX12 = some m.cls := findClass_of_methodNamed B.named
  have hlocks := B.notSynchronized
  have hl := lv_entry ([.long v, .long a, .long b]) (n := 6) (Nat.le_of_ble_eq_true rfl)
  rw [show entryFrame m args 6 = F0 m 0 (lg_sl ([.long v, .long a, .long b]) ++ List.replicate (6 - (lg_sl ([.long v, .long a, .long b])).length) Slot.unset).toArray [] from by rw [hargs]; exact lg_entry_eq ..]
  generalize (lg_sl ([.long v, .long a, .long b]) ++ List.replicate (6 - (lg_sl ([.long v, .long a, .long b])).length) Slot.unset).toArray = ls at hl ⊢
  have hl : lv_has ls 6 [(0, .long v), (2, .long a), (4, .long b)] := hl
  refine W_genQ (fun Q hQ => ?_)
  refine lv_lload_n hx hb dX12_in_0 rfl (lv_at hl 0 rfl) ?_
  refine lv_lload_n hx hb dX12_in_1 rfl (lv_at hl 1 rfl) ?_
  refine W.lcmp hx hb dX12_in_2 ?_
  refine lv_topi (fun z_2 e_2 => ?_)
  refine lv_if_lt (tgt := 17) hx hb dX12_in_3 (by decide) (fun c_3 => ?_) (fun c_3 => ?_)
  · refine lv_iconst (v := 0) hx hb dX12_in_17 (by decide) ?_
    subst hQ
    exact W.zret (v := 0) hx hb hr (by decide) (fun t ht hW => ⟨0, rfl, (il_a e_2 c_3), ht⟩) (fun _ h => absurd h List.not_mem_nil) dX12_in_18
  · refine lv_lload_n hx hb dX12_in_6 rfl (lv_at hl 0 rfl) ?_
    refine lv_lload hx hb dX12_in_7 (lv_at hl 2 rfl) ?_
    refine W.lcmp hx hb dX12_in_9 ?_
    refine lv_topi (fun z_9 e_9 => ?_)
    refine lv_if_gt (tgt := 17) hx hb dX12_in_10 (by decide) (fun c_10 => ?_) (fun c_10 => ?_)
    · refine lv_iconst (v := 0) hx hb dX12_in_17 (by decide) ?_
      subst hQ
      exact W.zret (v := 0) hx hb hr (by decide) (fun t ht hW => ⟨0, rfl, (il_b e_9 c_10), ht⟩) (fun _ h => absurd h List.not_mem_nil) dX12_in_18
    · refine lv_iconst (v := 1) hx hb dX12_in_13 (by decide) ?_
      refine lv_goto (tgt := 18) hx hb dX12_in_14 (by decide) ?_
      subst hQ
      exact W.zret (v := 1) hx hb hr (by decide) (fun t ht hW => ⟨1, rfl, (il_1 e_2 e_9 c_3 c_10), ht⟩) (fun _ h => absurd h List.not_mem_nil) dX12_in_18

/-! ===== lN n to 2^64: shifts, and, or, masks, one bit ===== -/
theorem wb_tb (n : Nat) : (lN n).toBitVec = BitVec.ofNat 64 n := rfl
theorem wb_inj {a b : Int64} (h : a.toBitVec = b.toBitVec) : a = b := Int64.toBitVec_inj.mp h
theorem wb_tn {n : Nat} (h : n < 2 ^ 64) : (lN n).toBitVec.toNat = n := by rw [wb_tb, BitVec.toNat_ofNat, Nat.mod_eq_of_lt h]
theorem wb_of (x : Int64) : ∃ n, n < 2 ^ 64 ∧ x = lN n := ⟨x.toBitVec.toNat, x.toBitVec.isLt, wb_inj (by rw [wb_tb]; simp)⟩
theorem wb_of32 (x : Int32) : ∃ n, n < 2 ^ 32 ∧ x = nI n := ⟨x.toBitVec.toNat, x.toBitVec.isLt, Int32.toBitVec_inj.mp (by show _ = BitVec.ofNat 32 _; simp)⟩
theorem wb_c : ∀ k, k < 64 → ((nI k).toInt64 &&& 63) = lN k := by decide +kernel
theorem wb_cu : ∀ k, k < 64 → ((nI k).toInt64.toUInt64 &&& Int64.toUInt64 63) = UInt64.ofNat k := by decide +kernel
theorem wb_sm : ∀ k, k < 64 → (BitVec.ofNat 64 k).smod 64 = BitVec.ofNat 64 k := by decide +kernel
theorem wb_pw {a b : Nat} (h : a ≤ b) : 2 ^ b = 2 ^ a * 2 ^ (b - a) := by rw [← Nat.pow_add]; congr 1; omega
theorem wb_lt2 {a b : Nat} (h : a < b) : 2 ^ a < 2 ^ b := Nat.pow_lt_pow_right (by decide) h
theorem wb_mod (n : Nat) : lN n = lN (n % 2 ^ 64) := wb_inj (by rw [wb_tb, wb_tb]; apply BitVec.eq_of_toNat_eq; rw [BitVec.toNat_ofNat, BitVec.toNat_ofNat, Nat.mod_mod])
theorem wb_shr {n k : Nat} (hn : n < 2 ^ 64) (hk : k < 64) : ((lN n).toUInt64 >>> ((nI k).toInt64.toUInt64 &&& Int64.toUInt64 63)).toInt64 = lN (n / 2 ^ k) := by
  rw [wb_cu k hk]
  apply wb_inj
  apply BitVec.eq_of_toNat_eq
  show ((lN n).toUInt64 >>> UInt64.ofNat k).toNat = (BitVec.ofNat 64 _).toNat
  have h1 : (UInt64.ofNat k).toNat = k := by
    show (BitVec.ofNat 64 k).toNat = k
    rw [BitVec.toNat_ofNat, Nat.mod_eq_of_lt (by omega)]
  have h2 : (lN n).toUInt64.toNat = n := wb_tn hn
  rw [UInt64.toNat_shiftRight, h1, h2, Nat.mod_eq_of_lt hk, Nat.shiftRight_eq_div_pow, BitVec.toNat_ofNat, Nat.mod_eq_of_lt (Nat.lt_of_le_of_lt (Nat.div_le_self _ _) hn)]
theorem wb_shl (n : Nat) {k : Nat} (hk : k < 64) : lN n <<< ((nI k).toInt64 &&& 63) = lN (n * 2 ^ k) := by
  rw [wb_c k hk]
  apply wb_inj
  rw [Int64.toBitVec_shiftLeft, wb_tb, wb_tb, wb_tb, wb_sm k hk]
  apply BitVec.eq_of_toNat_eq
  rw [BitVec.shiftLeft_eq', BitVec.toNat_shiftLeft, BitVec.toNat_ofNat, BitVec.toNat_ofNat, BitVec.toNat_ofNat, Nat.mod_eq_of_lt (show k < 2 ^ 64 by omega), Nat.shiftLeft_eq, Nat.mul_mod, Nat.mod_mod, ← Nat.mul_mod]
theorem wb_and {a b : Nat} (ha : a < 2 ^ 64) (hb : b < 2 ^ 64) : lN a &&& lN b = lN (a &&& b) := by
  apply wb_inj
  rw [Int64.toBitVec_and, wb_tb, wb_tb, wb_tb]
  apply BitVec.eq_of_toNat_eq
  rw [BitVec.toNat_and, BitVec.toNat_ofNat, BitVec.toNat_ofNat, BitVec.toNat_ofNat, Nat.mod_eq_of_lt ha, Nat.mod_eq_of_lt hb, Nat.mod_eq_of_lt (Nat.and_lt_two_pow _ hb)]
theorem wb_or {a b : Nat} (ha : a < 2 ^ 64) (hb : b < 2 ^ 64) : lN a ||| lN b = lN (a ||| b) := by
  apply wb_inj
  rw [Int64.toBitVec_or, wb_tb, wb_tb, wb_tb]
  apply BitVec.eq_of_toNat_eq
  rw [BitVec.toNat_or, BitVec.toNat_ofNat, BitVec.toNat_ofNat, BitVec.toNat_ofNat, Nat.mod_eq_of_lt ha, Nat.mod_eq_of_lt hb, Nat.mod_eq_of_lt (Nat.or_lt_two_pow ha hb)]
theorem wb_mask {n k : Nat} (hn : n < 2 ^ 64) (hk : k < 64) : lN n &&& lN (2 ^ k - 1) = lN (n % 2 ^ k) := by
  rw [wb_and hn (by have := wb_lt2 hk; omega), Nat.and_two_pow_sub_one_eq_mod]
theorem wb_a1 {n : Nat} (hn : n < 2 ^ 64) : lN n &&& 1 = lN (n % 2) := wb_mask (k := 1) hn (by decide)
theorem wb_bit {n k : Nat} (hn : n < 2 ^ 64) (hk : k < 64) : ((lN n).toUInt64 >>> ((nI k).toInt64.toUInt64 &&& Int64.toUInt64 63)).toInt64 &&& 1 = lN (n / 2 ^ k % 2) := by
  rw [wb_shr hn hk, wb_a1 (Nat.lt_of_le_of_lt (Nat.div_le_self _ _) hn)]
theorem wb_xor {q k : Nat} (hk : k < 63) (h : 2 ^ k ≤ q) (h2 : q < 2 ^ (k + 1)) : lN q ^^^ lN (2 ^ k) = lN (q - 2 ^ k) := by
  obtain ⟨r, rfl⟩ : ∃ r, q = 2 ^ k + r := ⟨q - 2 ^ k, by omega⟩
  have hr : r < 2 ^ k := by rw [Nat.pow_succ] at h2; omega
  have hx : (2 ^ k + r) ^^^ 2 ^ k = r := by
    apply Nat.eq_of_testBit_eq
    intro i
    rw [Nat.testBit_xor, Nat.testBit_two_pow]
    rcases Nat.lt_trichotomy i k with h | h | h
    · rw [Nat.testBit_two_pow_add_gt h]
      simp [show ¬ k = i by omega]
    · subst h
      rw [Nat.testBit_two_pow_add_eq]
      simp
    · have a1 : 2 ^ (k + 1) ≤ 2 ^ i := Nat.pow_le_pow_right (by decide) h
      rw [Nat.testBit_lt_two_pow (show 2 ^ k + r < 2 ^ i by omega), Nat.testBit_lt_two_pow (show r < 2 ^ i by omega)]
      simp [show ¬ k = i by omega]
  have b1 := wb_lt2 (show k + 1 < 64 by omega)
  have b2 := wb_lt2 (show k < 64 by omega)
  apply wb_inj
  rw [Int64.toBitVec_xor, wb_tb, wb_tb, wb_tb]
  apply BitVec.eq_of_toNat_eq
  rw [BitVec.toNat_xor, BitVec.toNat_ofNat, BitVec.toNat_ofNat, BitVec.toNat_ofNat, Nat.mod_eq_of_lt (by omega : 2 ^ k + r < 2 ^ 64), Nat.mod_eq_of_lt b2, hx, Nat.add_sub_cancel_left, Nat.mod_eq_of_lt (by omega)]

theorem neg0 {v : Int32} {P : Prop} (h : ¬ v < 0) (h2 : ¬ 0 ≤ v) : P := by
  rw [fa_lt] at h; rw [fa_le] at h2; omega
def cntf (x : Int32) : Int32 := if x.toInt < 0 ∨ 5 < x.toInt then -102 else 0
theorem tw_5 {x : Int32} (h : ¬ (x.toInt < 0 ∨ 5 < x.toInt)) : x = 0 ∨ x = 1 ∨ x = 2 ∨ x = 3 ∨ x = 4 ∨ x = 5 := by
  have e0 : (0 : Int32).toInt = 0 := rfl
  have e1 : (1 : Int32).toInt = 1 := rfl
  have e2 : (2 : Int32).toInt = 2 := rfl
  have e3 : (3 : Int32).toInt = 3 := rfl
  have e4 : (4 : Int32).toInt = 4 := rfl
  have e5 : (5 : Int32).toInt = 5 := rfl
  simp only [fa_eq, e0, e1, e2, e3, e4, e5]
  omega
theorem and255 (m : Nat) : nI m &&& 255 = nI (m % 256) := by
  have h := pk_and (nI m) (m := 255) 8 rfl
  rw [h]
  congr 1
  have e : (nI m).toBitVec.toNat = m % 2 ^ 32 := by
    show (BitVec.ofNat 32 m).toNat = _
    exact BitVec.toNat_ofNat ..
  rw [e]
  omega
def by8 (n k : Nat) : Int32 := nI (n / 2 ^ (8 * k) % 256)
theorem ca_eq {n k : Nat} (hn : n < 2 ^ 64) (hk : k < 8) {z4 z6 z10 : Int32} {z5 : Int64} (e4 : z4 = 8 * nI k) (e5 : z5 = ((lN n).toUInt64 >>> (z4.toInt64.toUInt64 &&& Int64.toUInt64 63)).toInt64) (e6 : z6 = z5.toInt32) (e10 : z10 = z6 &&& 255) : z10 = by8 n k := by
  have h8 : (8 : Int32) * nI k = nI (8 * k) := pk_mul 8 k
  rw [e10, e6, e5, e4, h8, wb_shr hn (by omega), lN_i, and255]
  rfl
theorem ma_eq {n k : Nat} (hn : n < 2 ^ 64) {z : Int64} {y : Int32} (e : z = lN (n / 2 ^ (8 * k)) &&& 255) (e2 : y = z.toInt32) : y = by8 n k := by
  have hlt : n / 2 ^ (8 * k) < 2 ^ 64 := Nat.lt_of_le_of_lt (Nat.div_le_self _ _) hn
  have h := wb_mask (n := n / 2 ^ (8 * k)) (k := 8) hlt (by decide)
  have h2 : (255 : Int64) = lN (2 ^ 8 - 1) := rfl
  rw [e2, e, h2, h, lN_i]
  rfl
theorem ms_eq {n k : Nat} (hn : n < 2 ^ 64) {z : Int64} (e : z = ((lN (n / 2 ^ (8 * k))).toUInt64 >>> ((8 : Int32).toInt64.toUInt64 &&& Int64.toUInt64 63)).toInt64) : z = lN (n / 2 ^ (8 * (k + 1))) := by
  have hlt : n / 2 ^ (8 * k) < 2 ^ 64 := Nat.lt_of_le_of_lt (Nat.div_le_self _ _) hn
  have h := wb_shr (n := n / 2 ^ (8 * k)) (k := 8) hlt (by decide)
  have h2 : (8 : Int32) = nI 8 := rfl
  rw [e, h2, h, Nat.div_div_eq_div_mul, ← Nat.pow_add]
  rfl
theorem by8_j (n k : Nat) : ∃ j : Nat, j < 256 ∧ by8 n k = nI j := ⟨_, Nat.mod_lt _ (by decide), rfl⟩
theorem by8_pos (n k : Nat) : 0 < by8 n k ↔ ¬ by8 n k = 0 := by
  obtain ⟨j, hj, e⟩ := by8_j n k
  rw [e, show (0 : Int32) = nI 0 from rfl, nI_ltI (by omega) (by omega), nI_eq (by omega) (by omega)]
  omega
def tb_go (n : Nat) : Nat → Nat → Int32 → Int32 → Int32
  | 0, _, t, _ => t
  | f + 1, k, t, en => if 126 < by8 n k ∨ (¬ en = 0 ∧ ¬ by8 n k = 0) then -1 else if by8 n k = 0 then tb_go n f (k + 1) t 1 else tb_go n f (k + 1) (t + 1) en
def sp_told (n : Nat) : Int32 := tb_go n 8 0 0 0
theorem tb_x {n k : Nat} {t en : Int32} (hk : k < 8) : tb_go n (8 - k) k t en = if 126 < by8 n k ∨ (¬ en = 0 ∧ ¬ by8 n k = 0) then -1 else if by8 n k = 0 then tb_go n (8 - (k + 1)) (k + 1) t 1 else tb_go n (8 - (k + 1)) (k + 1) (t + 1) en := by
  obtain ⟨f, hf⟩ : ∃ f, 8 - k = f + 1 := ⟨8 - k - 1, by omega⟩
  rw [hf, show 8 - (k + 1) = f by omega]
  rfl
theorem tb_e {n k : Nat} {t en : Int32} (hk : ¬ k < 8) : tb_go n (8 - k) k t en = t := by
  rw [show 8 - k = 0 by omega]
  rfl
def ml_go (n : Nat) : Nat → Nat → Int32 → Int32 → Int32 × Int32
  | 0, _, g, m => (g, m)
  | f + 1, k, g, m => ml_go n f (k + 1) (if ¬ g = 0 ∧ by8 n k ≤ 126 ∧ (by8 n k = 0 ∨ m = nI k) then 1 else 0) (m + if 0 < by8 n k then 1 else 0)
theorem ml_x {n k : Nat} {g m : Int32} (hk : k < 8) : ml_go n (8 - k) k g m = ml_go n (8 - (k + 1)) (k + 1) (if ¬ g = 0 ∧ by8 n k ≤ 126 ∧ (by8 n k = 0 ∨ m = nI k) then 1 else 0) (m + if 0 < by8 n k then 1 else 0) := by
  obtain ⟨f, hf⟩ : ∃ f, 8 - k = f + 1 := ⟨8 - k - 1, by omega⟩
  rw [hf, show 8 - (k + 1) = f by omega]
  rfl
theorem ml_e {n k : Nat} {g m : Int32} (hk : ¬ k < 8) : ml_go n (8 - k) k g m = (g, m) := by
  rw [show 8 - k = 0 by omega]
  rfl
theorem ml_zero (n : Nat) : ∀ (f k : Nat) (m : Int32), (ml_go n f k 0 m).1 = 0
  | 0, _, _ => rfl
  | f + 1, k, m => by
    show (ml_go n f (k + 1) (if ¬ (0 : Int32) = 0 ∧ by8 n k ≤ 126 ∧ (by8 n k = 0 ∨ m = nI k) then 1 else 0) _).1 = 0
    rw [if_neg (fun h => h.1 rfl)]
    exact ml_zero n f (k + 1) _
theorem ml_tb (n : Nat) : ∀ (f k mm : Nat), mm ≤ k → k + f ≤ 8 → tb_go n f k (nI mm) (if mm = k then 0 else 1) = (if (ml_go n f k 1 (nI mm)).1 = 0 then -1 else (ml_go n f k 1 (nI mm)).2) ∧ ((ml_go n f k 1 (nI mm)).1 = 0 ∨ ∃ t : Nat, t ≤ k + f ∧ (ml_go n f k 1 (nI mm)).2 = nI t)
  | 0, k, mm, h, _ => ⟨(if_neg (show ¬ (ml_go n 0 k 1 (nI mm)).1 = 0 from (by decide : ¬ (1 : Int32) = 0))).symm, Or.inr ⟨mm, by omega, rfl⟩⟩
  | f + 1, k, mm, h, h8 => by
    have hm : nI mm = nI k ↔ mm = k := nI_eq (by omega) (by omega)
    have hx : tb_go n (f + 1) k (nI mm) (if mm = k then 0 else 1) = if 126 < by8 n k ∨ (¬ (if mm = k then (0 : Int32) else 1) = 0 ∧ ¬ by8 n k = 0) then -1 else if by8 n k = 0 then tb_go n f (k + 1) (nI mm) 1 else tb_go n f (k + 1) (nI mm + 1) (if mm = k then 0 else 1) := rfl
    have hy : ml_go n (f + 1) k 1 (nI mm) = ml_go n f (k + 1) (if ¬ (1 : Int32) = 0 ∧ by8 n k ≤ 126 ∧ (by8 n k = 0 ∨ nI mm = nI k) then 1 else 0) (nI mm + if 0 < by8 n k then 1 else 0) := rfl
    rw [hx, hy]
    clear hx hy
    have h1 : ¬ (1 : Int32) = 0 := by decide
    have hle : by8 n k ≤ 126 ↔ ¬ 126 < by8 n k := by rw [fa_le, fa_lt]; omega
    have hen : (¬ (if mm = k then (0 : Int32) else 1) = 0) ↔ ¬ mm = k := by
      by_cases q : mm = k
      · rw [if_pos q]; exact ⟨fun c => absurd rfl c, fun c => absurd q c⟩
      · rw [if_neg q]; exact ⟨fun _ => q, fun _ => h1⟩
    by_cases hb : 126 < by8 n k
    · have hg : (if ¬ (1 : Int32) = 0 ∧ by8 n k ≤ 126 ∧ (by8 n k = 0 ∨ nI mm = nI k) then (1 : Int32) else 0) = 0 := if_neg (fun c => (hle.mp c.2.1) hb)
      have hl : (if 126 < by8 n k ∨ (¬ (if mm = k then (0 : Int32) else 1) = 0 ∧ ¬ by8 n k = 0) then (-1 : Int32) else if by8 n k = 0 then tb_go n f (k + 1) (nI mm) 1 else tb_go n f (k + 1) (nI mm + 1) (if mm = k then 0 else 1)) = -1 := if_pos (Or.inl hb)
      rw [hg, hl]
      exact ⟨(if_pos (ml_zero n f _ _)).symm, Or.inl (ml_zero n f _ _)⟩
    · by_cases h0 : by8 n k = 0
      · have hg : (if ¬ (1 : Int32) = 0 ∧ by8 n k ≤ 126 ∧ (by8 n k = 0 ∨ nI mm = nI k) then (1 : Int32) else 0) = 1 := if_pos ⟨h1, hle.mpr hb, Or.inl h0⟩
        have hp : (nI mm + if 0 < by8 n k then (1 : Int32) else 0) = nI mm := by
          rw [if_neg (fun c => ((by8_pos n k).mp c) h0), show (0 : Int32) = nI 0 from rfl, nI_add]; rfl
        have hl : (if 126 < by8 n k ∨ (¬ (if mm = k then (0 : Int32) else 1) = 0 ∧ ¬ by8 n k = 0) then (-1 : Int32) else if by8 n k = 0 then tb_go n f (k + 1) (nI mm) 1 else tb_go n f (k + 1) (nI mm + 1) (if mm = k then 0 else 1)) = tb_go n f (k + 1) (nI mm) 1 := (if_neg (fun c => c.elim hb (fun c => c.2 h0))).trans (if_pos h0)
        rw [hg, hp, hl]
        have ih := ml_tb n f (k + 1) mm (by omega) (by omega)
        rw [if_neg (show ¬ mm = k + 1 by omega)] at ih
        exact ⟨ih.1, ih.2.imp id (fun ⟨t, a, b⟩ => ⟨t, by omega, b⟩)⟩
      · by_cases hq : mm = k
        · have hg : (if ¬ (1 : Int32) = 0 ∧ by8 n k ≤ 126 ∧ (by8 n k = 0 ∨ nI mm = nI k) then (1 : Int32) else 0) = 1 := if_pos ⟨h1, hle.mpr hb, Or.inr (hm.mpr hq)⟩
          have hp : (nI mm + if 0 < by8 n k then (1 : Int32) else 0) = nI (mm + 1) := by
            rw [if_pos ((by8_pos n k).mpr h0), nI_1]
          have hl : (if 126 < by8 n k ∨ (¬ (if mm = k then (0 : Int32) else 1) = 0 ∧ ¬ by8 n k = 0) then (-1 : Int32) else if by8 n k = 0 then tb_go n f (k + 1) (nI mm) 1 else tb_go n f (k + 1) (nI mm + 1) (if mm = k then 0 else 1)) = tb_go n f (k + 1) (nI (mm + 1)) 0 := by
            refine (if_neg (fun c => c.elim hb (fun c => (hen.mp c.1) hq))).trans ((if_neg h0).trans ?_)
            rw [if_pos hq, nI_1]
          rw [hg, hp, hl]
          have ih := ml_tb n f (k + 1) (mm + 1) (by omega) (by omega)
          rw [if_pos (show mm + 1 = k + 1 by omega)] at ih
          exact ⟨ih.1, ih.2.imp id (fun ⟨t, a, b⟩ => ⟨t, by omega, b⟩)⟩
        · have hg : (if ¬ (1 : Int32) = 0 ∧ by8 n k ≤ 126 ∧ (by8 n k = 0 ∨ nI mm = nI k) then (1 : Int32) else 0) = 0 := if_neg (fun c => c.2.2.elim h0 (fun c => hq (hm.mp c)))
          have hl : (if 126 < by8 n k ∨ (¬ (if mm = k then (0 : Int32) else 1) = 0 ∧ ¬ by8 n k = 0) then (-1 : Int32) else if by8 n k = 0 then tb_go n f (k + 1) (nI mm) 1 else tb_go n f (k + 1) (nI mm + 1) (if mm = k then 0 else 1)) = -1 := if_pos (Or.inr ⟨hen.mpr hq, h0⟩)
          rw [hg, hl]
          exact ⟨(if_pos (ml_zero n f _ _)).symm, Or.inl (ml_zero n f _ _)⟩
def sp_let (n : Nat) : Int32 := if sp_told n = -1 then -102 else sp_told n
theorem sp_ml (n : Nat) : sp_told n = (if (ml_go n 8 0 1 0).1 = 0 then -1 else (ml_go n 8 0 1 0).2) := (ml_tb n 8 0 0 (by omega) (by omega)).1
theorem ml_rng (n : Nat) : (ml_go n 8 0 1 0).1 = 0 ∨ ∃ t : Nat, t ≤ 8 ∧ (ml_go n 8 0 1 0).2 = nI t := (ml_tb n 8 0 0 (by omega) (by omega)).2
theorem nI_m1 {t : Nat} (h : t ≤ 8) : ¬ nI t = -1 := by
  intro c
  have e := congrArg Int32.toInt c
  rw [nI_toInt (by omega)] at e
  have e2 : (-1 : Int32).toInt = -1 := rfl
  omega
theorem sp_rng {n : Nat} (h : ¬ sp_told n = -1) : ∃ t : Nat, t ≤ 8 ∧ sp_told n = nI t ∧ nI t = sp_let n := by
  rw [sp_ml] at h
  by_cases c : (ml_go n 8 0 1 0).1 = 0
  · rw [if_pos c] at h; exact absurd rfl h
  · obtain ⟨t, ht, e⟩ := (ml_rng n).resolve_left c
    have e1 : sp_told n = nI t := by rw [sp_ml, if_neg c, e]
    exact ⟨t, ht, e1, by unfold sp_let; rw [e1, if_neg (nI_m1 ht)]⟩
theorem ml_bad {n : Nat} (c : (ml_go n 8 0 1 0).1 = 0) : (-102 : Int32) = sp_let n := by
  unfold sp_let; rw [sp_ml, if_pos c, if_pos rfl]
theorem ml_fine {n : Nat} (c : ¬ (ml_go n 8 0 1 0).1 = 0) : ∃ t : Nat, t ≤ 8 ∧ (ml_go n 8 0 1 0).2 = nI t ∧ nI t = sp_let n := by
  obtain ⟨t, ht, e⟩ := (ml_rng n).resolve_left c
  exact ⟨t, ht, e, by unfold sp_let; rw [sp_ml, if_neg c, e, if_neg (nI_m1 ht)]⟩
theorem sp_bad {n : Nat} {r : Int32} (e : r = sp_told n) (c : r = -1) : (-102 : Int32) = sp_let n := by
  unfold sp_let; rw [← e, if_pos c]
theorem le90 {t : Nat} (h : t ≤ 8) {z : Int32} (e : z = 0 + nI t) : z ≤ 90 := by
  rw [e, show (0 : Int32) = nI 0 from rfl, nI_add, show (90 : Int32) = nI 90 from rfl, nI_leI (by omega) (by omega)]
  omega
end
