section
-- ===== PART A: goes FIRST, ahead of the names: the tables' words, and 'selects' of the private methods out of them =====
/-- a private method of a class that the tables say can be made, by its rows of tables_1 -/
def lw_okq (q : MethodName × Nat) : Prop := (q.1.cls ≠ "java/lang/invoke/MethodHandle" ∧ q.1.cls ≠ "java/lang/invoke/VarHandle") ∧ Cond.instantiable q.1.cls q.2 ∈ tables_1 ∧ Cond.privateMethod q.1 ∈ tables_1 ∧ Cond.instanceMethod q.1 ∈ tables_1
theorem lw_p0 : lw_okq (⟨"ClubSmoke", "renewed", "(LClubSmoke$Row;III)I"⟩, 13) := ⟨⟨by decide +kernel, by decide +kernel⟩, List.mem_of_getElem? (i := 14) (by decide +kernel), List.mem_of_getElem? (i := 172) (by decide +kernel), List.mem_of_getElem? (i := 173) (by decide +kernel)⟩
theorem lw_p1 : lw_okq (⟨"ClubSmoke", "found", "(I)I"⟩, 13) := ⟨⟨by decide +kernel, by decide +kernel⟩, List.mem_of_getElem? (i := 14) (by decide +kernel), List.mem_of_getElem? (i := 176) (by decide +kernel), List.mem_of_getElem? (i := 177) (by decide +kernel)⟩
theorem lw_p2 : lw_okq (⟨"ClubSmoke", "refusedPlace", "(LClubSmoke$Row;I)I"⟩, 13) := ⟨⟨by decide +kernel, by decide +kernel⟩, List.mem_of_getElem? (i := 14) (by decide +kernel), List.mem_of_getElem? (i := 191) (by decide +kernel), List.mem_of_getElem? (i := 192) (by decide +kernel)⟩
theorem lw_p3 : lw_okq (⟨"ClubSmoke", "memberFact", "(II)I"⟩, 13) := ⟨⟨by decide +kernel, by decide +kernel⟩, List.mem_of_getElem? (i := 14) (by decide +kernel), List.mem_of_getElem? (i := 295) (by decide +kernel), List.mem_of_getElem? (i := 296) (by decide +kernel)⟩
theorem lw_p4 : lw_okq (⟨"ClubSmoke$Club", "behind", "(I)I"⟩, 10) := ⟨⟨by decide +kernel, by decide +kernel⟩, List.mem_of_getElem? (i := 44) (by decide +kernel), List.mem_of_getElem? (i := 310) (by decide +kernel), List.mem_of_getElem? (i := 311) (by decide +kernel)⟩
theorem lw_p5 : lw_okq (⟨"ClubSmoke$Club", "ahead", "(I)I"⟩, 10) := ⟨⟨by decide +kernel, by decide +kernel⟩, List.mem_of_getElem? (i := 44) (by decide +kernel), List.mem_of_getElem? (i := 314) (by decide +kernel), List.mem_of_getElem? (i := 315) (by decide +kernel)⟩
theorem lw_p6 : lw_okq (⟨"ClubSmoke", "perform", "(III)I"⟩, 13) := ⟨⟨by decide +kernel, by decide +kernel⟩, List.mem_of_getElem? (i := 14) (by decide +kernel), List.mem_of_getElem? (i := 356) (by decide +kernel), List.mem_of_getElem? (i := 357) (by decide +kernel)⟩
theorem lw_p7 : lw_okq (⟨"ClubSmoke", "enact", "(III)I"⟩, 13) := ⟨⟨by decide +kernel, by decide +kernel⟩, List.mem_of_getElem? (i := 14) (by decide +kernel), List.mem_of_getElem? (i := 364) (by decide +kernel), List.mem_of_getElem? (i := 365) (by decide +kernel)⟩
theorem lw_p8 : lw_okq (⟨"ClubSmoke", "relive", "()V"⟩, 13) := ⟨⟨by decide +kernel, by decide +kernel⟩, List.mem_of_getElem? (i := 14) (by decide +kernel), List.mem_of_getElem? (i := 425) (by decide +kernel), List.mem_of_getElem? (i := 426) (by decide +kernel)⟩
theorem lw_p9 : lw_okq (⟨"ClubSmoke", "lineBreath", "(II)I"⟩, 13) := ⟨⟨by decide +kernel, by decide +kernel⟩, List.mem_of_getElem? (i := 14) (by decide +kernel), List.mem_of_getElem? (i := 505) (by decide +kernel), List.mem_of_getElem? (i := 506) (by decide +kernel)⟩
theorem lw_p10 : lw_okq (⟨"ClubSmoke", "writeLine", "(LClubSmoke$Row;II)V"⟩, 13) := ⟨⟨by decide +kernel, by decide +kernel⟩, List.mem_of_getElem? (i := 14) (by decide +kernel), List.mem_of_getElem? (i := 509) (by decide +kernel), List.mem_of_getElem? (i := 510) (by decide +kernel)⟩
theorem lw_p11 : lw_okq (⟨"ClubSmoke", "refusedSets", "(II)I"⟩, 13) := ⟨⟨by decide +kernel, by decide +kernel⟩, List.mem_of_getElem? (i := 14) (by decide +kernel), List.mem_of_getElem? (i := 517) (by decide +kernel), List.mem_of_getElem? (i := 518) (by decide +kernel)⟩
theorem lw_p12 : lw_okq (⟨"ClubSmoke", "weighBreaths", "(I)V"⟩, 13) := ⟨⟨by decide +kernel, by decide +kernel⟩, List.mem_of_getElem? (i := 14) (by decide +kernel), List.mem_of_getElem? (i := 521) (by decide +kernel), List.mem_of_getElem? (i := 522) (by decide +kernel)⟩
theorem lw_p13 : lw_okq (⟨"ClubSmoke", "setsWith", "(II)I"⟩, 13) := ⟨⟨by decide +kernel, by decide +kernel⟩, List.mem_of_getElem? (i := 14) (by decide +kernel), List.mem_of_getElem? (i := 525) (by decide +kernel), List.mem_of_getElem? (i := 526) (by decide +kernel)⟩
theorem lw_p14 : lw_okq (⟨"ClubSmoke", "setBreath", "(I)I"⟩, 13) := ⟨⟨by decide +kernel, by decide +kernel⟩, List.mem_of_getElem? (i := 14) (by decide +kernel), List.mem_of_getElem? (i := 529) (by decide +kernel), List.mem_of_getElem? (i := 530) (by decide +kernel)⟩
theorem lw_p15 : lw_okq (⟨"ClubSmoke", "tell", "(JJ)V"⟩, 13) := ⟨⟨by decide +kernel, by decide +kernel⟩, List.mem_of_getElem? (i := 14) (by decide +kernel), List.mem_of_getElem? (i := 533) (by decide +kernel), List.mem_of_getElem? (i := 534) (by decide +kernel)⟩
def lw_privs_1 : List (MethodName × Nat) := [(⟨"ClubSmoke", "renewed", "(LClubSmoke$Row;III)I"⟩, 13), (⟨"ClubSmoke", "found", "(I)I"⟩, 13), (⟨"ClubSmoke", "refusedPlace", "(LClubSmoke$Row;I)I"⟩, 13), (⟨"ClubSmoke", "memberFact", "(II)I"⟩, 13), (⟨"ClubSmoke$Club", "behind", "(I)I"⟩, 10), (⟨"ClubSmoke$Club", "ahead", "(I)I"⟩, 10), (⟨"ClubSmoke", "perform", "(III)I"⟩, 13), (⟨"ClubSmoke", "enact", "(III)I"⟩, 13), (⟨"ClubSmoke", "relive", "()V"⟩, 13), (⟨"ClubSmoke", "lineBreath", "(II)I"⟩, 13), (⟨"ClubSmoke", "writeLine", "(LClubSmoke$Row;II)V"⟩, 13), (⟨"ClubSmoke", "refusedSets", "(II)I"⟩, 13), (⟨"ClubSmoke", "weighBreaths", "(I)V"⟩, 13), (⟨"ClubSmoke", "setsWith", "(II)I"⟩, 13), (⟨"ClubSmoke", "setBreath", "(I)I"⟩, 13), (⟨"ClubSmoke", "tell", "(JJ)V"⟩, 13)]
theorem lw_r1 : ∀ q ∈ lw_privs_1, lw_okq q := List.forall_mem_cons.mpr ⟨lw_p0, List.forall_mem_cons.mpr ⟨lw_p1, List.forall_mem_cons.mpr ⟨lw_p2, List.forall_mem_cons.mpr ⟨lw_p3, List.forall_mem_cons.mpr ⟨lw_p4, List.forall_mem_cons.mpr ⟨lw_p5, List.forall_mem_cons.mpr ⟨lw_p6, List.forall_mem_cons.mpr ⟨lw_p7, List.forall_mem_cons.mpr ⟨lw_p8, List.forall_mem_cons.mpr ⟨lw_p9, List.forall_mem_cons.mpr ⟨lw_p10, List.forall_mem_cons.mpr ⟨lw_p11, List.forall_mem_cons.mpr ⟨lw_p12, List.forall_mem_cons.mpr ⟨lw_p13, List.forall_mem_cons.mpr ⟨lw_p14, List.forall_mem_cons.mpr ⟨lw_p15, fun _ h => absurd h List.not_mem_nil⟩⟩⟩⟩⟩⟩⟩⟩⟩⟩⟩⟩⟩⟩⟩⟩
theorem lw_p16 : lw_okq (⟨"ClubSmoke", "firstSet", "(I)I"⟩, 13) := ⟨⟨by decide +kernel, by decide +kernel⟩, List.mem_of_getElem? (i := 14) (by decide +kernel), List.mem_of_getElem? (i := 540) (by decide +kernel), List.mem_of_getElem? (i := 541) (by decide +kernel)⟩
theorem lw_p17 : lw_okq (⟨"ClubSmoke", "refusedNotes", "(LClubSmoke$Row;)I"⟩, 13) := ⟨⟨by decide +kernel, by decide +kernel⟩, List.mem_of_getElem? (i := 14) (by decide +kernel), List.mem_of_getElem? (i := 557) (by decide +kernel), List.mem_of_getElem? (i := 558) (by decide +kernel)⟩
theorem lw_p18 : lw_okq (⟨"ClubSmoke$Turns", "mostByTalk", "(LClubSmoke$Club;III)I"⟩, 1) := ⟨⟨by decide +kernel, by decide +kernel⟩, List.mem_of_getElem? (i := 112) (by decide +kernel), List.mem_of_getElem? (i := 607) (by decide +kernel), List.mem_of_getElem? (i := 608) (by decide +kernel)⟩
theorem lw_p19 : lw_okq (⟨"ClubSmoke$Turns", "takeAir", "(I)V"⟩, 1) := ⟨⟨by decide +kernel, by decide +kernel⟩, List.mem_of_getElem? (i := 112) (by decide +kernel), List.mem_of_getElem? (i := 612) (by decide +kernel), List.mem_of_getElem? (i := 613) (by decide +kernel)⟩
theorem lw_p20 : lw_okq (⟨"ClubSmoke$Turns", "leastByWindow", "(LClubSmoke$Club;III)I"⟩, 1) := ⟨⟨by decide +kernel, by decide +kernel⟩, List.mem_of_getElem? (i := 112) (by decide +kernel), List.mem_of_getElem? (i := 617) (by decide +kernel), List.mem_of_getElem? (i := 618) (by decide +kernel)⟩
theorem lw_p21 : lw_okq (⟨"ClubSmoke", "tellWorth", "(II)V"⟩, 13) := ⟨⟨by decide +kernel, by decide +kernel⟩, List.mem_of_getElem? (i := 14) (by decide +kernel), List.mem_of_getElem? (i := 635) (by decide +kernel), List.mem_of_getElem? (i := 636) (by decide +kernel)⟩
theorem lw_p22 : lw_okq (⟨"ClubSmoke", "performLot", "(I)V"⟩, 13) := ⟨⟨by decide +kernel, by decide +kernel⟩, List.mem_of_getElem? (i := 14) (by decide +kernel), List.mem_of_getElem? (i := 651) (by decide +kernel), List.mem_of_getElem? (i := 652) (by decide +kernel)⟩
theorem lw_p23 : lw_okq (⟨"ClubSmoke", "keptClubs", "()I"⟩, 13) := ⟨⟨by decide +kernel, by decide +kernel⟩, List.mem_of_getElem? (i := 14) (by decide +kernel), List.mem_of_getElem? (i := 681) (by decide +kernel), List.mem_of_getElem? (i := 682) (by decide +kernel)⟩
theorem lw_p24 : lw_okq (⟨"ClubSmokeModel", "finds", "(I)I"⟩, 28) := ⟨⟨by decide +kernel, by decide +kernel⟩, List.mem_of_getElem? (i := 703) (by decide +kernel), List.mem_of_getElem? (i := 801) (by decide +kernel), List.mem_of_getElem? (i := 802) (by decide +kernel)⟩
theorem lw_p25 : lw_okq (⟨"ClubSmokeModel", "wrongAt", "(II)I"⟩, 28) := ⟨⟨by decide +kernel, by decide +kernel⟩, List.mem_of_getElem? (i := 703) (by decide +kernel), List.mem_of_getElem? (i := 809) (by decide +kernel), List.mem_of_getElem? (i := 810) (by decide +kernel)⟩
theorem lw_p26 : lw_okq (⟨"ClubSmokeModel", "tells", "(I)I"⟩, 28) := ⟨⟨by decide +kernel, by decide +kernel⟩, List.mem_of_getElem? (i := 703) (by decide +kernel), List.mem_of_getElem? (i := 813) (by decide +kernel), List.mem_of_getElem? (i := 814) (by decide +kernel)⟩
theorem lw_p27 : lw_okq (⟨"ClubSmokeModel", "read", "(I)I"⟩, 28) := ⟨⟨by decide +kernel, by decide +kernel⟩, List.mem_of_getElem? (i := 703) (by decide +kernel), List.mem_of_getElem? (i := 848) (by decide +kernel), List.mem_of_getElem? (i := 849) (by decide +kernel)⟩
theorem lw_p28 : lw_okq (⟨"ClubSmokeModel", "skip", "()V"⟩, 28) := ⟨⟨by decide +kernel, by decide +kernel⟩, List.mem_of_getElem? (i := 703) (by decide +kernel), List.mem_of_getElem? (i := 852) (by decide +kernel), List.mem_of_getElem? (i := 853) (by decide +kernel)⟩
theorem lw_p29 : lw_okq (⟨"ClubSmokeModel", "letterAt", "(I)I"⟩, 28) := ⟨⟨by decide +kernel, by decide +kernel⟩, List.mem_of_getElem? (i := 703) (by decide +kernel), List.mem_of_getElem? (i := 856) (by decide +kernel), List.mem_of_getElem? (i := 857) (by decide +kernel)⟩
theorem lw_p30 : lw_okq (⟨"ClubSmokeModel", "isCeiling", "()Z"⟩, 28) := ⟨⟨by decide +kernel, by decide +kernel⟩, List.mem_of_getElem? (i := 703) (by decide +kernel), List.mem_of_getElem? (i := 860) (by decide +kernel), List.mem_of_getElem? (i := 861) (by decide +kernel)⟩
theorem lw_p31 : lw_okq (⟨"ClubSmokeModel", "figure", "(II)I"⟩, 28) := ⟨⟨by decide +kernel, by decide +kernel⟩, List.mem_of_getElem? (i := 703) (by decide +kernel), List.mem_of_getElem? (i := 864) (by decide +kernel), List.mem_of_getElem? (i := 865) (by decide +kernel)⟩
def lw_privs_2 : List (MethodName × Nat) := [(⟨"ClubSmoke", "firstSet", "(I)I"⟩, 13), (⟨"ClubSmoke", "refusedNotes", "(LClubSmoke$Row;)I"⟩, 13), (⟨"ClubSmoke$Turns", "mostByTalk", "(LClubSmoke$Club;III)I"⟩, 1), (⟨"ClubSmoke$Turns", "takeAir", "(I)V"⟩, 1), (⟨"ClubSmoke$Turns", "leastByWindow", "(LClubSmoke$Club;III)I"⟩, 1), (⟨"ClubSmoke", "tellWorth", "(II)V"⟩, 13), (⟨"ClubSmoke", "performLot", "(I)V"⟩, 13), (⟨"ClubSmoke", "keptClubs", "()I"⟩, 13), (⟨"ClubSmokeModel", "finds", "(I)I"⟩, 28), (⟨"ClubSmokeModel", "wrongAt", "(II)I"⟩, 28), (⟨"ClubSmokeModel", "tells", "(I)I"⟩, 28), (⟨"ClubSmokeModel", "read", "(I)I"⟩, 28), (⟨"ClubSmokeModel", "skip", "()V"⟩, 28), (⟨"ClubSmokeModel", "letterAt", "(I)I"⟩, 28), (⟨"ClubSmokeModel", "isCeiling", "()Z"⟩, 28), (⟨"ClubSmokeModel", "figure", "(II)I"⟩, 28)]
theorem lw_r2 : ∀ q ∈ lw_privs_2, lw_okq q := List.forall_mem_cons.mpr ⟨lw_p16, List.forall_mem_cons.mpr ⟨lw_p17, List.forall_mem_cons.mpr ⟨lw_p18, List.forall_mem_cons.mpr ⟨lw_p19, List.forall_mem_cons.mpr ⟨lw_p20, List.forall_mem_cons.mpr ⟨lw_p21, List.forall_mem_cons.mpr ⟨lw_p22, List.forall_mem_cons.mpr ⟨lw_p23, List.forall_mem_cons.mpr ⟨lw_p24, List.forall_mem_cons.mpr ⟨lw_p25, List.forall_mem_cons.mpr ⟨lw_p26, List.forall_mem_cons.mpr ⟨lw_p27, List.forall_mem_cons.mpr ⟨lw_p28, List.forall_mem_cons.mpr ⟨lw_p29, List.forall_mem_cons.mpr ⟨lw_p30, List.forall_mem_cons.mpr ⟨lw_p31, fun _ h => absurd h List.not_mem_nil⟩⟩⟩⟩⟩⟩⟩⟩⟩⟩⟩⟩⟩⟩⟩⟩
theorem lw_p32 : lw_okq (⟨"ClubSmokeModel", "isMemberItem", "()Z"⟩, 28) := ⟨⟨by decide +kernel, by decide +kernel⟩, List.mem_of_getElem? (i := 703) (by decide +kernel), List.mem_of_getElem? (i := 868) (by decide +kernel), List.mem_of_getElem? (i := 869) (by decide +kernel)⟩
theorem lw_p33 : lw_okq (⟨"ClubSmokeModel", "isOne", "(I)Z"⟩, 28) := ⟨⟨by decide +kernel, by decide +kernel⟩, List.mem_of_getElem? (i := 703) (by decide +kernel), List.mem_of_getElem? (i := 883) (by decide +kernel), List.mem_of_getElem? (i := 884) (by decide +kernel)⟩
theorem lw_p34 : lw_okq (⟨"ClubSmokeModel", "memberTells", "(II)I"⟩, 28) := ⟨⟨by decide +kernel, by decide +kernel⟩, List.mem_of_getElem? (i := 703) (by decide +kernel), List.mem_of_getElem? (i := 887) (by decide +kernel), List.mem_of_getElem? (i := 888) (by decide +kernel)⟩
theorem lw_p35 : lw_okq (⟨"ClubSmokeModel", "behind", "(I)I"⟩, 28) := ⟨⟨by decide +kernel, by decide +kernel⟩, List.mem_of_getElem? (i := 703) (by decide +kernel), List.mem_of_getElem? (i := 898) (by decide +kernel), List.mem_of_getElem? (i := 899) (by decide +kernel)⟩
theorem lw_p36 : lw_okq (⟨"ClubSmokeModel", "ahead", "(I)I"⟩, 28) := ⟨⟨by decide +kernel, by decide +kernel⟩, List.mem_of_getElem? (i := 703) (by decide +kernel), List.mem_of_getElem? (i := 902) (by decide +kernel), List.mem_of_getElem? (i := 903) (by decide +kernel)⟩
theorem lw_p37 : lw_okq (⟨"ClubSmokeModel", "breath", "(II)I"⟩, 28) := ⟨⟨by decide +kernel, by decide +kernel⟩, List.mem_of_getElem? (i := 703) (by decide +kernel), List.mem_of_getElem? (i := 906) (by decide +kernel), List.mem_of_getElem? (i := 907) (by decide +kernel)⟩
theorem lw_p38 : lw_okq (⟨"ClubSmokeModel", "isCell", "(I)Z"⟩, 28) := ⟨⟨by decide +kernel, by decide +kernel⟩, List.mem_of_getElem? (i := 703) (by decide +kernel), List.mem_of_getElem? (i := 917) (by decide +kernel), List.mem_of_getElem? (i := 918) (by decide +kernel)⟩
theorem lw_p39 : lw_okq (⟨"ClubSmokeModel", "note", "()V"⟩, 28) := ⟨⟨by decide +kernel, by decide +kernel⟩, List.mem_of_getElem? (i := 703) (by decide +kernel), List.mem_of_getElem? (i := 925) (by decide +kernel), List.mem_of_getElem? (i := 926) (by decide +kernel)⟩
theorem lw_p40 : lw_okq (⟨"ClubSmokeModel", "talkIn", "([III)V"⟩, 28) := ⟨⟨by decide +kernel, by decide +kernel⟩, List.mem_of_getElem? (i := 703) (by decide +kernel), List.mem_of_getElem? (i := 932) (by decide +kernel), List.mem_of_getElem? (i := 933) (by decide +kernel)⟩
theorem lw_p41 : lw_okq (⟨"ClubSmokeModel", "hourIn", "([I)I"⟩, 28) := ⟨⟨by decide +kernel, by decide +kernel⟩, List.mem_of_getElem? (i := 703) (by decide +kernel), List.mem_of_getElem? (i := 943) (by decide +kernel), List.mem_of_getElem? (i := 944) (by decide +kernel)⟩
theorem lw_p42 : lw_okq (⟨"ClubSmokeModel", "allIn", "([I)I"⟩, 28) := ⟨⟨by decide +kernel, by decide +kernel⟩, List.mem_of_getElem? (i := 703) (by decide +kernel), List.mem_of_getElem? (i := 955) (by decide +kernel), List.mem_of_getElem? (i := 956) (by decide +kernel)⟩
theorem lw_p43 : lw_okq (⟨"ClubSmokeModel", "thunderIn", "([I)V"⟩, 28) := ⟨⟨by decide +kernel, by decide +kernel⟩, List.mem_of_getElem? (i := 703) (by decide +kernel), List.mem_of_getElem? (i := 959) (by decide +kernel), List.mem_of_getElem? (i := 960) (by decide +kernel)⟩
theorem lw_p44 : lw_okq (⟨"ClubSmokeModel", "begin", "()V"⟩, 28) := ⟨⟨by decide +kernel, by decide +kernel⟩, List.mem_of_getElem? (i := 703) (by decide +kernel), List.mem_of_getElem? (i := 995) (by decide +kernel), List.mem_of_getElem? (i := 996) (by decide +kernel)⟩
theorem lw_p45 : lw_okq (⟨"ClubSmokeModel", "hangsBy", "(IIIII)Z"⟩, 28) := ⟨⟨by decide +kernel, by decide +kernel⟩, List.mem_of_getElem? (i := 703) (by decide +kernel), List.mem_of_getElem? (i := 1017) (by decide +kernel), List.mem_of_getElem? (i := 1018) (by decide +kernel)⟩
theorem lw_p46 : lw_okq (⟨"ClubSmokeModel", "wrongSets", "(II)I"⟩, 28) := ⟨⟨by decide +kernel, by decide +kernel⟩, List.mem_of_getElem? (i := 703) (by decide +kernel), List.mem_of_getElem? (i := 1025) (by decide +kernel), List.mem_of_getElem? (i := 1026) (by decide +kernel)⟩
theorem lw_p47 : lw_okq (⟨"ClubSmokeModel", "isSo", "(III)Z"⟩, 28) := ⟨⟨by decide +kernel, by decide +kernel⟩, List.mem_of_getElem? (i := 703) (by decide +kernel), List.mem_of_getElem? (i := 1029) (by decide +kernel), List.mem_of_getElem? (i := 1030) (by decide +kernel)⟩
def lw_privs_3 : List (MethodName × Nat) := [(⟨"ClubSmokeModel", "isMemberItem", "()Z"⟩, 28), (⟨"ClubSmokeModel", "isOne", "(I)Z"⟩, 28), (⟨"ClubSmokeModel", "memberTells", "(II)I"⟩, 28), (⟨"ClubSmokeModel", "behind", "(I)I"⟩, 28), (⟨"ClubSmokeModel", "ahead", "(I)I"⟩, 28), (⟨"ClubSmokeModel", "breath", "(II)I"⟩, 28), (⟨"ClubSmokeModel", "isCell", "(I)Z"⟩, 28), (⟨"ClubSmokeModel", "note", "()V"⟩, 28), (⟨"ClubSmokeModel", "talkIn", "([III)V"⟩, 28), (⟨"ClubSmokeModel", "hourIn", "([I)I"⟩, 28), (⟨"ClubSmokeModel", "allIn", "([I)I"⟩, 28), (⟨"ClubSmokeModel", "thunderIn", "([I)V"⟩, 28), (⟨"ClubSmokeModel", "begin", "()V"⟩, 28), (⟨"ClubSmokeModel", "hangsBy", "(IIIII)Z"⟩, 28), (⟨"ClubSmokeModel", "wrongSets", "(II)I"⟩, 28), (⟨"ClubSmokeModel", "isSo", "(III)Z"⟩, 28)]
theorem lw_r3 : ∀ q ∈ lw_privs_3, lw_okq q := List.forall_mem_cons.mpr ⟨lw_p32, List.forall_mem_cons.mpr ⟨lw_p33, List.forall_mem_cons.mpr ⟨lw_p34, List.forall_mem_cons.mpr ⟨lw_p35, List.forall_mem_cons.mpr ⟨lw_p36, List.forall_mem_cons.mpr ⟨lw_p37, List.forall_mem_cons.mpr ⟨lw_p38, List.forall_mem_cons.mpr ⟨lw_p39, List.forall_mem_cons.mpr ⟨lw_p40, List.forall_mem_cons.mpr ⟨lw_p41, List.forall_mem_cons.mpr ⟨lw_p42, List.forall_mem_cons.mpr ⟨lw_p43, List.forall_mem_cons.mpr ⟨lw_p44, List.forall_mem_cons.mpr ⟨lw_p45, List.forall_mem_cons.mpr ⟨lw_p46, List.forall_mem_cons.mpr ⟨lw_p47, fun _ h => absurd h List.not_mem_nil⟩⟩⟩⟩⟩⟩⟩⟩⟩⟩⟩⟩⟩⟩⟩⟩
theorem lw_p48 : lw_okq (⟨"ClubSmokeModel", "manyBy", "(IIII)I"⟩, 28) := ⟨⟨by decide +kernel, by decide +kernel⟩, List.mem_of_getElem? (i := 703) (by decide +kernel), List.mem_of_getElem? (i := 1033) (by decide +kernel), List.mem_of_getElem? (i := 1034) (by decide +kernel)⟩
theorem lw_p49 : lw_okq (⟨"ClubSmokeModel", "wrongPairs", "(I)I"⟩, 28) := ⟨⟨by decide +kernel, by decide +kernel⟩, List.mem_of_getElem? (i := 703) (by decide +kernel), List.mem_of_getElem? (i := 1049) (by decide +kernel), List.mem_of_getElem? (i := 1050) (by decide +kernel)⟩
theorem lw_p50 : lw_okq (⟨"ClubSmokeModel", "saidSo", "(II)Z"⟩, 28) := ⟨⟨by decide +kernel, by decide +kernel⟩, List.mem_of_getElem? (i := 703) (by decide +kernel), List.mem_of_getElem? (i := 1053) (by decide +kernel), List.mem_of_getElem? (i := 1054) (by decide +kernel)⟩
theorem lw_p51 : lw_okq (⟨"ClubSmokeModel", "kindsBy", "(I)I"⟩, 28) := ⟨⟨by decide +kernel, by decide +kernel⟩, List.mem_of_getElem? (i := 703) (by decide +kernel), List.mem_of_getElem? (i := 1061) (by decide +kernel), List.mem_of_getElem? (i := 1062) (by decide +kernel)⟩
theorem lw_p52 : lw_okq (⟨"ClubSmokeModel", "lastTurn", "(II)I"⟩, 28) := ⟨⟨by decide +kernel, by decide +kernel⟩, List.mem_of_getElem? (i := 703) (by decide +kernel), List.mem_of_getElem? (i := 1077) (by decide +kernel), List.mem_of_getElem? (i := 1078) (by decide +kernel)⟩
theorem lw_p53 : lw_okq (⟨"ClubSmokeModel", "isTurn", "(I)Z"⟩, 28) := ⟨⟨by decide +kernel, by decide +kernel⟩, List.mem_of_getElem? (i := 703) (by decide +kernel), List.mem_of_getElem? (i := 1081) (by decide +kernel), List.mem_of_getElem? (i := 1082) (by decide +kernel)⟩
theorem lw_p54 : lw_okq (⟨"ClubSmokeModel", "eveningBy", "(III)I"⟩, 28) := ⟨⟨by decide +kernel, by decide +kernel⟩, List.mem_of_getElem? (i := 703) (by decide +kernel), List.mem_of_getElem? (i := 1085) (by decide +kernel), List.mem_of_getElem? (i := 1086) (by decide +kernel)⟩
theorem lw_p55 : lw_okq (⟨"ClubSmokeModel", "tellsPart", "(JJ)V"⟩, 28) := ⟨⟨by decide +kernel, by decide +kernel⟩, List.mem_of_getElem? (i := 703) (by decide +kernel), List.mem_of_getElem? (i := 1100) (by decide +kernel), List.mem_of_getElem? (i := 1101) (by decide +kernel)⟩
theorem lw_p56 : lw_okq (⟨"ClubSmokeModel", "kindMany", "(I)I"⟩, 28) := ⟨⟨by decide +kernel, by decide +kernel⟩, List.mem_of_getElem? (i := 703) (by decide +kernel), List.mem_of_getElem? (i := 1134) (by decide +kernel), List.mem_of_getElem? (i := 1135) (by decide +kernel)⟩
def lw_privs_4 : List (MethodName × Nat) := [(⟨"ClubSmokeModel", "manyBy", "(IIII)I"⟩, 28), (⟨"ClubSmokeModel", "wrongPairs", "(I)I"⟩, 28), (⟨"ClubSmokeModel", "saidSo", "(II)Z"⟩, 28), (⟨"ClubSmokeModel", "kindsBy", "(I)I"⟩, 28), (⟨"ClubSmokeModel", "lastTurn", "(II)I"⟩, 28), (⟨"ClubSmokeModel", "isTurn", "(I)Z"⟩, 28), (⟨"ClubSmokeModel", "eveningBy", "(III)I"⟩, 28), (⟨"ClubSmokeModel", "tellsPart", "(JJ)V"⟩, 28), (⟨"ClubSmokeModel", "kindMany", "(I)I"⟩, 28)]
theorem lw_r4 : ∀ q ∈ lw_privs_4, lw_okq q := List.forall_mem_cons.mpr ⟨lw_p48, List.forall_mem_cons.mpr ⟨lw_p49, List.forall_mem_cons.mpr ⟨lw_p50, List.forall_mem_cons.mpr ⟨lw_p51, List.forall_mem_cons.mpr ⟨lw_p52, List.forall_mem_cons.mpr ⟨lw_p53, List.forall_mem_cons.mpr ⟨lw_p54, List.forall_mem_cons.mpr ⟨lw_p55, List.forall_mem_cons.mpr ⟨lw_p56, fun _ h => absurd h List.not_mem_nil⟩⟩⟩⟩⟩⟩⟩⟩⟩
def lw_privs : List (MethodName × Nat) := lw_privs_1 ++ (lw_privs_2 ++ (lw_privs_3 ++ (lw_privs_4)))
def lw_tbl : List Cond := k2_sels lw_privs ++ tables_1
theorem lw_privs_ok : ∀ q ∈ lw_privs, lw_okq q := by
  show ∀ q ∈ lw_privs_1 ++ (lw_privs_2 ++ (lw_privs_3 ++ (lw_privs_4))), lw_okq q
  exact List.forall_mem_append.mpr ⟨lw_r1, List.forall_mem_append.mpr ⟨lw_r2, List.forall_mem_append.mpr ⟨lw_r3, lw_r4⟩⟩⟩
end
section
/-! ===== BEGIN words of one list among another's, by their places ===== -/
theorem goodIn_r {big : List Cond} (ws : List Cond) (ps : List Nat) (hp : ws = ps.filterMap (fun i => big[i]?)) (h : ws.all goodWord = true) : GoodIn big ws := by
  intro w hw
  have h1 := List.all_eq_true.mp h w hw
  rw [hp] at hw
  obtain ⟨i, -, hi⟩ := List.mem_filterMap.mp hw
  have hm : w ∈ big := by first | exact List.mem_of_getElem? hi | exact List.getElem?_mem hi
  exact ⟨hm, good_of_word h1⟩
theorem goodIn_app {big a b : List Cond} (ha : GoodIn big a) (hb : GoodIn big b) : GoodIn big (a ++ b) := fun w h => (List.mem_append.mp h).elim (ha w) (hb w)
theorem goodIn_ca {big a b : List Cond} {c : Cond} (ha : GoodIn big (c :: a)) (hb : GoodIn big b) : GoodIn big (c :: (a ++ b)) := fun w h => (List.mem_cons.mp h).elim (fun e => ha w (List.mem_cons.mpr (Or.inl e))) (fun h => (List.mem_append.mp h).elim (fun h => ha w (List.mem_cons.mpr (Or.inr h))) (hb w))
theorem goodIn_sub {big ws : List Cond} (hm : ∀ w ∈ ws, w ∈ big) (h : ws.all goodWord = true) : GoodIn big ws := fun w hw => ⟨hm w hw, good_of_word (List.all_eq_true.mp h w hw)⟩
/-! ===== END ===== -/
def RX0 : String := "ClubSmoke$Club"
def TX0 : u_T := fun k => match k with
  | 0 => ("ClubSmoke$Club", "kinds", "[I", true)
  | 1 => ("ClubSmoke$Club", "seats", "[I", true)
  | 2 => ("ClubSmoke$Club", "talked", "[I", true)
  | 3 => ("ClubSmoke$Club", "air", "[I", true)
  | 4 => ("ClubSmoke$Club", "leak", "I", false)
  | 5 => ("ClubSmoke$Club", "cells", "I", false)
  | 6 => ("ClubSmoke$Club", "members", "I", false)
  | 7 => ("ClubSmoke$Club", "hours", "I", false)
  | 8 => ("ClubSmoke$Club", "heard", "I", false)
  | _ => ("ClubSmoke$Club", "said", "I", false)
def tyX0 : Nat → FieldType := fun k => match k with
  | 0 => .array .int
  | 1 => .array .int
  | 2 => .array .int
  | 3 => .array .int
  | 4 => .int
  | 5 => .int
  | 6 => .int
  | 7 => .int
  | 8 => .int
  | _ => .int
theorem nmX0 : ∀ a, a < 10 → ∀ b, b < 10 → a ≠ b → (TX0 a).2.1 ≠ (TX0 b).2.1 := by decide +kernel
theorem tyX0_ok : ∀ k, k < 10 → parseFieldDescriptor (TX0 k).2.2.1 = some (tyX0 k) := by decide +kernel
abbrev cX0_init : ByteArray := prog_2_method_1_code
def yX0_init : MethodName := ⟨RX0, "<init>", "()V"⟩
abbrev cX0_hasMember : ByteArray := prog_2_method_2_code
def yX0_hasMember : MethodName := ⟨RX0, "hasMember", "(I)Z"⟩
abbrev cX0_hasCell : ByteArray := prog_2_method_3_code
def yX0_hasCell : MethodName := ⟨RX0, "hasCell", "(I)Z"⟩
abbrev cX0_join : ByteArray := prog_2_method_4_code
def yX0_join : MethodName := ⟨RX0, "join", "(I)V"⟩
abbrev cX0_seat : ByteArray := prog_2_method_5_code
def yX0_seat : MethodName := ⟨RX0, "seat", "(I)V"⟩
abbrev cX0_freshen : ByteArray := prog_2_method_6_code
def yX0_freshen : MethodName := ⟨RX0, "freshen", "()V"⟩
abbrev cX0_behind : ByteArray := prog_2_method_7_code
def yX0_behind : MethodName := ⟨RX0, "behind", "(I)I"⟩
abbrev cX0_ahead : ByteArray := prog_2_method_8_code
def yX0_ahead : MethodName := ⟨RX0, "ahead", "(I)I"⟩
abbrev cX0_share : ByteArray := prog_2_method_9_code
def yX0_share : MethodName := ⟨RX0, "share", "(III)I"⟩
abbrev cX0_breatheInto : ByteArray := prog_2_method_10_code
def yX0_breatheInto : MethodName := ⟨RX0, "breatheInto", "([III)V"⟩
abbrev cX0_letTalk : ByteArray := prog_2_method_11_code
def yX0_letTalk : MethodName := ⟨RX0, "letTalk", "(II)I"⟩
abbrev cX0_passHour : ByteArray := prog_2_method_12_code
def yX0_passHour : MethodName := ⟨RX0, "passHour", "()I"⟩
abbrev cX0_openCell : ByteArray := prog_2_method_13_code
def yX0_openCell : MethodName := ⟨RX0, "openCell", "(I)I"⟩
abbrev cX0_comeDown : ByteArray := prog_2_method_14_code
def yX0_comeDown : MethodName := ⟨RX0, "comeDown", "()I"⟩
abbrev cX0_smokeIn : ByteArray := prog_2_method_15_code
def yX0_smokeIn : MethodName := ⟨RX0, "smokeIn", "(II)I"⟩
abbrev cX0_allSmokeIn : ByteArray := prog_2_method_16_code
def yX0_allSmokeIn : MethodName := ⟨RX0, "allSmokeIn", "(I)I"⟩
abbrev cX0_allSmoke : ByteArray := prog_2_method_17_code
def yX0_allSmoke : MethodName := ⟨RX0, "allSmoke", "()I"⟩
abbrev cX0_sumOf : ByteArray := prog_2_method_18_code
def yX0_sumOf : MethodName := ⟨RX0, "sumOf", "([I)I"⟩
abbrev cX0_smokeOutside : ByteArray := prog_2_method_19_code
def yX0_smokeOutside : MethodName := ⟨RX0, "smokeOutside", "(I)I"⟩
abbrev cX0_fullestOf : ByteArray := prog_2_method_20_code
def yX0_fullestOf : MethodName := ⟨RX0, "fullestOf", "([I)I"⟩
abbrev cX0_ringSmoke : ByteArray := prog_2_method_21_code
def yX0_ringSmoke : MethodName := ⟨RX0, "ringSmoke", "(I)I"⟩
abbrev cX0_otherYoungBeside : ByteArray := prog_2_method_22_code
def yX0_otherYoungBeside : MethodName := ⟨RX0, "otherYoungBeside", "(I)I"⟩
abbrev cX0_othersWithoutBreath : ByteArray := prog_2_method_23_code
def yX0_othersWithoutBreath : MethodName := ⟨RX0, "othersWithoutBreath", "(II)I"⟩
abbrev cX0_membersOf : ByteArray := prog_2_method_24_code
def yX0_membersOf : MethodName := ⟨RX0, "membersOf", "(I)I"⟩
def RX1 : String := "ClubSmoke$Deeds"
def TX1 : u_T := fun k => match k with
  | 0 => ("ClubSmoke$Deeds", "codes", "[I", true)
  | _ => ("ClubSmoke$Deeds", "size", "I", false)
def tyX1 : Nat → FieldType := fun k => match k with
  | 0 => .array .int
  | _ => .int
theorem nmX1 : ∀ a, a < 2 → ∀ b, b < 2 → a ≠ b → (TX1 a).2.1 ≠ (TX1 b).2.1 := by decide +kernel
theorem tyX1_ok : ∀ k, k < 2 → parseFieldDescriptor (TX1 k).2.2.1 = some (tyX1 k) := by decide +kernel
abbrev cX1_init : ByteArray := prog_3_method_1_code
def yX1_init : MethodName := ⟨RX1, "<init>", "()V"⟩
abbrev cX1_isFull : ByteArray := prog_3_method_2_code
def yX1_isFull : MethodName := ⟨RX1, "isFull", "()Z"⟩
abbrev cX1_write : ByteArray := prog_3_method_3_code
def yX1_write : MethodName := ⟨RX1, "write", "(III)V"⟩
abbrev cX1_what : ByteArray := prog_3_method_4_code
def yX1_what : MethodName := ⟨RX1, "what", "(I)I"⟩
abbrev cX1_whom : ByteArray := prog_3_method_5_code
def yX1_whom : MethodName := ⟨RX1, "whom", "(I)I"⟩
abbrev cX1_meant : ByteArray := prog_3_method_6_code
def yX1_meant : MethodName := ⟨RX1, "meant", "(I)I"⟩
abbrev cX1_takeFrom : ByteArray := prog_3_method_7_code
def yX1_takeFrom : MethodName := ⟨RX1, "takeFrom", "(LClubSmoke$Deeds;)V"⟩
def RX2 : String := "ClubSmoke$Kind"
def TX2 : u_T := fun k => match k with
  | _ => ("", "", "", false)
def tyX2 : Nat → FieldType := fun k => match k with
  | _ => .int
theorem nmX2 : ∀ a, a < 0 → ∀ b, b < 0 → a ≠ b → (TX2 a).2.1 ≠ (TX2 b).2.1 := by decide +kernel
theorem tyX2_ok : ∀ k, k < 0 → parseFieldDescriptor (TX2 k).2.2.1 = some (tyX2 k) := by decide +kernel
abbrev cX2_byLetter : ByteArray := prog_4_method_2_code
def yX2_byLetter : MethodName := ⟨RX2, "byLetter", "(I)I"⟩
abbrev cX2_isOf : ByteArray := prog_4_method_3_code
def yX2_isOf : MethodName := ⟨RX2, "isOf", "(II)Z"⟩
abbrev cX2_spoken : ByteArray := prog_4_method_4_code
def yX2_spoken : MethodName := ⟨RX2, "spoken", "(II)I"⟩
abbrev cX2_breathed : ByteArray := prog_4_method_5_code
def yX2_breathed : MethodName := ⟨RX2, "breathed", "(II)I"⟩
abbrev cX2_meaningsOf : ByteArray := prog_4_method_6_code
def yX2_meaningsOf : MethodName := ⟨RX2, "meaningsOf", "(II)I"⟩
abbrev cX2_leastMeaningOf : ByteArray := prog_4_method_7_code
def yX2_leastMeaningOf : MethodName := ⟨RX2, "leastMeaningOf", "(II)I"⟩
def RX3 : String := "ClubSmoke$Notes"
def TX3 : u_T := fun k => match k with
  | _ => ("", "", "", false)
def tyX3 : Nat → FieldType := fun k => match k with
  | _ => .int
theorem nmX3 : ∀ a, a < 0 → ∀ b, b < 0 → a ≠ b → (TX3 a).2.1 ≠ (TX3 b).2.1 := by decide +kernel
theorem tyX3_ok : ∀ k, k < 0 → parseFieldDescriptor (TX3 k).2.2.1 = some (tyX3 k) := by decide +kernel
abbrev cX3_fit : ByteArray := prog_5_method_2_code
def yX3_fit : MethodName := ⟨RX3, "fit", "(LClubSmoke$Row;I)Z"⟩
abbrev cX3_fittingKinds : ByteArray := prog_5_method_3_code
def yX3_fittingKinds : MethodName := ⟨RX3, "fittingKinds", "(LClubSmoke$Row;)I"⟩
abbrev cX3_greatestPart : ByteArray := prog_5_method_4_code
def yX3_greatestPart : MethodName := ⟨RX3, "greatestPart", "(II)I"⟩
abbrev cX3_partLike : ByteArray := prog_5_method_5_code
def yX3_partLike : MethodName := ⟨RX3, "partLike", "(III)I"⟩
abbrev cX3_leaksBy : ByteArray := prog_5_method_6_code
def yX3_leaksBy : MethodName := ⟨RX3, "leaksBy", "(LClubSmoke$Row;I)Z"⟩
def RX4 : String := "ClubSmoke$Row"
def TX4 : u_T := fun k => match k with
  | 0 => ("ClubSmoke$Row", "places", "[I", true)
  | _ => ("ClubSmoke$Row", "size", "I", false)
def tyX4 : Nat → FieldType := fun k => match k with
  | 0 => .array .int
  | _ => .int
theorem nmX4 : ∀ a, a < 2 → ∀ b, b < 2 → a ≠ b → (TX4 a).2.1 ≠ (TX4 b).2.1 := by decide +kernel
theorem tyX4_ok : ∀ k, k < 2 → parseFieldDescriptor (TX4 k).2.2.1 = some (tyX4 k) := by decide +kernel
abbrev cX4_init : ByteArray := prog_6_method_1_code
def yX4_init : MethodName := ⟨RX4, "<init>", "(I)V"⟩
abbrev cX4_isThere : ByteArray := prog_6_method_2_code
def yX4_isThere : MethodName := ⟨RX4, "isThere", "()Z"⟩
abbrev cX4_has : ByteArray := prog_6_method_3_code
def yX4_has : MethodName := ⟨RX4, "has", "(I)Z"⟩
abbrev cX4_holds : ByteArray := prog_6_method_4_code
def yX4_holds : MethodName := ⟨RX4, "holds", "(II)Z"⟩
abbrev cX4_read : ByteArray := prog_6_method_5_code
def yX4_read : MethodName := ⟨RX4, "read", "(I)I"⟩
abbrev cX4_write : ByteArray := prog_6_method_6_code
def yX4_write : MethodName := ⟨RX4, "write", "(II)V"⟩
abbrev cX4_renew : ByteArray := prog_6_method_7_code
def yX4_renew : MethodName := ⟨RX4, "renew", "(II)V"⟩
abbrev cX4_isAllWithin : ByteArray := prog_6_method_8_code
def yX4_isAllWithin : MethodName := ⟨RX4, "isAllWithin", "(II)Z"⟩
def RX5 : String := "ClubSmoke$Script"
def TX5 : u_T := fun k => match k with
  | _ => ("", "", "", false)
def tyX5 : Nat → FieldType := fun k => match k with
  | _ => .int
theorem nmX5 : ∀ a, a < 0 → ∀ b, b < 0 → a ≠ b → (TX5 a).2.1 ≠ (TX5 b).2.1 := by decide +kernel
theorem tyX5_ok : ∀ k, k < 0 → parseFieldDescriptor (TX5 k).2.2.1 = some (tyX5 k) := by decide +kernel
abbrev cX5_faultOf : ByteArray := prog_7_method_2_code
def yX5_faultOf : MethodName := ⟨RX5, "faultOf", "(LClubSmoke$Row;)I"⟩
abbrev cX5_settle : ByteArray := prog_7_method_3_code
def yX5_settle : MethodName := ⟨RX5, "settle", "(LClubSmoke$Row;LClubSmoke$Club;)V"⟩
abbrev cX5_isBetweenItems : ByteArray := prog_7_method_4_code
def yX5_isBetweenItems : MethodName := ⟨RX5, "isBetweenItems", "(I)Z"⟩
abbrev cX5_fits : ByteArray := prog_7_method_5_code
def yX5_fits : MethodName := ⟨RX5, "fits", "(III)Z"⟩
def RX6 : String := "ClubSmoke$Turns"
def TX6 : u_T := fun k => match k with
  | _ => ("ClubSmoke$Turns", "airs", "[[I", true)
def tyX6 : Nat → FieldType := fun k => match k with
  | _ => .array (.array .int)
theorem nmX6 : ∀ a, a < 1 → ∀ b, b < 1 → a ≠ b → (TX6 a).2.1 ≠ (TX6 b).2.1 := by decide +kernel
theorem tyX6_ok : ∀ k, k < 1 → parseFieldDescriptor (TX6 k).2.2.1 = some (tyX6 k) := by decide +kernel
abbrev cX6_init : ByteArray := prog_8_method_1_code
def yX6_init : MethodName := ⟨RX6, "<init>", "()V"⟩
abbrev cX6_play : ByteArray := prog_8_method_2_code
def yX6_play : MethodName := ⟨RX6, "play", "(LClubSmoke$Club;II)I"⟩
abbrev cX6_mostByTalk : ByteArray := prog_8_method_3_code
def yX6_mostByTalk : MethodName := ⟨RX6, "mostByTalk", "(LClubSmoke$Club;III)I"⟩
abbrev cX6_leastByWindow : ByteArray := prog_8_method_4_code
def yX6_leastByWindow : MethodName := ⟨RX6, "leastByWindow", "(LClubSmoke$Club;III)I"⟩
abbrev cX6_takeAir : ByteArray := prog_8_method_5_code
def yX6_takeAir : MethodName := ⟨RX6, "takeAir", "(I)V"⟩
def RX7 : String := "ClubSmoke"
def TX7 : u_T := fun k => match k with
  | 0 => ("ClubSmoke", "rows", "[LClubSmoke$Row;", true)
  | 1 => ("ClubSmoke", "texts", "[LClubSmoke$Row;", true)
  | 2 => ("ClubSmoke", "club", "LClubSmoke$Club;", true)
  | 3 => ("ClubSmoke", "deeds", "LClubSmoke$Deeds;", true)
  | 4 => ("ClubSmoke", "kept", "[LClubSmoke$Deeds;", true)
  | 5 => ("ClubSmoke", "turns", "LClubSmoke$Turns;", true)
  | 6 => ("ClubSmoke", "breaths", "[I", true)
  | 7 => ("ClubSmoke", "worth", "[J", true)
  | 8 => ("ClubSmoke", "findingCounts", "[I", true)
  | 9 => ("ClubSmoke", "latestFinding", "I", false)
  | 10 => ("ClubSmoke", "told", "I", false)
  | 11 => ("ClubSmoke", "toldUpper", "J", false)
  | _ => ("ClubSmoke", "toldLower", "J", false)
def tyX7 : Nat → FieldType := fun k => match k with
  | 0 => .array (.object "ClubSmoke$Row")
  | 1 => .array (.object "ClubSmoke$Row")
  | 2 => .object "ClubSmoke$Club"
  | 3 => .object "ClubSmoke$Deeds"
  | 4 => .array (.object "ClubSmoke$Deeds")
  | 5 => .object "ClubSmoke$Turns"
  | 6 => .array .int
  | 7 => .array .long
  | 8 => .array .int
  | 9 => .int
  | 10 => .int
  | 11 => .long
  | _ => .long
theorem nmX7 : ∀ a, a < 13 → ∀ b, b < 13 → a ≠ b → (TX7 a).2.1 ≠ (TX7 b).2.1 := by decide +kernel
theorem tyX7_ok : ∀ k, k < 13 → parseFieldDescriptor (TX7 k).2.2.1 = some (tyX7 k) := by decide +kernel
abbrev cX7_init : ByteArray := prog_1_method_1_code
def yX7_init : MethodName := ⟨RX7, "<init>", "()V"⟩
abbrev cX7_row : ByteArray := prog_1_method_2_code
def yX7_row : MethodName := ⟨RX7, "row", "(II)I"⟩
abbrev cX7_lay : ByteArray := prog_1_method_3_code
def yX7_lay : MethodName := ⟨RX7, "lay", "(III)I"⟩
abbrev cX7_at : ByteArray := prog_1_method_4_code
def yX7_at : MethodName := ⟨RX7, "at", "(II)I"⟩
abbrev cX7_tear : ByteArray := prog_1_method_5_code
def yX7_tear : MethodName := ⟨RX7, "tear", "(I)I"⟩
abbrev cX7_copy : ByteArray := prog_1_method_6_code
def yX7_copy : MethodName := ⟨RX7, "copy", "(IIIII)I"⟩
abbrev cX7_mean : ByteArray := prog_1_method_7_code
def yX7_mean : MethodName := ⟨RX7, "mean", "(I)I"⟩
abbrev cX7_text : ByteArray := prog_1_method_8_code
def yX7_text : MethodName := ⟨RX7, "text", "(II)I"⟩
abbrev cX7_put : ByteArray := prog_1_method_9_code
def yX7_put : MethodName := ⟨RX7, "put", "(III)I"⟩
abbrev cX7_fault : ByteArray := prog_1_method_10_code
def yX7_fault : MethodName := ⟨RX7, "fault", "(I)I"⟩
abbrev cX7_club : ByteArray := prog_1_method_11_code
def yX7_club : MethodName := ⟨RX7, "club", "(I)I"⟩
abbrev cX7_member : ByteArray := prog_1_method_12_code
def yX7_member : MethodName := ⟨RX7, "member", "(II)I"⟩
abbrev cX7_mark : ByteArray := prog_1_method_13_code
def yX7_mark : MethodName := ⟨RX7, "mark", "(II)I"⟩
abbrev cX7_smoke : ByteArray := prog_1_method_14_code
def yX7_smoke : MethodName := ⟨RX7, "smoke", "(I)I"⟩
abbrev cX7_talk : ByteArray := prog_1_method_15_code
def yX7_talk : MethodName := ⟨RX7, "talk", "(II)I"⟩
abbrev cX7_hour : ByteArray := prog_1_method_16_code
def yX7_hour : MethodName := ⟨RX7, "hour", "()I"⟩
abbrev cX7_open : ByteArray := prog_1_method_17_code
def yX7_open : MethodName := ⟨RX7, "open", "(I)I"⟩
abbrev cX7_thunder : ByteArray := prog_1_method_18_code
def yX7_thunder : MethodName := ⟨RX7, "thunder", "()I"⟩
abbrev cX7_undo : ByteArray := prog_1_method_19_code
def yX7_undo : MethodName := ⟨RX7, "undo", "(I)I"⟩
abbrev cX7_keep : ByteArray := prog_1_method_20_code
def yX7_keep : MethodName := ⟨RX7, "keep", "(I)I"⟩
abbrev cX7_on : ByteArray := prog_1_method_21_code
def yX7_on : MethodName := ⟨RX7, "on", "(I)I"⟩
abbrev cX7_says : ByteArray := prog_1_method_22_code
def yX7_says : MethodName := ⟨RX7, "says", "(II)I"⟩
abbrev cX7_breathes : ByteArray := prog_1_method_23_code
def yX7_breathes : MethodName := ⟨RX7, "breathes", "(II)I"⟩
abbrev cX7_means : ByteArray := prog_1_method_24_code
def yX7_means : MethodName := ⟨RX7, "means", "(II)I"⟩
abbrev cX7_least : ByteArray := prog_1_method_25_code
def yX7_least : MethodName := ⟨RX7, "least", "(II)I"⟩
abbrev cX7_hangs : ByteArray := prog_1_method_26_code
def yX7_hangs : MethodName := ⟨RX7, "hangs", "(II)I"⟩
abbrev cX7_clear : ByteArray := prog_1_method_27_code
def yX7_clear : MethodName := ⟨RX7, "clear", "()I"⟩
abbrev cX7_window : ByteArray := prog_1_method_28_code
def yX7_window : MethodName := ⟨RX7, "window", "(I)I"⟩
abbrev cX7_talks : ByteArray := prog_1_method_29_code
def yX7_talks : MethodName := ⟨RX7, "talks", "(IIII)I"⟩
abbrev cX7_sets : ByteArray := prog_1_method_30_code
def yX7_sets : MethodName := ⟨RX7, "sets", "(II)I"⟩
abbrev cX7_sure : ByteArray := prog_1_method_31_code
def yX7_sure : MethodName := ⟨RX7, "sure", "(II)I"⟩
abbrev cX7_ask : ByteArray := prog_1_method_32_code
def yX7_ask : MethodName := ⟨RX7, "ask", "(II)I"⟩
abbrev cX7_who : ByteArray := prog_1_method_33_code
def yX7_who : MethodName := ⟨RX7, "who", "(I)I"⟩
abbrev cX7_kinds : ByteArray := prog_1_method_34_code
def yX7_kinds : MethodName := ⟨RX7, "kinds", "(I)I"⟩
abbrev cX7_test : ByteArray := prog_1_method_35_code
def yX7_test : MethodName := ⟨RX7, "test", "(I)I"⟩
abbrev cX7_leaks : ByteArray := prog_1_method_36_code
def yX7_leaks : MethodName := ⟨RX7, "leaks", "(I)I"⟩
abbrev cX7_evening : ByteArray := prog_1_method_37_code
def yX7_evening : MethodName := ⟨RX7, "evening", "(II)I"⟩
abbrev cX7_odds : ByteArray := prog_1_method_38_code
def yX7_odds : MethodName := ⟨RX7, "odds", "(III)I"⟩
abbrev cX7_mid : ByteArray := prog_1_method_39_code
def yX7_mid : MethodName := ⟨RX7, "mid", "(II)I"⟩
abbrev cX7_lots : ByteArray := prog_1_method_40_code
def yX7_lots : MethodName := ⟨RX7, "lots", "(II)I"⟩
abbrev cX7_asked : ByteArray := prog_1_method_41_code
def yX7_asked : MethodName := ⟨RX7, "asked", "()I"⟩
abbrev cX7_upper : ByteArray := prog_1_method_42_code
def yX7_upper : MethodName := ⟨RX7, "upper", "()J"⟩
abbrev cX7_lower : ByteArray := prog_1_method_43_code
def yX7_lower : MethodName := ⟨RX7, "lower", "()J"⟩
abbrev cX7_count : ByteArray := prog_1_method_44_code
def yX7_count : MethodName := ⟨RX7, "count", "(I)I"⟩
abbrev cX7_finding : ByteArray := prog_1_method_45_code
def yX7_finding : MethodName := ⟨RX7, "finding", "()I"⟩
abbrev cX7_findings : ByteArray := prog_1_method_46_code
def yX7_findings : MethodName := ⟨RX7, "findings", "(I)I"⟩
abbrev cX7_digest : ByteArray := prog_1_method_47_code
def yX7_digest : MethodName := ⟨RX7, "digest", "()J"⟩
abbrev cX7_found : ByteArray := prog_1_method_48_code
def yX7_found : MethodName := ⟨RX7, "found", "(I)I"⟩
abbrev cX7_refusedPlace : ByteArray := prog_1_method_49_code
def yX7_refusedPlace : MethodName := ⟨RX7, "refusedPlace", "(LClubSmoke$Row;I)I"⟩
abbrev cX7_refusedNotes : ByteArray := prog_1_method_50_code
def yX7_refusedNotes : MethodName := ⟨RX7, "refusedNotes", "(LClubSmoke$Row;)I"⟩
abbrev cX7_refusedSets : ByteArray := prog_1_method_51_code
def yX7_refusedSets : MethodName := ⟨RX7, "refusedSets", "(II)I"⟩
abbrev cX7_within : ByteArray := prog_1_method_52_code
def yX7_within : MethodName := ⟨RX7, "within", "(III)Z"⟩
abbrev cX7_isMeaning : ByteArray := prog_1_method_53_code
def yX7_isMeaning : MethodName := ⟨RX7, "isMeaning", "(I)Z"⟩
abbrev cX7_areChances : ByteArray := prog_1_method_54_code
def yX7_areChances : MethodName := ⟨RX7, "areChances", "(II)Z"⟩
abbrev cX7_shelf : ByteArray := prog_1_method_55_code
def yX7_shelf : MethodName := ⟨RX7, "shelf", "(II)[LClubSmoke$Row;"⟩
abbrev cX7_lookUp : ByteArray := prog_1_method_56_code
def yX7_lookUp : MethodName := ⟨RX7, "lookUp", "([LClubSmoke$Row;I)LClubSmoke$Row;"⟩
abbrev cX7_renewed : ByteArray := prog_1_method_57_code
def yX7_renewed : MethodName := ⟨RX7, "renewed", "(LClubSmoke$Row;III)I"⟩
abbrev cX7_thereOn : ByteArray := prog_1_method_58_code
def yX7_thereOn : MethodName := ⟨RX7, "thereOn", "([LClubSmoke$Row;)I"⟩
abbrev cX7_digestOf : ByteArray := prog_1_method_59_code
def yX7_digestOf : MethodName := ⟨RX7, "digestOf", "([LClubSmoke$Row;J)J"⟩
abbrev cX7_memberFact : ByteArray := prog_1_method_60_code
def yX7_memberFact : MethodName := ⟨RX7, "memberFact", "(II)I"⟩
abbrev cX7_keptClubs : ByteArray := prog_1_method_61_code
def yX7_keptClubs : MethodName := ⟨RX7, "keptClubs", "()I"⟩
abbrev cX7_perform : ByteArray := prog_1_method_62_code
def yX7_perform : MethodName := ⟨RX7, "perform", "(III)I"⟩
abbrev cX7_enact : ByteArray := prog_1_method_63_code
def yX7_enact : MethodName := ⟨RX7, "enact", "(III)I"⟩
abbrev cX7_relive : ByteArray := prog_1_method_64_code
def yX7_relive : MethodName := ⟨RX7, "relive", "()V"⟩
abbrev cX7_performLot : ByteArray := prog_1_method_65_code
def yX7_performLot : MethodName := ⟨RX7, "performLot", "(I)V"⟩
abbrev cX7_remainder : ByteArray := prog_1_method_66_code
def yX7_remainder : MethodName := ⟨RX7, "remainder", "(II)I"⟩
abbrev cX7_lineBreath : ByteArray := prog_1_method_67_code
def yX7_lineBreath : MethodName := ⟨RX7, "lineBreath", "(II)I"⟩
abbrev cX7_writeLine : ByteArray := prog_1_method_68_code
def yX7_writeLine : MethodName := ⟨RX7, "writeLine", "(LClubSmoke$Row;II)V"⟩
abbrev cX7_weighBreaths : ByteArray := prog_1_method_69_code
def yX7_weighBreaths : MethodName := ⟨RX7, "weighBreaths", "(I)V"⟩
abbrev cX7_setBreath : ByteArray := prog_1_method_70_code
def yX7_setBreath : MethodName := ⟨RX7, "setBreath", "(I)I"⟩
abbrev cX7_setsWith : ByteArray := prog_1_method_71_code
def yX7_setsWith : MethodName := ⟨RX7, "setsWith", "(II)I"⟩
abbrev cX7_firstSet : ByteArray := prog_1_method_72_code
def yX7_firstSet : MethodName := ⟨RX7, "firstSet", "(I)I"⟩
abbrev cX7_tellWorth : ByteArray := prog_1_method_73_code
def yX7_tellWorth : MethodName := ⟨RX7, "tellWorth", "(II)V"⟩
abbrev cX7_tell : ByteArray := prog_1_method_74_code
def yX7_tell : MethodName := ⟨RX7, "tell", "(JJ)V"⟩
abbrev cX7_commonDivisor : ByteArray := prog_1_method_75_code
def yX7_commonDivisor : MethodName := ⟨RX7, "commonDivisor", "(JJ)J"⟩
def RX8 : String := "ClubSmokeModel"
def TX8 : u_T := fun k => match k with
  | 0 => ("ClubSmokeModel", "rowSize", "[I", true)
  | 1 => ("ClubSmokeModel", "rowItem", "[I", true)
  | 2 => ("ClubSmokeModel", "textSize", "[I", true)
  | 3 => ("ClubSmokeModel", "textItem", "[I", true)
  | 4 => ("ClubSmokeModel", "findingNow", "I", false)
  | 5 => ("ClubSmokeModel", "findingMany", "[I", true)
  | 6 => ("ClubSmokeModel", "askedNow", "I", false)
  | 7 => ("ClubSmokeModel", "upperNow", "J", false)
  | 8 => ("ClubSmokeModel", "lowerNow", "J", false)
  | 9 => ("ClubSmokeModel", "position", "I", false)
  | 10 => ("ClubSmokeModel", "from", "I", false)
  | 11 => ("ClubSmokeModel", "all", "I", false)
  | 12 => ("ClubSmokeModel", "readLeak", "I", false)
  | 13 => ("ClubSmokeModel", "readCells", "I", false)
  | 14 => ("ClubSmokeModel", "readMembers", "I", false)
  | 15 => ("ClubSmokeModel", "readMember", "[I", true)
  | 16 => ("ClubSmokeModel", "leak", "I", false)
  | 17 => ("ClubSmokeModel", "cells", "I", false)
  | 18 => ("ClubSmokeModel", "members", "I", false)
  | 19 => ("ClubSmokeModel", "sort", "[I", true)
  | 20 => ("ClubSmokeModel", "under", "[I", true)
  | 21 => ("ClubSmokeModel", "now", "[I", true)
  | 22 => ("ClubSmokeModel", "tried", "[I", true)
  | 23 => ("ClubSmokeModel", "deed", "[I", true)
  | 24 => ("ClubSmokeModel", "deeds", "I", false)
  | 25 => ("ClubSmokeModel", "keptNow", "[I", true)
  | 26 => ("ClubSmokeModel", "keptDeed", "[I", true)
  | _ => ("ClubSmokeModel", "keptMany", "[I", true)
def tyX8 : Nat → FieldType := fun k => match k with
  | 0 => .array .int
  | 1 => .array .int
  | 2 => .array .int
  | 3 => .array .int
  | 4 => .int
  | 5 => .array .int
  | 6 => .int
  | 7 => .long
  | 8 => .long
  | 9 => .int
  | 10 => .int
  | 11 => .int
  | 12 => .int
  | 13 => .int
  | 14 => .int
  | 15 => .array .int
  | 16 => .int
  | 17 => .int
  | 18 => .int
  | 19 => .array .int
  | 20 => .array .int
  | 21 => .array .int
  | 22 => .array .int
  | 23 => .array .int
  | 24 => .int
  | 25 => .array .int
  | 26 => .array .int
  | _ => .array .int
theorem nmX8 : ∀ a, a < 28 → ∀ b, b < 28 → a ≠ b → (TX8 a).2.1 ≠ (TX8 b).2.1 := by decide +kernel
theorem tyX8_ok : ∀ k, k < 28 → parseFieldDescriptor (TX8 k).2.2.1 = some (tyX8 k) := by decide +kernel
abbrev cX8_init : ByteArray := prog_10_method_1_code
def yX8_init : MethodName := ⟨RX8, "<init>", "()V"⟩
abbrev cX8_in : ByteArray := prog_10_method_2_code
def yX8_in : MethodName := ⟨RX8, "in", "(III)Z"⟩
abbrev cX8_has : ByteArray := prog_10_method_3_code
def yX8_has : MethodName := ⟨RX8, "has", "(II)Z"⟩
abbrev cX8_bits : ByteArray := prog_10_method_4_code
def yX8_bits : MethodName := ⟨RX8, "bits", "(I)I"⟩
abbrev cX8_finds : ByteArray := prog_10_method_5_code
def yX8_finds : MethodName := ⟨RX8, "finds", "(I)I"⟩
abbrev cX8_tells : ByteArray := prog_10_method_6_code
def yX8_tells : MethodName := ⟨RX8, "tells", "(I)I"⟩
abbrev cX8_bring : ByteArray := prog_10_method_7_code
def yX8_bring : MethodName := ⟨RX8, "bring", "([II[III)V"⟩
abbrev cX8_isOne : ByteArray := prog_10_method_8_code
def yX8_isOne : MethodName := ⟨RX8, "isOne", "(I)Z"⟩
abbrev cX8_isCell : ByteArray := prog_10_method_9_code
def yX8_isCell : MethodName := ⟨RX8, "isCell", "(I)Z"⟩
abbrev cX8_row : ByteArray := prog_10_method_10_code
def yX8_row : MethodName := ⟨RX8, "row", "(II)I"⟩
abbrev cX8_wrongAt : ByteArray := prog_10_method_11_code
def yX8_wrongAt : MethodName := ⟨RX8, "wrongAt", "(II)I"⟩
abbrev cX8_lay : ByteArray := prog_10_method_12_code
def yX8_lay : MethodName := ⟨RX8, "lay", "(III)I"⟩
abbrev cX8_at : ByteArray := prog_10_method_13_code
def yX8_at : MethodName := ⟨RX8, "at", "(II)I"⟩
abbrev cX8_tear : ByteArray := prog_10_method_14_code
def yX8_tear : MethodName := ⟨RX8, "tear", "(I)I"⟩
abbrev cX8_isPart : ByteArray := prog_10_method_15_code
def yX8_isPart : MethodName := ⟨RX8, "isPart", "(III)Z"⟩
abbrev cX8_copy : ByteArray := prog_10_method_16_code
def yX8_copy : MethodName := ⟨RX8, "copy", "(IIIII)I"⟩
abbrev cX8_mean : ByteArray := prog_10_method_17_code
def yX8_mean : MethodName := ⟨RX8, "mean", "(I)I"⟩
abbrev cX8_text : ByteArray := prog_10_method_18_code
def yX8_text : MethodName := ⟨RX8, "text", "(II)I"⟩
abbrev cX8_put : ByteArray := prog_10_method_19_code
def yX8_put : MethodName := ⟨RX8, "put", "(III)I"⟩
abbrev cX8_letterAt : ByteArray := prog_10_method_20_code
def yX8_letterAt : MethodName := ⟨RX8, "letterAt", "(I)I"⟩
abbrev cX8_figure : ByteArray := prog_10_method_21_code
def yX8_figure : MethodName := ⟨RX8, "figure", "(II)I"⟩
abbrev cX8_skip : ByteArray := prog_10_method_22_code
def yX8_skip : MethodName := ⟨RX8, "skip", "()V"⟩
abbrev cX8_sortBy : ByteArray := prog_10_method_23_code
def yX8_sortBy : MethodName := ⟨RX8, "sortBy", "(I)I"⟩
abbrev cX8_isCeiling : ByteArray := prog_10_method_24_code
def yX8_isCeiling : MethodName := ⟨RX8, "isCeiling", "()Z"⟩
abbrev cX8_isMemberItem : ByteArray := prog_10_method_25_code
def yX8_isMemberItem : MethodName := ⟨RX8, "isMemberItem", "()Z"⟩
abbrev cX8_read : ByteArray := prog_10_method_26_code
def yX8_read : MethodName := ⟨RX8, "read", "(I)I"⟩
abbrev cX8_fault : ByteArray := prog_10_method_27_code
def yX8_fault : MethodName := ⟨RX8, "fault", "(I)I"⟩
abbrev cX8_club : ByteArray := prog_10_method_28_code
def yX8_club : MethodName := ⟨RX8, "club", "(I)I"⟩
abbrev cX8_memberTells : ByteArray := prog_10_method_29_code
def yX8_memberTells : MethodName := ⟨RX8, "memberTells", "(II)I"⟩
abbrev cX8_member : ByteArray := prog_10_method_30_code
def yX8_member : MethodName := ⟨RX8, "member", "(II)I"⟩
abbrev cX8_is : ByteArray := prog_10_method_31_code
def yX8_is : MethodName := ⟨RX8, "is", "(II)Z"⟩
abbrev cX8_saysBy : ByteArray := prog_10_method_32_code
def yX8_saysBy : MethodName := ⟨RX8, "saysBy", "(II)I"⟩
abbrev cX8_breath : ByteArray := prog_10_method_33_code
def yX8_breath : MethodName := ⟨RX8, "breath", "(II)I"⟩
abbrev cX8_behind : ByteArray := prog_10_method_34_code
def yX8_behind : MethodName := ⟨RX8, "behind", "(I)I"⟩
abbrev cX8_ahead : ByteArray := prog_10_method_35_code
def yX8_ahead : MethodName := ⟨RX8, "ahead", "(I)I"⟩
abbrev cX8_mark : ByteArray := prog_10_method_36_code
def yX8_mark : MethodName := ⟨RX8, "mark", "(II)I"⟩
abbrev cX8_smoke : ByteArray := prog_10_method_37_code
def yX8_smoke : MethodName := ⟨RX8, "smoke", "(I)I"⟩
abbrev cX8_allIn : ByteArray := prog_10_method_38_code
def yX8_allIn : MethodName := ⟨RX8, "allIn", "([I)I"⟩
abbrev cX8_note : ByteArray := prog_10_method_39_code
def yX8_note : MethodName := ⟨RX8, "note", "()V"⟩
abbrev cX8_comes : ByteArray := prog_10_method_40_code
def yX8_comes : MethodName := ⟨RX8, "comes", "([III)V"⟩
abbrev cX8_talkIn : ByteArray := prog_10_method_41_code
def yX8_talkIn : MethodName := ⟨RX8, "talkIn", "([III)V"⟩
abbrev cX8_hourIn : ByteArray := prog_10_method_42_code
def yX8_hourIn : MethodName := ⟨RX8, "hourIn", "([I)I"⟩
abbrev cX8_thunderIn : ByteArray := prog_10_method_43_code
def yX8_thunderIn : MethodName := ⟨RX8, "thunderIn", "([I)V"⟩
abbrev cX8_talk : ByteArray := prog_10_method_44_code
def yX8_talk : MethodName := ⟨RX8, "talk", "(II)I"⟩
abbrev cX8_hour : ByteArray := prog_10_method_45_code
def yX8_hour : MethodName := ⟨RX8, "hour", "()I"⟩
abbrev cX8_open : ByteArray := prog_10_method_46_code
def yX8_open : MethodName := ⟨RX8, "open", "(I)I"⟩
abbrev cX8_thunder : ByteArray := prog_10_method_47_code
def yX8_thunder : MethodName := ⟨RX8, "thunder", "()I"⟩
abbrev cX8_undo : ByteArray := prog_10_method_48_code
def yX8_undo : MethodName := ⟨RX8, "undo", "(I)I"⟩
abbrev cX8_keep : ByteArray := prog_10_method_49_code
def yX8_keep : MethodName := ⟨RX8, "keep", "(I)I"⟩
abbrev cX8_on : ByteArray := prog_10_method_50_code
def yX8_on : MethodName := ⟨RX8, "on", "(I)I"⟩
abbrev cX8_says : ByteArray := prog_10_method_51_code
def yX8_says : MethodName := ⟨RX8, "says", "(II)I"⟩
abbrev cX8_breathes : ByteArray := prog_10_method_52_code
def yX8_breathes : MethodName := ⟨RX8, "breathes", "(II)I"⟩
abbrev cX8_means : ByteArray := prog_10_method_53_code
def yX8_means : MethodName := ⟨RX8, "means", "(II)I"⟩
abbrev cX8_least : ByteArray := prog_10_method_54_code
def yX8_least : MethodName := ⟨RX8, "least", "(II)I"⟩
abbrev cX8_begin : ByteArray := prog_10_method_55_code
def yX8_begin : MethodName := ⟨RX8, "begin", "()V"⟩
abbrev cX8_hangs : ByteArray := prog_10_method_56_code
def yX8_hangs : MethodName := ⟨RX8, "hangs", "(II)I"⟩
abbrev cX8_clear : ByteArray := prog_10_method_57_code
def yX8_clear : MethodName := ⟨RX8, "clear", "()I"⟩
abbrev cX8_window : ByteArray := prog_10_method_58_code
def yX8_window : MethodName := ⟨RX8, "window", "(I)I"⟩
abbrev cX8_hangsBy : ByteArray := prog_10_method_59_code
def yX8_hangsBy : MethodName := ⟨RX8, "hangsBy", "(IIIII)Z"⟩
abbrev cX8_talks : ByteArray := prog_10_method_60_code
def yX8_talks : MethodName := ⟨RX8, "talks", "(IIII)I"⟩
abbrev cX8_isSo : ByteArray := prog_10_method_61_code
def yX8_isSo : MethodName := ⟨RX8, "isSo", "(III)Z"⟩
abbrev cX8_wrongSets : ByteArray := prog_10_method_62_code
def yX8_wrongSets : MethodName := ⟨RX8, "wrongSets", "(II)I"⟩
abbrev cX8_manyBy : ByteArray := prog_10_method_63_code
def yX8_manyBy : MethodName := ⟨RX8, "manyBy", "(IIII)I"⟩
abbrev cX8_sets : ByteArray := prog_10_method_64_code
def yX8_sets : MethodName := ⟨RX8, "sets", "(II)I"⟩
abbrev cX8_sure : ByteArray := prog_10_method_65_code
def yX8_sure : MethodName := ⟨RX8, "sure", "(II)I"⟩
abbrev cX8_ask : ByteArray := prog_10_method_66_code
def yX8_ask : MethodName := ⟨RX8, "ask", "(II)I"⟩
abbrev cX8_wrongPairs : ByteArray := prog_10_method_67_code
def yX8_wrongPairs : MethodName := ⟨RX8, "wrongPairs", "(I)I"⟩
abbrev cX8_saidSo : ByteArray := prog_10_method_68_code
def yX8_saidSo : MethodName := ⟨RX8, "saidSo", "(II)Z"⟩
abbrev cX8_kindsBy : ByteArray := prog_10_method_69_code
def yX8_kindsBy : MethodName := ⟨RX8, "kindsBy", "(I)I"⟩
abbrev cX8_who : ByteArray := prog_10_method_70_code
def yX8_who : MethodName := ⟨RX8, "who", "(I)I"⟩
abbrev cX8_kinds : ByteArray := prog_10_method_71_code
def yX8_kinds : MethodName := ⟨RX8, "kinds", "(I)I"⟩
abbrev cX8_test : ByteArray := prog_10_method_72_code
def yX8_test : MethodName := ⟨RX8, "test", "(I)I"⟩
abbrev cX8_leaks : ByteArray := prog_10_method_73_code
def yX8_leaks : MethodName := ⟨RX8, "leaks", "(I)I"⟩
abbrev cX8_eveningBy : ByteArray := prog_10_method_74_code
def yX8_eveningBy : MethodName := ⟨RX8, "eveningBy", "(III)I"⟩
abbrev cX8_isTurn : ByteArray := prog_10_method_75_code
def yX8_isTurn : MethodName := ⟨RX8, "isTurn", "(I)Z"⟩
abbrev cX8_lastTurn : ByteArray := prog_10_method_76_code
def yX8_lastTurn : MethodName := ⟨RX8, "lastTurn", "(II)I"⟩
abbrev cX8_evening : ByteArray := prog_10_method_77_code
def yX8_evening : MethodName := ⟨RX8, "evening", "(II)I"⟩
abbrev cX8_tellsPart : ByteArray := prog_10_method_78_code
def yX8_tellsPart : MethodName := ⟨RX8, "tellsPart", "(JJ)V"⟩
abbrev cX8_partOf : ByteArray := prog_10_method_79_code
def yX8_partOf : MethodName := ⟨RX8, "partOf", "(III)J"⟩
abbrev cX8_whole : ByteArray := prog_10_method_80_code
def yX8_whole : MethodName := ⟨RX8, "whole", "(I)J"⟩
abbrev cX8_odds : ByteArray := prog_10_method_81_code
def yX8_odds : MethodName := ⟨RX8, "odds", "(III)I"⟩
abbrev cX8_mid : ByteArray := prog_10_method_82_code
def yX8_mid : MethodName := ⟨RX8, "mid", "(II)I"⟩
abbrev cX8_lots : ByteArray := prog_10_method_83_code
def yX8_lots : MethodName := ⟨RX8, "lots", "(II)I"⟩
abbrev cX8_asked : ByteArray := prog_10_method_84_code
def yX8_asked : MethodName := ⟨RX8, "asked", "()I"⟩
abbrev cX8_upper : ByteArray := prog_10_method_85_code
def yX8_upper : MethodName := ⟨RX8, "upper", "()J"⟩
abbrev cX8_lower : ByteArray := prog_10_method_86_code
def yX8_lower : MethodName := ⟨RX8, "lower", "()J"⟩
abbrev cX8_thereOf : ByteArray := prog_10_method_87_code
def yX8_thereOf : MethodName := ⟨RX8, "thereOf", "([I)I"⟩
abbrev cX8_kindMany : ByteArray := prog_10_method_88_code
def yX8_kindMany : MethodName := ⟨RX8, "kindMany", "(I)I"⟩
abbrev cX8_count : ByteArray := prog_10_method_89_code
def yX8_count : MethodName := ⟨RX8, "count", "(I)I"⟩
abbrev cX8_finding : ByteArray := prog_10_method_90_code
def yX8_finding : MethodName := ⟨RX8, "finding", "()I"⟩
abbrev cX8_findings : ByteArray := prog_10_method_91_code
def yX8_findings : MethodName := ⟨RX8, "findings", "(I)I"⟩
abbrev cX8_digest : ByteArray := prog_10_method_92_code
def yX8_digest : MethodName := ⟨RX8, "digest", "()J"⟩
def RJ6 : String := "java/lang/Integer"
def TJ6 : u_T := fun k => match k with
  | _ => ("", "", "", false)
def tyJ6 : Nat → FieldType := fun k => match k with
  | _ => .int
theorem nmJ6 : ∀ a, a < 0 → ∀ b, b < 0 → a ≠ b → (TJ6 a).2.1 ≠ (TJ6 b).2.1 := by decide +kernel
theorem tyJ6_ok : ∀ k, k < 0 → parseFieldDescriptor (TJ6 k).2.2.1 = some (tyJ6 k) := by decide +kernel
abbrev cJ6_bitCount_0f7a4 : ByteArray := prog_11_method_49_code
def yJ6_bitCount_0f7a4 : MethodName := ⟨RJ6, "bitCount", "(I)I"⟩
def RJ9 : String := "java/lang/Math"
def TJ9 : u_T := fun k => match k with
  | _ => ("", "", "", false)
def tyJ9 : Nat → FieldType := fun k => match k with
  | _ => .int
theorem nmJ9 : ∀ a, a < 0 → ∀ b, b < 0 → a ≠ b → (TJ9 a).2.1 ≠ (TJ9 b).2.1 := by decide +kernel
theorem tyJ9_ok : ∀ k, k < 0 → parseFieldDescriptor (TJ9 k).2.2.1 = some (tyJ9 k) := by decide +kernel
abbrev cJ9_max_7cf53 : ByteArray := prog_12_method_65_code
def yJ9_max_7cf53 : MethodName := ⟨RJ9, "max", "(II)I"⟩
abbrev cJ9_min_7cf53 : ByteArray := prog_12_method_69_code
def yJ9_min_7cf53 : MethodName := ⟨RJ9, "min", "(II)I"⟩
def RJ10 : String := "java/lang/System"
def TJ10 : u_T := fun k => match k with
  | _ => ("", "", "", false)
def tyJ10 : Nat → FieldType := fun k => match k with
  | _ => .int
theorem nmJ10 : ∀ a, a < 0 → ∀ b, b < 0 → a ≠ b → (TJ10 a).2.1 ≠ (TJ10 b).2.1 := by decide +kernel
theorem tyJ10_ok : ∀ k, k < 0 → parseFieldDescriptor (TJ10 k).2.2.1 = some (tyJ10 k) := by decide +kernel
def RL : String := "ClubSmokeLaw"
abbrev cL_law : ByteArray := code
def yL_law : MethodName := ⟨RL, "law", "([I)Z"⟩
abbrev vwCl : List vw_C := [(RX0, TX0, 10), (RX1, TX1, 2), (RX4, TX4, 2), (RX6, TX6, 1), (RX7, TX7, 13), (RX8, TX8, 28)]
end
section
/-! ===== THE STATIC WORLD: behind the constructors no cell is made any more; what changes are ints (zk: mem) and longs; cells are numbered ===== -/
abbrev Mem : Type := Nat → Nat → Int32
abbrev MemL : Type := Nat → Nat → Int64
/-- the cells: (0, class, fields: 0 int, 1 long, c + 2 the cell c), (1, n, []) ints, (2, n, []) longs, (3 + t, n, cells) references -/
def zk_shp : List (Nat × Nat × List Nat) := [(0, 4, [3, 16, 25, 30, 32, 39, 45, 46, 47, 0, 0, 1, 1]), (3, 6, [2, 4, 6, 8, 10, 12]), (0, 2, [5, 0]), (1, 40, []), (0, 2, [7, 0]), (1, 40, []), (0, 2, [9, 0]), (1, 40, []), (0, 2, [11, 0]), (1, 40, []), (0, 2, [13, 0]), (1, 40, []), (0, 2, [15, 0]), (1, 40, []), (3, 4, [15, 17, 19, 21]), (0, 2, [18, 0]), (1, 60, []), (0, 2, [20, 0]), (1, 60, []), (0, 2, [22, 0]), (1, 60, []), (0, 2, [24, 0]), (1, 60, []), (0, 0, [26, 27, 28, 29, 0, 0, 0, 0, 0, 0]), (1, 6, []), (1, 6, []), (1, 6, []), (1, 8, []), (0, 1, [31, 0]), (1, 40, []), (4, 3, [31, 33, 35]), (0, 1, [34, 0]), (1, 40, []), (0, 1, [36, 0]), (1, 40, []), (0, 1, [38, 0]), (1, 40, []), (0, 3, [40]), (5, 4, [39, 40, 41, 42]), (1, 8, []), (1, 8, []), (1, 8, []), (1, 8, []), (1, 6, []), (2, 7, []), (1, 6, []), (0, 5, [49, 50, 51, 52, 0, 53, 0, 1, 1, 0, 0, 0, 0, 0, 0, 54, 0, 0, 0, 55, 56, 57, 58, 59, 0, 60, 61, 62]), (1, 6, []), (1, 240, []), (1, 4, []), (1, 240, []), (1, 6, []), (1, 12, []), (1, 6, []), (1, 6, []), (1, 17, []), (1, 17, []), (1, 680, []), (1, 51, []), (1, 2040, []), (1, 3, [])]
def zk_rv (ρ : Nat → Nat) (v : Value) : Value := match v with
  | .ref c => .ref (ρ c)
  | v => v
theorem zk_rv_cat (ρ : Nat → Nat) (v : Value) : (zk_rv ρ v).category = v.category := by cases v <;> rfl
def zk_fv (ρ : Nat → Nat) (mu : Nat → Int32) (lm : Nat → Int64) (k : Nat) (x : Nat) : Value := match x with
  | 0 => .int (mu k)
  | 1 => .long (lm k)
  | n + 2 => .ref (ρ n)
def zk_E (ρ : Nat → Nat) (γ : Nat → ClassId) (sh : Nat × Nat × List Nat) (mu : Nat → Int32) (lm : Nat → Int64) : va_E := match sh with
  | (0, ci, fs) => .inr (ci, fs.mapIdx (fun k x => zk_fv ρ mu lm k x))
  | (1, n, _) => .inl (γ 0, n, .inl mu)
  | (2, n, _) => .inl (γ 1, n, .inr (.inl lm))
  | (t + 3, n, rs) => .inl (γ (t + 2), n, .inr (.inr (.inr (.inr (fun j => (rs[j]?).map ρ)))))
def zk_ws (ρ : Nat → Nat) (γ : Nat → ClassId) (mu : Mem) (lm : MemL) : va_W := zk_shp.mapIdx (fun c sh => (ρ c, zk_E ρ γ sh (mu c) (lm c)))
def zk_ty (γ : Nat → ClassId) : List (ClassId × FieldType) := [(γ 0, .int), (γ 1, .long), (γ 2, .object RX4), (γ 3, .object RX1), (γ 4, .array .int)]
/-- the cell c holds f -/
def zk_uc {α : Type} (mu : Nat → Nat → α) (c : Nat) (f : Nat → α) : Nat → Nat → α := fun c' => if c' = c then f else mu c'
/-- place k of the cell c holds v -/
def zk_up {α : Type} (mu : Nat → Nat → α) (c k : Nat) (v : α) : Nat → Nat → α := fun c' k' => if c' = c ∧ k' = k then v else mu c' k'
theorem zk_up_uc {α : Type} (mu : Nat → Nat → α) (c k : Nat) (v : α) : zk_uc mu c (fun j => if j = k then v else mu c j) = zk_up mu c k v := by
  funext c' k'
  unfold zk_uc zk_up
  by_cases h : c' = c
  · subst h; by_cases h2 : k' = k <;> simp [h2]
  · simp [h]
theorem zk_ws_at {ρ : Nat → Nat} {γ : Nat → ClassId} {mu : Mem} {lm : MemL} {c : Nat} {sh : Nat × Nat × List Nat} (h : zk_shp[c]? = some sh) : (zk_ws ρ γ mu lm)[c]? = some (ρ c, zk_E ρ γ sh (mu c) (lm c)) := by
  unfold zk_ws
  rw [List.getElem?_mapIdx, h]; rfl
theorem zk_ws_set {ρ : Nat → Nat} {γ : Nat → ClassId} {mu : Mem} {lm : MemL} {c : Nat} {sh : Nat × Nat × List Nat} (h : zk_shp[c]? = some sh) (f : Nat → Int32) (g : Nat → Int64) : (zk_ws ρ γ mu lm).set c (ρ c, zk_E ρ γ sh f g) = zk_ws ρ γ (zk_uc mu c f) (zk_uc lm c g) := by
  apply List.ext_getElem?
  intro i
  rw [List.getElem?_set]
  unfold zk_ws zk_uc
  have hl : c < zk_shp.length := (List.getElem?_eq_some_iff.mp h).1
  by_cases e : c = i
  · subst e
    rw [if_pos rfl, List.getElem?_mapIdx, h]
    simp [hl]
  · rw [if_neg e, List.getElem?_mapIdx, List.getElem?_mapIdx]
    have e2 : ¬ i = c := fun q => e q.symm
    simp [e2]
theorem zk_uc_self {α : Type} (mu : Nat → Nat → α) (c : Nat) : zk_uc mu c (mu c) = mu := by
  funext c'
  unfold zk_uc
  by_cases h : c' = c
  · subst h; simp
  · simp [h]
theorem zk_D_any {ρ : Nat → Nat} {γ : Nat → ClassId} {mu mu' : Mem} {lm lm' : MemL} {A : Nat → Prop} (h : va_D A (zk_ws ρ γ mu lm)) : va_D A (zk_ws ρ γ mu' lm') := by
  have key : ∀ (k : Nat) (q : Nat × va_E), (zk_ws ρ γ mu' lm')[k]? = some q → ∃ q0, (zk_ws ρ γ mu lm)[k]? = some q0 ∧ q0.1 = q.1 := by
    intro k q hk
    unfold zk_ws at hk ⊢
    rw [List.getElem?_mapIdx] at hk ⊢
    cases hs : zk_shp[k]? with
    | none => rw [hs] at hk; cases hk
    | some sh => rw [hs] at hk; cases hk; exact ⟨_, rfl, rfl⟩
  refine ⟨fun i j x y hi hj hxy => ?_, fun k q hk => ?_⟩
  · obtain ⟨x0, h1, h2⟩ := key i x hi
    obtain ⟨y0, h3, h4⟩ := key j y hj
    exact h.1 i j x0 y0 h1 h3 (h2.trans (hxy.trans h4.symm))
  · obtain ⟨q0, h1, h2⟩ := key k q hk
    rw [← h2]
    exact h.2 k q0 h1
theorem zk_A_any {ρ : Nat → Nat} {γ : Nat → ClassId} {mu mu' : Mem} {lm lm' : MemL} {sz q : Nat} (h : va_A (zk_ws ρ γ mu lm) sz q) : va_A (zk_ws ρ γ mu' lm') sz q := by
  rcases h with ⟨k, e, h⟩ | h
  · left
    unfold zk_ws at h ⊢
    rw [List.getElem?_mapIdx] at h
    cases hs : zk_shp[k]? with
    | none => rw [hs] at h; cases h
    | some sh =>
      rw [hs] at h; cases h
      exact ⟨k, zk_E ρ γ sh (mu' k) (lm' k), by rw [List.getElem?_mapIdx, hs]; rfl⟩
  · exact Or.inr h
/-! ===== locals ===== -/
def zk_isV (v : Value) : Bool := match v with
  | .retAddr _ => false
  | _ => true
def zk_lv (ρ : Nat → Nat) (ls : List Value) : List (Nat × Value) := (List.range ls.length).filterMap (fun i => (ls[i]?).bind (fun v => if zk_isV v = true then some (i, zk_rv ρ v) else none))
theorem zk_mem_lv {ρ : Nat → Nat} {ls : List Value} {q : Nat × Value} : q ∈ zk_lv ρ ls ↔ ∃ v, ls[q.1]? = some v ∧ zk_isV v = true ∧ q.2 = zk_rv ρ v := by
  unfold zk_lv
  rw [List.mem_filterMap]
  constructor
  · rintro ⟨i, hi, h⟩
    cases hv : ls[i]? with
    | none => rw [hv] at h; cases h
    | some v =>
      rw [hv] at h
      simp only [Option.bind_some] at h
      by_cases hV : zk_isV v = true
      · rw [if_pos hV] at h; cases h; exact ⟨v, hv, hV, rfl⟩
      · rw [if_neg hV] at h; cases h
  · rintro ⟨v, hv, hV, e⟩
    refine ⟨q.1, List.mem_range.mpr (List.getElem?_eq_some_iff.mp hv).1, ?_⟩
    rw [hv]
    simp only [Option.bind_some]
    rw [if_pos hV, ← e]
def zk_kill (ls : List Value) (i : Nat) : List Value := match i with
  | 0 => ls
  | j + 1 => match ls[j]? with
    | some (.long _) => ls.set j (.retAddr 0)
    | some (.double _) => ls.set j (.retAddr 0)
    | _ => ls
def zk_set (ls : List Value) (i : Nat) (v : Value) : List Value := (zk_kill ls i).set i v
def zk_set2 (ls : List Value) (i : Nat) (v : Value) : List Value := (zk_set ls i v).set (i + 1) (.retAddr 0)
theorem zk_at {ρ : Nat → Nat} {ls : List Value} {lsr : Array Slot} {nL i : Nat} {v : Value} (h : lv_has lsr nL (zk_lv ρ ls)) (hv : ls[i]? = some v) (hV : zk_isV v = true) : lsr[i]? = some (.val (zk_rv ρ v)) := h.2.2 (i, zk_rv ρ v) (zk_mem_lv.mpr ⟨v, hv, hV, rfl⟩)
theorem zk_kill_at {ls : List Value} {i j : Nat} {w : Value} (h : (zk_kill ls i)[j]? = some w) (hV : zk_isV w = true) : ls[j]? = some w ∧ ¬ (j + 1 = i ∧ w.category = 2) := by
  unfold zk_kill at h
  match i with
  | 0 => exact ⟨h, fun q => by omega⟩
  | k + 1 =>
    simp only at h
    by_cases e : j = k
    · subst e
      cases hk : ls[j]? with
      | none => rw [hk] at h; simp only at h; rw [hk] at h; cases h
      | some v =>
        rw [hk] at h
        cases v with
        | long x =>
          simp only at h
          rw [List.getElem?_set_self (List.getElem?_eq_some_iff.mp hk).1] at h
          cases h; cases hV
        | double x =>
          simp only at h
          rw [List.getElem?_set_self (List.getElem?_eq_some_iff.mp hk).1] at h
          cases h; cases hV
        | _ => simp only at h; rw [hk] at h; cases h; exact ⟨rfl, fun q => by simp [Value.category] at q⟩
    · have h2 : ls[j]? = some w := by
        split at h
        · rwa [List.getElem?_set_ne (fun q => e q.symm)] at h
        · rwa [List.getElem?_set_ne (fun q => e q.symm)] at h
        · exact h
      exact ⟨h2, fun q => by omega⟩
theorem zk_has_set {ρ : Nat → Nat} {ls : List Value} {lsr : Array Slot} {nL i : Nat} {v : Value} (h : lv_has lsr nL ((i, zk_rv ρ v) :: (zk_lv ρ ls).filter (fun q => !(q.1 == i) && !(q.1 + 1 == i && q.2.category == 2)))) : lv_has lsr nL (zk_lv ρ (zk_set ls i v)) := by
  refine ⟨h.1, h.2.1, fun q hq => h.2.2 q ?_⟩
  obtain ⟨w, hw, hV, e⟩ := zk_mem_lv.mp hq
  obtain ⟨j, x⟩ := q
  simp only at hw e
  subst e
  unfold zk_set at hw
  by_cases ej : i = j
  · subst ej
    have hl := (List.getElem?_eq_some_iff.mp hw).1
    rw [List.length_set] at hl
    rw [List.getElem?_set_self hl] at hw
    cases hw
    exact List.mem_cons_self
  · rw [List.getElem?_set_ne ej] at hw
    obtain ⟨h1, h2⟩ := zk_kill_at hw hV
    refine List.mem_cons_of_mem _ (List.mem_filter.mpr ⟨zk_mem_lv.mpr ⟨w, h1, hV, rfl⟩, ?_⟩)
    have ej' : ¬ j = i := fun q => ej q.symm
    simp only [zk_rv_cat]
    by_cases q1 : j + 1 = i
    · have q2 : ¬ w.category = 2 := fun q => h2 ⟨q1, q⟩
      simp [ej', q2]
    · simp [ej', q1]
theorem zk_has_set2 {ρ : Nat → Nat} {ls : List Value} {lsr : Array Slot} {nL i : Nat} {v : Value} (h : lv_has lsr nL ((i, zk_rv ρ v) :: (zk_lv ρ ls).filter (fun q => !(q.1 == i) && (!(q.1 == i + 1) && !(q.1 + 1 == i && q.2.category == 2))))) : lv_has lsr nL (zk_lv ρ (zk_set2 ls i v)) := by
  refine ⟨h.1, h.2.1, fun q hq => h.2.2 q ?_⟩
  obtain ⟨w, hw, hV, e⟩ := zk_mem_lv.mp hq
  obtain ⟨j, x⟩ := q
  simp only at hw e
  subst e
  unfold zk_set2 at hw
  by_cases e1 : i + 1 = j
  · subst e1
    have hl := (List.getElem?_eq_some_iff.mp hw).1
    rw [List.length_set] at hl
    rw [List.getElem?_set_self hl] at hw
    cases hw
    cases hV
  rw [List.getElem?_set_ne e1] at hw
  unfold zk_set at hw
  by_cases ej : i = j
  · subst ej
    have hl := (List.getElem?_eq_some_iff.mp hw).1
    rw [List.length_set] at hl
    rw [List.getElem?_set_self hl] at hw
    cases hw
    exact List.mem_cons_self
  · rw [List.getElem?_set_ne ej] at hw
    obtain ⟨h1, h2⟩ := zk_kill_at hw hV
    refine List.mem_cons_of_mem _ (List.mem_filter.mpr ⟨zk_mem_lv.mpr ⟨w, h1, hV, rfl⟩, ?_⟩)
    have ej' : ¬ j = i := fun q => ej q.symm
    have e1' : ¬ j = i + 1 := fun q => e1 q.symm
    simp only [zk_rv_cat]
    by_cases q1 : j + 1 = i
    · have q2 : ¬ w.category = 2 := fun q => h2 ⟨q1, q⟩
      simp [ej', e1', q2]
    · simp [ej', e1', q1]
/-- a method's locals at its entry -/
def zk_ent (vs : List Value) : List Value := vs.flatMap (fun v => if v.category = 2 then [v, .retAddr 0] else [v])
def zk_loc (vs : List Value) (nL : Nat) : List Value := zk_ent vs ++ List.replicate (nL - (zk_ent vs).length) (.retAddr 0)
theorem zk_ent_args {ρ : Nat → Nat} : ∀ (vs : List Value) (b j : Nat) (v : Value), (zk_ent vs)[j]? = some v → zk_isV v = true → (b + j, zk_rv ρ v) ∈ lv_args b (vs.map (zk_rv ρ))
  | [], b, j, v, h, _ => by simp [zk_ent] at h
  | a :: vs, b, j, v, h, hV => by
    have ih := zk_ent_args (ρ := ρ) vs
    show _ ∈ (b, zk_rv ρ a) :: lv_args (if (zk_rv ρ a).category = 2 then b + 2 else b + 1) (vs.map (zk_rv ρ))
    rw [zk_rv_cat]
    have hs : zk_ent (a :: vs) = (if a.category = 2 then [a, .retAddr 0] else [a]) ++ zk_ent vs := by simp [zk_ent]
    rw [hs] at h
    by_cases hc : a.category = 2
    · rw [if_pos hc] at h ⊢
      match j, h with
      | 0, h => cases h; exact List.mem_cons_self
      | 1, h => cases h; cases hV
      | j + 2, h =>
        have := ih (b + 2) j v (by simpa using h) hV
        rw [show b + (j + 2) = b + 2 + j by omega]
        exact List.mem_cons_of_mem _ this
    · rw [if_neg hc] at h ⊢
      match j, h with
      | 0, h => cases h; exact List.mem_cons_self
      | j + 1, h =>
        have := ih (b + 1) j v (by simpa using h) hV
        rw [show b + (j + 1) = b + 1 + j by omega]
        exact List.mem_cons_of_mem _ this
theorem zk_has_loc {ρ : Nat → Nat} {vs : List Value} {lsr : Array Slot} {nL : Nat} (h : lv_has lsr nL (lv_args 0 (vs.map (zk_rv ρ)))) : lv_has lsr nL (zk_lv ρ (zk_loc vs nL)) := by
  refine ⟨h.1, h.2.1, fun q hq => h.2.2 q ?_⟩
  obtain ⟨w, hw, hV, e⟩ := zk_mem_lv.mp hq
  obtain ⟨j, x⟩ := q
  simp only at hw e
  subst e
  unfold zk_loc at hw
  by_cases hj : j < (zk_ent vs).length
  · rw [List.getElem?_append_left hj] at hw
    have := zk_ent_args (ρ := ρ) vs 0 j w hw hV
    rwa [Nat.zero_add] at this
  · rw [List.getElem?_append_right (by omega)] at hw
    have := List.mem_replicate.mp (List.mem_of_getElem? hw)
    rw [this.2] at hV
    cases hV
theorem zk_ent_len (ρ : Nat → Nat) (vs : List Value) : (lg_sl (vs.map (zk_rv ρ))).length = (zk_ent vs).length := by
  induction vs with
  | nil => rfl
  | cons a vs ih =>
    have h1 : lg_sl ((a :: vs).map (zk_rv ρ)) = (if (zk_rv ρ a).category = 2 then [Slot.val (zk_rv ρ a), .second] else [Slot.val (zk_rv ρ a)]) ++ lg_sl (vs.map (zk_rv ρ)) := by simp [lg_sl]
    have h2 : zk_ent (a :: vs) = (if a.category = 2 then [a, .retAddr 0] else [a]) ++ zk_ent vs := by simp [zk_ent]
    rw [h1, h2, zk_rv_cat, List.length_append, List.length_append, ih]
    by_cases hc : a.category = 2 <;> simp [hc]
end
section
/-! ===== THE JUDGEMENT: the machine, now at pc of a method with locals ls, stack st, memory mu, lm, comes to its return with Q ===== -/
/-- the tables' words that stay -/
def zk_tb : List Cond := lw_tbl.filter goodWord
theorem zk_in {w : Cond} (i : Nat) (h : lw_tbl[i]? = some w) (hg : goodWord w = true) : w ∈ zk_tb := List.mem_filter.mpr ⟨List.mem_of_getElem? h, hg⟩
theorem zk_gi {ws : List Cond} (h : ∀ w ∈ ws, w ∈ zk_tb) : GoodIn zk_tb ws := fun w hw => ⟨h w hw, good_of_word (List.mem_filter.mp (h w hw)).2⟩
/-- what the tables say of the nest mates' calls -/
def zk_Nst (s : State) : Prop := va_Nw (.methodLinkNest RX5 52 yX7_within "ClubSmoke") s ∧ va_Nw (.methodLinkNest RX4 31 yX7_within "ClubSmoke") s
/-- what stays through a method's body -/
def zk_Cx (d : Nat) (own : String) (cc : ByteArray) (nL : Nat) (ret : Option FieldType) (sx : Option (Nat × (Nat → Int32))) (p : Program) (R : Room) (s : State) (m : MethodId) (args : Array Value) (meth : Method) (c : Code) (D : va_G) (ρ : Nat → Nat) (γ : Nat → ClassId) (A : Nat → Prop) (cells slots : Nat) : Prop :=
  CallFix p m c cc nL s args zk_tb own ∧ (meth.sig.returnType = ret ∧ meth.locks = false ∧ zk_Nst s) ∧ va_K D vwCl (zk_ty γ) s ∧ (∀ q, s.heap.size ≤ q → A q) ∧ (d ≤ R.frames ∧ d * 80 ≤ R.locals ∧ cells ≤ R.cells ∧ slots ≤ R.slots) ∧
  ∀ (L : Nat) (xs : Nat → Int32), sx = some (L, xs) → va_X (ρ 99) L xs s s.heap ∧ ρ 99 < s.heap.size ∧ ¬ A (ρ 99)
def zk_Wd (s : State) (D : va_G) (ρ : Nat → Nat) (γ : Nat → ClassId) (A : Nat → Prop) (H : Heap) (locs : List Loc) (mu : Mem) (lm : MemL) : Prop :=
  va_P D vwCl (zk_ws ρ γ mu lm) H ∧ va_D A (zk_ws ρ γ mu lm) ∧ va_S A s.heap H locs
def zk_Rt (cc : ByteArray) (ret : Option FieldType) (pc : Nat) (r : Option Value) : Prop := match r with
  | none => decode cc pc = .ok (.return_, 1) ∧ ret = none
  | some (.int v) => decode cc pc = .ok (.ireturn, 1) ∧ (ret = some .int ∨ (ret = some .boolean ∧ (v = 0 ∨ v = 1)))
  | some (.long _) => decode cc pc = .ok (.lreturn, 1) ∧ ret = some .long
  | some .null => decode cc pc = .ok (.areturn, 1) ∧ ∃ n, ret = some (.object n)
  | some (.ref _) => decode cc pc = .ok (.areturn, 1) ∧ ∃ n, ret = some (.object n)
  | _ => False
def zk_M (d : Nat) (own : String) (cc : ByteArray) (nL : Nat) (ret : Option FieldType) (sx : Option (Nat × (Nat → Int32))) (pc : Nat) (ls st : List Value) (mu : Mem) (lm : MemL) (Q : Option Value → Mem → MemL → Prop) : Prop :=
  ∀ (p : Program) (l : Launch) (e : Env) (R : Room) (s : State) (m : MethodId) (args : Array Value) (below : List Frame) (meth : Method) (c : Code) (D : va_G) (ρ : Nat → Nat) (γ : Nat → ClassId) (A : Nat → Prop) (cells slots : Nat) (H : Heap) (locs : List Loc) (Z : State → Prop) (lsr : Array Slot),
    zk_Cx d own cc nL ret sx p R s m args meth c D ρ γ A cells slots → zk_Wd s D ρ γ A H locs mu lm → lv_has lsr nL (zk_lv ρ ls) →
    (∀ (r : Option Value) (mu' : Mem) (lm' : MemL) (H' : Heap) (locs' : List Loc) (pc' : Nat) (lsr' : Array Slot), Q r mu' lm' → zk_Wd s D ρ γ A H' locs' mu' lm' → zk_Rt cc ret pc' r → W p l e R s m args below meth c H' locs' cells slots Z (F0 m pc' lsr' (r.toList.map (zk_rv ρ)))) →
    W p l e R s m args below meth c H locs cells slots Z (F0 m pc lsr (st.map (zk_rv ρ)))
section ZK
variable {d : Nat} {own : String} {cc : ByteArray} {nL : Nat} {ret : Option FieldType} {sx : Option (Nat × (Nat → Int32))} {ls st : List Value} {mu : Mem} {lm : MemL} {Q : Option Value → Mem → MemL → Prop} {pc : Nat}
theorem zk_post {Q' : Option Value → Mem → MemL → Prop} (h : zk_M d own cc nL ret sx pc ls st mu lm Q') (hQ : ∀ r mu' lm', Q' r mu' lm' → Q r mu' lm') : zk_M d own cc nL ret sx pc ls st mu lm Q := by
  intro p l e R s m args below meth c D ρ γ A cells slots H locs Z lsr C Wd hl K
  exact h p l e R s m args below meth c D ρ γ A cells slots H locs Z lsr C Wd hl (fun r mu' lm' H' locs' pc' lsr' q => K r mu' lm' H' locs' pc' lsr' (hQ r mu' lm' q))
theorem zk_deep {d' : Nat} (hd : d ≤ d') (h : zk_M d own cc nL ret sx pc ls st mu lm Q) : zk_M d' own cc nL ret sx pc ls st mu lm Q := by
  intro p l e R s m args below meth c D ρ γ A cells slots H locs Z lsr C Wd hl K
  obtain ⟨c1, c2, c3, c4, ⟨c5, c6, c7⟩, c8⟩ := C
  exact h p l e R s m args below meth c D ρ γ A cells slots H locs Z lsr ⟨c1, c2, c3, c4, ⟨by omega, by omega, c7⟩, c8⟩ Wd hl K
/-! returns -/
theorem zk_ireturn {v : Int32} (hd : decode cc pc = .ok (.ireturn, 1)) (hr : ret = some .int ∨ (ret = some .boolean ∧ (v = 0 ∨ v = 1))) (hq : Q (some (.int v)) mu lm) : zk_M d own cc nL ret sx pc ls [.int v] mu lm Q := by
  intro p l e R s m args below meth c D ρ γ A cells slots H locs Z lsr C Wd hl K
  exact K (some (.int v)) mu lm H locs pc lsr hq Wd ⟨hd, hr⟩
theorem zk_lreturn {v : Int64} (hd : decode cc pc = .ok (.lreturn, 1)) (hr : ret = some .long) (hq : Q (some (.long v)) mu lm) : zk_M d own cc nL ret sx pc ls [.long v] mu lm Q := by
  intro p l e R s m args below meth c D ρ γ A cells slots H locs Z lsr C Wd hl K
  exact K (some (.long v)) mu lm H locs pc lsr hq Wd ⟨hd, hr⟩
theorem zk_return (hd : decode cc pc = .ok (.return_, 1)) (hr : ret = none) (hq : Q none mu lm) : zk_M d own cc nL ret sx pc ls [] mu lm Q := by
  intro p l e R s m args below meth c D ρ γ A cells slots H locs Z lsr C Wd hl K
  exact K none mu lm H locs pc lsr hq Wd ⟨hd, hr⟩
theorem zk_areturn {x : Nat} (hd : decode cc pc = .ok (.areturn, 1)) (hr : ∃ n, ret = some (.object n)) (hq : Q (some (.ref x)) mu lm) : zk_M d own cc nL ret sx pc ls [.ref x] mu lm Q := by
  intro p l e R s m args below meth c D ρ γ A cells slots H locs Z lsr C Wd hl K
  exact K (some (.ref x)) mu lm H locs pc lsr hq Wd ⟨hd, hr⟩
theorem zk_areturnN (hd : decode cc pc = .ok (.areturn, 1)) (hr : ∃ n, ret = some (.object n)) (hq : Q (some .null) mu lm) : zk_M d own cc nL ret sx pc ls [.null] mu lm Q := by
  intro p l e R s m args below meth c D ρ γ A cells slots H locs Z lsr C Wd hl K
  exact K (some .null) mu lm H locs pc lsr hq Wd ⟨hd, hr⟩
end ZK
end
section
/-! ===== CALLS: a callee's judgement is a contract; the frame is the world's ===== -/
/-- a method of the tables -/
def zk_Mt (own : String) (y : MethodName) (cc : ByteArray) (nL : Nat) (ret : Option FieldType) (n : Nat) : Prop :=
  y.cls = own ∧ plainName y.cls = true ∧ y.cls ≠ "java/lang/invoke/MethodHandle" ∧ y.cls ≠ "java/lang/invoke/VarHandle" ∧ (parseMethodDescriptor y.desc).map (fun d => d.parameters.length) = some n ∧ nL ≤ 50 ∧ Cond.code y cc nL ret ∈ zk_tb ∧ Cond.initialized y.cls ∈ zk_tb
def zk_Pc (D : va_G) (ρ : Nat → Nat) (γ : Nat → ClassId) (mu : Mem) (lm : MemL) (sz : Nat) (as : List Value) : Array Value → State → Prop := va_Pc (as.map (zk_rv ρ)) (fun U => U.heap.size = sz ∧ va_P D vwCl (zk_ws ρ γ mu lm) U.heap ∧ va_K D vwCl (zk_ty γ) U ∧ va_D (fun _ => True) (zk_ws ρ γ mu lm) ∧ zk_Nst U)
def zk_Qc (D : va_G) (ρ : Nat → Nat) (γ : Nat → ClassId) (A : Nat → Prop) (Q : Option Value → Mem → MemL → Prop) : Array Value → State → Outcome → State → Prop := fun _ st oc t => (∃ (r : Option Value) (mu' : Mem) (lm' : MemL), oc = .returned (r.map (zk_rv ρ)) ∧ Q r mu' lm' ∧ va_P D vwCl (zk_ws ρ γ mu' lm') t.heap) ∧ va_F A st t
def zk_Rm (d : Nat) : Room := { frames := d, cells := 0, slots := 0, locals := d * 80 }
theorem zk_met (l : Launch) {d : Nat} {own : String} {y : MethodName} {cc : ByteArray} {nL n : Nat} {ret : Option FieldType} (hy : zk_Mt own y cc nL ret n) {as : List Value} (hlen : (zk_ent as).length ≤ nL) {mu : Mem} {lm : MemL} {Q : Option Value → Mem → MemL → Prop} (h : zk_M d own cc nL ret none 0 (zk_loc as nL) [] mu lm Q) (D : va_G) (ρ : Nat → Nat) (γ : Nat → ClassId) (sz : Nat) :
    Met l y (.code y cc nL ret :: zk_tb) (zk_Rm d) (zk_Pc D ρ γ mu lm sz as) (zk_Qc D ρ γ (va_A (zk_ws ρ γ mu lm) sz) Q) 0 0 (va_A (zk_ws ρ γ mu lm) sz) := by
  obtain ⟨hown0, hpl, -, -, -, -, -, -⟩ := hy
  refine Met.ofW (cc := cc) (maxL := nL) (ret := ret) hpl rfl ?_
  intro p e s m args below meth c s₁ B hml hv
  obtain ⟨rfl, hsz, hP, hK, hD0, hN⟩ := hv
  have hts := atoms_spec (ws := .code y cc nL ret :: zk_tb) B.pre
  have hown : s.vm.findClass own = some m.cls := by rw [← hown0]; exact findClass_of_methodNamed B.named
  subst hsz
  have hD := hD0.self (sz := s.heap.size)
  rw [lg_entry_eq]
  have hl := lv_entry (as.map (zk_rv ρ)) (n := nL) (by rw [zk_ent_len]; exact hlen)
  refine h p l e (zk_Rm d) s m _ below meth c D ρ γ (va_A (zk_ws ρ γ mu lm) s.heap.size) 0 0 s.heap [] _ _ ⟨⟨B.exec, B.bytes, hml, hown, fun w hw => hts w (List.mem_cons_of_mem _ hw)⟩, ⟨B.returns, B.notSynchronized, hN⟩, hK, fun q hq => Or.inr hq, ⟨Nat.le_refl _, Nat.le_refl _, Nat.le_refl _, Nat.le_refl _⟩, fun L xs q => by cases q⟩ ⟨hP, hD, va_S.rf⟩ (zk_has_loc hl) ?_
  intro r mu' lm' H' locs' pc' lsr' hQ hW hR
  obtain ⟨hP', hD', hS'⟩ := hW
  have hlocks := B.notSynchronized
  have hret := B.returns
  have key : ∀ t : State, t.heap = H' → s.WarmedH t.vm → zk_Qc D ρ γ (va_A (zk_ws ρ γ mu lm) s.heap.size) Q (as.map (zk_rv ρ)).toArray s (.returned (r.map (zk_rv ρ))) t := fun t ht hw => ⟨⟨r, mu', lm', rfl, hQ, by rw [ht]; exact hP'⟩, hS'.F ht⟩
  match r, hR, key with
  | none, hR, key => exact W.vret B.exec B.bytes (hret.trans hR.2) key (fun q hq => hS'.2.2 q hq) hR.1
  | some (.int v), hR, key =>
    rcases hR.2 with h1 | ⟨h1, h2⟩
    · exact W.iret B.exec B.bytes (hret.trans h1) key (fun q hq => hS'.2.2 q hq) hR.1
    · exact W.zret B.exec B.bytes (hret.trans h1) (by rcases h2 with rfl | rfl <;> rfl) key (fun q hq => hS'.2.2 q hq) hR.1
  | some (.long v), hR, key => exact W.lret B.exec B.bytes (hret.trans hR.2) key (fun q hq => hS'.2.2 q hq) hR.1
  | some .null, hR, key =>
    obtain ⟨h1, nm, h2⟩ := hR
    exact W.aret B.exec B.bytes (hret.trans h2) (Or.inl ⟨nm, rfl⟩) (Or.inl rfl) key (fun q hq => hS'.2.2 q hq) h1
  | some (.ref v), hR, key =>
    obtain ⟨h1, nm, h2⟩ := hR
    exact W.aret B.exec B.bytes (hret.trans h2) (Or.inl ⟨nm, rfl⟩) (Or.inr ⟨_, rfl⟩) key (fun q hq => hS'.2.2 q hq) h1
theorem zk_blind {D : va_G} {ρ : Nat → Nat} {γ : Nat → ClassId} {mu : Mem} {lm : MemL} {sz : Nat} {as : List Value} : FrameBlind (zk_Pc D ρ γ mu lm sz as) := by
  intro a U g mk q
  obtain ⟨h1, h2, h3, h4, h5, h6, h7⟩ := q
  exact ⟨h1, h2, h3, va_K.moved (u := U) (U := U.calling g mk a) (Vm.Alike.refl U.vm) h4, h5, va_Nw.same (u := U) rfl rfl h6, va_Nw.same (u := U) rfl rfl h7⟩
/-- behind a call: the machine goes on in the world that the callee left -/
theorem zk_back {p : Program} {l : Launch} {e : Env} {R : Room} {s : State} {m : MethodId} {args : Array Value} {below : List Frame} {meth : Method} {c : Code} {H : Heap} {locs : List Loc} {cells slots : Nat} {Z : State → Prop} {pc : Nat} {lsr : Array Slot} {st0 rest : List Value} {a : Array Value} {A : Nat → Prop} {D : va_G} {ρ : Nat → Nat} {γ : Nat → ClassId} {mu : Mem} {lm : MemL} {Q1 : Option Value → Mem → MemL → Prop}
    (hr : va_Run p l e R s m args below meth c H locs cells slots 0 0 (F0 m pc lsr st0) (rest.map (zk_rv ρ)) (zk_Qc D ρ γ (va_A (zk_ws ρ γ mu lm) H.size) Q1 a) (va_A (zk_ws ρ γ mu lm) H.size)) (hW : zk_Wd s D ρ γ A H locs mu lm) (hA : ∀ q, s.heap.size ≤ q → A q)
    (kk : ∀ (r : Option Value) (mu' : Mem) (lm' : MemL) (H1 : Heap) (locs1 : List Loc), Q1 r mu' lm' → zk_Wd s D ρ γ A H1 locs1 mu' lm' → W p l e R s m args below meth c H1 locs1 cells slots Z (F0 m (pc + 3) lsr ((r.toList ++ rest).map (zk_rv ρ)))) : W p l e R s m args below meth c H locs cells slots Z (F0 m pc lsr st0) := by
  obtain ⟨hP, hD, hS⟩ := hW
  have hF : ∀ q, va_A (zk_ws ρ γ mu lm) H.size q → A q := by
    intro q h
    rcases h with ⟨k, e, h⟩ | h
    · exact hD.2 k (q, e) h
    · exact hA q (Nat.le_trans hS.1 h)
  intro T hT X
  obtain ⟨v, st₀, t, T', L, h0, X', hL, e1, e2, ⟨⟨r, mu', lm', hv, hq, hb⟩, hz, hk⟩, st⟩ := hr T hT X
  cases hv
  rw [h0] at hz hk
  have hS' : va_S A s.heap T'.heap (locs ++ L) := ⟨Nat.le_trans hS.1 (by rw [e1]; exact hz), fun q h1 h2 => by rw [e1, hk q (Nat.lt_of_lt_of_le h1 hS.1) (fun z => h2 (hF q z))]; exact hS.2.1 q h1 h2, fun q hq => by
      rcases List.mem_append.mp hq with h | h
      · exact hS.2.2 q h
      · exact hF _ (hL q h)⟩
  obtain ⟨t2, a1, b1⟩ := kk r mu' lm' T'.heap (locs ++ L) hq ⟨by rw [e1]; exact hb, zk_D_any hD, hS'⟩ T' rfl X'
  refine ⟨t2, st t2 ?_, b1⟩
  have e3 : (r.map (zk_rv ρ)).toList ++ rest.map (zk_rv ρ) = (r.toList ++ rest).map (zk_rv ρ) := by cases r <;> simp
  have e4 : ({ F0 m pc lsr st0 with pc := pc + 3, stack := (r.map (zk_rv ρ)).toList ++ rest.map (zk_rv ρ) } : JFrame) = F0 m (pc + 3) lsr ((r.toList ++ rest).map (zk_rv ρ)) := by rw [e3]
  exact e4 ▸ a1
section ZC
variable {d : Nat} {own : String} {cc : ByteArray} {nL : Nat} {ret : Option FieldType} {sx : Option (Nat × (Nat → Int32))} {ls st : List Value} {mu : Mem} {lm : MemL} {Q : Option Value → Mem → MemL → Prop} {pc : Nat} {own' : String} {y : MethodName} {cc' : ByteArray} {nL' : Nat} {ret' : Option FieldType} {n idx : Nat} {Q1 : Option Value → Mem → MemL → Prop}
theorem zk_cat (ρ : Nat → Nat) (st : List Value) : ((st.map (zk_rv ρ)).map fun v => v.category).sum = (st.map fun v => v.category).sum := by
  rw [List.map_map]
  congr 1
  apply List.map_congr_left
  intro a _
  exact zk_rv_cat ρ a
theorem zk_callS (hd : decode cc pc = .ok (.invokestatic idx, 3)) (hy : zk_Mt own' y cc' nL' ret' n) (hl : Cond.methodLink own idx y ∈ zk_tb) (hs : Cond.static y ∈ zk_tb) (as st' : List Value) (hst : st = as.reverse ++ st') (hn : as.length = n) (hlen : (zk_ent as).length ≤ nL') (hc : (st'.map fun v => v.category).sum ≤ 8)
    (h : zk_M d own' cc' nL' ret' none 0 (zk_loc as nL') [] mu lm Q1) (kk : ∀ r mu' lm', Q1 r mu' lm' → zk_M (d + 1) own cc nL ret sx (pc + 3) ls (r.toList ++ st') mu' lm' Q) : zk_M (d + 1) own cc nL ret sx pc ls st mu lm Q := by
  subst hst
  intro p l e R s m args below meth c D ρ γ A cells slots H locs Z lsr C Wd hls K
  obtain ⟨F, c2, hK, hA, ⟨c5, c6, c7, c7'⟩, c8⟩ := id C
  obtain ⟨y1, y2, y3, y4, y5, y6, y7, y8⟩ := id hy
  have hts := F.2.2.2.2
  have hws : ∀ w ∈ (va_wsS own idx y (.code y cc' nL' ret' :: zk_tb)), w ∈ zk_tb := by
    intro w hw
    simp only [va_wsS, List.cons_append, List.nil_append, List.mem_cons] at hw
    rcases hw with rfl | rfl | rfl | rfl | hw
    · exact hl
    · exact hs
    · exact y8
    · exact y7
    · exact hw
  refine zk_back (D := D) (ρ := ρ) (γ := γ) (rest := st') (va_runS (As := as.map (zk_rv ρ)) (rest := st'.map (zk_rv ρ)) F (zk_met l hy hlen h D ρ γ H.size) (va_cwS n hts (zk_gi hws) rfl rfl rfl ⟨y3, y4, y5⟩ ⟨c5, by show 8 + (nL' + 11) + d * 80 ≤ R.locals; omega⟩) ⟨zk_blind, fun U hU hW => ⟨rfl, by rw [hU], by rw [hU]; exact Wd.1, va_K.moved hW.alike hK, Wd.2.1.weaken (fun _ _ _ _ => trivial), va_Nw.warmM hW c2.2.2.1, va_Nw.warmM hW c2.2.2.2⟩⟩ rfl (by rw [List.length_map]; exact hn) hls.1 (by rw [List.map_append, List.map_reverse]) (lv_room (by rw [zk_cat]; exact hc)) hd ⟨c7, c7'⟩) Wd hA ?_
  intro r mu' lm' H1 locs1 q W1
  exact kk r mu' lm' q p l e R s m args below meth c D ρ γ A cells slots H1 locs1 Z lsr C W1 hls K
theorem zk_callSN {host : String} (hd : decode cc pc = .ok (.invokestatic idx, 3)) (hy : zk_Mt own' y cc' nL' ret' n) (hl : ∀ s, zk_Nst s → va_Nw (.methodLinkNest own idx y host) s) (hs : Cond.static y ∈ zk_tb) (as st' : List Value) (hst : st = as.reverse ++ st') (hn : as.length = n) (hlen : (zk_ent as).length ≤ nL') (hc : (st'.map fun v => v.category).sum ≤ 8)
    (h : zk_M d own' cc' nL' ret' none 0 (zk_loc as nL') [] mu lm Q1) (kk : ∀ r mu' lm', Q1 r mu' lm' → zk_M (d + 1) own cc nL ret sx (pc + 3) ls (r.toList ++ st') mu' lm' Q) : zk_M (d + 1) own cc nL ret sx pc ls st mu lm Q := by
  subst hst
  intro p l e R s m args below meth c D ρ γ A cells slots H locs Z lsr C Wd hls K
  obtain ⟨F, c2, hK, hA, ⟨c5, c6, c7, c7'⟩, c8⟩ := id C
  obtain ⟨y1, y2, y3, y4, y5, y6, y7, y8⟩ := id hy
  have hts := F.2.2.2.2
  have hws : ∀ w ∈ (.code y cc' nL' ret' :: zk_tb), w ∈ zk_tb := by
    intro w hw
    rcases List.mem_cons.mp hw with rfl | hw
    · exact y7
    · exact hw
  refine zk_back (D := D) (ρ := ρ) (γ := γ) (rest := st') (va_runSN (As := as.map (zk_rv ρ)) (rest := st'.map (zk_rv ρ)) F (zk_met l hy hlen h D ρ γ H.size) ⟨va_cnB n hts (zk_gi hws) rfl rfl rfl (hl s c2.2.2) (hts _ y8) ⟨y3, y4, y5⟩ ⟨c5, by show 8 + (nL' + 11) + d * 80 ≤ R.locals; omega⟩, hts _ hs, trivial⟩ ⟨zk_blind, fun U hU hW => ⟨rfl, by rw [hU], by rw [hU]; exact Wd.1, va_K.moved hW.alike hK, Wd.2.1.weaken (fun _ _ _ _ => trivial), va_Nw.warmM hW c2.2.2.1, va_Nw.warmM hW c2.2.2.2⟩⟩ rfl (by rw [List.length_map]; exact hn) hls.1 (by rw [List.map_append, List.map_reverse]) (lv_room (by rw [zk_cat]; exact hc)) hd ⟨c7, c7'⟩) Wd hA ?_
  intro r mu' lm' H1 locs1 q W1
  exact kk r mu' lm' q p l e R s m args below meth c D ρ γ A cells slots H1 locs1 Z lsr C W1 hls K
theorem zk_callV (hd : decode cc pc = .ok (.invokevirtual idx, 3)) (hy : zk_Mt own' y cc' nL' ret' n) (hl : Cond.methodLink own idx y ∈ zk_tb) (hs : Cond.instanceMethod y ∈ zk_tb ∧ Cond.selects own' y y ∈ zk_tb) {b ci N : Nat} {fs : List Nat} {T : u_T} (hb : zk_shp[b]? = some (0, ci, fs)) (hci : vwCl[ci]? = some (own', T, N)) (as st' : List Value) (hst : st = as.reverse ++ .ref b :: st') (hn : as.length = n) (hlen : (zk_ent (.ref b :: as)).length ≤ nL') (hc : (st'.map fun v => v.category).sum ≤ 8)
    (h : zk_M d own' cc' nL' ret' none 0 (zk_loc (.ref b :: as) nL') [] mu lm Q1) (kk : ∀ r mu' lm', Q1 r mu' lm' → zk_M (d + 1) own cc nL ret sx (pc + 3) ls (r.toList ++ st') mu' lm' Q) : zk_M (d + 1) own cc nL ret sx pc ls st mu lm Q := by
  subst hst
  intro p l e R s m args below meth c D ρ γ A cells slots H locs Z lsr C Wd hls K
  obtain ⟨F, c2, hK, hA, ⟨c5, c6, c7, c7'⟩, c8⟩ := id C
  obtain ⟨y1, y2, y3, y4, y5, y6, y7, y8⟩ := id hy
  have hts := F.2.2.2.2
  have hws : ∀ w ∈ (wsV own idx own' y (.code y cc' nL' ret' :: zk_tb)), w ∈ zk_tb := by
    intro w hw
    simp only [wsV, List.cons_append, List.nil_append, List.mem_cons] at hw
    rcases hw with rfl | rfl | rfl | rfl | rfl | hw
    · exact hl
    · exact hs.1
    · exact hs.2
    · rw [← y1]; exact y8
    · exact y7
    · exact hw
  refine zk_back (D := D) (ρ := ρ) (γ := γ) (rest := st') (va_runV (As := as.map (zk_rv ρ)) (rest := st'.map (zk_rv ρ)) (b := ρ b) F (zk_met l hy hlen h D ρ γ H.size) (cwV n hts (zk_gi hws) rfl rfl rfl ⟨y1, y3, y4, y5⟩ ⟨c5, by show 8 + (nL' + 11) + d * 80 ≤ R.locals; omega⟩) ⟨zk_blind, va_recv hK Wd.1 hci (q0 := b) (zk_ws_at hb), fun U hU hW => ⟨rfl, by rw [hU], by rw [hU]; exact Wd.1, va_K.moved hW.alike hK, Wd.2.1.weaken (fun _ _ _ _ => trivial), va_Nw.warmM hW c2.2.2.1, va_Nw.warmM hW c2.2.2.2⟩⟩ rfl (by rw [List.length_map]; exact hn) hls.1 (by rw [List.map_append, List.map_reverse]; rfl) (lv_room (by rw [zk_cat]; exact hc)) hd ⟨c7, c7'⟩) Wd hA ?_
  intro r mu' lm' H1 locs1 q W1
  exact kk r mu' lm' q p l e R s m args below meth c D ρ γ A cells slots H1 locs1 Z lsr C W1 hls K
end ZC
end
section
/-! ===== INSTRUCTIONS: a rule each ===== -/
theorem zk_small : ∀ sh ∈ zk_shp, sh.2.1 < 2147483648 := by decide +kernel
theorem zk_sm {c : Nat} {sh : Nat × Nat × List Nat} (h : zk_shp[c]? = some sh) : sh.2.1 < 2 ^ 31 := zk_small sh (List.mem_of_getElem? h)
theorem zk_ix {i : Int32} {j n : Nat} (hi : i = nI j) (hj : j < n) (hn : n < 2 ^ 31) : vp_in i n ∧ i.toNatClampNeg = j := by
  subst hi
  exact ⟨vp_in_nI hj hn, nI_clamp (by omega)⟩
theorem zk_fs_set {ρ : Nat → Nat} {mu : Nat → Int32} {lm : Nat → Int64} {fs : List Nat} {k : Nat} (h : fs[k]? = some 0) (v : Int32) : (fs.mapIdx (fun k x => zk_fv ρ mu lm k x)).set k (.int v) = fs.mapIdx (fun j x => zk_fv ρ (fun j => if j = k then v else mu j) lm j x) := by
  apply List.ext_getElem?
  intro i
  have hl : k < fs.length := (List.getElem?_eq_some_iff.mp h).1
  rw [List.getElem?_set, List.getElem?_mapIdx, List.getElem?_mapIdx]
  by_cases e : k = i
  · subst e
    rw [if_pos rfl, if_pos (by rw [List.length_mapIdx]; exact hl), h]
    simp [zk_fv]
  · rw [if_neg e]
    have e2 : ¬ i = k := fun q => e q.symm
    cases hx : fs[i]? with
    | none => rfl
    | some x =>
      match x with
      | 0 => simp [zk_fv, e2]
      | 1 => simp [zk_fv]
      | n + 2 => simp [zk_fv]
theorem zk_fs_setL {ρ : Nat → Nat} {mu : Nat → Int32} {lm : Nat → Int64} {fs : List Nat} {k : Nat} (h : fs[k]? = some 1) (v : Int64) : (fs.mapIdx (fun k x => zk_fv ρ mu lm k x)).set k (.long v) = fs.mapIdx (fun j x => zk_fv ρ mu (fun j => if j = k then v else lm j) j x) := by
  apply List.ext_getElem?
  intro i
  have hl : k < fs.length := (List.getElem?_eq_some_iff.mp h).1
  rw [List.getElem?_set, List.getElem?_mapIdx, List.getElem?_mapIdx]
  by_cases e : k = i
  · subst e
    rw [if_pos rfl, if_pos (by rw [List.length_mapIdx]; exact hl), h]
    simp [zk_fv]
  · rw [if_neg e]
    have e2 : ¬ i = k := fun q => e q.symm
    cases hx : fs[i]? with
    | none => rfl
    | some x =>
      match x with
      | 0 => simp [zk_fv]
      | 1 => simp [zk_fv, e2]
      | n + 2 => simp [zk_fv]
/-- a field of the tables: own's constant idx is field k of class ci, of type ty, final or not -/
def zk_Fl (own : String) (idx ci k : Nat) (ty : FieldType) (fin : Bool) : Prop := ∃ (C : String) (T : u_T) (N : Nat) (ty0 : Nat → FieldType), vwCl[ci]? = some (C, T, N) ∧ k < N ∧ Cond.fieldLink own idx (T k).1 (T k).2.1 (T k).2.2.1 ∈ zk_tb ∧ (∀ w ∈ u_ws C T N, w ∈ zk_tb) ∧ (∀ k, k < N → parseFieldDescriptor (T k).2.2.1 = some (ty0 k)) ∧ (∀ a, a < N → ∀ b, b < N → a ≠ b → (T a).2.1 ≠ (T b).2.1) ∧ ty0 k = ty ∧ (T k).2.2.2 = fin
section ZI
variable {d : Nat} {own : String} {cc : ByteArray} {nL : Nat} {ret : Option FieldType} {sx : Option (Nat × (Nat → Int32))} {ls st : List Value} {mu : Mem} {lm : MemL} {Q : Option Value → Mem → MemL → Prop} {pc : Nat}
theorem zk_iconst {n : Int} {v : Int32} (hd : decode cc pc = .ok (.iconst n, 1)) (hv : Int32.ofInt n = v) (k : zk_M d own cc nL ret sx (pc + 1) ls (.int v :: st) mu lm Q) : zk_M d own cc nL ret sx pc ls st mu lm Q := by
  intro p l e R s m args below meth c D ρ γ A cells slots H locs Z lsr C Wd hls K
  obtain ⟨⟨hx, hb, hml, hown, hts⟩, c2, hK, hA, c5, c8⟩ := id C
  exact lv_iconst hx hb hd hv (k p l e R s m args below meth c D ρ γ A cells slots H locs Z lsr C Wd hls K)
theorem zk_bipush {n : Int} {v : Int32} (hd : decode cc pc = .ok (.bipush n, 2)) (hv : (Int8.ofInt n).toInt32 = v) (k : zk_M d own cc nL ret sx (pc + 2) ls (.int v :: st) mu lm Q) : zk_M d own cc nL ret sx pc ls st mu lm Q := by
  intro p l e R s m args below meth c D ρ γ A cells slots H locs Z lsr C Wd hls K
  obtain ⟨⟨hx, hb, hml, hown, hts⟩, c2, hK, hA, c5, c8⟩ := id C
  exact lv_bipush hx hb hd hv (k p l e R s m args below meth c D ρ γ A cells slots H locs Z lsr C Wd hls K)
theorem zk_sipush {n : Int} {v : Int32} (hd : decode cc pc = .ok (.sipush n, 3)) (hv : (Int16.ofInt n).toInt32 = v) (k : zk_M d own cc nL ret sx (pc + 3) ls (.int v :: st) mu lm Q) : zk_M d own cc nL ret sx pc ls st mu lm Q := by
  intro p l e R s m args below meth c D ρ γ A cells slots H locs Z lsr C Wd hls K
  obtain ⟨⟨hx, hb, hml, hown, hts⟩, c2, hK, hA, c5, c8⟩ := id C
  exact lv_sipush hx hb hd hv (k p l e R s m args below meth c D ρ γ A cells slots H locs Z lsr C Wd hls K)
theorem zk_lconst {n : Fin 2} {v : Int64} (hd : decode cc pc = .ok (.lconst n, 1)) (hv : Int64.ofNat (n : Nat) = v) (k : zk_M d own cc nL ret sx (pc + 1) ls (.long v :: st) mu lm Q) : zk_M d own cc nL ret sx pc ls st mu lm Q := by
  intro p l e R s m args below meth c D ρ γ A cells slots H locs Z lsr C Wd hls K
  obtain ⟨⟨hx, hb, hml, hown, hts⟩, c2, hK, hA, c5, c8⟩ := id C
  exact lv_lconst hx hb hd hv (k p l e R s m args below meth c D ρ γ A cells slots H locs Z lsr C Wd hls K)
theorem zk_null  (hd : decode cc pc = .ok (.aconst_null, 1)) (k : zk_M d own cc nL ret sx (pc + 1) ls (.null :: st) mu lm Q) : zk_M d own cc nL ret sx pc ls st mu lm Q := by
  intro p l e R s m args below meth c D ρ γ A cells slots H locs Z lsr C Wd hls K
  obtain ⟨⟨hx, hb, hml, hown, hts⟩, c2, hK, hA, c5, c8⟩ := id C
  exact lv_null hx hb hd (k p l e R s m args below meth c D ρ γ A cells slots H locs Z lsr C Wd hls K)
theorem zk_ldc {idx : Nat} {v : Int32} (hd : decode cc pc = .ok (.ldc idx, 2)) (hv : Cond.constant own idx v ∈ zk_tb) (k : zk_M d own cc nL ret sx (pc + 2) ls (.int v :: st) mu lm Q) : zk_M d own cc nL ret sx pc ls st mu lm Q := by
  intro p l e R s m args below meth c D ρ γ A cells slots H locs Z lsr C Wd hls K
  obtain ⟨⟨hx, hb, hml, hown, hts⟩, c2, hK, hA, c5, c8⟩ := id C
  exact lv_ldc hx hb hown (hts _ hv) hd (k p l e R s m args below meth c D ρ γ A cells slots H locs Z lsr C Wd hls K)
theorem zk_ldcw {idx : Nat} {v : Int32} (hd : decode cc pc = .ok (.ldc_w idx, 3)) (hv : Cond.constant own idx v ∈ zk_tb) (k : zk_M d own cc nL ret sx (pc + 3) ls (.int v :: st) mu lm Q) : zk_M d own cc nL ret sx pc ls st mu lm Q := by
  intro p l e R s m args below meth c D ρ γ A cells slots H locs Z lsr C Wd hls K
  obtain ⟨⟨hx, hb, hml, hown, hts⟩, c2, hK, hA, c5, c8⟩ := id C
  exact lv_ldcw hx hb hown (hts _ hv) hd (k p l e R s m args below meth c D ρ γ A cells slots H locs Z lsr C Wd hls K)
theorem zk_ldc2 {idx : Nat} {v : Int64} (hd : decode cc pc = .ok (.ldc2_w idx, 3)) (hv : Cond.constantLong own idx v ∈ zk_tb) (k : zk_M d own cc nL ret sx (pc + 3) ls (.long v :: st) mu lm Q) : zk_M d own cc nL ret sx pc ls st mu lm Q := by
  intro p l e R s m args below meth c D ρ γ A cells slots H locs Z lsr C Wd hls K
  obtain ⟨⟨hx, hb, hml, hown, hts⟩, c2, hK, hA, c5, c8⟩ := id C
  exact lv_ldc2 hx hb hown (hts _ hv) hd (k p l e R s m args below meth c D ρ γ A cells slots H locs Z lsr C Wd hls K)
theorem zk_iload_n {k : Fin 4} {x : Int32} (i : Nat) (hd : decode cc pc = .ok (.iload_n k, 1)) (hi : (k : Nat) = i) (hv : ls[i]? = some (.int x)) (k : zk_M d own cc nL ret sx (pc + 1) ls (.int x :: st) mu lm Q) : zk_M d own cc nL ret sx pc ls st mu lm Q := by
  intro p l e R s m args below meth c D ρ γ A cells slots H locs Z lsr C Wd hls K
  obtain ⟨⟨hx, hb, hml, hown, hts⟩, c2, hK, hA, c5, c8⟩ := id C
  exact lv_iload_n hx hb hd hi (zk_at hls hv rfl) (k p l e R s m args below meth c D ρ γ A cells slots H locs Z lsr C Wd hls K)
theorem zk_iload {i : Nat} {x : Int32} (hd : decode cc pc = .ok (.iload i, 2)) (hv : ls[i]? = some (.int x)) (k : zk_M d own cc nL ret sx (pc + 2) ls (.int x :: st) mu lm Q) : zk_M d own cc nL ret sx pc ls st mu lm Q := by
  intro p l e R s m args below meth c D ρ γ A cells slots H locs Z lsr C Wd hls K
  obtain ⟨⟨hx, hb, hml, hown, hts⟩, c2, hK, hA, c5, c8⟩ := id C
  exact lv_iload hx hb hd (zk_at hls hv rfl) (k p l e R s m args below meth c D ρ γ A cells slots H locs Z lsr C Wd hls K)
theorem zk_lload_n {k : Fin 4} {x : Int64} (i : Nat) (hd : decode cc pc = .ok (.lload_n k, 1)) (hi : (k : Nat) = i) (hv : ls[i]? = some (.long x)) (k : zk_M d own cc nL ret sx (pc + 1) ls (.long x :: st) mu lm Q) : zk_M d own cc nL ret sx pc ls st mu lm Q := by
  intro p l e R s m args below meth c D ρ γ A cells slots H locs Z lsr C Wd hls K
  obtain ⟨⟨hx, hb, hml, hown, hts⟩, c2, hK, hA, c5, c8⟩ := id C
  exact lv_lload_n hx hb hd hi (zk_at hls hv rfl) (k p l e R s m args below meth c D ρ γ A cells slots H locs Z lsr C Wd hls K)
theorem zk_lload {i : Nat} {x : Int64} (hd : decode cc pc = .ok (.lload i, 2)) (hv : ls[i]? = some (.long x)) (k : zk_M d own cc nL ret sx (pc + 2) ls (.long x :: st) mu lm Q) : zk_M d own cc nL ret sx pc ls st mu lm Q := by
  intro p l e R s m args below meth c D ρ γ A cells slots H locs Z lsr C Wd hls K
  obtain ⟨⟨hx, hb, hml, hown, hts⟩, c2, hK, hA, c5, c8⟩ := id C
  exact lv_lload hx hb hd (zk_at hls hv rfl) (k p l e R s m args below meth c D ρ γ A cells slots H locs Z lsr C Wd hls K)
theorem zk_aload_n {k : Fin 4} {x : Nat} (i : Nat) (hd : decode cc pc = .ok (.aload_n k, 1)) (hi : (k : Nat) = i) (hv : ls[i]? = some (.ref x)) (k : zk_M d own cc nL ret sx (pc + 1) ls (.ref x :: st) mu lm Q) : zk_M d own cc nL ret sx pc ls st mu lm Q := by
  intro p l e R s m args below meth c D ρ γ A cells slots H locs Z lsr C Wd hls K
  obtain ⟨⟨hx, hb, hml, hown, hts⟩, c2, hK, hA, c5, c8⟩ := id C
  exact lv_aload_n hx hb hd hi (zk_at hls hv rfl) (k p l e R s m args below meth c D ρ γ A cells slots H locs Z lsr C Wd hls K)
theorem zk_aload {i : Nat} {x : Nat} (hd : decode cc pc = .ok (.aload i, 2)) (hv : ls[i]? = some (.ref x)) (k : zk_M d own cc nL ret sx (pc + 2) ls (.ref x :: st) mu lm Q) : zk_M d own cc nL ret sx pc ls st mu lm Q := by
  intro p l e R s m args below meth c D ρ γ A cells slots H locs Z lsr C Wd hls K
  obtain ⟨⟨hx, hb, hml, hown, hts⟩, c2, hK, hA, c5, c8⟩ := id C
  exact lv_aload hx hb hd (zk_at hls hv rfl) (k p l e R s m args below meth c D ρ γ A cells slots H locs Z lsr C Wd hls K)
theorem zk_aload_nN {k : Fin 4} (i : Nat) (hd : decode cc pc = .ok (.aload_n k, 1)) (hi : (k : Nat) = i) (hv : ls[i]? = some .null) (k : zk_M d own cc nL ret sx (pc + 1) ls (.null :: st) mu lm Q) : zk_M d own cc nL ret sx pc ls st mu lm Q := by
  intro p l e R s m args below meth c D ρ γ A cells slots H locs Z lsr C Wd hls K
  obtain ⟨⟨hx, hb, hml, hown, hts⟩, c2, hK, hA, c5, c8⟩ := id C
  exact lv_aload_nN hx hb hd hi (zk_at hls hv rfl) (k p l e R s m args below meth c D ρ γ A cells slots H locs Z lsr C Wd hls K)
theorem zk_aloadN {i : Nat} (hd : decode cc pc = .ok (.aload i, 2)) (hv : ls[i]? = some .null) (k : zk_M d own cc nL ret sx (pc + 2) ls (.null :: st) mu lm Q) : zk_M d own cc nL ret sx pc ls st mu lm Q := by
  intro p l e R s m args below meth c D ρ γ A cells slots H locs Z lsr C Wd hls K
  obtain ⟨⟨hx, hb, hml, hown, hts⟩, c2, hK, hA, c5, c8⟩ := id C
  exact lv_aloadN hx hb hd (zk_at hls hv rfl) (k p l e R s m args below meth c D ρ γ A cells slots H locs Z lsr C Wd hls K)
theorem zk_istore_n {k : Fin 4} (i : Nat) {x : Int32} (hd : decode cc pc = .ok (.istore_n k, 1)) (hi : (k : Nat) = i) (hn : i < nL) (k : zk_M d own cc nL ret sx (pc + 1) (zk_set ls i (.int x)) st mu lm Q) : zk_M d own cc nL ret sx pc ls (.int x :: st) mu lm Q := by
  intro p l e R s m args below meth c D ρ γ A cells slots H locs Z lsr C Wd hls K
  obtain ⟨⟨hx, hb, hml, hown, hts⟩, c2, hK, hA, c5, c8⟩ := id C
  exact lv_istore_n hx hb hd hi hls hn rfl (fun lsr2 hl2 => (k p l e R s m args below meth c D ρ γ A cells slots H locs Z lsr2 C Wd (zk_has_set (v := .int x) hl2) K))
theorem zk_istore (i : Nat) {x : Int32} (hd : decode cc pc = .ok (.istore i, 2)) (hn : i < nL) (k : zk_M d own cc nL ret sx (pc + 2) (zk_set ls i (.int x)) st mu lm Q) : zk_M d own cc nL ret sx pc ls (.int x :: st) mu lm Q := by
  intro p l e R s m args below meth c D ρ γ A cells slots H locs Z lsr C Wd hls K
  obtain ⟨⟨hx, hb, hml, hown, hts⟩, c2, hK, hA, c5, c8⟩ := id C
  exact lv_istore hx hb hd hls hn rfl (fun lsr2 hl2 => (k p l e R s m args below meth c D ρ γ A cells slots H locs Z lsr2 C Wd (zk_has_set (v := .int x) hl2) K))
theorem zk_lstore_n {k : Fin 4} (i : Nat) {x : Int64} (hd : decode cc pc = .ok (.lstore_n k, 1)) (hi : (k : Nat) = i) (hn : i + 1 < nL) (k : zk_M d own cc nL ret sx (pc + 1) (zk_set2 ls i (.long x)) st mu lm Q) : zk_M d own cc nL ret sx pc ls (.long x :: st) mu lm Q := by
  intro p l e R s m args below meth c D ρ γ A cells slots H locs Z lsr C Wd hls K
  obtain ⟨⟨hx, hb, hml, hown, hts⟩, c2, hK, hA, c5, c8⟩ := id C
  exact lv_lstore_n hx hb hd hi hls hn rfl (fun lsr2 hl2 => (k p l e R s m args below meth c D ρ γ A cells slots H locs Z lsr2 C Wd (zk_has_set2 (v := .long x) hl2) K))
theorem zk_lstore (i : Nat) {x : Int64} (hd : decode cc pc = .ok (.lstore i, 2)) (hn : i + 1 < nL) (k : zk_M d own cc nL ret sx (pc + 2) (zk_set2 ls i (.long x)) st mu lm Q) : zk_M d own cc nL ret sx pc ls (.long x :: st) mu lm Q := by
  intro p l e R s m args below meth c D ρ γ A cells slots H locs Z lsr C Wd hls K
  obtain ⟨⟨hx, hb, hml, hown, hts⟩, c2, hK, hA, c5, c8⟩ := id C
  exact lv_lstore hx hb hd hls hn rfl (fun lsr2 hl2 => (k p l e R s m args below meth c D ρ γ A cells slots H locs Z lsr2 C Wd (zk_has_set2 (v := .long x) hl2) K))
theorem zk_astore_n {k : Fin 4} (i : Nat) {x : Nat} (hd : decode cc pc = .ok (.astore_n k, 1)) (hi : (k : Nat) = i) (hn : i < nL) (k : zk_M d own cc nL ret sx (pc + 1) (zk_set ls i (.ref x)) st mu lm Q) : zk_M d own cc nL ret sx pc ls (.ref x :: st) mu lm Q := by
  intro p l e R s m args below meth c D ρ γ A cells slots H locs Z lsr C Wd hls K
  obtain ⟨⟨hx, hb, hml, hown, hts⟩, c2, hK, hA, c5, c8⟩ := id C
  exact lv_astore_n hx hb hd hi hls hn rfl (fun lsr2 hl2 => (k p l e R s m args below meth c D ρ γ A cells slots H locs Z lsr2 C Wd (zk_has_set (v := .ref x) hl2) K))
theorem zk_astore (i : Nat) {x : Nat} (hd : decode cc pc = .ok (.astore i, 2)) (hn : i < nL) (k : zk_M d own cc nL ret sx (pc + 2) (zk_set ls i (.ref x)) st mu lm Q) : zk_M d own cc nL ret sx pc ls (.ref x :: st) mu lm Q := by
  intro p l e R s m args below meth c D ρ γ A cells slots H locs Z lsr C Wd hls K
  obtain ⟨⟨hx, hb, hml, hown, hts⟩, c2, hK, hA, c5, c8⟩ := id C
  exact lv_astore hx hb hd hls hn rfl (fun lsr2 hl2 => (k p l e R s m args below meth c D ρ γ A cells slots H locs Z lsr2 C Wd (zk_has_set (v := .ref x) hl2) K))
theorem zk_astore_nN {k : Fin 4} (i : Nat) (hd : decode cc pc = .ok (.astore_n k, 1)) (hi : (k : Nat) = i) (hn : i < nL) (k : zk_M d own cc nL ret sx (pc + 1) (zk_set ls i .null) st mu lm Q) : zk_M d own cc nL ret sx pc ls (.null :: st) mu lm Q := by
  intro p l e R s m args below meth c D ρ γ A cells slots H locs Z lsr C Wd hls K
  obtain ⟨⟨hx, hb, hml, hown, hts⟩, c2, hK, hA, c5, c8⟩ := id C
  exact lv_astore_nN hx hb hd hi hls hn rfl (fun lsr2 hl2 => (k p l e R s m args below meth c D ρ γ A cells slots H locs Z lsr2 C Wd (zk_has_set (v := .null) hl2) K))
theorem zk_astoreN (i : Nat) (hd : decode cc pc = .ok (.astore i, 2)) (hn : i < nL) (k : zk_M d own cc nL ret sx (pc + 2) (zk_set ls i .null) st mu lm Q) : zk_M d own cc nL ret sx pc ls (.null :: st) mu lm Q := by
  intro p l e R s m args below meth c D ρ γ A cells slots H locs Z lsr C Wd hls K
  obtain ⟨⟨hx, hb, hml, hown, hts⟩, c2, hK, hA, c5, c8⟩ := id C
  exact lv_astoreN hx hb hd hls hn rfl (fun lsr2 hl2 => (k p l e R s m args below meth c D ρ γ A cells slots H locs Z lsr2 C Wd (zk_has_set (v := .null) hl2) K))
theorem zk_iinc {i : Nat} {n : Int} {x v : Int32} (hd : decode cc pc = .ok (.iinc i n, 3)) (hv : ls[i]? = some (.int x)) (he : x + Int32.ofInt n = v) (hn : i < nL) (k : zk_M d own cc nL ret sx (pc + 3) (zk_set ls i (.int v)) st mu lm Q) : zk_M d own cc nL ret sx pc ls st mu lm Q := by
  intro p l e R s m args below meth c D ρ γ A cells slots H locs Z lsr C Wd hls K
  obtain ⟨⟨hx, hb, hml, hown, hts⟩, c2, hK, hA, c5, c8⟩ := id C
  obtain ⟨j, hj⟩ := List.getElem?_of_mem (zk_mem_lv (ρ := ρ) (q := (i, .int x)) |>.mpr ⟨.int x, hv, rfl, rfl⟩)
  exact lv_iinc hx hb hd hls hj he hn rfl (fun lsr2 hl2 => (k p l e R s m args below meth c D ρ γ A cells slots H locs Z lsr2 C Wd (zk_has_set (v := .int v) hl2) K))
theorem zk_iadd {x y : Int32} (hd : decode cc pc = .ok (.iadd, 1)) (k : zk_M d own cc nL ret sx (pc + 1) ls (.int (x + y) :: st) mu lm Q) : zk_M d own cc nL ret sx pc ls (.int y :: .int x :: st) mu lm Q := by
  intro p l e R s m args below meth c D ρ γ A cells slots H locs Z lsr C Wd hls K
  obtain ⟨⟨hx, hb, hml, hown, hts⟩, c2, hK, hA, c5, c8⟩ := id C
  exact lv_iadd hx hb hd (k p l e R s m args below meth c D ρ γ A cells slots H locs Z lsr C Wd hls K)
theorem zk_isub {x y : Int32} (hd : decode cc pc = .ok (.isub, 1)) (k : zk_M d own cc nL ret sx (pc + 1) ls (.int (x - y) :: st) mu lm Q) : zk_M d own cc nL ret sx pc ls (.int y :: .int x :: st) mu lm Q := by
  intro p l e R s m args below meth c D ρ γ A cells slots H locs Z lsr C Wd hls K
  obtain ⟨⟨hx, hb, hml, hown, hts⟩, c2, hK, hA, c5, c8⟩ := id C
  exact lv_isub hx hb hd (k p l e R s m args below meth c D ρ γ A cells slots H locs Z lsr C Wd hls K)
theorem zk_imul {x y : Int32} (hd : decode cc pc = .ok (.imul, 1)) (k : zk_M d own cc nL ret sx (pc + 1) ls (.int (x * y) :: st) mu lm Q) : zk_M d own cc nL ret sx pc ls (.int y :: .int x :: st) mu lm Q := by
  intro p l e R s m args below meth c D ρ γ A cells slots H locs Z lsr C Wd hls K
  obtain ⟨⟨hx, hb, hml, hown, hts⟩, c2, hK, hA, c5, c8⟩ := id C
  exact lv_imul hx hb hd (k p l e R s m args below meth c D ρ γ A cells slots H locs Z lsr C Wd hls K)
theorem zk_iand {x y : Int32} (hd : decode cc pc = .ok (.iand, 1)) (k : zk_M d own cc nL ret sx (pc + 1) ls (.int (x &&& y) :: st) mu lm Q) : zk_M d own cc nL ret sx pc ls (.int y :: .int x :: st) mu lm Q := by
  intro p l e R s m args below meth c D ρ γ A cells slots H locs Z lsr C Wd hls K
  obtain ⟨⟨hx, hb, hml, hown, hts⟩, c2, hK, hA, c5, c8⟩ := id C
  exact lv_iand hx hb hd (k p l e R s m args below meth c D ρ γ A cells slots H locs Z lsr C Wd hls K)
theorem zk_ior {x y : Int32} (hd : decode cc pc = .ok (.ior, 1)) (k : zk_M d own cc nL ret sx (pc + 1) ls (.int (x ||| y) :: st) mu lm Q) : zk_M d own cc nL ret sx pc ls (.int y :: .int x :: st) mu lm Q := by
  intro p l e R s m args below meth c D ρ γ A cells slots H locs Z lsr C Wd hls K
  obtain ⟨⟨hx, hb, hml, hown, hts⟩, c2, hK, hA, c5, c8⟩ := id C
  exact lv_ior hx hb hd (k p l e R s m args below meth c D ρ γ A cells slots H locs Z lsr C Wd hls K)
theorem zk_ishl {x y : Int32} (hd : decode cc pc = .ok (.ishl, 1)) (k : zk_M d own cc nL ret sx (pc + 1) ls (.int (x <<< (y &&& 31)) :: st) mu lm Q) : zk_M d own cc nL ret sx pc ls (.int y :: .int x :: st) mu lm Q := by
  intro p l e R s m args below meth c D ρ γ A cells slots H locs Z lsr C Wd hls K
  obtain ⟨⟨hx, hb, hml, hown, hts⟩, c2, hK, hA, c5, c8⟩ := id C
  exact lv_ishl hx hb hd (k p l e R s m args below meth c D ρ γ A cells slots H locs Z lsr C Wd hls K)
theorem zk_ishr {x y : Int32} (hd : decode cc pc = .ok (.ishr, 1)) (k : zk_M d own cc nL ret sx (pc + 1) ls (.int (x >>> (y &&& 31)) :: st) mu lm Q) : zk_M d own cc nL ret sx pc ls (.int y :: .int x :: st) mu lm Q := by
  intro p l e R s m args below meth c D ρ γ A cells slots H locs Z lsr C Wd hls K
  obtain ⟨⟨hx, hb, hml, hown, hts⟩, c2, hK, hA, c5, c8⟩ := id C
  exact lv_ishr hx hb hd (k p l e R s m args below meth c D ρ γ A cells slots H locs Z lsr C Wd hls K)
theorem zk_iushr {x y : Int32} (hd : decode cc pc = .ok (.iushr, 1)) (k : zk_M d own cc nL ret sx (pc + 1) ls (.int (x.toUInt32 >>> (y.toUInt32 &&& Int32.toUInt32 31)).toInt32 :: st) mu lm Q) : zk_M d own cc nL ret sx pc ls (.int y :: .int x :: st) mu lm Q := by
  intro p l e R s m args below meth c D ρ γ A cells slots H locs Z lsr C Wd hls K
  obtain ⟨⟨hx, hb, hml, hown, hts⟩, c2, hK, hA, c5, c8⟩ := id C
  exact lv_iushr hx hb hd rfl (k p l e R s m args below meth c D ρ γ A cells slots H locs Z lsr C Wd hls K)
theorem zk_idiv {x y : Int32} (hd : decode cc pc = .ok (.idiv, 1)) (hne : ¬ y = 0) (k : zk_M d own cc nL ret sx (pc + 1) ls (.int (x / y) :: st) mu lm Q) : zk_M d own cc nL ret sx pc ls (.int y :: .int x :: st) mu lm Q := by
  intro p l e R s m args below meth c D ρ γ A cells slots H locs Z lsr C Wd hls K
  obtain ⟨⟨hx, hb, hml, hown, hts⟩, c2, hK, hA, c5, c8⟩ := id C
  exact lv_idiv hx hb hd hne (k p l e R s m args below meth c D ρ γ A cells slots H locs Z lsr C Wd hls K)
theorem zk_irem {x y : Int32} (hd : decode cc pc = .ok (.irem, 1)) (hne : ¬ y = 0) (k : zk_M d own cc nL ret sx (pc + 1) ls (.int (x - x / y * y) :: st) mu lm Q) : zk_M d own cc nL ret sx pc ls (.int y :: .int x :: st) mu lm Q := by
  intro p l e R s m args below meth c D ρ γ A cells slots H locs Z lsr C Wd hls K
  obtain ⟨⟨hx, hb, hml, hown, hts⟩, c2, hK, hA, c5, c8⟩ := id C
  exact lv_irem hx hb hd hne (k p l e R s m args below meth c D ρ γ A cells slots H locs Z lsr C Wd hls K)
theorem zk_ladd {x y : Int64} (hd : decode cc pc = .ok (.ladd, 1)) (k : zk_M d own cc nL ret sx (pc + 1) ls (.long (x + y) :: st) mu lm Q) : zk_M d own cc nL ret sx pc ls (.long y :: .long x :: st) mu lm Q := by
  intro p l e R s m args below meth c D ρ γ A cells slots H locs Z lsr C Wd hls K
  obtain ⟨⟨hx, hb, hml, hown, hts⟩, c2, hK, hA, c5, c8⟩ := id C
  exact lv_ladd hx hb hd (k p l e R s m args below meth c D ρ γ A cells slots H locs Z lsr C Wd hls K)
theorem zk_lsub {x y : Int64} (hd : decode cc pc = .ok (.lsub, 1)) (k : zk_M d own cc nL ret sx (pc + 1) ls (.long (x - y) :: st) mu lm Q) : zk_M d own cc nL ret sx pc ls (.long y :: .long x :: st) mu lm Q := by
  intro p l e R s m args below meth c D ρ γ A cells slots H locs Z lsr C Wd hls K
  obtain ⟨⟨hx, hb, hml, hown, hts⟩, c2, hK, hA, c5, c8⟩ := id C
  exact lv_lsub hx hb hd (k p l e R s m args below meth c D ρ γ A cells slots H locs Z lsr C Wd hls K)
theorem zk_lmul {x y : Int64} (hd : decode cc pc = .ok (.lmul, 1)) (k : zk_M d own cc nL ret sx (pc + 1) ls (.long (x * y) :: st) mu lm Q) : zk_M d own cc nL ret sx pc ls (.long y :: .long x :: st) mu lm Q := by
  intro p l e R s m args below meth c D ρ γ A cells slots H locs Z lsr C Wd hls K
  obtain ⟨⟨hx, hb, hml, hown, hts⟩, c2, hK, hA, c5, c8⟩ := id C
  exact lv_lmul hx hb hd (k p l e R s m args below meth c D ρ γ A cells slots H locs Z lsr C Wd hls K)
theorem zk_ldiv {x y : Int64} (hd : decode cc pc = .ok (.ldiv, 1)) (hne : ¬ y = 0) (k : zk_M d own cc nL ret sx (pc + 1) ls (.long (x / y) :: st) mu lm Q) : zk_M d own cc nL ret sx pc ls (.long y :: .long x :: st) mu lm Q := by
  intro p l e R s m args below meth c D ρ γ A cells slots H locs Z lsr C Wd hls K
  obtain ⟨⟨hx, hb, hml, hown, hts⟩, c2, hK, hA, c5, c8⟩ := id C
  exact lv_ldiv hx hb hd hne (k p l e R s m args below meth c D ρ γ A cells slots H locs Z lsr C Wd hls K)
theorem zk_lrem {x y : Int64} (hd : decode cc pc = .ok (.lrem, 1)) (hne : ¬ y = 0) (k : zk_M d own cc nL ret sx (pc + 1) ls (.long (x - x / y * y) :: st) mu lm Q) : zk_M d own cc nL ret sx pc ls (.long y :: .long x :: st) mu lm Q := by
  intro p l e R s m args below meth c D ρ γ A cells slots H locs Z lsr C Wd hls K
  obtain ⟨⟨hx, hb, hml, hown, hts⟩, c2, hK, hA, c5, c8⟩ := id C
  exact lv_lrem hx hb hd hne (k p l e R s m args below meth c D ρ γ A cells slots H locs Z lsr C Wd hls K)
theorem zk_lcmp {x y : Int64} (hd : decode cc pc = .ok (.lcmp, 1)) (k : zk_M d own cc nL ret sx (pc + 1) ls (.int (lg_cmp x y) :: st) mu lm Q) : zk_M d own cc nL ret sx pc ls (.long y :: .long x :: st) mu lm Q := by
  intro p l e R s m args below meth c D ρ γ A cells slots H locs Z lsr C Wd hls K
  obtain ⟨⟨hx, hb, hml, hown, hts⟩, c2, hK, hA, c5, c8⟩ := id C
  exact W.lcmp hx hb hd (k p l e R s m args below meth c D ρ γ A cells slots H locs Z lsr C Wd hls K)
theorem zk_i2l {x : Int32} (hd : decode cc pc = .ok (.i2l, 1)) (k : zk_M d own cc nL ret sx (pc + 1) ls (.long x.toInt64 :: st) mu lm Q) : zk_M d own cc nL ret sx pc ls (.int x :: st) mu lm Q := by
  intro p l e R s m args below meth c D ρ γ A cells slots H locs Z lsr C Wd hls K
  obtain ⟨⟨hx, hb, hml, hown, hts⟩, c2, hK, hA, c5, c8⟩ := id C
  exact lv_i2l hx hb hd rfl (k p l e R s m args below meth c D ρ γ A cells slots H locs Z lsr C Wd hls K)
theorem zk_l2i {x : Int64} (hd : decode cc pc = .ok (.l2i, 1)) (k : zk_M d own cc nL ret sx (pc + 1) ls (.int x.toInt32 :: st) mu lm Q) : zk_M d own cc nL ret sx pc ls (.long x :: st) mu lm Q := by
  intro p l e R s m args below meth c D ρ γ A cells slots H locs Z lsr C Wd hls K
  obtain ⟨⟨hx, hb, hml, hown, hts⟩, c2, hK, hA, c5, c8⟩ := id C
  exact lv_l2i hx hb hd rfl (k p l e R s m args below meth c D ρ γ A cells slots H locs Z lsr C Wd hls K)
theorem zk_i2b {x : Int32} (hd : decode cc pc = .ok (.i2b, 1)) (k : zk_M d own cc nL ret sx (pc + 1) ls (.int x.toInt8.toInt32 :: st) mu lm Q) : zk_M d own cc nL ret sx pc ls (.int x :: st) mu lm Q := by
  intro p l e R s m args below meth c D ρ γ A cells slots H locs Z lsr C Wd hls K
  obtain ⟨⟨hx, hb, hml, hown, hts⟩, c2, hK, hA, c5, c8⟩ := id C
  exact lv_i2b hx hb hd rfl (k p l e R s m args below meth c D ρ γ A cells slots H locs Z lsr C Wd hls K)
theorem zk_dup {v : Value} (hd : decode cc pc = .ok (.dup, 1)) (hv : v.category = 1) (k : zk_M d own cc nL ret sx (pc + 1) ls (v :: v :: st) mu lm Q) : zk_M d own cc nL ret sx pc ls (v :: st) mu lm Q := by
  intro p l e R s m args below meth c D ρ γ A cells slots H locs Z lsr C Wd hls K
  obtain ⟨⟨hx, hb, hml, hown, hts⟩, c2, hK, hA, c5, c8⟩ := id C
  exact lv_dup hx hb hd (by rw [zk_rv_cat]; exact hv) (k p l e R s m args below meth c D ρ γ A cells slots H locs Z lsr C Wd hls K)
theorem zk_dup2 {v w : Value} (hd : decode cc pc = .ok (.dup2, 1)) (hv : v.category = 1) (hw : w.category = 1) (k : zk_M d own cc nL ret sx (pc + 1) ls (v :: w :: v :: w :: st) mu lm Q) : zk_M d own cc nL ret sx pc ls (v :: w :: st) mu lm Q := by
  intro p l e R s m args below meth c D ρ γ A cells slots H locs Z lsr C Wd hls K
  obtain ⟨⟨hx, hb, hml, hown, hts⟩, c2, hK, hA, c5, c8⟩ := id C
  exact lv_dup2_11 hx hb hd (by rw [zk_rv_cat]; exact hv) (by rw [zk_rv_cat]; exact hw) (k p l e R s m args below meth c D ρ γ A cells slots H locs Z lsr C Wd hls K)
theorem zk_pop {v : Value} (hd : decode cc pc = .ok (.pop, 1)) (hv : v.category = 1) (k : zk_M d own cc nL ret sx (pc + 1) ls st mu lm Q) : zk_M d own cc nL ret sx pc ls (v :: st) mu lm Q := by
  intro p l e R s m args below meth c D ρ γ A cells slots H locs Z lsr C Wd hls K
  obtain ⟨⟨hx, hb, hml, hown, hts⟩, c2, hK, hA, c5, c8⟩ := id C
  exact lv_pop hx hb hd (by rw [zk_rv_cat]; exact hv) (k p l e R s m args below meth c D ρ γ A cells slots H locs Z lsr C Wd hls K)
theorem zk_if_eq {x : Int32} {off : Int} (tgt : Nat) (hd : decode cc pc = .ok (.ifCond .eq off, 3)) (ht : (pc : Int) + off = (tgt : Int)) (kt : x = 0 → zk_M d own cc nL ret sx tgt ls st mu lm Q) (kf : ¬ x = 0 → zk_M d own cc nL ret sx (pc + 3) ls st mu lm Q) : zk_M d own cc nL ret sx pc ls (.int x :: st) mu lm Q := by
  intro p l e R s m args below meth cd D ρ γ A cells slots H locs Z lsr C Wd hls K
  obtain ⟨⟨hx, hb, hml, hown, hts⟩, c2, hK, hA, c5, c8⟩ := id C
  exact lv_if_eq hx hb hd ht (fun q => (kt q p l e R s m args below meth cd D ρ γ A cells slots H locs Z lsr C Wd hls K)) (fun q => (kf q p l e R s m args below meth cd D ρ γ A cells slots H locs Z lsr C Wd hls K))
theorem zk_icmp_eq {x y : Int32} {off : Int} (tgt : Nat) (hd : decode cc pc = .ok (.if_icmp .eq off, 3)) (ht : (pc : Int) + off = (tgt : Int)) (kt : x = y → zk_M d own cc nL ret sx tgt ls st mu lm Q) (kf : ¬ x = y → zk_M d own cc nL ret sx (pc + 3) ls st mu lm Q) : zk_M d own cc nL ret sx pc ls (.int y :: .int x :: st) mu lm Q := by
  intro p l e R s m args below meth cd D ρ γ A cells slots H locs Z lsr C Wd hls K
  obtain ⟨⟨hx, hb, hml, hown, hts⟩, c2, hK, hA, c5, c8⟩ := id C
  exact lv_icmp_eq hx hb hd ht (fun q => (kt q p l e R s m args below meth cd D ρ γ A cells slots H locs Z lsr C Wd hls K)) (fun q => (kf q p l e R s m args below meth cd D ρ γ A cells slots H locs Z lsr C Wd hls K))
theorem zk_if_ne {x : Int32} {off : Int} (tgt : Nat) (hd : decode cc pc = .ok (.ifCond .ne off, 3)) (ht : (pc : Int) + off = (tgt : Int)) (kt : ¬ x = 0 → zk_M d own cc nL ret sx tgt ls st mu lm Q) (kf : x = 0 → zk_M d own cc nL ret sx (pc + 3) ls st mu lm Q) : zk_M d own cc nL ret sx pc ls (.int x :: st) mu lm Q := by
  intro p l e R s m args below meth cd D ρ γ A cells slots H locs Z lsr C Wd hls K
  obtain ⟨⟨hx, hb, hml, hown, hts⟩, c2, hK, hA, c5, c8⟩ := id C
  exact lv_if_ne hx hb hd ht (fun q => (kt q p l e R s m args below meth cd D ρ γ A cells slots H locs Z lsr C Wd hls K)) (fun q => (kf q p l e R s m args below meth cd D ρ γ A cells slots H locs Z lsr C Wd hls K))
theorem zk_icmp_ne {x y : Int32} {off : Int} (tgt : Nat) (hd : decode cc pc = .ok (.if_icmp .ne off, 3)) (ht : (pc : Int) + off = (tgt : Int)) (kt : ¬ x = y → zk_M d own cc nL ret sx tgt ls st mu lm Q) (kf : x = y → zk_M d own cc nL ret sx (pc + 3) ls st mu lm Q) : zk_M d own cc nL ret sx pc ls (.int y :: .int x :: st) mu lm Q := by
  intro p l e R s m args below meth cd D ρ γ A cells slots H locs Z lsr C Wd hls K
  obtain ⟨⟨hx, hb, hml, hown, hts⟩, c2, hK, hA, c5, c8⟩ := id C
  exact lv_icmp_ne hx hb hd ht (fun q => (kt q p l e R s m args below meth cd D ρ γ A cells slots H locs Z lsr C Wd hls K)) (fun q => (kf q p l e R s m args below meth cd D ρ γ A cells slots H locs Z lsr C Wd hls K))
theorem zk_if_lt {x : Int32} {off : Int} (tgt : Nat) (hd : decode cc pc = .ok (.ifCond .lt off, 3)) (ht : (pc : Int) + off = (tgt : Int)) (kt : x < 0 → zk_M d own cc nL ret sx tgt ls st mu lm Q) (kf : ¬ x < 0 → zk_M d own cc nL ret sx (pc + 3) ls st mu lm Q) : zk_M d own cc nL ret sx pc ls (.int x :: st) mu lm Q := by
  intro p l e R s m args below meth cd D ρ γ A cells slots H locs Z lsr C Wd hls K
  obtain ⟨⟨hx, hb, hml, hown, hts⟩, c2, hK, hA, c5, c8⟩ := id C
  exact lv_if_lt hx hb hd ht (fun q => (kt q p l e R s m args below meth cd D ρ γ A cells slots H locs Z lsr C Wd hls K)) (fun q => (kf q p l e R s m args below meth cd D ρ γ A cells slots H locs Z lsr C Wd hls K))
theorem zk_icmp_lt {x y : Int32} {off : Int} (tgt : Nat) (hd : decode cc pc = .ok (.if_icmp .lt off, 3)) (ht : (pc : Int) + off = (tgt : Int)) (kt : x < y → zk_M d own cc nL ret sx tgt ls st mu lm Q) (kf : ¬ x < y → zk_M d own cc nL ret sx (pc + 3) ls st mu lm Q) : zk_M d own cc nL ret sx pc ls (.int y :: .int x :: st) mu lm Q := by
  intro p l e R s m args below meth cd D ρ γ A cells slots H locs Z lsr C Wd hls K
  obtain ⟨⟨hx, hb, hml, hown, hts⟩, c2, hK, hA, c5, c8⟩ := id C
  exact lv_icmp_lt hx hb hd ht (fun q => (kt q p l e R s m args below meth cd D ρ γ A cells slots H locs Z lsr C Wd hls K)) (fun q => (kf q p l e R s m args below meth cd D ρ γ A cells slots H locs Z lsr C Wd hls K))
theorem zk_if_ge {x : Int32} {off : Int} (tgt : Nat) (hd : decode cc pc = .ok (.ifCond .ge off, 3)) (ht : (pc : Int) + off = (tgt : Int)) (kt : 0 ≤ x → zk_M d own cc nL ret sx tgt ls st mu lm Q) (kf : ¬ 0 ≤ x → zk_M d own cc nL ret sx (pc + 3) ls st mu lm Q) : zk_M d own cc nL ret sx pc ls (.int x :: st) mu lm Q := by
  intro p l e R s m args below meth cd D ρ γ A cells slots H locs Z lsr C Wd hls K
  obtain ⟨⟨hx, hb, hml, hown, hts⟩, c2, hK, hA, c5, c8⟩ := id C
  exact lv_if_ge hx hb hd ht (fun q => (kt q p l e R s m args below meth cd D ρ γ A cells slots H locs Z lsr C Wd hls K)) (fun q => (kf q p l e R s m args below meth cd D ρ γ A cells slots H locs Z lsr C Wd hls K))
theorem zk_icmp_ge {x y : Int32} {off : Int} (tgt : Nat) (hd : decode cc pc = .ok (.if_icmp .ge off, 3)) (ht : (pc : Int) + off = (tgt : Int)) (kt : y ≤ x → zk_M d own cc nL ret sx tgt ls st mu lm Q) (kf : ¬ y ≤ x → zk_M d own cc nL ret sx (pc + 3) ls st mu lm Q) : zk_M d own cc nL ret sx pc ls (.int y :: .int x :: st) mu lm Q := by
  intro p l e R s m args below meth cd D ρ γ A cells slots H locs Z lsr C Wd hls K
  obtain ⟨⟨hx, hb, hml, hown, hts⟩, c2, hK, hA, c5, c8⟩ := id C
  exact lv_icmp_ge hx hb hd ht (fun q => (kt q p l e R s m args below meth cd D ρ γ A cells slots H locs Z lsr C Wd hls K)) (fun q => (kf q p l e R s m args below meth cd D ρ γ A cells slots H locs Z lsr C Wd hls K))
theorem zk_if_gt {x : Int32} {off : Int} (tgt : Nat) (hd : decode cc pc = .ok (.ifCond .gt off, 3)) (ht : (pc : Int) + off = (tgt : Int)) (kt : 0 < x → zk_M d own cc nL ret sx tgt ls st mu lm Q) (kf : ¬ 0 < x → zk_M d own cc nL ret sx (pc + 3) ls st mu lm Q) : zk_M d own cc nL ret sx pc ls (.int x :: st) mu lm Q := by
  intro p l e R s m args below meth cd D ρ γ A cells slots H locs Z lsr C Wd hls K
  obtain ⟨⟨hx, hb, hml, hown, hts⟩, c2, hK, hA, c5, c8⟩ := id C
  exact lv_if_gt hx hb hd ht (fun q => (kt q p l e R s m args below meth cd D ρ γ A cells slots H locs Z lsr C Wd hls K)) (fun q => (kf q p l e R s m args below meth cd D ρ γ A cells slots H locs Z lsr C Wd hls K))
theorem zk_icmp_gt {x y : Int32} {off : Int} (tgt : Nat) (hd : decode cc pc = .ok (.if_icmp .gt off, 3)) (ht : (pc : Int) + off = (tgt : Int)) (kt : y < x → zk_M d own cc nL ret sx tgt ls st mu lm Q) (kf : ¬ y < x → zk_M d own cc nL ret sx (pc + 3) ls st mu lm Q) : zk_M d own cc nL ret sx pc ls (.int y :: .int x :: st) mu lm Q := by
  intro p l e R s m args below meth cd D ρ γ A cells slots H locs Z lsr C Wd hls K
  obtain ⟨⟨hx, hb, hml, hown, hts⟩, c2, hK, hA, c5, c8⟩ := id C
  exact lv_icmp_gt hx hb hd ht (fun q => (kt q p l e R s m args below meth cd D ρ γ A cells slots H locs Z lsr C Wd hls K)) (fun q => (kf q p l e R s m args below meth cd D ρ γ A cells slots H locs Z lsr C Wd hls K))
theorem zk_if_le {x : Int32} {off : Int} (tgt : Nat) (hd : decode cc pc = .ok (.ifCond .le off, 3)) (ht : (pc : Int) + off = (tgt : Int)) (kt : x ≤ 0 → zk_M d own cc nL ret sx tgt ls st mu lm Q) (kf : ¬ x ≤ 0 → zk_M d own cc nL ret sx (pc + 3) ls st mu lm Q) : zk_M d own cc nL ret sx pc ls (.int x :: st) mu lm Q := by
  intro p l e R s m args below meth cd D ρ γ A cells slots H locs Z lsr C Wd hls K
  obtain ⟨⟨hx, hb, hml, hown, hts⟩, c2, hK, hA, c5, c8⟩ := id C
  exact lv_if_le hx hb hd ht (fun q => (kt q p l e R s m args below meth cd D ρ γ A cells slots H locs Z lsr C Wd hls K)) (fun q => (kf q p l e R s m args below meth cd D ρ γ A cells slots H locs Z lsr C Wd hls K))
theorem zk_icmp_le {x y : Int32} {off : Int} (tgt : Nat) (hd : decode cc pc = .ok (.if_icmp .le off, 3)) (ht : (pc : Int) + off = (tgt : Int)) (kt : x ≤ y → zk_M d own cc nL ret sx tgt ls st mu lm Q) (kf : ¬ x ≤ y → zk_M d own cc nL ret sx (pc + 3) ls st mu lm Q) : zk_M d own cc nL ret sx pc ls (.int y :: .int x :: st) mu lm Q := by
  intro p l e R s m args below meth cd D ρ γ A cells slots H locs Z lsr C Wd hls K
  obtain ⟨⟨hx, hb, hml, hown, hts⟩, c2, hK, hA, c5, c8⟩ := id C
  exact lv_icmp_le hx hb hd ht (fun q => (kt q p l e R s m args below meth cd D ρ γ A cells slots H locs Z lsr C Wd hls K)) (fun q => (kf q p l e R s m args below meth cd D ρ γ A cells slots H locs Z lsr C Wd hls K))
theorem zk_goto {off : Int} (tgt : Nat) (hd : decode cc pc = .ok (.goto off, 3)) (ht : (pc : Int) + off = (tgt : Int)) (k : zk_M d own cc nL ret sx tgt ls st mu lm Q) : zk_M d own cc nL ret sx pc ls st mu lm Q := by
  intro p l e R s m args below meth cd D ρ γ A cells slots H locs Z lsr C Wd hls K
  obtain ⟨⟨hx, hb, hml, hown, hts⟩, c2, hK, hA, c5, c8⟩ := id C
  exact lv_goto hx hb hd ht (k p l e R s m args below meth cd D ρ γ A cells slots H locs Z lsr C Wd hls K)
theorem zk_ifnull {x : Nat} {off : Int} (hd : decode cc pc = .ok (.ifnull off, 3)) (k : zk_M d own cc nL ret sx (pc + 3) ls st mu lm Q) : zk_M d own cc nL ret sx pc ls (.ref x :: st) mu lm Q := by
  intro p l e R s m args below meth cd D ρ γ A cells slots H locs Z lsr C Wd hls K
  obtain ⟨⟨hx, hb, hml, hown, hts⟩, c2, hK, hA, c5, c8⟩ := id C
  exact lv_ifnull hx hb hd (k p l e R s m args below meth cd D ρ γ A cells slots H locs Z lsr C Wd hls K)
theorem zk_ifnullN {off : Int} (tgt : Nat) (hd : decode cc pc = .ok (.ifnull off, 3)) (ht : (pc : Int) + off = (tgt : Int)) (k : zk_M d own cc nL ret sx tgt ls st mu lm Q) : zk_M d own cc nL ret sx pc ls (.null :: st) mu lm Q := by
  intro p l e R s m args below meth cd D ρ γ A cells slots H locs Z lsr C Wd hls K
  obtain ⟨⟨hx, hb, hml, hown, hts⟩, c2, hK, hA, c5, c8⟩ := id C
  exact lv_ifnullN hx hb hd ht (k p l e R s m args below meth cd D ρ γ A cells slots H locs Z lsr C Wd hls K)
theorem zk_ifnonnull {x : Nat} {off : Int} (tgt : Nat) (hd : decode cc pc = .ok (.ifnonnull off, 3)) (ht : (pc : Int) + off = (tgt : Int)) (k : zk_M d own cc nL ret sx tgt ls st mu lm Q) : zk_M d own cc nL ret sx pc ls (.ref x :: st) mu lm Q := by
  intro p l e R s m args below meth cd D ρ γ A cells slots H locs Z lsr C Wd hls K
  obtain ⟨⟨hx, hb, hml, hown, hts⟩, c2, hK, hA, c5, c8⟩ := id C
  exact lv_ifnonnull hx hb hd ht (k p l e R s m args below meth cd D ρ γ A cells slots H locs Z lsr C Wd hls K)
theorem zk_ifnonnullN {off : Int} (hd : decode cc pc = .ok (.ifnonnull off, 3)) (k : zk_M d own cc nL ret sx (pc + 3) ls st mu lm Q) : zk_M d own cc nL ret sx pc ls (.null :: st) mu lm Q := by
  intro p l e R s m args below meth cd D ρ γ A cells slots H locs Z lsr C Wd hls K
  obtain ⟨⟨hx, hb, hml, hown, hts⟩, c2, hK, hA, c5, c8⟩ := id C
  exact lv_ifnonnullN hx hb hd (k p l e R s m args below meth cd D ρ γ A cells slots H locs Z lsr C Wd hls K)
theorem zk_tabIn {dflt lo hi : Int} {offs : Array Int} {len : Nat} {x : Int32} {off : Int} (tgt : Nat) (hd : decode cc pc = .ok (.tableswitch dflt lo hi offs, len)) (h1 : ¬ x.toInt < lo) (h2 : ¬ hi < x.toInt) (ho : offs[(x.toInt - lo).toNat]? = some off) (ht : (pc : Int) + off = (tgt : Int)) (k : zk_M d own cc nL ret sx tgt ls st mu lm Q) : zk_M d own cc nL ret sx pc ls (.int x :: st) mu lm Q := by
  intro p l e R s m args below meth cd D ρ γ A cells slots H locs Z lsr C Wd hls K
  obtain ⟨⟨hx, hb, hml, hown, hts⟩, c2, hK, hA, c5, c8⟩ := id C
  exact lv_tableIn hx hb hd h1 h2 ho ht (k p l e R s m args below meth cd D ρ γ A cells slots H locs Z lsr C Wd hls K)
theorem zk_tabOut {dflt lo hi : Int} {offs : Array Int} {len : Nat} {x : Int32} (tgt : Nat) (hd : decode cc pc = .ok (.tableswitch dflt lo hi offs, len)) (h : x.toInt < lo ∨ hi < x.toInt) (ht : (pc : Int) + dflt = (tgt : Int)) (k : zk_M d own cc nL ret sx tgt ls st mu lm Q) : zk_M d own cc nL ret sx pc ls (.int x :: st) mu lm Q := by
  intro p l e R s m args below meth cd D ρ γ A cells slots H locs Z lsr C Wd hls K
  obtain ⟨⟨hx, hb, hml, hown, hts⟩, c2, hK, hA, c5, c8⟩ := id C
  exact lv_tableOut hx hb hd h ht (k p l e R s m args below meth cd D ρ γ A cells slots H locs Z lsr C Wd hls K)
theorem zk_lookup {dflt : Int} {ps : Array (Int × Int)} {len : Nat} {x : Int32} {off : Int} (tgt : Nat) (hd : decode cc pc = .ok (.lookupswitch dflt ps, len)) (hp : (ps.toList.zip (ps.toList.drop 1)).all (fun (a, next) => a.1 < next.1) = true) (ho : Op.lookupswitch.offset ps.toList dflt x.toInt = off) (ht : (pc : Int) + off = (tgt : Int)) (k : zk_M d own cc nL ret sx tgt ls st mu lm Q) : zk_M d own cc nL ret sx pc ls (.int x :: st) mu lm Q := by
  intro p l e R s m args below meth cd D ρ γ A cells slots H locs Z lsr C Wd hls K
  obtain ⟨⟨hx, hb, hml, hown, hts⟩, c2, hK, hA, c5, c8⟩ := id C
  exact lv_lookup hx hb hd hp ho ht (k p l e R s m args below meth cd D ρ γ A cells slots H locs Z lsr C Wd hls K)
end ZI
end
section
section ZI2
variable {d : Nat} {own : String} {cc : ByteArray} {nL : Nat} {ret : Option FieldType} {sx : Option (Nat × (Nat → Int32))} {ls st : List Value} {mu : Mem} {lm : MemL} {Q : Option Value → Mem → MemL → Prop} {pc : Nat}
theorem zk_getV {idx ci kf c x : Nat} {fs : List Nat} {ty : FieldType} {fin : Bool} (v : Value) (hd : decode cc pc = .ok (.getfield idx, 3)) (hf : zk_Fl own idx ci kf ty fin) (hs : zk_shp[c]? = some (0, ci, fs)) (hk : fs[kf]? = some x) (hv : ∀ ρ : Nat → Nat, zk_fv ρ (mu c) (lm c) kf x = zk_rv ρ v) (k : zk_M d own cc nL ret sx (pc + 3) ls (v :: st) mu lm Q) : zk_M d own cc nL ret sx pc ls (.ref c :: st) mu lm Q := by
  intro p l e R s m args below meth cd D ρ γ A cells slots H locs Z lsr C Wd hls K
  obtain ⟨⟨hx, hb, hml, hown, hts⟩, c2, hK, hA, c5, c8⟩ := id C
  obtain ⟨C0, T0, N0, ty0, f1, f2, f3, f4, f5, f6, f7, f8⟩ := hf
  refine va_get hx hb hts f4 hown hK Wd.1 c (fs := fs.mapIdx (fun k x => zk_fv ρ (mu c) (lm c) k x)) (ci := ci) (zk_ws_at hs) f1 kf f2 (hts _ f3) (fun x h => h) (v := zk_rv ρ v) ?_ hd (k p l e R s m args below meth cd D ρ γ A cells slots H locs Z lsr C Wd hls K)
  rw [List.getElem?_mapIdx, hk, ← hv]; rfl
set_option maxHeartbeats 200000 in
theorem zk_getI {idx ci kf c : Nat} {fs : List Nat} {ty : FieldType} {fin : Bool} (hd : decode cc pc = .ok (.getfield idx, 3)) (hf : zk_Fl own idx ci kf ty fin) (hs : zk_shp[c]? = some (0, ci, fs)) (hk : fs[kf]? = some 0) (k : zk_M d own cc nL ret sx (pc + 3) ls (.int (mu c kf) :: st) mu lm Q) : zk_M d own cc nL ret sx pc ls (.ref c :: st) mu lm Q := zk_getV (.int (mu c kf)) hd hf hs hk (fun _ => rfl) k
set_option maxHeartbeats 200000 in
theorem zk_getL {idx ci kf c : Nat} {fs : List Nat} {ty : FieldType} {fin : Bool} (hd : decode cc pc = .ok (.getfield idx, 3)) (hf : zk_Fl own idx ci kf ty fin) (hs : zk_shp[c]? = some (0, ci, fs)) (hk : fs[kf]? = some 1) (k : zk_M d own cc nL ret sx (pc + 3) ls (.long (lm c kf) :: st) mu lm Q) : zk_M d own cc nL ret sx pc ls (.ref c :: st) mu lm Q := zk_getV (.long (lm c kf)) hd hf hs hk (fun _ => rfl) k
set_option maxHeartbeats 200000 in
theorem zk_getR {idx ci kf c r : Nat} {fs : List Nat} {ty : FieldType} {fin : Bool} (hd : decode cc pc = .ok (.getfield idx, 3)) (hf : zk_Fl own idx ci kf ty fin) (hs : zk_shp[c]? = some (0, ci, fs)) (hk : fs[kf]? = some (r + 2)) (k : zk_M d own cc nL ret sx (pc + 3) ls (.ref r :: st) mu lm Q) : zk_M d own cc nL ret sx pc ls (.ref c :: st) mu lm Q := zk_getV (.ref r) hd hf hs hk (fun _ => rfl) k
set_option maxHeartbeats 200000 in
theorem zk_putI {idx ci kf c : Nat} {fs : List Nat} {v : Int32} (hd : decode cc pc = .ok (.putfield idx, 3)) (hf : zk_Fl own idx ci kf .int false) (hs : zk_shp[c]? = some (0, ci, fs)) (hk : fs[kf]? = some 0) (k : zk_M d own cc nL ret sx (pc + 3) ls st (zk_up mu c kf v) lm Q) : zk_M d own cc nL ret sx pc ls (.int v :: .ref c :: st) mu lm Q := by
  intro p l e R s m args below meth cd D ρ γ A cells slots H locs Z lsr C Wd hls K
  obtain ⟨⟨hx, hb, hml, hown, hts⟩, c2, hK, hA, c5, c8⟩ := id C
  obtain ⟨C0, T0, N0, ty0, f1, f2, f3, f4, f5, f6, f7, f8⟩ := hf
  refine va_put hx hb hts f4 ty0 f5 f6 hown hK Wd.1 Wd.2.1 Wd.2.2 c (fs := fs.mapIdx (fun k x => zk_fv ρ (mu c) (lm c) k x)) (ci := ci) (zk_ws_at hs) f1 kf f2 (hts _ f3) (fun x h => h) f8 (ty := .int) (v := .int v) (by rw [f5 kf f2, f7]) rfl rfl (by rw [List.length_mapIdx]; exact (List.getElem?_eq_some_iff.mp hk).1) hd (fun H1 locs1 hP1 hD1 hS1 => ?_)
  have ews : (zk_ws ρ γ mu lm).set c (ρ c, .inr (ci, (fs.mapIdx (fun k x => zk_fv ρ (mu c) (lm c) k x)).set kf (.int v))) = zk_ws ρ γ (zk_up mu c kf v) lm := by
    rw [zk_fs_set hk, ← zk_up_uc, ← congrArg (fun z => zk_ws ρ γ (zk_uc mu c fun j => if j = kf then v else mu c j) z) (zk_uc_self lm c)]
    exact zk_ws_set hs _ _
  rw [ews] at hP1 hD1
  exact (k p l e R s m args below meth cd D ρ γ A cells slots H1 locs1 Z lsr C ⟨hP1, hD1, hS1⟩ hls K)
set_option maxHeartbeats 200000 in
theorem zk_putL {idx ci kf c : Nat} {fs : List Nat} {v : Int64} (hd : decode cc pc = .ok (.putfield idx, 3)) (hf : zk_Fl own idx ci kf .long false) (hs : zk_shp[c]? = some (0, ci, fs)) (hk : fs[kf]? = some 1) (k : zk_M d own cc nL ret sx (pc + 3) ls st mu (zk_up lm c kf v) Q) : zk_M d own cc nL ret sx pc ls (.long v :: .ref c :: st) mu lm Q := by
  intro p l e R s m args below meth cd D ρ γ A cells slots H locs Z lsr C Wd hls K
  obtain ⟨⟨hx, hb, hml, hown, hts⟩, c2, hK, hA, c5, c8⟩ := id C
  obtain ⟨C0, T0, N0, ty0, f1, f2, f3, f4, f5, f6, f7, f8⟩ := hf
  refine va_put hx hb hts f4 ty0 f5 f6 hown hK Wd.1 Wd.2.1 Wd.2.2 c (fs := fs.mapIdx (fun k x => zk_fv ρ (mu c) (lm c) k x)) (ci := ci) (zk_ws_at hs) f1 kf f2 (hts _ f3) (fun x h => h) f8 (ty := .long) (v := .long v) (by rw [f5 kf f2, f7]) rfl rfl (by rw [List.length_mapIdx]; exact (List.getElem?_eq_some_iff.mp hk).1) hd (fun H1 locs1 hP1 hD1 hS1 => ?_)
  have ews : (zk_ws ρ γ mu lm).set c (ρ c, .inr (ci, (fs.mapIdx (fun k x => zk_fv ρ (mu c) (lm c) k x)).set kf (.long v))) = zk_ws ρ γ mu (zk_up lm c kf v) := by
    rw [zk_fs_setL hk, ← zk_up_uc, ← congrArg (fun z => zk_ws ρ γ z (zk_uc lm c fun j => if j = kf then v else lm c j)) (zk_uc_self mu c)]
    exact zk_ws_set hs _ _
  rw [ews] at hP1 hD1
  exact (k p l e R s m args below meth cd D ρ γ A cells slots H1 locs1 Z lsr C ⟨hP1, hD1, hS1⟩ hls K)
set_option maxHeartbeats 200000 in
theorem zk_iaload {c n : Nat} {rs : List Nat} {i : Int32} (j : Nat) (hd : decode cc pc = .ok (.iaload, 1)) (hs : zk_shp[c]? = some (1, n, rs)) (hi : i = nI j) (hj : j < n) (k : zk_M d own cc nL ret sx (pc + 1) ls (.int (mu c j) :: st) mu lm Q) : zk_M d own cc nL ret sx pc ls (.int i :: .ref c :: st) mu lm Q := by
  intro p l e R s m args below meth cd D ρ γ A cells slots H locs Z lsr C Wd hls K
  obtain ⟨⟨hx, hb, hml, hown, hts⟩, c2, hK, hA, c5, c8⟩ := id C
  obtain ⟨g1, g2⟩ := zk_ix hi hj (zk_sm hs)
  refine va_iald hx hb hK Wd.1 c 0 (cA := γ 0) (n := n) (f := mu c) (zk_ws_at hs) rfl g1 hd ?_
  rw [g2]
  exact (k p l e R s m args below meth cd D ρ γ A cells slots H locs Z lsr C Wd hls K)
set_option maxHeartbeats 200000 in
theorem zk_laload {c n : Nat} {rs : List Nat} {i : Int32} (j : Nat) (hd : decode cc pc = .ok (.laload, 1)) (hs : zk_shp[c]? = some (2, n, rs)) (hi : i = nI j) (hj : j < n) (k : zk_M d own cc nL ret sx (pc + 1) ls (.long (lm c j) :: st) mu lm Q) : zk_M d own cc nL ret sx pc ls (.int i :: .ref c :: st) mu lm Q := by
  intro p l e R s m args below meth cd D ρ γ A cells slots H locs Z lsr C Wd hls K
  obtain ⟨⟨hx, hb, hml, hown, hts⟩, c2, hK, hA, c5, c8⟩ := id C
  obtain ⟨g1, g2⟩ := zk_ix hi hj (zk_sm hs)
  refine va_lald hx hb hK Wd.1 c 1 (cA := γ 1) (n := n) (f := lm c) (zk_ws_at hs) rfl g1 hd ?_
  rw [g2]
  exact (k p l e R s m args below meth cd D ρ γ A cells slots H locs Z lsr C Wd hls K)
set_option maxHeartbeats 200000 in
theorem zk_iastore {c n : Nat} {rs : List Nat} {i v : Int32} (j : Nat) (hd : decode cc pc = .ok (.iastore, 1)) (hs : zk_shp[c]? = some (1, n, rs)) (hi : i = nI j) (hj : j < n) (k : zk_M d own cc nL ret sx (pc + 1) ls st (zk_up mu c j v) lm Q) : zk_M d own cc nL ret sx pc ls (.int v :: .int i :: .ref c :: st) mu lm Q := by
  intro p l e R s m args below meth cd D ρ γ A cells slots H locs Z lsr C Wd hls K
  obtain ⟨⟨hx, hb, hml, hown, hts⟩, c2, hK, hA, c5, c8⟩ := id C
  obtain ⟨g1, g2⟩ := zk_ix hi hj (zk_sm hs)
  refine va_iast hx hb hK Wd.1 Wd.2.1 Wd.2.2 c 0 (cA := γ 0) (n := n) (f := mu c) (zk_ws_at hs) rfl g1 hd (fun H1 locs1 hP1 hD1 hS1 => ?_)
  have ews : (zk_ws ρ γ mu lm).set c (ρ c, .inl (γ 0, n, .inl (upd (mu c) i.toNatClampNeg v))) = zk_ws ρ γ (zk_up mu c j v) lm := by
    rw [g2, ← zk_up_uc, ← congrArg (fun z => zk_ws ρ γ (zk_uc mu c fun q => if q = j then v else mu c q) z) (zk_uc_self lm c)]
    exact zk_ws_set hs _ _
  rw [ews] at hP1 hD1
  exact (k p l e R s m args below meth cd D ρ γ A cells slots H1 locs1 Z lsr C ⟨hP1, hD1, hS1⟩ hls K)
set_option maxHeartbeats 200000 in
theorem zk_lastore {c n : Nat} {rs : List Nat} {i : Int32} {v : Int64} (j : Nat) (hd : decode cc pc = .ok (.lastore, 1)) (hs : zk_shp[c]? = some (2, n, rs)) (hi : i = nI j) (hj : j < n) (k : zk_M d own cc nL ret sx (pc + 1) ls st mu (zk_up lm c j v) Q) : zk_M d own cc nL ret sx pc ls (.long v :: .int i :: .ref c :: st) mu lm Q := by
  intro p l e R s m args below meth cd D ρ γ A cells slots H locs Z lsr C Wd hls K
  obtain ⟨⟨hx, hb, hml, hown, hts⟩, c2, hK, hA, c5, c8⟩ := id C
  obtain ⟨g1, g2⟩ := zk_ix hi hj (zk_sm hs)
  refine va_last hx hb hK Wd.1 Wd.2.1 Wd.2.2 c 1 (cA := γ 1) (n := n) (f := lm c) (zk_ws_at hs) rfl g1 hd (fun H1 locs1 hP1 hD1 hS1 => ?_)
  have ews : (zk_ws ρ γ mu lm).set c (ρ c, .inl (γ 1, n, .inr (.inl (vp_updL (lm c) i.toNatClampNeg v)))) = zk_ws ρ γ mu (zk_up lm c j v) := by
    rw [g2, ← zk_up_uc, ← congrArg (fun z => zk_ws ρ γ z (zk_uc lm c fun q => if q = j then v else lm c q)) (zk_uc_self mu c)]
    exact zk_ws_set hs _ _
  rw [ews] at hP1 hD1
  exact (k p l e R s m args below meth cd D ρ γ A cells slots H1 locs1 Z lsr C ⟨hP1, hD1, hS1⟩ hls K)
set_option maxHeartbeats 200000 in
theorem zk_aaload {c n t r : Nat} {rs : List Nat} {i : Int32} (j : Nat) (hd : decode cc pc = .ok (.aaload, 1)) (hs : zk_shp[c]? = some (t + 3, n, rs)) (ht : t < 2) (hi : i = nI j) (hj : j < n) (hr : rs[j]? = some r) (k : zk_M d own cc nL ret sx (pc + 1) ls (.ref r :: st) mu lm Q) : zk_M d own cc nL ret sx pc ls (.int i :: .ref c :: st) mu lm Q := by
  intro p l e R s m args below meth cd D ρ γ A cells slots H locs Z lsr C Wd hls K
  obtain ⟨⟨hx, hb, hml, hown, hts⟩, c2, hK, hA, c5, c8⟩ := id C
  obtain ⟨g1, g2⟩ := zk_ix hi hj (zk_sm hs)
  have key := (k p l e R s m args below meth cd D ρ γ A cells slots H locs Z lsr C Wd hls K)
  have e : va_rf ((fun j => (rs[j]?).map ρ) i.toNatClampNeg) :: st.map (zk_rv ρ) = (Value.ref r :: st).map (zk_rv ρ) := by
    simp only [g2, hr]; rfl
  rw [← e] at key
  match t, ht, hs with
  | 0, _, hs => exact va_aldq hx hb hK Wd.1 c 2 (cA := γ 2) (C := RX4) (n := n) (f := fun j => (rs[j]?).map ρ) (zk_ws_at hs) rfl g1 hd key
  | 1, _, hs => exact va_aldq hx hb hK Wd.1 c 3 (cA := γ 3) (C := RX1) (n := n) (f := fun j => (rs[j]?).map ρ) (zk_ws_at hs) rfl g1 hd key
set_option maxHeartbeats 200000 in
theorem zk_aaload2 {c n r : Nat} {rs : List Nat} {i : Int32} (j : Nat) (hd : decode cc pc = .ok (.aaload, 1)) (hs : zk_shp[c]? = some (5, n, rs)) (hi : i = nI j) (hj : j < n) (hr : rs[j]? = some r) (k : zk_M d own cc nL ret sx (pc + 1) ls (.ref r :: st) mu lm Q) : zk_M d own cc nL ret sx pc ls (.int i :: .ref c :: st) mu lm Q := by
  intro p l e R s m args below meth cd D ρ γ A cells slots H locs Z lsr C Wd hls K
  obtain ⟨⟨hx, hb, hml, hown, hts⟩, c2, hK, hA, c5, c8⟩ := id C
  obtain ⟨g1, g2⟩ := zk_ix hi hj (zk_sm hs)
  have key := (k p l e R s m args below meth cd D ρ γ A cells slots H locs Z lsr C Wd hls K)
  have e : va_rf ((fun j => (rs[j]?).map ρ) i.toNatClampNeg) :: st.map (zk_rv ρ) = (Value.ref r :: st).map (zk_rv ρ) := by
    simp only [g2, hr]; rfl
  rw [← e] at key
  have hlt : i.toNatClampNeg < n := Nat.not_le.mp fun q => g1 (Or.inr q)
  exact W.aald (v := va_rf ((fun j => (rs[j]?).map ρ) i.toNatClampNeg)) (ty := .array .int) hx hb (Wd.1 c _ (zk_ws_at hs)) ((hK.2 4 _ rfl).1 n (fun j => va_rf ((fun j => (rs[j]?).map ρ) j))) rfl (fun q => by cases q) (by show ¬ (i < 0 ∨ (arrV _ _ _).slots.size ≤ _); rw [arrV_size]; exact g1) (by show (arrV _ _ _).slots[_]? = _; rw [arrV_read _ _ hlt]) rfl rfl hd key
set_option maxHeartbeats 200000 in
theorem zk_alen {c t n : Nat} {rs : List Nat} (hd : decode cc pc = .ok (.arraylength, 1)) (hs : zk_shp[c]? = some (t + 1, n, rs)) (ht : t < 5) (k : zk_M d own cc nL ret sx (pc + 1) ls (.int (nI n) :: st) mu lm Q) : zk_M d own cc nL ret sx pc ls (.ref c :: st) mu lm Q := by
  intro p l e R s m args below meth cd D ρ γ A cells slots H locs Z lsr C Wd hls K
  obtain ⟨⟨hx, hb, hml, hown, hts⟩, c2, hK, hA, c5, c8⟩ := id C
  have key := (k p l e R s m args below meth cd D ρ γ A cells slots H locs Z lsr C Wd hls K)
  match t, ht, hs with
  | 0, _, hs => exact va_alen hx hb hK Wd.1 c 0 (zk_ws_at hs) (ty := .int) rfl rfl hd key
  | 1, _, hs => exact va_alen hx hb hK Wd.1 c 1 (zk_ws_at hs) (ty := .long) rfl rfl hd key
  | 2, _, hs => exact va_alen hx hb hK Wd.1 c 2 (zk_ws_at hs) (ty := .object RX4) rfl rfl hd key
  | 3, _, hs => exact va_alen hx hb hK Wd.1 c 3 (zk_ws_at hs) (ty := .object RX1) rfl rfl hd key
  | 4, _, hs => exact va_alen hx hb hK Wd.1 c 4 (zk_ws_at hs) (ty := .array .int) rfl rfl hd key
set_option maxHeartbeats 200000 in
theorem zk_acopy {idx a a0 n0 n1 : Nat} {r0 r1 : List Nat} {sp dp n : Int32} (jsp jdp jn : Nat) (hd : decode cc pc = .ok (.invokestatic idx, 3)) (hl : Cond.methodLink own idx arraycopyName ∈ zk_tb) (hnat : Cond.native arraycopyName ∈ zk_tb) (hstat : Cond.static arraycopyName ∈ zk_tb) (hini : Cond.initialized "java/lang/System" ∈ zk_tb) (h0 : zk_shp[a0]? = some (1, n0, r0)) (h1 : zk_shp[a]? = some (1, n1, r1)) (hsp : sp = nI jsp) (hdp : dp = nI jdp) (hn : n = nI jn) (b0 : jsp + jn ≤ n0) (b1 : jdp + jn ≤ n1) (hc : (st.map fun v => v.category).sum ≤ 8) (hw : nativeFrameWords "java/lang/System" "arraycopy" 5 ≤ 40) (k : zk_M (d + 1) own cc nL ret sx (pc + 3) ls st (zk_uc mu a (va_cpy (mu a0) (mu a) jsp jdp jn)) lm Q) : zk_M (d + 1) own cc nL ret sx pc ls (.int n :: .int dp :: .ref a :: .int sp :: .ref a0 :: st) mu lm Q := by
  intro p l e R s m args below meth cd D ρ γ A cells slots H locs Z lsr C Wd hls K
  obtain ⟨⟨hx, hb, hml, hown, hts⟩, c2, hK, hA, ⟨c5, c6, c7⟩, c8⟩ := id C
  have s0 := zk_sm h0
  have s1 := zk_sm h1
  simp only at s0 s1
  have g1 : sp.toNatClampNeg = jsp := by rw [hsp]; exact nI_clamp (by omega)
  have g2 : dp.toNatClampNeg = jdp := by rw [hdp]; exact nI_clamp (by omega)
  have g3 : n.toNatClampNeg = jn := by rw [hn]; exact nI_clamp (by omega)
  refine va_copyi hx hb (hml.trans hls.1.symm) hown (hts _ hl) (hts _ hnat) (hts _ hstat) (hts _ hini) hK Wd.1 Wd.2.1 Wd.2.2 a0 a 0 0 (c0 := γ 0) (c1 := γ 0) (n0 := n0) (n1 := n1) (f := mu a0) (g := mu a) (zk_ws_at h0) (zk_ws_at h1) rfl rfl rfl (by rw [hsp]; exact nI_pos (by omega)) (by rw [hdp]; exact nI_pos (by omega)) (by rw [hn]; exact nI_pos (by omega)) (by rw [g1, g3]; exact b0) (by rw [g2, g3]; exact b1) (fun i hi => rfl) (by omega) (by rw [zk_cat]; omega) hd (fun H1 locs1 hP1 hD1 hS1 => ?_)
  have ews : (zk_ws ρ γ mu lm).set a (ρ a, .inl (γ 0, n1, .inl (va_cpy (mu a0) (mu a) sp.toNatClampNeg dp.toNatClampNeg n.toNatClampNeg))) = zk_ws ρ γ (zk_uc mu a (va_cpy (mu a0) (mu a) jsp jdp jn)) lm := by
    rw [g1, g2, g3, ← congrArg (fun z => zk_ws ρ γ (zk_uc mu a (va_cpy (mu a0) (mu a) jsp jdp jn)) z) (zk_uc_self lm a)]
    exact zk_ws_set h1 _ _
  rw [ews] at hP1 hD1
  exact (k p l e R s m args below meth cd D ρ γ A cells slots H1 locs1 Z lsr C ⟨hP1, hD1, hS1⟩ hls K)
set_option maxHeartbeats 200000 in
theorem zk_sload {L : Nat} {xs : Nat → Int32} {i : Int32} (j : Nat) (hd : decode cc pc = .ok (.iaload, 1)) (hsx : sx = some (L, xs)) (hi : i = nI j) (hj : j < L) (hL : L < 2 ^ 31) (k : zk_M d own cc nL ret sx (pc + 1) ls (.int (xs j) :: st) mu lm Q) : zk_M d own cc nL ret sx pc ls (.int i :: .ref 99 :: st) mu lm Q := by
  intro p l e R s m args below meth cd D ρ γ A cells slots H locs Z lsr C Wd hls K
  obtain ⟨⟨hx, hb, hml, hown, hts⟩, c2, hK, hA, c5, c8⟩ := id C
  obtain ⟨g1, g2⟩ := zk_ix hi hj hL
  obtain ⟨x1, x2, x3⟩ := c8 L xs hsx
  refine va_sld hx hb x1 x2 x3 Wd.2.2 g1 hd ?_
  rw [g2]
  exact (k p l e R s m args below meth cd D ρ γ A cells slots H locs Z lsr C Wd hls K)
set_option maxHeartbeats 200000 in
theorem zk_slen {L : Nat} {xs : Nat → Int32} (hd : decode cc pc = .ok (.arraylength, 1)) (hsx : sx = some (L, xs)) (k : zk_M d own cc nL ret sx (pc + 1) ls (.int (nI L) :: st) mu lm Q) : zk_M d own cc nL ret sx pc ls (.ref 99 :: st) mu lm Q := by
  intro p l e R s m args below meth cd D ρ γ A cells slots H locs Z lsr C Wd hls K
  obtain ⟨⟨hx, hb, hml, hown, hts⟩, c2, hK, hA, c5, c8⟩ := id C
  obtain ⟨x1, x2, x3⟩ := c8 L xs hsx
  exact va_slen hx hb x1 x2 x3 Wd.2.2 hd (k p l e R s m args below meth cd D ρ γ A cells slots H locs Z lsr C Wd hls K)
end ZI2
end
section
theorem mtX0_init : zk_Mt RX0 yX0_init cX0_init 1 (none) 0 := ⟨rfl, by decide +kernel, by decide +kernel, by decide +kernel, by decide +kernel, by decide, zk_in 104 (by decide +kernel) rfl, zk_in 60 (by decide +kernel) rfl⟩
theorem mtX0_hasMember : zk_Mt RX0 yX0_hasMember cX0_hasMember 2 (some .boolean) 1 := ⟨rfl, by decide +kernel, by decide +kernel, by decide +kernel, by decide +kernel, by decide, zk_in 349 (by decide +kernel) rfl, zk_in 60 (by decide +kernel) rfl⟩
theorem stX0_hasMember : Cond.instanceMethod yX0_hasMember ∈ zk_tb ∧ Cond.selects RX0 yX0_hasMember yX0_hasMember ∈ zk_tb := ⟨zk_in 347 (by decide +kernel) rfl, zk_in 348 (by decide +kernel) rfl⟩
theorem mtX0_hasCell : zk_Mt RX0 yX0_hasCell cX0_hasCell 2 (some .boolean) 1 := ⟨rfl, by decide +kernel, by decide +kernel, by decide +kernel, by decide +kernel, by decide, zk_in 337 (by decide +kernel) rfl, zk_in 60 (by decide +kernel) rfl⟩
theorem stX0_hasCell : Cond.instanceMethod yX0_hasCell ∈ zk_tb ∧ Cond.selects RX0 yX0_hasCell yX0_hasCell ∈ zk_tb := ⟨zk_in 335 (by decide +kernel) rfl, zk_in 336 (by decide +kernel) rfl⟩
theorem mtX0_join : zk_Mt RX0 yX0_join cX0_join 2 (none) 1 := ⟨rfl, by decide +kernel, by decide +kernel, by decide +kernel, by decide +kernel, by decide, zk_in 329 (by decide +kernel) rfl, zk_in 60 (by decide +kernel) rfl⟩
theorem stX0_join : Cond.instanceMethod yX0_join ∈ zk_tb ∧ Cond.selects RX0 yX0_join yX0_join ∈ zk_tb := ⟨zk_in 327 (by decide +kernel) rfl, zk_in 328 (by decide +kernel) rfl⟩
theorem mtX0_seat : zk_Mt RX0 yX0_seat cX0_seat 2 (none) 1 := ⟨rfl, by decide +kernel, by decide +kernel, by decide +kernel, by decide +kernel, by decide, zk_in 333 (by decide +kernel) rfl, zk_in 60 (by decide +kernel) rfl⟩
theorem stX0_seat : Cond.instanceMethod yX0_seat ∈ zk_tb ∧ Cond.selects RX0 yX0_seat yX0_seat ∈ zk_tb := ⟨zk_in 331 (by decide +kernel) rfl, zk_in 332 (by decide +kernel) rfl⟩
theorem mtX0_freshen : zk_Mt RX0 yX0_freshen cX0_freshen 2 (none) 0 := ⟨rfl, by decide +kernel, by decide +kernel, by decide +kernel, by decide +kernel, by decide, zk_in 341 (by decide +kernel) rfl, zk_in 60 (by decide +kernel) rfl⟩
theorem stX0_freshen : Cond.instanceMethod yX0_freshen ∈ zk_tb ∧ Cond.selects RX0 yX0_freshen yX0_freshen ∈ zk_tb := ⟨zk_in 339 (by decide +kernel) rfl, zk_in 340 (by decide +kernel) rfl⟩
theorem mtX0_behind : zk_Mt RX0 yX0_behind cX0_behind 2 (some .int) 1 := ⟨rfl, by decide +kernel, by decide +kernel, by decide +kernel, by decide +kernel, by decide, zk_in 369 (by decide +kernel) rfl, zk_in 60 (by decide +kernel) rfl⟩
theorem stX0_behind : Cond.instanceMethod yX0_behind ∈ zk_tb ∧ Cond.selects RX0 yX0_behind yX0_behind ∈ zk_tb := ⟨zk_in 368 (by decide +kernel) rfl, zk_in 4 (by decide +kernel) rfl⟩
theorem mtX0_ahead : zk_Mt RX0 yX0_ahead cX0_ahead 2 (some .int) 1 := ⟨rfl, by decide +kernel, by decide +kernel, by decide +kernel, by decide +kernel, by decide, zk_in 373 (by decide +kernel) rfl, zk_in 60 (by decide +kernel) rfl⟩
theorem stX0_ahead : Cond.instanceMethod yX0_ahead ∈ zk_tb ∧ Cond.selects RX0 yX0_ahead yX0_ahead ∈ zk_tb := ⟨zk_in 372 (by decide +kernel) rfl, zk_in 5 (by decide +kernel) rfl⟩
theorem mtX0_share : zk_Mt RX0 yX0_share cX0_share 7 (some .int) 3 := ⟨rfl, by decide +kernel, by decide +kernel, by decide +kernel, by decide +kernel, by decide, zk_in 437 (by decide +kernel) rfl, zk_in 60 (by decide +kernel) rfl⟩
theorem stX0_share : Cond.instanceMethod yX0_share ∈ zk_tb ∧ Cond.selects RX0 yX0_share yX0_share ∈ zk_tb := ⟨zk_in 435 (by decide +kernel) rfl, zk_in 436 (by decide +kernel) rfl⟩
theorem mtX0_breatheInto : zk_Mt RX0 yX0_breatheInto cX0_breatheInto 5 (none) 3 := ⟨rfl, by decide +kernel, by decide +kernel, by decide +kernel, by decide +kernel, by decide, zk_in 433 (by decide +kernel) rfl, zk_in 60 (by decide +kernel) rfl⟩
theorem stX0_breatheInto : Cond.instanceMethod yX0_breatheInto ∈ zk_tb ∧ Cond.selects RX0 yX0_breatheInto yX0_breatheInto ∈ zk_tb := ⟨zk_in 431 (by decide +kernel) rfl, zk_in 432 (by decide +kernel) rfl⟩
theorem mtX0_letTalk : zk_Mt RX0 yX0_letTalk cX0_letTalk 4 (some .int) 2 := ⟨rfl, by decide +kernel, by decide +kernel, by decide +kernel, by decide +kernel, by decide, zk_in 427 (by decide +kernel) rfl, zk_in 60 (by decide +kernel) rfl⟩
theorem stX0_letTalk : Cond.instanceMethod yX0_letTalk ∈ zk_tb ∧ Cond.selects RX0 yX0_letTalk yX0_letTalk ∈ zk_tb := ⟨zk_in 425 (by decide +kernel) rfl, zk_in 426 (by decide +kernel) rfl⟩
theorem mtX0_passHour : zk_Mt RX0 yX0_passHour cX0_passHour 3 (some .int) 0 := ⟨rfl, by decide +kernel, by decide +kernel, by decide +kernel, by decide +kernel, by decide, zk_in 442 (by decide +kernel) rfl, zk_in 60 (by decide +kernel) rfl⟩
theorem stX0_passHour : Cond.instanceMethod yX0_passHour ∈ zk_tb ∧ Cond.selects RX0 yX0_passHour yX0_passHour ∈ zk_tb := ⟨zk_in 440 (by decide +kernel) rfl, zk_in 441 (by decide +kernel) rfl⟩
theorem mtX0_openCell : zk_Mt RX0 yX0_openCell cX0_openCell 3 (some .int) 1 := ⟨rfl, by decide +kernel, by decide +kernel, by decide +kernel, by decide +kernel, by decide, zk_in 459 (by decide +kernel) rfl, zk_in 60 (by decide +kernel) rfl⟩
theorem stX0_openCell : Cond.instanceMethod yX0_openCell ∈ zk_tb ∧ Cond.selects RX0 yX0_openCell yX0_openCell ∈ zk_tb := ⟨zk_in 457 (by decide +kernel) rfl, zk_in 458 (by decide +kernel) rfl⟩
theorem mtX0_comeDown : zk_Mt RX0 yX0_comeDown cX0_comeDown 2 (some .int) 0 := ⟨rfl, by decide +kernel, by decide +kernel, by decide +kernel, by decide +kernel, by decide, zk_in 463 (by decide +kernel) rfl, zk_in 60 (by decide +kernel) rfl⟩
theorem stX0_comeDown : Cond.instanceMethod yX0_comeDown ∈ zk_tb ∧ Cond.selects RX0 yX0_comeDown yX0_comeDown ∈ zk_tb := ⟨zk_in 461 (by decide +kernel) rfl, zk_in 462 (by decide +kernel) rfl⟩
theorem mtX0_smokeIn : zk_Mt RX0 yX0_smokeIn cX0_smokeIn 3 (some .int) 2 := ⟨rfl, by decide +kernel, by decide +kernel, by decide +kernel, by decide +kernel, by decide, zk_in 454 (by decide +kernel) rfl, zk_in 60 (by decide +kernel) rfl⟩
theorem stX0_smokeIn : Cond.instanceMethod yX0_smokeIn ∈ zk_tb ∧ Cond.selects RX0 yX0_smokeIn yX0_smokeIn ∈ zk_tb := ⟨zk_in 452 (by decide +kernel) rfl, zk_in 453 (by decide +kernel) rfl⟩
theorem mtX0_allSmokeIn : zk_Mt RX0 yX0_allSmokeIn cX0_allSmokeIn 4 (some .int) 1 := ⟨rfl, by decide +kernel, by decide +kernel, by decide +kernel, by decide +kernel, by decide, zk_in 690 (by decide +kernel) rfl, zk_in 60 (by decide +kernel) rfl⟩
theorem stX0_allSmokeIn : Cond.instanceMethod yX0_allSmokeIn ∈ zk_tb ∧ Cond.selects RX0 yX0_allSmokeIn yX0_allSmokeIn ∈ zk_tb := ⟨zk_in 688 (by decide +kernel) rfl, zk_in 689 (by decide +kernel) rfl⟩
theorem mtX0_allSmoke : zk_Mt RX0 yX0_allSmoke cX0_allSmoke 1 (some .int) 0 := ⟨rfl, by decide +kernel, by decide +kernel, by decide +kernel, by decide +kernel, by decide, zk_in 446 (by decide +kernel) rfl, zk_in 60 (by decide +kernel) rfl⟩
theorem stX0_allSmoke : Cond.instanceMethod yX0_allSmoke ∈ zk_tb ∧ Cond.selects RX0 yX0_allSmoke yX0_allSmoke ∈ zk_tb := ⟨zk_in 444 (by decide +kernel) rfl, zk_in 445 (by decide +kernel) rfl⟩
theorem mtX0_sumOf : zk_Mt RX0 yX0_sumOf cX0_sumOf 4 (some .int) 1 := ⟨rfl, by decide +kernel, by decide +kernel, by decide +kernel, by decide +kernel, by decide, zk_in 450 (by decide +kernel) rfl, zk_in 60 (by decide +kernel) rfl⟩
theorem stX0_sumOf : Cond.instanceMethod yX0_sumOf ∈ zk_tb ∧ Cond.selects RX0 yX0_sumOf yX0_sumOf ∈ zk_tb := ⟨zk_in 448 (by decide +kernel) rfl, zk_in 449 (by decide +kernel) rfl⟩
theorem mtX0_smokeOutside : zk_Mt RX0 yX0_smokeOutside cX0_smokeOutside 4 (some .int) 1 := ⟨rfl, by decide +kernel, by decide +kernel, by decide +kernel, by decide +kernel, by decide, zk_in 555 (by decide +kernel) rfl, zk_in 60 (by decide +kernel) rfl⟩
theorem stX0_smokeOutside : Cond.instanceMethod yX0_smokeOutside ∈ zk_tb ∧ Cond.selects RX0 yX0_smokeOutside yX0_smokeOutside ∈ zk_tb := ⟨zk_in 553 (by decide +kernel) rfl, zk_in 554 (by decide +kernel) rfl⟩
theorem mtX0_fullestOf : zk_Mt RX0 yX0_fullestOf cX0_fullestOf 4 (some .int) 1 := ⟨rfl, by decide +kernel, by decide +kernel, by decide +kernel, by decide +kernel, by decide, zk_in 541 (by decide +kernel) rfl, zk_in 60 (by decide +kernel) rfl⟩
theorem stX0_fullestOf : Cond.instanceMethod yX0_fullestOf ∈ zk_tb ∧ Cond.selects RX0 yX0_fullestOf yX0_fullestOf ∈ zk_tb := ⟨zk_in 539 (by decide +kernel) rfl, zk_in 540 (by decide +kernel) rfl⟩
theorem mtX0_ringSmoke : zk_Mt RX0 yX0_ringSmoke cX0_ringSmoke 3 (some .int) 1 := ⟨rfl, by decide +kernel, by decide +kernel, by decide +kernel, by decide +kernel, by decide, zk_in 365 (by decide +kernel) rfl, zk_in 60 (by decide +kernel) rfl⟩
theorem stX0_ringSmoke : Cond.instanceMethod yX0_ringSmoke ∈ zk_tb ∧ Cond.selects RX0 yX0_ringSmoke yX0_ringSmoke ∈ zk_tb := ⟨zk_in 363 (by decide +kernel) rfl, zk_in 364 (by decide +kernel) rfl⟩
theorem mtX0_otherYoungBeside : zk_Mt RX0 yX0_otherYoungBeside cX0_otherYoungBeside 5 (some .int) 1 := ⟨rfl, by decide +kernel, by decide +kernel, by decide +kernel, by decide +kernel, by decide, zk_in 377 (by decide +kernel) rfl, zk_in 60 (by decide +kernel) rfl⟩
theorem stX0_otherYoungBeside : Cond.instanceMethod yX0_otherYoungBeside ∈ zk_tb ∧ Cond.selects RX0 yX0_otherYoungBeside yX0_otherYoungBeside ∈ zk_tb := ⟨zk_in 375 (by decide +kernel) rfl, zk_in 376 (by decide +kernel) rfl⟩
theorem mtX0_othersWithoutBreath : zk_Mt RX0 yX0_othersWithoutBreath cX0_othersWithoutBreath 5 (some .int) 2 := ⟨rfl, by decide +kernel, by decide +kernel, by decide +kernel, by decide +kernel, by decide, zk_in 382 (by decide +kernel) rfl, zk_in 60 (by decide +kernel) rfl⟩
theorem stX0_othersWithoutBreath : Cond.instanceMethod yX0_othersWithoutBreath ∈ zk_tb ∧ Cond.selects RX0 yX0_othersWithoutBreath yX0_othersWithoutBreath ∈ zk_tb := ⟨zk_in 380 (by decide +kernel) rfl, zk_in 381 (by decide +kernel) rfl⟩
theorem mtX0_membersOf : zk_Mt RX0 yX0_membersOf cX0_membersOf 4 (some .int) 1 := ⟨rfl, by decide +kernel, by decide +kernel, by decide +kernel, by decide +kernel, by decide, zk_in 733 (by decide +kernel) rfl, zk_in 60 (by decide +kernel) rfl⟩
theorem stX0_membersOf : Cond.instanceMethod yX0_membersOf ∈ zk_tb ∧ Cond.selects RX0 yX0_membersOf yX0_membersOf ∈ zk_tb := ⟨zk_in 731 (by decide +kernel) rfl, zk_in 732 (by decide +kernel) rfl⟩
theorem mtX1_init : zk_Mt RX1 yX1_init cX1_init 1 (none) 0 := ⟨rfl, by decide +kernel, by decide +kernel, by decide +kernel, by decide +kernel, by decide, zk_in 157 (by decide +kernel) rfl, zk_in 61 (by decide +kernel) rfl⟩
theorem mtX1_isFull : zk_Mt RX1 yX1_isFull cX1_isFull 1 (some .boolean) 0 := ⟨rfl, by decide +kernel, by decide +kernel, by decide +kernel, by decide +kernel, by decide, zk_in 411 (by decide +kernel) rfl, zk_in 61 (by decide +kernel) rfl⟩
theorem stX1_isFull : Cond.instanceMethod yX1_isFull ∈ zk_tb ∧ Cond.selects RX1 yX1_isFull yX1_isFull ∈ zk_tb := ⟨zk_in 409 (by decide +kernel) rfl, zk_in 410 (by decide +kernel) rfl⟩
theorem mtX1_write : zk_Mt RX1 yX1_write cX1_write 4 (none) 3 := ⟨rfl, by decide +kernel, by decide +kernel, by decide +kernel, by decide +kernel, by decide, zk_in 419 (by decide +kernel) rfl, zk_in 61 (by decide +kernel) rfl⟩
theorem stX1_write : Cond.instanceMethod yX1_write ∈ zk_tb ∧ Cond.selects RX1 yX1_write yX1_write ∈ zk_tb := ⟨zk_in 417 (by decide +kernel) rfl, zk_in 418 (by decide +kernel) rfl⟩
theorem mtX1_what : zk_Mt RX1 yX1_what cX1_what 2 (some .int) 1 := ⟨rfl, by decide +kernel, by decide +kernel, by decide +kernel, by decide +kernel, by decide, zk_in 488 (by decide +kernel) rfl, zk_in 61 (by decide +kernel) rfl⟩
theorem stX1_what : Cond.instanceMethod yX1_what ∈ zk_tb ∧ Cond.selects RX1 yX1_what yX1_what ∈ zk_tb := ⟨zk_in 486 (by decide +kernel) rfl, zk_in 487 (by decide +kernel) rfl⟩
theorem mtX1_whom : zk_Mt RX1 yX1_whom cX1_whom 2 (some .int) 1 := ⟨rfl, by decide +kernel, by decide +kernel, by decide +kernel, by decide +kernel, by decide, zk_in 492 (by decide +kernel) rfl, zk_in 61 (by decide +kernel) rfl⟩
theorem stX1_whom : Cond.instanceMethod yX1_whom ∈ zk_tb ∧ Cond.selects RX1 yX1_whom yX1_whom ∈ zk_tb := ⟨zk_in 490 (by decide +kernel) rfl, zk_in 491 (by decide +kernel) rfl⟩
theorem mtX1_meant : zk_Mt RX1 yX1_meant cX1_meant 2 (some .int) 1 := ⟨rfl, by decide +kernel, by decide +kernel, by decide +kernel, by decide +kernel, by decide, zk_in 496 (by decide +kernel) rfl, zk_in 61 (by decide +kernel) rfl⟩
theorem stX1_meant : Cond.instanceMethod yX1_meant ∈ zk_tb ∧ Cond.selects RX1 yX1_meant yX1_meant ∈ zk_tb := ⟨zk_in 494 (by decide +kernel) rfl, zk_in 495 (by decide +kernel) rfl⟩
theorem mtX1_takeFrom : zk_Mt RX1 yX1_takeFrom cX1_takeFrom 3 (none) 1 := ⟨rfl, by decide +kernel, by decide +kernel, by decide +kernel, by decide +kernel, by decide, zk_in 504 (by decide +kernel) rfl, zk_in 61 (by decide +kernel) rfl⟩
theorem stX1_takeFrom : Cond.instanceMethod yX1_takeFrom ∈ zk_tb ∧ Cond.selects RX1 yX1_takeFrom yX1_takeFrom ∈ zk_tb := ⟨zk_in 502 (by decide +kernel) rfl, zk_in 503 (by decide +kernel) rfl⟩
theorem mtX2_byLetter : zk_Mt RX2 yX2_byLetter cX2_byLetter 1 (some .int) 1 := ⟨rfl, by decide +kernel, by decide +kernel, by decide +kernel, by decide +kernel, by decide, zk_in 318 (by decide +kernel) rfl, zk_in 67 (by decide +kernel) rfl⟩
theorem stX2_byLetter : Cond.static yX2_byLetter ∈ zk_tb := zk_in 317 (by decide +kernel) rfl
theorem mtX2_isOf : zk_Mt RX2 yX2_isOf cX2_isOf 2 (some .boolean) 2 := ⟨rfl, by decide +kernel, by decide +kernel, by decide +kernel, by decide +kernel, by decide, zk_in 361 (by decide +kernel) rfl, zk_in 67 (by decide +kernel) rfl⟩
theorem stX2_isOf : Cond.static yX2_isOf ∈ zk_tb := zk_in 360 (by decide +kernel) rfl
theorem mtX2_spoken : zk_Mt RX2 yX2_spoken cX2_spoken 2 (some .int) 2 := ⟨rfl, by decide +kernel, by decide +kernel, by decide +kernel, by decide +kernel, by decide, zk_in 388 (by decide +kernel) rfl, zk_in 67 (by decide +kernel) rfl⟩
theorem stX2_spoken : Cond.static yX2_spoken ∈ zk_tb := zk_in 387 (by decide +kernel) rfl
theorem mtX2_breathed : zk_Mt RX2 yX2_breathed cX2_breathed 2 (some .int) 2 := ⟨rfl, by decide +kernel, by decide +kernel, by decide +kernel, by decide +kernel, by decide, zk_in 385 (by decide +kernel) rfl, zk_in 67 (by decide +kernel) rfl⟩
theorem stX2_breathed : Cond.static yX2_breathed ∈ zk_tb := zk_in 384 (by decide +kernel) rfl
theorem mtX2_meaningsOf : zk_Mt RX2 yX2_meaningsOf cX2_meaningsOf 4 (some .int) 2 := ⟨rfl, by decide +kernel, by decide +kernel, by decide +kernel, by decide +kernel, by decide, zk_in 394 (by decide +kernel) rfl, zk_in 67 (by decide +kernel) rfl⟩
theorem stX2_meaningsOf : Cond.static yX2_meaningsOf ∈ zk_tb := zk_in 393 (by decide +kernel) rfl
theorem mtX2_leastMeaningOf : zk_Mt RX2 yX2_leastMeaningOf cX2_leastMeaningOf 3 (some .int) 2 := ⟨rfl, by decide +kernel, by decide +kernel, by decide +kernel, by decide +kernel, by decide, zk_in 524 (by decide +kernel) rfl, zk_in 67 (by decide +kernel) rfl⟩
theorem stX2_leastMeaningOf : Cond.static yX2_leastMeaningOf ∈ zk_tb := zk_in 523 (by decide +kernel) rfl
theorem mtX3_fit : zk_Mt RX3 yX3_fit cX3_fit 3 (some .boolean) 2 := ⟨rfl, by decide +kernel, by decide +kernel, by decide +kernel, by decide +kernel, by decide, zk_in 625 (by decide +kernel) rfl, zk_in 69 (by decide +kernel) rfl⟩
theorem stX3_fit : Cond.static yX3_fit ∈ zk_tb := zk_in 624 (by decide +kernel) rfl
theorem mtX3_fittingKinds : zk_Mt RX3 yX3_fittingKinds cX3_fittingKinds 3 (some .int) 1 := ⟨rfl, by decide +kernel, by decide +kernel, by decide +kernel, by decide +kernel, by decide, zk_in 634 (by decide +kernel) rfl, zk_in 69 (by decide +kernel) rfl⟩
theorem stX3_fittingKinds : Cond.static yX3_fittingKinds ∈ zk_tb := zk_in 633 (by decide +kernel) rfl
theorem mtX3_greatestPart : zk_Mt RX3 yX3_greatestPart cX3_greatestPart 4 (some .int) 2 := ⟨rfl, by decide +kernel, by decide +kernel, by decide +kernel, by decide +kernel, by decide, zk_in 642 (by decide +kernel) rfl, zk_in 69 (by decide +kernel) rfl⟩
theorem stX3_greatestPart : Cond.static yX3_greatestPart ∈ zk_tb := zk_in 641 (by decide +kernel) rfl
theorem mtX3_partLike : zk_Mt RX3 yX3_partLike cX3_partLike 6 (some .int) 3 := ⟨rfl, by decide +kernel, by decide +kernel, by decide +kernel, by decide +kernel, by decide, zk_in 645 (by decide +kernel) rfl, zk_in 69 (by decide +kernel) rfl⟩
theorem stX3_partLike : Cond.static yX3_partLike ∈ zk_tb := zk_in 644 (by decide +kernel) rfl
theorem mtX3_leaksBy : zk_Mt RX3 yX3_leaksBy cX3_leaksBy 3 (some .boolean) 2 := ⟨rfl, by decide +kernel, by decide +kernel, by decide +kernel, by decide +kernel, by decide, zk_in 653 (by decide +kernel) rfl, zk_in 69 (by decide +kernel) rfl⟩
theorem stX3_leaksBy : Cond.static yX3_leaksBy ∈ zk_tb := zk_in 652 (by decide +kernel) rfl
theorem mtX4_init : zk_Mt RX4 yX4_init cX4_init 2 (none) 1 := ⟨rfl, by decide +kernel, by decide +kernel, by decide +kernel, by decide +kernel, by decide, zk_in 86 (by decide +kernel) rfl, zk_in 59 (by decide +kernel) rfl⟩
theorem mtX4_isThere : zk_Mt RX4 yX4_isThere cX4_isThere 1 (some .boolean) 0 := ⟨rfl, by decide +kernel, by decide +kernel, by decide +kernel, by decide +kernel, by decide, zk_in 254 (by decide +kernel) rfl, zk_in 59 (by decide +kernel) rfl⟩
theorem stX4_isThere : Cond.instanceMethod yX4_isThere ∈ zk_tb ∧ Cond.selects RX4 yX4_isThere yX4_isThere ∈ zk_tb := ⟨zk_in 252 (by decide +kernel) rfl, zk_in 253 (by decide +kernel) rfl⟩
theorem mtX4_has : zk_Mt RX4 yX4_has cX4_has 2 (some .boolean) 1 := ⟨rfl, by decide +kernel, by decide +kernel, by decide +kernel, by decide +kernel, by decide, zk_in 258 (by decide +kernel) rfl, zk_in 59 (by decide +kernel) rfl⟩
theorem stX4_has : Cond.instanceMethod yX4_has ∈ zk_tb ∧ Cond.selects RX4 yX4_has yX4_has ∈ zk_tb := ⟨zk_in 256 (by decide +kernel) rfl, zk_in 257 (by decide +kernel) rfl⟩
theorem mtX4_holds : zk_Mt RX4 yX4_holds cX4_holds 3 (some .boolean) 2 := ⟨rfl, by decide +kernel, by decide +kernel, by decide +kernel, by decide +kernel, by decide, zk_in 283 (by decide +kernel) rfl, zk_in 59 (by decide +kernel) rfl⟩
theorem stX4_holds : Cond.instanceMethod yX4_holds ∈ zk_tb ∧ Cond.selects RX4 yX4_holds yX4_holds ∈ zk_tb := ⟨zk_in 281 (by decide +kernel) rfl, zk_in 282 (by decide +kernel) rfl⟩
theorem mtX4_read : zk_Mt RX4 yX4_read cX4_read 2 (some .int) 1 := ⟨rfl, by decide +kernel, by decide +kernel, by decide +kernel, by decide +kernel, by decide, zk_in 262 (by decide +kernel) rfl, zk_in 59 (by decide +kernel) rfl⟩
theorem stX4_read : Cond.instanceMethod yX4_read ∈ zk_tb ∧ Cond.selects RX4 yX4_read yX4_read ∈ zk_tb := ⟨zk_in 260 (by decide +kernel) rfl, zk_in 261 (by decide +kernel) rfl⟩
theorem mtX4_write : zk_Mt RX4 yX4_write cX4_write 3 (none) 2 := ⟨rfl, by decide +kernel, by decide +kernel, by decide +kernel, by decide +kernel, by decide, zk_in 267 (by decide +kernel) rfl, zk_in 59 (by decide +kernel) rfl⟩
theorem stX4_write : Cond.instanceMethod yX4_write ∈ zk_tb ∧ Cond.selects RX4 yX4_write yX4_write ∈ zk_tb := ⟨zk_in 265 (by decide +kernel) rfl, zk_in 266 (by decide +kernel) rfl⟩
theorem mtX4_renew : zk_Mt RX4 yX4_renew cX4_renew 4 (none) 2 := ⟨rfl, by decide +kernel, by decide +kernel, by decide +kernel, by decide +kernel, by decide, zk_in 239 (by decide +kernel) rfl, zk_in 59 (by decide +kernel) rfl⟩
theorem stX4_renew : Cond.instanceMethod yX4_renew ∈ zk_tb ∧ Cond.selects RX4 yX4_renew yX4_renew ∈ zk_tb := ⟨zk_in 237 (by decide +kernel) rfl, zk_in 238 (by decide +kernel) rfl⟩
theorem mtX4_isAllWithin : zk_Mt RX4 yX4_isAllWithin cX4_isAllWithin 4 (some .boolean) 2 := ⟨rfl, by decide +kernel, by decide +kernel, by decide +kernel, by decide +kernel, by decide, zk_in 620 (by decide +kernel) rfl, zk_in 59 (by decide +kernel) rfl⟩
theorem stX4_isAllWithin : Cond.instanceMethod yX4_isAllWithin ∈ zk_tb ∧ Cond.selects RX4 yX4_isAllWithin yX4_isAllWithin ∈ zk_tb := ⟨zk_in 618 (by decide +kernel) rfl, zk_in 619 (by decide +kernel) rfl⟩
theorem mtX5_faultOf : zk_Mt RX5 yX5_faultOf cX5_faultOf 5 (some .int) 1 := ⟨rfl, by decide +kernel, by decide +kernel, by decide +kernel, by decide +kernel, by decide, zk_in 305 (by decide +kernel) rfl, zk_in 66 (by decide +kernel) rfl⟩
theorem stX5_faultOf : Cond.static yX5_faultOf ∈ zk_tb := zk_in 304 (by decide +kernel) rfl
theorem mtX5_settle : zk_Mt RX5 yX5_settle cX5_settle 5 (none) 2 := ⟨rfl, by decide +kernel, by decide +kernel, by decide +kernel, by decide +kernel, by decide, zk_in 325 (by decide +kernel) rfl, zk_in 66 (by decide +kernel) rfl⟩
theorem stX5_settle : Cond.static yX5_settle ∈ zk_tb := zk_in 324 (by decide +kernel) rfl
theorem mtX5_isBetweenItems : zk_Mt RX5 yX5_isBetweenItems cX5_isBetweenItems 1 (some .boolean) 1 := ⟨rfl, by decide +kernel, by decide +kernel, by decide +kernel, by decide +kernel, by decide, zk_in 309 (by decide +kernel) rfl, zk_in 66 (by decide +kernel) rfl⟩
theorem stX5_isBetweenItems : Cond.static yX5_isBetweenItems ∈ zk_tb := zk_in 308 (by decide +kernel) rfl
theorem mtX5_fits : zk_Mt RX5 yX5_fits cX5_fits 3 (some .boolean) 3 := ⟨rfl, by decide +kernel, by decide +kernel, by decide +kernel, by decide +kernel, by decide, zk_in 312 (by decide +kernel) rfl, zk_in 66 (by decide +kernel) rfl⟩
theorem stX5_fits : Cond.static yX5_fits ∈ zk_tb := zk_in 311 (by decide +kernel) rfl
theorem mtX6_init : zk_Mt RX6 yX6_init cX6_init 1 (none) 0 := ⟨rfl, by decide +kernel, by decide +kernel, by decide +kernel, by decide +kernel, by decide, zk_in 172 (by decide +kernel) rfl, zk_in 62 (by decide +kernel) rfl⟩
theorem mtX6_play : zk_Mt RX6 yX6_play cX6_play 4 (some .int) 3 := ⟨rfl, by decide +kernel, by decide +kernel, by decide +kernel, by decide +kernel, by decide, zk_in 661 (by decide +kernel) rfl, zk_in 62 (by decide +kernel) rfl⟩
theorem stX6_play : Cond.instanceMethod yX6_play ∈ zk_tb ∧ Cond.selects RX6 yX6_play yX6_play ∈ zk_tb := ⟨zk_in 659 (by decide +kernel) rfl, zk_in 660 (by decide +kernel) rfl⟩
theorem mtX6_mostByTalk : zk_Mt RX6 yX6_mostByTalk cX6_mostByTalk 7 (some .int) 4 := ⟨rfl, by decide +kernel, by decide +kernel, by decide +kernel, by decide +kernel, by decide, zk_in 666 (by decide +kernel) rfl, zk_in 62 (by decide +kernel) rfl⟩
theorem stX6_mostByTalk : Cond.instanceMethod yX6_mostByTalk ∈ zk_tb ∧ Cond.selects RX6 yX6_mostByTalk yX6_mostByTalk ∈ zk_tb := ⟨zk_in 665 (by decide +kernel) rfl, zk_in 18 (by decide +kernel) rfl⟩
theorem mtX6_leastByWindow : zk_Mt RX6 yX6_leastByWindow cX6_leastByWindow 7 (some .int) 4 := ⟨rfl, by decide +kernel, by decide +kernel, by decide +kernel, by decide +kernel, by decide, zk_in 676 (by decide +kernel) rfl, zk_in 62 (by decide +kernel) rfl⟩
theorem stX6_leastByWindow : Cond.instanceMethod yX6_leastByWindow ∈ zk_tb ∧ Cond.selects RX6 yX6_leastByWindow yX6_leastByWindow ∈ zk_tb := ⟨zk_in 675 (by decide +kernel) rfl, zk_in 20 (by decide +kernel) rfl⟩
theorem mtX6_takeAir : zk_Mt RX6 yX6_takeAir cX6_takeAir 2 (none) 1 := ⟨rfl, by decide +kernel, by decide +kernel, by decide +kernel, by decide +kernel, by decide, zk_in 671 (by decide +kernel) rfl, zk_in 62 (by decide +kernel) rfl⟩
theorem stX6_takeAir : Cond.instanceMethod yX6_takeAir ∈ zk_tb ∧ Cond.selects RX6 yX6_takeAir yX6_takeAir ∈ zk_tb := ⟨zk_in 670 (by decide +kernel) rfl, zk_in 19 (by decide +kernel) rfl⟩
theorem mtX7_init : zk_Mt RX7 yX7_init cX7_init 2 (none) 0 := ⟨rfl, by decide +kernel, by decide +kernel, by decide +kernel, by decide +kernel, by decide, zk_in 74 (by decide +kernel) rfl, zk_in 58 (by decide +kernel) rfl⟩
theorem mtX7_row : zk_Mt RX7 yX7_row cX7_row 3 (some .int) 2 := ⟨rfl, by decide +kernel, by decide +kernel, by decide +kernel, by decide +kernel, by decide, zk_in 224 (by decide +kernel) rfl, zk_in 58 (by decide +kernel) rfl⟩
theorem stX7_row : Cond.instanceMethod yX7_row ∈ zk_tb ∧ Cond.selects RX7 yX7_row yX7_row ∈ zk_tb := ⟨zk_in 222 (by decide +kernel) rfl, zk_in 223 (by decide +kernel) rfl⟩
theorem mtX7_lay : zk_Mt RX7 yX7_lay cX7_lay 6 (some .int) 3 := ⟨rfl, by decide +kernel, by decide +kernel, by decide +kernel, by decide +kernel, by decide, zk_in 246 (by decide +kernel) rfl, zk_in 58 (by decide +kernel) rfl⟩
theorem stX7_lay : Cond.instanceMethod yX7_lay ∈ zk_tb ∧ Cond.selects RX7 yX7_lay yX7_lay ∈ zk_tb := ⟨zk_in 244 (by decide +kernel) rfl, zk_in 245 (by decide +kernel) rfl⟩
theorem mtX7_at : zk_Mt RX7 yX7_at cX7_at 5 (some .int) 2 := ⟨rfl, by decide +kernel, by decide +kernel, by decide +kernel, by decide +kernel, by decide, zk_in 271 (by decide +kernel) rfl, zk_in 58 (by decide +kernel) rfl⟩
theorem stX7_at : Cond.instanceMethod yX7_at ∈ zk_tb ∧ Cond.selects RX7 yX7_at yX7_at ∈ zk_tb := ⟨zk_in 269 (by decide +kernel) rfl, zk_in 270 (by decide +kernel) rfl⟩
theorem mtX7_tear : zk_Mt RX7 yX7_tear cX7_tear 3 (some .int) 1 := ⟨rfl, by decide +kernel, by decide +kernel, by decide +kernel, by decide +kernel, by decide, zk_in 275 (by decide +kernel) rfl, zk_in 58 (by decide +kernel) rfl⟩
theorem stX7_tear : Cond.instanceMethod yX7_tear ∈ zk_tb ∧ Cond.selects RX7 yX7_tear yX7_tear ∈ zk_tb := ⟨zk_in 273 (by decide +kernel) rfl, zk_in 274 (by decide +kernel) rfl⟩
theorem mtX7_copy : zk_Mt RX7 yX7_copy cX7_copy 8 (some .int) 5 := ⟨rfl, by decide +kernel, by decide +kernel, by decide +kernel, by decide +kernel, by decide, zk_in 279 (by decide +kernel) rfl, zk_in 58 (by decide +kernel) rfl⟩
theorem stX7_copy : Cond.instanceMethod yX7_copy ∈ zk_tb ∧ Cond.selects RX7 yX7_copy yX7_copy ∈ zk_tb := ⟨zk_in 277 (by decide +kernel) rfl, zk_in 278 (by decide +kernel) rfl⟩
theorem mtX7_mean : zk_Mt RX7 yX7_mean cX7_mean 6 (some .int) 1 := ⟨rfl, by decide +kernel, by decide +kernel, by decide +kernel, by decide +kernel, by decide, zk_in 290 (by decide +kernel) rfl, zk_in 58 (by decide +kernel) rfl⟩
theorem stX7_mean : Cond.instanceMethod yX7_mean ∈ zk_tb ∧ Cond.selects RX7 yX7_mean yX7_mean ∈ zk_tb := ⟨zk_in 288 (by decide +kernel) rfl, zk_in 289 (by decide +kernel) rfl⟩
theorem mtX7_text : zk_Mt RX7 yX7_text cX7_text 3 (some .int) 2 := ⟨rfl, by decide +kernel, by decide +kernel, by decide +kernel, by decide +kernel, by decide, zk_in 294 (by decide +kernel) rfl, zk_in 58 (by decide +kernel) rfl⟩
theorem stX7_text : Cond.instanceMethod yX7_text ∈ zk_tb ∧ Cond.selects RX7 yX7_text yX7_text ∈ zk_tb := ⟨zk_in 292 (by decide +kernel) rfl, zk_in 293 (by decide +kernel) rfl⟩
theorem mtX7_put : zk_Mt RX7 yX7_put cX7_put 7 (some .int) 3 := ⟨rfl, by decide +kernel, by decide +kernel, by decide +kernel, by decide +kernel, by decide, zk_in 298 (by decide +kernel) rfl, zk_in 58 (by decide +kernel) rfl⟩
theorem stX7_put : Cond.instanceMethod yX7_put ∈ zk_tb ∧ Cond.selects RX7 yX7_put yX7_put ∈ zk_tb := ⟨zk_in 296 (by decide +kernel) rfl, zk_in 297 (by decide +kernel) rfl⟩
theorem mtX7_fault : zk_Mt RX7 yX7_fault cX7_fault 3 (some .int) 1 := ⟨rfl, by decide +kernel, by decide +kernel, by decide +kernel, by decide +kernel, by decide, zk_in 302 (by decide +kernel) rfl, zk_in 58 (by decide +kernel) rfl⟩
theorem stX7_fault : Cond.instanceMethod yX7_fault ∈ zk_tb ∧ Cond.selects RX7 yX7_fault yX7_fault ∈ zk_tb := ⟨zk_in 300 (by decide +kernel) rfl, zk_in 301 (by decide +kernel) rfl⟩
theorem mtX7_club : zk_Mt RX7 yX7_club cX7_club 4 (some .int) 1 := ⟨rfl, by decide +kernel, by decide +kernel, by decide +kernel, by decide +kernel, by decide, zk_in 322 (by decide +kernel) rfl, zk_in 58 (by decide +kernel) rfl⟩
theorem stX7_club : Cond.instanceMethod yX7_club ∈ zk_tb ∧ Cond.selects RX7 yX7_club yX7_club ∈ zk_tb := ⟨zk_in 320 (by decide +kernel) rfl, zk_in 321 (by decide +kernel) rfl⟩
theorem mtX7_member : zk_Mt RX7 yX7_member cX7_member 3 (some .int) 2 := ⟨rfl, by decide +kernel, by decide +kernel, by decide +kernel, by decide +kernel, by decide, zk_in 345 (by decide +kernel) rfl, zk_in 58 (by decide +kernel) rfl⟩
theorem stX7_member : Cond.instanceMethod yX7_member ∈ zk_tb ∧ Cond.selects RX7 yX7_member yX7_member ∈ zk_tb := ⟨zk_in 343 (by decide +kernel) rfl, zk_in 344 (by decide +kernel) rfl⟩
theorem mtX7_mark : zk_Mt RX7 yX7_mark cX7_mark 4 (some .int) 2 := ⟨rfl, by decide +kernel, by decide +kernel, by decide +kernel, by decide +kernel, by decide, zk_in 358 (by decide +kernel) rfl, zk_in 58 (by decide +kernel) rfl⟩
theorem stX7_mark : Cond.instanceMethod yX7_mark ∈ zk_tb ∧ Cond.selects RX7 yX7_mark yX7_mark ∈ zk_tb := ⟨zk_in 356 (by decide +kernel) rfl, zk_in 357 (by decide +kernel) rfl⟩
theorem mtX7_smoke : zk_Mt RX7 yX7_smoke cX7_smoke 2 (some .int) 1 := ⟨rfl, by decide +kernel, by decide +kernel, by decide +kernel, by decide +kernel, by decide, zk_in 399 (by decide +kernel) rfl, zk_in 58 (by decide +kernel) rfl⟩
theorem stX7_smoke : Cond.instanceMethod yX7_smoke ∈ zk_tb ∧ Cond.selects RX7 yX7_smoke yX7_smoke ∈ zk_tb := ⟨zk_in 397 (by decide +kernel) rfl, zk_in 398 (by decide +kernel) rfl⟩
theorem mtX7_talk : zk_Mt RX7 yX7_talk cX7_talk 3 (some .int) 2 := ⟨rfl, by decide +kernel, by decide +kernel, by decide +kernel, by decide +kernel, by decide, zk_in 404 (by decide +kernel) rfl, zk_in 58 (by decide +kernel) rfl⟩
theorem stX7_talk : Cond.instanceMethod yX7_talk ∈ zk_tb ∧ Cond.selects RX7 yX7_talk yX7_talk ∈ zk_tb := ⟨zk_in 402 (by decide +kernel) rfl, zk_in 403 (by decide +kernel) rfl⟩
theorem mtX7_hour : zk_Mt RX7 yX7_hour cX7_hour 1 (some .int) 0 := ⟨rfl, by decide +kernel, by decide +kernel, by decide +kernel, by decide +kernel, by decide, zk_in 467 (by decide +kernel) rfl, zk_in 58 (by decide +kernel) rfl⟩
theorem stX7_hour : Cond.instanceMethod yX7_hour ∈ zk_tb ∧ Cond.selects RX7 yX7_hour yX7_hour ∈ zk_tb := ⟨zk_in 465 (by decide +kernel) rfl, zk_in 466 (by decide +kernel) rfl⟩
theorem mtX7_open : zk_Mt RX7 yX7_open cX7_open 2 (some .int) 1 := ⟨rfl, by decide +kernel, by decide +kernel, by decide +kernel, by decide +kernel, by decide, zk_in 471 (by decide +kernel) rfl, zk_in 58 (by decide +kernel) rfl⟩
theorem stX7_open : Cond.instanceMethod yX7_open ∈ zk_tb ∧ Cond.selects RX7 yX7_open yX7_open ∈ zk_tb := ⟨zk_in 469 (by decide +kernel) rfl, zk_in 470 (by decide +kernel) rfl⟩
theorem mtX7_thunder : zk_Mt RX7 yX7_thunder cX7_thunder 1 (some .int) 0 := ⟨rfl, by decide +kernel, by decide +kernel, by decide +kernel, by decide +kernel, by decide, zk_in 475 (by decide +kernel) rfl, zk_in 58 (by decide +kernel) rfl⟩
theorem stX7_thunder : Cond.instanceMethod yX7_thunder ∈ zk_tb ∧ Cond.selects RX7 yX7_thunder yX7_thunder ∈ zk_tb := ⟨zk_in 473 (by decide +kernel) rfl, zk_in 474 (by decide +kernel) rfl⟩
theorem mtX7_undo : zk_Mt RX7 yX7_undo cX7_undo 3 (some .int) 1 := ⟨rfl, by decide +kernel, by decide +kernel, by decide +kernel, by decide +kernel, by decide, zk_in 480 (by decide +kernel) rfl, zk_in 58 (by decide +kernel) rfl⟩
theorem stX7_undo : Cond.instanceMethod yX7_undo ∈ zk_tb ∧ Cond.selects RX7 yX7_undo yX7_undo ∈ zk_tb := ⟨zk_in 478 (by decide +kernel) rfl, zk_in 479 (by decide +kernel) rfl⟩
theorem mtX7_keep : zk_Mt RX7 yX7_keep cX7_keep 2 (some .int) 1 := ⟨rfl, by decide +kernel, by decide +kernel, by decide +kernel, by decide +kernel, by decide, zk_in 500 (by decide +kernel) rfl, zk_in 58 (by decide +kernel) rfl⟩
theorem stX7_keep : Cond.instanceMethod yX7_keep ∈ zk_tb ∧ Cond.selects RX7 yX7_keep yX7_keep ∈ zk_tb := ⟨zk_in 498 (by decide +kernel) rfl, zk_in 499 (by decide +kernel) rfl⟩
theorem mtX7_on : zk_Mt RX7 yX7_on cX7_on 2 (some .int) 1 := ⟨rfl, by decide +kernel, by decide +kernel, by decide +kernel, by decide +kernel, by decide, zk_in 508 (by decide +kernel) rfl, zk_in 58 (by decide +kernel) rfl⟩
theorem stX7_on : Cond.instanceMethod yX7_on ∈ zk_tb ∧ Cond.selects RX7 yX7_on yX7_on ∈ zk_tb := ⟨zk_in 506 (by decide +kernel) rfl, zk_in 507 (by decide +kernel) rfl⟩
theorem mtX7_says : zk_Mt RX7 yX7_says cX7_says 3 (some .int) 2 := ⟨rfl, by decide +kernel, by decide +kernel, by decide +kernel, by decide +kernel, by decide, zk_in 512 (by decide +kernel) rfl, zk_in 58 (by decide +kernel) rfl⟩
theorem stX7_says : Cond.instanceMethod yX7_says ∈ zk_tb ∧ Cond.selects RX7 yX7_says yX7_says ∈ zk_tb := ⟨zk_in 510 (by decide +kernel) rfl, zk_in 511 (by decide +kernel) rfl⟩
theorem mtX7_breathes : zk_Mt RX7 yX7_breathes cX7_breathes 3 (some .int) 2 := ⟨rfl, by decide +kernel, by decide +kernel, by decide +kernel, by decide +kernel, by decide, zk_in 516 (by decide +kernel) rfl, zk_in 58 (by decide +kernel) rfl⟩
theorem stX7_breathes : Cond.instanceMethod yX7_breathes ∈ zk_tb ∧ Cond.selects RX7 yX7_breathes yX7_breathes ∈ zk_tb := ⟨zk_in 514 (by decide +kernel) rfl, zk_in 515 (by decide +kernel) rfl⟩
theorem mtX7_means : zk_Mt RX7 yX7_means cX7_means 3 (some .int) 2 := ⟨rfl, by decide +kernel, by decide +kernel, by decide +kernel, by decide +kernel, by decide, zk_in 521 (by decide +kernel) rfl, zk_in 58 (by decide +kernel) rfl⟩
theorem stX7_means : Cond.instanceMethod yX7_means ∈ zk_tb ∧ Cond.selects RX7 yX7_means yX7_means ∈ zk_tb := ⟨zk_in 519 (by decide +kernel) rfl, zk_in 520 (by decide +kernel) rfl⟩
theorem mtX7_least : zk_Mt RX7 yX7_least cX7_least 4 (some .int) 2 := ⟨rfl, by decide +kernel, by decide +kernel, by decide +kernel, by decide +kernel, by decide, zk_in 528 (by decide +kernel) rfl, zk_in 58 (by decide +kernel) rfl⟩
theorem stX7_least : Cond.instanceMethod yX7_least ∈ zk_tb ∧ Cond.selects RX7 yX7_least yX7_least ∈ zk_tb := ⟨zk_in 526 (by decide +kernel) rfl, zk_in 527 (by decide +kernel) rfl⟩
theorem mtX7_hangs : zk_Mt RX7 yX7_hangs cX7_hangs 3 (some .int) 2 := ⟨rfl, by decide +kernel, by decide +kernel, by decide +kernel, by decide +kernel, by decide, zk_in 532 (by decide +kernel) rfl, zk_in 58 (by decide +kernel) rfl⟩
theorem stX7_hangs : Cond.instanceMethod yX7_hangs ∈ zk_tb ∧ Cond.selects RX7 yX7_hangs yX7_hangs ∈ zk_tb := ⟨zk_in 530 (by decide +kernel) rfl, zk_in 531 (by decide +kernel) rfl⟩
theorem mtX7_clear : zk_Mt RX7 yX7_clear cX7_clear 2 (some .int) 0 := ⟨rfl, by decide +kernel, by decide +kernel, by decide +kernel, by decide +kernel, by decide, zk_in 537 (by decide +kernel) rfl, zk_in 58 (by decide +kernel) rfl⟩
theorem stX7_clear : Cond.instanceMethod yX7_clear ∈ zk_tb ∧ Cond.selects RX7 yX7_clear yX7_clear ∈ zk_tb := ⟨zk_in 535 (by decide +kernel) rfl, zk_in 536 (by decide +kernel) rfl⟩
theorem mtX7_window : zk_Mt RX7 yX7_window cX7_window 6 (some .int) 1 := ⟨rfl, by decide +kernel, by decide +kernel, by decide +kernel, by decide +kernel, by decide, zk_in 545 (by decide +kernel) rfl, zk_in 58 (by decide +kernel) rfl⟩
theorem stX7_window : Cond.instanceMethod yX7_window ∈ zk_tb ∧ Cond.selects RX7 yX7_window yX7_window ∈ zk_tb := ⟨zk_in 543 (by decide +kernel) rfl, zk_in 544 (by decide +kernel) rfl⟩
theorem mtX7_talks : zk_Mt RX7 yX7_talks cX7_talks 9 (some .int) 4 := ⟨rfl, by decide +kernel, by decide +kernel, by decide +kernel, by decide +kernel, by decide, zk_in 559 (by decide +kernel) rfl, zk_in 58 (by decide +kernel) rfl⟩
theorem stX7_talks : Cond.instanceMethod yX7_talks ∈ zk_tb ∧ Cond.selects RX7 yX7_talks yX7_talks ∈ zk_tb := ⟨zk_in 557 (by decide +kernel) rfl, zk_in 558 (by decide +kernel) rfl⟩
theorem mtX7_sets : zk_Mt RX7 yX7_sets cX7_sets 4 (some .int) 2 := ⟨rfl, by decide +kernel, by decide +kernel, by decide +kernel, by decide +kernel, by decide, zk_in 572 (by decide +kernel) rfl, zk_in 58 (by decide +kernel) rfl⟩
theorem stX7_sets : Cond.instanceMethod yX7_sets ∈ zk_tb ∧ Cond.selects RX7 yX7_sets yX7_sets ∈ zk_tb := ⟨zk_in 570 (by decide +kernel) rfl, zk_in 571 (by decide +kernel) rfl⟩
theorem mtX7_sure : zk_Mt RX7 yX7_sure cX7_sure 9 (some .int) 2 := ⟨rfl, by decide +kernel, by decide +kernel, by decide +kernel, by decide +kernel, by decide, zk_in 603 (by decide +kernel) rfl, zk_in 58 (by decide +kernel) rfl⟩
theorem stX7_sure : Cond.instanceMethod yX7_sure ∈ zk_tb ∧ Cond.selects RX7 yX7_sure yX7_sure ∈ zk_tb := ⟨zk_in 601 (by decide +kernel) rfl, zk_in 602 (by decide +kernel) rfl⟩
theorem mtX7_ask : zk_Mt RX7 yX7_ask cX7_ask 10 (some .int) 2 := ⟨rfl, by decide +kernel, by decide +kernel, by decide +kernel, by decide +kernel, by decide, zk_in 607 (by decide +kernel) rfl, zk_in 58 (by decide +kernel) rfl⟩
theorem stX7_ask : Cond.instanceMethod yX7_ask ∈ zk_tb ∧ Cond.selects RX7 yX7_ask yX7_ask ∈ zk_tb := ⟨zk_in 605 (by decide +kernel) rfl, zk_in 606 (by decide +kernel) rfl⟩
theorem mtX7_who : zk_Mt RX7 yX7_who cX7_who 6 (some .int) 1 := ⟨rfl, by decide +kernel, by decide +kernel, by decide +kernel, by decide +kernel, by decide, zk_in 612 (by decide +kernel) rfl, zk_in 58 (by decide +kernel) rfl⟩
theorem stX7_who : Cond.instanceMethod yX7_who ∈ zk_tb ∧ Cond.selects RX7 yX7_who yX7_who ∈ zk_tb := ⟨zk_in 610 (by decide +kernel) rfl, zk_in 611 (by decide +kernel) rfl⟩
theorem mtX7_kinds : zk_Mt RX7 yX7_kinds cX7_kinds 4 (some .int) 1 := ⟨rfl, by decide +kernel, by decide +kernel, by decide +kernel, by decide +kernel, by decide, zk_in 631 (by decide +kernel) rfl, zk_in 58 (by decide +kernel) rfl⟩
theorem stX7_kinds : Cond.instanceMethod yX7_kinds ∈ zk_tb ∧ Cond.selects RX7 yX7_kinds yX7_kinds ∈ zk_tb := ⟨zk_in 629 (by decide +kernel) rfl, zk_in 630 (by decide +kernel) rfl⟩
theorem mtX7_test : zk_Mt RX7 yX7_test cX7_test 9 (some .int) 1 := ⟨rfl, by decide +kernel, by decide +kernel, by decide +kernel, by decide +kernel, by decide, zk_in 639 (by decide +kernel) rfl, zk_in 58 (by decide +kernel) rfl⟩
theorem stX7_test : Cond.instanceMethod yX7_test ∈ zk_tb ∧ Cond.selects RX7 yX7_test yX7_test ∈ zk_tb := ⟨zk_in 637 (by decide +kernel) rfl, zk_in 638 (by decide +kernel) rfl⟩
theorem mtX7_leaks : zk_Mt RX7 yX7_leaks cX7_leaks 5 (some .int) 1 := ⟨rfl, by decide +kernel, by decide +kernel, by decide +kernel, by decide +kernel, by decide, zk_in 650 (by decide +kernel) rfl, zk_in 58 (by decide +kernel) rfl⟩
theorem stX7_leaks : Cond.instanceMethod yX7_leaks ∈ zk_tb ∧ Cond.selects RX7 yX7_leaks yX7_leaks ∈ zk_tb := ⟨zk_in 648 (by decide +kernel) rfl, zk_in 649 (by decide +kernel) rfl⟩
theorem mtX7_evening : zk_Mt RX7 yX7_evening cX7_evening 3 (some .int) 2 := ⟨rfl, by decide +kernel, by decide +kernel, by decide +kernel, by decide +kernel, by decide, zk_in 657 (by decide +kernel) rfl, zk_in 58 (by decide +kernel) rfl⟩
theorem stX7_evening : Cond.instanceMethod yX7_evening ∈ zk_tb ∧ Cond.selects RX7 yX7_evening yX7_evening ∈ zk_tb := ⟨zk_in 655 (by decide +kernel) rfl, zk_in 656 (by decide +kernel) rfl⟩
theorem mtX7_odds : zk_Mt RX7 yX7_odds cX7_odds 5 (some .int) 3 := ⟨rfl, by decide +kernel, by decide +kernel, by decide +kernel, by decide +kernel, by decide, zk_in 683 (by decide +kernel) rfl, zk_in 58 (by decide +kernel) rfl⟩
theorem stX7_odds : Cond.instanceMethod yX7_odds ∈ zk_tb ∧ Cond.selects RX7 yX7_odds yX7_odds ∈ zk_tb := ⟨zk_in 681 (by decide +kernel) rfl, zk_in 682 (by decide +kernel) rfl⟩
theorem mtX7_mid : zk_Mt RX7 yX7_mid cX7_mid 4 (some .int) 2 := ⟨rfl, by decide +kernel, by decide +kernel, by decide +kernel, by decide +kernel, by decide, zk_in 699 (by decide +kernel) rfl, zk_in 58 (by decide +kernel) rfl⟩
theorem stX7_mid : Cond.instanceMethod yX7_mid ∈ zk_tb ∧ Cond.selects RX7 yX7_mid yX7_mid ∈ zk_tb := ⟨zk_in 697 (by decide +kernel) rfl, zk_in 698 (by decide +kernel) rfl⟩
theorem mtX7_lots : zk_Mt RX7 yX7_lots cX7_lots 5 (some .int) 2 := ⟨rfl, by decide +kernel, by decide +kernel, by decide +kernel, by decide +kernel, by decide, zk_in 703 (by decide +kernel) rfl, zk_in 58 (by decide +kernel) rfl⟩
theorem stX7_lots : Cond.instanceMethod yX7_lots ∈ zk_tb ∧ Cond.selects RX7 yX7_lots yX7_lots ∈ zk_tb := ⟨zk_in 701 (by decide +kernel) rfl, zk_in 702 (by decide +kernel) rfl⟩
theorem mtX7_asked : zk_Mt RX7 yX7_asked cX7_asked 1 (some .int) 0 := ⟨rfl, by decide +kernel, by decide +kernel, by decide +kernel, by decide +kernel, by decide, zk_in 717 (by decide +kernel) rfl, zk_in 58 (by decide +kernel) rfl⟩
theorem stX7_asked : Cond.instanceMethod yX7_asked ∈ zk_tb ∧ Cond.selects RX7 yX7_asked yX7_asked ∈ zk_tb := ⟨zk_in 715 (by decide +kernel) rfl, zk_in 716 (by decide +kernel) rfl⟩
theorem mtX7_upper : zk_Mt RX7 yX7_upper cX7_upper 1 (some .long) 0 := ⟨rfl, by decide +kernel, by decide +kernel, by decide +kernel, by decide +kernel, by decide, zk_in 721 (by decide +kernel) rfl, zk_in 58 (by decide +kernel) rfl⟩
theorem stX7_upper : Cond.instanceMethod yX7_upper ∈ zk_tb ∧ Cond.selects RX7 yX7_upper yX7_upper ∈ zk_tb := ⟨zk_in 719 (by decide +kernel) rfl, zk_in 720 (by decide +kernel) rfl⟩
theorem mtX7_lower : zk_Mt RX7 yX7_lower cX7_lower 1 (some .long) 0 := ⟨rfl, by decide +kernel, by decide +kernel, by decide +kernel, by decide +kernel, by decide, zk_in 725 (by decide +kernel) rfl, zk_in 58 (by decide +kernel) rfl⟩
theorem stX7_lower : Cond.instanceMethod yX7_lower ∈ zk_tb ∧ Cond.selects RX7 yX7_lower yX7_lower ∈ zk_tb := ⟨zk_in 723 (by decide +kernel) rfl, zk_in 724 (by decide +kernel) rfl⟩
theorem mtX7_count : zk_Mt RX7 yX7_count cX7_count 2 (some .int) 1 := ⟨rfl, by decide +kernel, by decide +kernel, by decide +kernel, by decide +kernel, by decide, zk_in 729 (by decide +kernel) rfl, zk_in 58 (by decide +kernel) rfl⟩
theorem stX7_count : Cond.instanceMethod yX7_count ∈ zk_tb ∧ Cond.selects RX7 yX7_count yX7_count ∈ zk_tb := ⟨zk_in 727 (by decide +kernel) rfl, zk_in 728 (by decide +kernel) rfl⟩
theorem mtX7_finding : zk_Mt RX7 yX7_finding cX7_finding 1 (some .int) 0 := ⟨rfl, by decide +kernel, by decide +kernel, by decide +kernel, by decide +kernel, by decide, zk_in 744 (by decide +kernel) rfl, zk_in 58 (by decide +kernel) rfl⟩
theorem stX7_finding : Cond.instanceMethod yX7_finding ∈ zk_tb ∧ Cond.selects RX7 yX7_finding yX7_finding ∈ zk_tb := ⟨zk_in 742 (by decide +kernel) rfl, zk_in 743 (by decide +kernel) rfl⟩
theorem mtX7_findings : zk_Mt RX7 yX7_findings cX7_findings 2 (some .int) 1 := ⟨rfl, by decide +kernel, by decide +kernel, by decide +kernel, by decide +kernel, by decide, zk_in 748 (by decide +kernel) rfl, zk_in 58 (by decide +kernel) rfl⟩
theorem stX7_findings : Cond.instanceMethod yX7_findings ∈ zk_tb ∧ Cond.selects RX7 yX7_findings yX7_findings ∈ zk_tb := ⟨zk_in 746 (by decide +kernel) rfl, zk_in 747 (by decide +kernel) rfl⟩
theorem mtX7_digest : zk_Mt RX7 yX7_digest cX7_digest 5 (some .long) 0 := ⟨rfl, by decide +kernel, by decide +kernel, by decide +kernel, by decide +kernel, by decide, zk_in 752 (by decide +kernel) rfl, zk_in 58 (by decide +kernel) rfl⟩
theorem stX7_digest : Cond.instanceMethod yX7_digest ∈ zk_tb ∧ Cond.selects RX7 yX7_digest yX7_digest ∈ zk_tb := ⟨zk_in 750 (by decide +kernel) rfl, zk_in 751 (by decide +kernel) rfl⟩
theorem mtX7_found : zk_Mt RX7 yX7_found cX7_found 2 (some .int) 1 := ⟨rfl, by decide +kernel, by decide +kernel, by decide +kernel, by decide +kernel, by decide, zk_in 235 (by decide +kernel) rfl, zk_in 58 (by decide +kernel) rfl⟩
theorem stX7_found : Cond.instanceMethod yX7_found ∈ zk_tb ∧ Cond.selects RX7 yX7_found yX7_found ∈ zk_tb := ⟨zk_in 234 (by decide +kernel) rfl, zk_in 1 (by decide +kernel) rfl⟩
theorem mtX7_refusedPlace : zk_Mt RX7 yX7_refusedPlace cX7_refusedPlace 3 (some .int) 2 := ⟨rfl, by decide +kernel, by decide +kernel, by decide +kernel, by decide +kernel, by decide, zk_in 250 (by decide +kernel) rfl, zk_in 58 (by decide +kernel) rfl⟩
theorem stX7_refusedPlace : Cond.instanceMethod yX7_refusedPlace ∈ zk_tb ∧ Cond.selects RX7 yX7_refusedPlace yX7_refusedPlace ∈ zk_tb := ⟨zk_in 249 (by decide +kernel) rfl, zk_in 2 (by decide +kernel) rfl⟩
theorem mtX7_refusedNotes : zk_Mt RX7 yX7_refusedNotes cX7_refusedNotes 2 (some .int) 1 := ⟨rfl, by decide +kernel, by decide +kernel, by decide +kernel, by decide +kernel, by decide, zk_in 616 (by decide +kernel) rfl, zk_in 58 (by decide +kernel) rfl⟩
theorem stX7_refusedNotes : Cond.instanceMethod yX7_refusedNotes ∈ zk_tb ∧ Cond.selects RX7 yX7_refusedNotes yX7_refusedNotes ∈ zk_tb := ⟨zk_in 615 (by decide +kernel) rfl, zk_in 17 (by decide +kernel) rfl⟩
theorem mtX7_refusedSets : zk_Mt RX7 yX7_refusedSets cX7_refusedSets 3 (some .int) 2 := ⟨rfl, by decide +kernel, by decide +kernel, by decide +kernel, by decide +kernel, by decide, zk_in 576 (by decide +kernel) rfl, zk_in 58 (by decide +kernel) rfl⟩
theorem stX7_refusedSets : Cond.instanceMethod yX7_refusedSets ∈ zk_tb ∧ Cond.selects RX7 yX7_refusedSets yX7_refusedSets ∈ zk_tb := ⟨zk_in 575 (by decide +kernel) rfl, zk_in 11 (by decide +kernel) rfl⟩
theorem mtX7_within : zk_Mt RX7 yX7_within cX7_within 3 (some .boolean) 3 := ⟨rfl, by decide +kernel, by decide +kernel, by decide +kernel, by decide +kernel, by decide, zk_in 315 (by decide +kernel) rfl, zk_in 58 (by decide +kernel) rfl⟩
theorem stX7_within : Cond.static yX7_within ∈ zk_tb := zk_in 314 (by decide +kernel) rfl
theorem mtX7_isMeaning : zk_Mt RX7 yX7_isMeaning cX7_isMeaning 1 (some .boolean) 1 := ⟨rfl, by decide +kernel, by decide +kernel, by decide +kernel, by decide +kernel, by decide, zk_in 407 (by decide +kernel) rfl, zk_in 58 (by decide +kernel) rfl⟩
theorem stX7_isMeaning : Cond.static yX7_isMeaning ∈ zk_tb := zk_in 406 (by decide +kernel) rfl
theorem mtX7_areChances : zk_Mt RX7 yX7_areChances cX7_areChances 2 (some .boolean) 2 := ⟨rfl, by decide +kernel, by decide +kernel, by decide +kernel, by decide +kernel, by decide, zk_in 686 (by decide +kernel) rfl, zk_in 58 (by decide +kernel) rfl⟩
theorem stX7_areChances : Cond.static yX7_areChances ∈ zk_tb := zk_in 685 (by decide +kernel) rfl
theorem mtX7_shelf : zk_Mt RX7 yX7_shelf cX7_shelf 4 (some (.array (.object "ClubSmoke$Row"))) 2 := ⟨rfl, by decide +kernel, by decide +kernel, by decide +kernel, by decide +kernel, by decide, zk_in 80 (by decide +kernel) rfl, zk_in 58 (by decide +kernel) rfl⟩
theorem stX7_shelf : Cond.static yX7_shelf ∈ zk_tb := zk_in 79 (by decide +kernel) rfl
theorem mtX7_lookUp : zk_Mt RX7 yX7_lookUp cX7_lookUp 2 (some (.object "ClubSmoke$Row")) 2 := ⟨rfl, by decide +kernel, by decide +kernel, by decide +kernel, by decide +kernel, by decide, zk_in 227 (by decide +kernel) rfl, zk_in 58 (by decide +kernel) rfl⟩
theorem stX7_lookUp : Cond.static yX7_lookUp ∈ zk_tb := zk_in 226 (by decide +kernel) rfl
theorem mtX7_renewed : zk_Mt RX7 yX7_renewed cX7_renewed 5 (some .int) 4 := ⟨rfl, by decide +kernel, by decide +kernel, by decide +kernel, by decide +kernel, by decide, zk_in 231 (by decide +kernel) rfl, zk_in 58 (by decide +kernel) rfl⟩
theorem stX7_renewed : Cond.instanceMethod yX7_renewed ∈ zk_tb ∧ Cond.selects RX7 yX7_renewed yX7_renewed ∈ zk_tb := ⟨zk_in 230 (by decide +kernel) rfl, zk_in 0 (by decide +kernel) rfl⟩
theorem mtX7_thereOn : zk_Mt RX7 yX7_thereOn cX7_thereOn 3 (some .int) 1 := ⟨rfl, by decide +kernel, by decide +kernel, by decide +kernel, by decide +kernel, by decide, zk_in 736 (by decide +kernel) rfl, zk_in 58 (by decide +kernel) rfl⟩
theorem stX7_thereOn : Cond.static yX7_thereOn ∈ zk_tb := zk_in 735 (by decide +kernel) rfl
theorem mtX7_digestOf : zk_Mt RX7 yX7_digestOf cX7_digestOf 7 (some .long) 2 := ⟨rfl, by decide +kernel, by decide +kernel, by decide +kernel, by decide +kernel, by decide, zk_in 758 (by decide +kernel) rfl, zk_in 58 (by decide +kernel) rfl⟩
theorem stX7_digestOf : Cond.static yX7_digestOf ∈ zk_tb := zk_in 757 (by decide +kernel) rfl
theorem mtX7_memberFact : zk_Mt RX7 yX7_memberFact cX7_memberFact 3 (some .int) 2 := ⟨rfl, by decide +kernel, by decide +kernel, by decide +kernel, by decide +kernel, by decide, zk_in 354 (by decide +kernel) rfl, zk_in 58 (by decide +kernel) rfl⟩
theorem stX7_memberFact : Cond.instanceMethod yX7_memberFact ∈ zk_tb ∧ Cond.selects RX7 yX7_memberFact yX7_memberFact ∈ zk_tb := ⟨zk_in 353 (by decide +kernel) rfl, zk_in 3 (by decide +kernel) rfl⟩
theorem mtX7_keptClubs : zk_Mt RX7 yX7_keptClubs cX7_keptClubs 3 (some .int) 0 := ⟨rfl, by decide +kernel, by decide +kernel, by decide +kernel, by decide +kernel, by decide, zk_in 740 (by decide +kernel) rfl, zk_in 58 (by decide +kernel) rfl⟩
theorem stX7_keptClubs : Cond.instanceMethod yX7_keptClubs ∈ zk_tb ∧ Cond.selects RX7 yX7_keptClubs yX7_keptClubs ∈ zk_tb := ⟨zk_in 739 (by decide +kernel) rfl, zk_in 23 (by decide +kernel) rfl⟩
theorem mtX7_perform : zk_Mt RX7 yX7_perform cX7_perform 4 (some .int) 3 := ⟨rfl, by decide +kernel, by decide +kernel, by decide +kernel, by decide +kernel, by decide, zk_in 415 (by decide +kernel) rfl, zk_in 58 (by decide +kernel) rfl⟩
theorem stX7_perform : Cond.instanceMethod yX7_perform ∈ zk_tb ∧ Cond.selects RX7 yX7_perform yX7_perform ∈ zk_tb := ⟨zk_in 414 (by decide +kernel) rfl, zk_in 6 (by decide +kernel) rfl⟩
theorem mtX7_enact : zk_Mt RX7 yX7_enact cX7_enact 4 (some .int) 3 := ⟨rfl, by decide +kernel, by decide +kernel, by decide +kernel, by decide +kernel, by decide, zk_in 423 (by decide +kernel) rfl, zk_in 58 (by decide +kernel) rfl⟩
theorem stX7_enact : Cond.instanceMethod yX7_enact ∈ zk_tb ∧ Cond.selects RX7 yX7_enact yX7_enact ∈ zk_tb := ⟨zk_in 422 (by decide +kernel) rfl, zk_in 7 (by decide +kernel) rfl⟩
theorem mtX7_relive : zk_Mt RX7 yX7_relive cX7_relive 2 (none) 0 := ⟨rfl, by decide +kernel, by decide +kernel, by decide +kernel, by decide +kernel, by decide, zk_in 484 (by decide +kernel) rfl, zk_in 58 (by decide +kernel) rfl⟩
theorem stX7_relive : Cond.instanceMethod yX7_relive ∈ zk_tb ∧ Cond.selects RX7 yX7_relive yX7_relive ∈ zk_tb := ⟨zk_in 483 (by decide +kernel) rfl, zk_in 8 (by decide +kernel) rfl⟩
theorem mtX7_performLot : zk_Mt RX7 yX7_performLot cX7_performLot 2 (none) 1 := ⟨rfl, by decide +kernel, by decide +kernel, by decide +kernel, by decide +kernel, by decide, zk_in 710 (by decide +kernel) rfl, zk_in 58 (by decide +kernel) rfl⟩
theorem stX7_performLot : Cond.instanceMethod yX7_performLot ∈ zk_tb ∧ Cond.selects RX7 yX7_performLot yX7_performLot ∈ zk_tb := ⟨zk_in 709 (by decide +kernel) rfl, zk_in 22 (by decide +kernel) rfl⟩
theorem mtX7_remainder : zk_Mt RX7 yX7_remainder cX7_remainder 2 (some .int) 2 := ⟨rfl, by decide +kernel, by decide +kernel, by decide +kernel, by decide +kernel, by decide, zk_in 713 (by decide +kernel) rfl, zk_in 58 (by decide +kernel) rfl⟩
theorem stX7_remainder : Cond.static yX7_remainder ∈ zk_tb := zk_in 712 (by decide +kernel) rfl
theorem mtX7_lineBreath : zk_Mt RX7 yX7_lineBreath cX7_lineBreath 6 (some .int) 2 := ⟨rfl, by decide +kernel, by decide +kernel, by decide +kernel, by decide +kernel, by decide, zk_in 564 (by decide +kernel) rfl, zk_in 58 (by decide +kernel) rfl⟩
theorem stX7_lineBreath : Cond.instanceMethod yX7_lineBreath ∈ zk_tb ∧ Cond.selects RX7 yX7_lineBreath yX7_lineBreath ∈ zk_tb := ⟨zk_in 563 (by decide +kernel) rfl, zk_in 9 (by decide +kernel) rfl⟩
theorem mtX7_writeLine : zk_Mt RX7 yX7_writeLine cX7_writeLine 6 (none) 3 := ⟨rfl, by decide +kernel, by decide +kernel, by decide +kernel, by decide +kernel, by decide, zk_in 568 (by decide +kernel) rfl, zk_in 58 (by decide +kernel) rfl⟩
theorem stX7_writeLine : Cond.instanceMethod yX7_writeLine ∈ zk_tb ∧ Cond.selects RX7 yX7_writeLine yX7_writeLine ∈ zk_tb := ⟨zk_in 567 (by decide +kernel) rfl, zk_in 10 (by decide +kernel) rfl⟩
theorem mtX7_weighBreaths : zk_Mt RX7 yX7_weighBreaths cX7_weighBreaths 3 (none) 1 := ⟨rfl, by decide +kernel, by decide +kernel, by decide +kernel, by decide +kernel, by decide, zk_in 580 (by decide +kernel) rfl, zk_in 58 (by decide +kernel) rfl⟩
theorem stX7_weighBreaths : Cond.instanceMethod yX7_weighBreaths ∈ zk_tb ∧ Cond.selects RX7 yX7_weighBreaths yX7_weighBreaths ∈ zk_tb := ⟨zk_in 579 (by decide +kernel) rfl, zk_in 12 (by decide +kernel) rfl⟩
theorem mtX7_setBreath : zk_Mt RX7 yX7_setBreath cX7_setBreath 4 (some .int) 1 := ⟨rfl, by decide +kernel, by decide +kernel, by decide +kernel, by decide +kernel, by decide, zk_in 588 (by decide +kernel) rfl, zk_in 58 (by decide +kernel) rfl⟩
theorem stX7_setBreath : Cond.instanceMethod yX7_setBreath ∈ zk_tb ∧ Cond.selects RX7 yX7_setBreath yX7_setBreath ∈ zk_tb := ⟨zk_in 587 (by decide +kernel) rfl, zk_in 14 (by decide +kernel) rfl⟩
theorem mtX7_setsWith : zk_Mt RX7 yX7_setsWith cX7_setsWith 5 (some .int) 2 := ⟨rfl, by decide +kernel, by decide +kernel, by decide +kernel, by decide +kernel, by decide, zk_in 584 (by decide +kernel) rfl, zk_in 58 (by decide +kernel) rfl⟩
theorem stX7_setsWith : Cond.instanceMethod yX7_setsWith ∈ zk_tb ∧ Cond.selects RX7 yX7_setsWith yX7_setsWith ∈ zk_tb := ⟨zk_in 583 (by decide +kernel) rfl, zk_in 13 (by decide +kernel) rfl⟩
theorem mtX7_firstSet : zk_Mt RX7 yX7_firstSet cX7_firstSet 3 (some .int) 1 := ⟨rfl, by decide +kernel, by decide +kernel, by decide +kernel, by decide +kernel, by decide, zk_in 599 (by decide +kernel) rfl, zk_in 58 (by decide +kernel) rfl⟩
theorem stX7_firstSet : Cond.instanceMethod yX7_firstSet ∈ zk_tb ∧ Cond.selects RX7 yX7_firstSet yX7_firstSet ∈ zk_tb := ⟨zk_in 598 (by decide +kernel) rfl, zk_in 16 (by decide +kernel) rfl⟩
theorem mtX7_tellWorth : zk_Mt RX7 yX7_tellWorth cX7_tellWorth 8 (none) 2 := ⟨rfl, by decide +kernel, by decide +kernel, by decide +kernel, by decide +kernel, by decide, zk_in 694 (by decide +kernel) rfl, zk_in 58 (by decide +kernel) rfl⟩
theorem stX7_tellWorth : Cond.instanceMethod yX7_tellWorth ∈ zk_tb ∧ Cond.selects RX7 yX7_tellWorth yX7_tellWorth ∈ zk_tb := ⟨zk_in 693 (by decide +kernel) rfl, zk_in 21 (by decide +kernel) rfl⟩
theorem mtX7_tell : zk_Mt RX7 yX7_tell cX7_tell 7 (none) 2 := ⟨rfl, by decide +kernel, by decide +kernel, by decide +kernel, by decide +kernel, by decide, zk_in 592 (by decide +kernel) rfl, zk_in 58 (by decide +kernel) rfl⟩
theorem stX7_tell : Cond.instanceMethod yX7_tell ∈ zk_tb ∧ Cond.selects RX7 yX7_tell yX7_tell ∈ zk_tb := ⟨zk_in 591 (by decide +kernel) rfl, zk_in 15 (by decide +kernel) rfl⟩
theorem mtX7_commonDivisor : zk_Mt RX7 yX7_commonDivisor cX7_commonDivisor 11 (some .long) 2 := ⟨rfl, by decide +kernel, by decide +kernel, by decide +kernel, by decide +kernel, by decide, zk_in 595 (by decide +kernel) rfl, zk_in 58 (by decide +kernel) rfl⟩
theorem stX7_commonDivisor : Cond.static yX7_commonDivisor ∈ zk_tb := zk_in 594 (by decide +kernel) rfl
theorem mtX8_init : zk_Mt RX8 yX8_init cX8_init 2 (none) 0 := ⟨rfl, by decide +kernel, by decide +kernel, by decide +kernel, by decide +kernel, by decide, zk_in 763 (by decide +kernel) rfl, zk_in 63 (by decide +kernel) rfl⟩
theorem mtX8_in : zk_Mt RX8 yX8_in cX8_in 3 (some .boolean) 3 := ⟨rfl, by decide +kernel, by decide +kernel, by decide +kernel, by decide +kernel, by decide, zk_in 856 (by decide +kernel) rfl, zk_in 63 (by decide +kernel) rfl⟩
theorem stX8_in : Cond.static yX8_in ∈ zk_tb := zk_in 855 (by decide +kernel) rfl
theorem mtX8_has : zk_Mt RX8 yX8_has cX8_has 2 (some .boolean) 2 := ⟨rfl, by decide +kernel, by decide +kernel, by decide +kernel, by decide +kernel, by decide, zk_in 1065 (by decide +kernel) rfl, zk_in 63 (by decide +kernel) rfl⟩
theorem stX8_has : Cond.static yX8_has ∈ zk_tb := zk_in 1064 (by decide +kernel) rfl
theorem mtX8_bits : zk_Mt RX8 yX8_bits cX8_bits 3 (some .int) 1 := ⟨rfl, by decide +kernel, by decide +kernel, by decide +kernel, by decide +kernel, by decide, zk_in 1068 (by decide +kernel) rfl, zk_in 63 (by decide +kernel) rfl⟩
theorem stX8_bits : Cond.static yX8_bits ∈ zk_tb := zk_in 1067 (by decide +kernel) rfl
theorem mtX8_finds : zk_Mt RX8 yX8_finds cX8_finds 2 (some .int) 1 := ⟨rfl, by decide +kernel, by decide +kernel, by decide +kernel, by decide +kernel, by decide, zk_in 860 (by decide +kernel) rfl, zk_in 63 (by decide +kernel) rfl⟩
theorem stX8_finds : Cond.instanceMethod yX8_finds ∈ zk_tb ∧ Cond.selects RX8 yX8_finds yX8_finds ∈ zk_tb := ⟨zk_in 859 (by decide +kernel) rfl, zk_in 24 (by decide +kernel) rfl⟩
theorem mtX8_tells : zk_Mt RX8 yX8_tells cX8_tells 2 (some .int) 1 := ⟨rfl, by decide +kernel, by decide +kernel, by decide +kernel, by decide +kernel, by decide, zk_in 872 (by decide +kernel) rfl, zk_in 63 (by decide +kernel) rfl⟩
theorem stX8_tells : Cond.instanceMethod yX8_tells ∈ zk_tb ∧ Cond.selects RX8 yX8_tells yX8_tells ∈ zk_tb := ⟨zk_in 871 (by decide +kernel) rfl, zk_in 26 (by decide +kernel) rfl⟩
theorem mtX8_bring : zk_Mt RX8 yX8_bring cX8_bring 6 (none) 5 := ⟨rfl, by decide +kernel, by decide +kernel, by decide +kernel, by decide +kernel, by decide, zk_in 987 (by decide +kernel) rfl, zk_in 63 (by decide +kernel) rfl⟩
theorem stX8_bring : Cond.static yX8_bring ∈ zk_tb := zk_in 986 (by decide +kernel) rfl
theorem mtX8_isOne : zk_Mt RX8 yX8_isOne cX8_isOne 2 (some .boolean) 1 := ⟨rfl, by decide +kernel, by decide +kernel, by decide +kernel, by decide +kernel, by decide, zk_in 942 (by decide +kernel) rfl, zk_in 63 (by decide +kernel) rfl⟩
theorem stX8_isOne : Cond.instanceMethod yX8_isOne ∈ zk_tb ∧ Cond.selects RX8 yX8_isOne yX8_isOne ∈ zk_tb := ⟨zk_in 941 (by decide +kernel) rfl, zk_in 33 (by decide +kernel) rfl⟩
theorem mtX8_isCell : zk_Mt RX8 yX8_isCell cX8_isCell 2 (some .boolean) 1 := ⟨rfl, by decide +kernel, by decide +kernel, by decide +kernel, by decide +kernel, by decide, zk_in 976 (by decide +kernel) rfl, zk_in 63 (by decide +kernel) rfl⟩
theorem stX8_isCell : Cond.instanceMethod yX8_isCell ∈ zk_tb ∧ Cond.selects RX8 yX8_isCell yX8_isCell ∈ zk_tb := ⟨zk_in 975 (by decide +kernel) rfl, zk_in 38 (by decide +kernel) rfl⟩
theorem mtX8_row : zk_Mt RX8 yX8_row cX8_row 4 (some .int) 2 := ⟨rfl, by decide +kernel, by decide +kernel, by decide +kernel, by decide +kernel, by decide, zk_in 853 (by decide +kernel) rfl, zk_in 63 (by decide +kernel) rfl⟩
theorem stX8_row : Cond.instanceMethod yX8_row ∈ zk_tb ∧ Cond.selects RX8 yX8_row yX8_row ∈ zk_tb := ⟨zk_in 851 (by decide +kernel) rfl, zk_in 852 (by decide +kernel) rfl⟩
theorem mtX8_wrongAt : zk_Mt RX8 yX8_wrongAt cX8_wrongAt 3 (some .int) 2 := ⟨rfl, by decide +kernel, by decide +kernel, by decide +kernel, by decide +kernel, by decide, zk_in 868 (by decide +kernel) rfl, zk_in 63 (by decide +kernel) rfl⟩
theorem stX8_wrongAt : Cond.instanceMethod yX8_wrongAt ∈ zk_tb ∧ Cond.selects RX8 yX8_wrongAt yX8_wrongAt ∈ zk_tb := ⟨zk_in 867 (by decide +kernel) rfl, zk_in 25 (by decide +kernel) rfl⟩
theorem mtX8_lay : zk_Mt RX8 yX8_lay cX8_lay 6 (some .int) 3 := ⟨rfl, by decide +kernel, by decide +kernel, by decide +kernel, by decide +kernel, by decide, zk_in 864 (by decide +kernel) rfl, zk_in 63 (by decide +kernel) rfl⟩
theorem stX8_lay : Cond.instanceMethod yX8_lay ∈ zk_tb ∧ Cond.selects RX8 yX8_lay yX8_lay ∈ zk_tb := ⟨zk_in 862 (by decide +kernel) rfl, zk_in 863 (by decide +kernel) rfl⟩
theorem mtX8_at : zk_Mt RX8 yX8_at cX8_at 4 (some .int) 2 := ⟨rfl, by decide +kernel, by decide +kernel, by decide +kernel, by decide +kernel, by decide, zk_in 876 (by decide +kernel) rfl, zk_in 63 (by decide +kernel) rfl⟩
theorem stX8_at : Cond.instanceMethod yX8_at ∈ zk_tb ∧ Cond.selects RX8 yX8_at yX8_at ∈ zk_tb := ⟨zk_in 874 (by decide +kernel) rfl, zk_in 875 (by decide +kernel) rfl⟩
theorem mtX8_tear : zk_Mt RX8 yX8_tear cX8_tear 2 (some .int) 1 := ⟨rfl, by decide +kernel, by decide +kernel, by decide +kernel, by decide +kernel, by decide, zk_in 880 (by decide +kernel) rfl, zk_in 63 (by decide +kernel) rfl⟩
theorem stX8_tear : Cond.instanceMethod yX8_tear ∈ zk_tb ∧ Cond.selects RX8 yX8_tear yX8_tear ∈ zk_tb := ⟨zk_in 878 (by decide +kernel) rfl, zk_in 879 (by decide +kernel) rfl⟩
theorem mtX8_isPart : zk_Mt RX8 yX8_isPart cX8_isPart 3 (some .boolean) 3 := ⟨rfl, by decide +kernel, by decide +kernel, by decide +kernel, by decide +kernel, by decide, zk_in 887 (by decide +kernel) rfl, zk_in 63 (by decide +kernel) rfl⟩
theorem stX8_isPart : Cond.static yX8_isPart ∈ zk_tb := zk_in 886 (by decide +kernel) rfl
theorem mtX8_copy : zk_Mt RX8 yX8_copy cX8_copy 9 (some .int) 5 := ⟨rfl, by decide +kernel, by decide +kernel, by decide +kernel, by decide +kernel, by decide, zk_in 884 (by decide +kernel) rfl, zk_in 63 (by decide +kernel) rfl⟩
theorem stX8_copy : Cond.instanceMethod yX8_copy ∈ zk_tb ∧ Cond.selects RX8 yX8_copy yX8_copy ∈ zk_tb := ⟨zk_in 882 (by decide +kernel) rfl, zk_in 883 (by decide +kernel) rfl⟩
theorem mtX8_mean : zk_Mt RX8 yX8_mean cX8_mean 5 (some .int) 1 := ⟨rfl, by decide +kernel, by decide +kernel, by decide +kernel, by decide +kernel, by decide, zk_in 891 (by decide +kernel) rfl, zk_in 63 (by decide +kernel) rfl⟩
theorem stX8_mean : Cond.instanceMethod yX8_mean ∈ zk_tb ∧ Cond.selects RX8 yX8_mean yX8_mean ∈ zk_tb := ⟨zk_in 889 (by decide +kernel) rfl, zk_in 890 (by decide +kernel) rfl⟩
theorem mtX8_text : zk_Mt RX8 yX8_text cX8_text 4 (some .int) 2 := ⟨rfl, by decide +kernel, by decide +kernel, by decide +kernel, by decide +kernel, by decide, zk_in 895 (by decide +kernel) rfl, zk_in 63 (by decide +kernel) rfl⟩
theorem stX8_text : Cond.instanceMethod yX8_text ∈ zk_tb ∧ Cond.selects RX8 yX8_text yX8_text ∈ zk_tb := ⟨zk_in 893 (by decide +kernel) rfl, zk_in 894 (by decide +kernel) rfl⟩
theorem mtX8_put : zk_Mt RX8 yX8_put cX8_put 5 (some .int) 3 := ⟨rfl, by decide +kernel, by decide +kernel, by decide +kernel, by decide +kernel, by decide, zk_in 899 (by decide +kernel) rfl, zk_in 63 (by decide +kernel) rfl⟩
theorem stX8_put : Cond.instanceMethod yX8_put ∈ zk_tb ∧ Cond.selects RX8 yX8_put yX8_put ∈ zk_tb := ⟨zk_in 897 (by decide +kernel) rfl, zk_in 898 (by decide +kernel) rfl⟩
theorem mtX8_letterAt : zk_Mt RX8 yX8_letterAt cX8_letterAt 2 (some .int) 1 := ⟨rfl, by decide +kernel, by decide +kernel, by decide +kernel, by decide +kernel, by decide, zk_in 915 (by decide +kernel) rfl, zk_in 63 (by decide +kernel) rfl⟩
theorem stX8_letterAt : Cond.instanceMethod yX8_letterAt ∈ zk_tb ∧ Cond.selects RX8 yX8_letterAt yX8_letterAt ∈ zk_tb := ⟨zk_in 914 (by decide +kernel) rfl, zk_in 29 (by decide +kernel) rfl⟩
theorem mtX8_figure : zk_Mt RX8 yX8_figure cX8_figure 4 (some .int) 2 := ⟨rfl, by decide +kernel, by decide +kernel, by decide +kernel, by decide +kernel, by decide, zk_in 923 (by decide +kernel) rfl, zk_in 63 (by decide +kernel) rfl⟩
theorem stX8_figure : Cond.instanceMethod yX8_figure ∈ zk_tb ∧ Cond.selects RX8 yX8_figure yX8_figure ∈ zk_tb := ⟨zk_in 922 (by decide +kernel) rfl, zk_in 31 (by decide +kernel) rfl⟩
theorem mtX8_skip : zk_Mt RX8 yX8_skip cX8_skip 1 (none) 0 := ⟨rfl, by decide +kernel, by decide +kernel, by decide +kernel, by decide +kernel, by decide, zk_in 911 (by decide +kernel) rfl, zk_in 63 (by decide +kernel) rfl⟩
theorem stX8_skip : Cond.instanceMethod yX8_skip ∈ zk_tb ∧ Cond.selects RX8 yX8_skip yX8_skip ∈ zk_tb := ⟨zk_in 910 (by decide +kernel) rfl, zk_in 28 (by decide +kernel) rfl⟩
theorem mtX8_sortBy : zk_Mt RX8 yX8_sortBy cX8_sortBy 1 (some .int) 1 := ⟨rfl, by decide +kernel, by decide +kernel, by decide +kernel, by decide +kernel, by decide, zk_in 930 (by decide +kernel) rfl, zk_in 63 (by decide +kernel) rfl⟩
theorem stX8_sortBy : Cond.static yX8_sortBy ∈ zk_tb := zk_in 929 (by decide +kernel) rfl
theorem mtX8_isCeiling : zk_Mt RX8 yX8_isCeiling cX8_isCeiling 1 (some .boolean) 0 := ⟨rfl, by decide +kernel, by decide +kernel, by decide +kernel, by decide +kernel, by decide, zk_in 919 (by decide +kernel) rfl, zk_in 63 (by decide +kernel) rfl⟩
theorem stX8_isCeiling : Cond.instanceMethod yX8_isCeiling ∈ zk_tb ∧ Cond.selects RX8 yX8_isCeiling yX8_isCeiling ∈ zk_tb := ⟨zk_in 918 (by decide +kernel) rfl, zk_in 30 (by decide +kernel) rfl⟩
theorem mtX8_isMemberItem : zk_Mt RX8 yX8_isMemberItem cX8_isMemberItem 3 (some .boolean) 0 := ⟨rfl, by decide +kernel, by decide +kernel, by decide +kernel, by decide +kernel, by decide, zk_in 927 (by decide +kernel) rfl, zk_in 63 (by decide +kernel) rfl⟩
theorem stX8_isMemberItem : Cond.instanceMethod yX8_isMemberItem ∈ zk_tb ∧ Cond.selects RX8 yX8_isMemberItem yX8_isMemberItem ∈ zk_tb := ⟨zk_in 926 (by decide +kernel) rfl, zk_in 32 (by decide +kernel) rfl⟩
theorem mtX8_read : zk_Mt RX8 yX8_read cX8_read 2 (some .int) 1 := ⟨rfl, by decide +kernel, by decide +kernel, by decide +kernel, by decide +kernel, by decide, zk_in 907 (by decide +kernel) rfl, zk_in 63 (by decide +kernel) rfl⟩
theorem stX8_read : Cond.instanceMethod yX8_read ∈ zk_tb ∧ Cond.selects RX8 yX8_read yX8_read ∈ zk_tb := ⟨zk_in 906 (by decide +kernel) rfl, zk_in 27 (by decide +kernel) rfl⟩
theorem mtX8_fault : zk_Mt RX8 yX8_fault cX8_fault 2 (some .int) 1 := ⟨rfl, by decide +kernel, by decide +kernel, by decide +kernel, by decide +kernel, by decide, zk_in 903 (by decide +kernel) rfl, zk_in 63 (by decide +kernel) rfl⟩
theorem stX8_fault : Cond.instanceMethod yX8_fault ∈ zk_tb ∧ Cond.selects RX8 yX8_fault yX8_fault ∈ zk_tb := ⟨zk_in 901 (by decide +kernel) rfl, zk_in 902 (by decide +kernel) rfl⟩
theorem mtX8_club : zk_Mt RX8 yX8_club cX8_club 3 (some .int) 1 := ⟨rfl, by decide +kernel, by decide +kernel, by decide +kernel, by decide +kernel, by decide, zk_in 934 (by decide +kernel) rfl, zk_in 63 (by decide +kernel) rfl⟩
theorem stX8_club : Cond.instanceMethod yX8_club ∈ zk_tb ∧ Cond.selects RX8 yX8_club yX8_club ∈ zk_tb := ⟨zk_in 932 (by decide +kernel) rfl, zk_in 933 (by decide +kernel) rfl⟩
theorem mtX8_memberTells : zk_Mt RX8 yX8_memberTells cX8_memberTells 3 (some .int) 2 := ⟨rfl, by decide +kernel, by decide +kernel, by decide +kernel, by decide +kernel, by decide, zk_in 946 (by decide +kernel) rfl, zk_in 63 (by decide +kernel) rfl⟩
theorem stX8_memberTells : Cond.instanceMethod yX8_memberTells ∈ zk_tb ∧ Cond.selects RX8 yX8_memberTells yX8_memberTells ∈ zk_tb := ⟨zk_in 945 (by decide +kernel) rfl, zk_in 34 (by decide +kernel) rfl⟩
theorem mtX8_member : zk_Mt RX8 yX8_member cX8_member 3 (some .int) 2 := ⟨rfl, by decide +kernel, by decide +kernel, by decide +kernel, by decide +kernel, by decide, zk_in 938 (by decide +kernel) rfl, zk_in 63 (by decide +kernel) rfl⟩
theorem stX8_member : Cond.instanceMethod yX8_member ∈ zk_tb ∧ Cond.selects RX8 yX8_member yX8_member ∈ zk_tb := ⟨zk_in 936 (by decide +kernel) rfl, zk_in 937 (by decide +kernel) rfl⟩
theorem mtX8_is : zk_Mt RX8 yX8_is cX8_is 2 (some .boolean) 2 := ⟨rfl, by decide +kernel, by decide +kernel, by decide +kernel, by decide +kernel, by decide, zk_in 953 (by decide +kernel) rfl, zk_in 63 (by decide +kernel) rfl⟩
theorem stX8_is : Cond.static yX8_is ∈ zk_tb := zk_in 952 (by decide +kernel) rfl
theorem mtX8_saysBy : zk_Mt RX8 yX8_saysBy cX8_saysBy 2 (some .int) 2 := ⟨rfl, by decide +kernel, by decide +kernel, by decide +kernel, by decide +kernel, by decide, zk_in 968 (by decide +kernel) rfl, zk_in 63 (by decide +kernel) rfl⟩
theorem stX8_saysBy : Cond.static yX8_saysBy ∈ zk_tb := zk_in 967 (by decide +kernel) rfl
theorem mtX8_breath : zk_Mt RX8 yX8_breath cX8_breath 3 (some .int) 2 := ⟨rfl, by decide +kernel, by decide +kernel, by decide +kernel, by decide +kernel, by decide, zk_in 965 (by decide +kernel) rfl, zk_in 63 (by decide +kernel) rfl⟩
theorem stX8_breath : Cond.instanceMethod yX8_breath ∈ zk_tb ∧ Cond.selects RX8 yX8_breath yX8_breath ∈ zk_tb := ⟨zk_in 964 (by decide +kernel) rfl, zk_in 37 (by decide +kernel) rfl⟩
theorem mtX8_behind : zk_Mt RX8 yX8_behind cX8_behind 2 (some .int) 1 := ⟨rfl, by decide +kernel, by decide +kernel, by decide +kernel, by decide +kernel, by decide, zk_in 957 (by decide +kernel) rfl, zk_in 63 (by decide +kernel) rfl⟩
theorem stX8_behind : Cond.instanceMethod yX8_behind ∈ zk_tb ∧ Cond.selects RX8 yX8_behind yX8_behind ∈ zk_tb := ⟨zk_in 956 (by decide +kernel) rfl, zk_in 35 (by decide +kernel) rfl⟩
theorem mtX8_ahead : zk_Mt RX8 yX8_ahead cX8_ahead 2 (some .int) 1 := ⟨rfl, by decide +kernel, by decide +kernel, by decide +kernel, by decide +kernel, by decide, zk_in 961 (by decide +kernel) rfl, zk_in 63 (by decide +kernel) rfl⟩
theorem stX8_ahead : Cond.instanceMethod yX8_ahead ∈ zk_tb ∧ Cond.selects RX8 yX8_ahead yX8_ahead ∈ zk_tb := ⟨zk_in 960 (by decide +kernel) rfl, zk_in 36 (by decide +kernel) rfl⟩
theorem mtX8_mark : zk_Mt RX8 yX8_mark cX8_mark 5 (some .int) 2 := ⟨rfl, by decide +kernel, by decide +kernel, by decide +kernel, by decide +kernel, by decide, zk_in 950 (by decide +kernel) rfl, zk_in 63 (by decide +kernel) rfl⟩
theorem stX8_mark : Cond.instanceMethod yX8_mark ∈ zk_tb ∧ Cond.selects RX8 yX8_mark yX8_mark ∈ zk_tb := ⟨zk_in 948 (by decide +kernel) rfl, zk_in 949 (by decide +kernel) rfl⟩
theorem mtX8_smoke : zk_Mt RX8 yX8_smoke cX8_smoke 2 (some .int) 1 := ⟨rfl, by decide +kernel, by decide +kernel, by decide +kernel, by decide +kernel, by decide, zk_in 972 (by decide +kernel) rfl, zk_in 63 (by decide +kernel) rfl⟩
theorem stX8_smoke : Cond.instanceMethod yX8_smoke ∈ zk_tb ∧ Cond.selects RX8 yX8_smoke yX8_smoke ∈ zk_tb := ⟨zk_in 970 (by decide +kernel) rfl, zk_in 971 (by decide +kernel) rfl⟩
theorem mtX8_allIn : zk_Mt RX8 yX8_allIn cX8_allIn 4 (some .int) 1 := ⟨rfl, by decide +kernel, by decide +kernel, by decide +kernel, by decide +kernel, by decide, zk_in 1014 (by decide +kernel) rfl, zk_in 63 (by decide +kernel) rfl⟩
theorem stX8_allIn : Cond.instanceMethod yX8_allIn ∈ zk_tb ∧ Cond.selects RX8 yX8_allIn yX8_allIn ∈ zk_tb := ⟨zk_in 1013 (by decide +kernel) rfl, zk_in 42 (by decide +kernel) rfl⟩
theorem mtX8_note : zk_Mt RX8 yX8_note cX8_note 1 (none) 0 := ⟨rfl, by decide +kernel, by decide +kernel, by decide +kernel, by decide +kernel, by decide, zk_in 984 (by decide +kernel) rfl, zk_in 63 (by decide +kernel) rfl⟩
theorem stX8_note : Cond.instanceMethod yX8_note ∈ zk_tb ∧ Cond.selects RX8 yX8_note yX8_note ∈ zk_tb := ⟨zk_in 983 (by decide +kernel) rfl, zk_in 39 (by decide +kernel) rfl⟩
theorem mtX8_comes : zk_Mt RX8 yX8_comes cX8_comes 3 (none) 3 := ⟨rfl, by decide +kernel, by decide +kernel, by decide +kernel, by decide +kernel, by decide, zk_in 994 (by decide +kernel) rfl, zk_in 63 (by decide +kernel) rfl⟩
theorem stX8_comes : Cond.static yX8_comes ∈ zk_tb := zk_in 993 (by decide +kernel) rfl
theorem mtX8_talkIn : zk_Mt RX8 yX8_talkIn cX8_talkIn 7 (none) 3 := ⟨rfl, by decide +kernel, by decide +kernel, by decide +kernel, by decide +kernel, by decide, zk_in 991 (by decide +kernel) rfl, zk_in 63 (by decide +kernel) rfl⟩
theorem stX8_talkIn : Cond.instanceMethod yX8_talkIn ∈ zk_tb ∧ Cond.selects RX8 yX8_talkIn yX8_talkIn ∈ zk_tb := ⟨zk_in 990 (by decide +kernel) rfl, zk_in 40 (by decide +kernel) rfl⟩
theorem mtX8_hourIn : zk_Mt RX8 yX8_hourIn cX8_hourIn 5 (some .int) 1 := ⟨rfl, by decide +kernel, by decide +kernel, by decide +kernel, by decide +kernel, by decide, zk_in 1002 (by decide +kernel) rfl, zk_in 63 (by decide +kernel) rfl⟩
theorem stX8_hourIn : Cond.instanceMethod yX8_hourIn ∈ zk_tb ∧ Cond.selects RX8 yX8_hourIn yX8_hourIn ∈ zk_tb := ⟨zk_in 1001 (by decide +kernel) rfl, zk_in 41 (by decide +kernel) rfl⟩
theorem mtX8_thunderIn : zk_Mt RX8 yX8_thunderIn cX8_thunderIn 3 (none) 1 := ⟨rfl, by decide +kernel, by decide +kernel, by decide +kernel, by decide +kernel, by decide, zk_in 1018 (by decide +kernel) rfl, zk_in 63 (by decide +kernel) rfl⟩
theorem stX8_thunderIn : Cond.instanceMethod yX8_thunderIn ∈ zk_tb ∧ Cond.selects RX8 yX8_thunderIn yX8_thunderIn ∈ zk_tb := ⟨zk_in 1017 (by decide +kernel) rfl, zk_in 43 (by decide +kernel) rfl⟩
theorem mtX8_talk : zk_Mt RX8 yX8_talk cX8_talk 3 (some .int) 2 := ⟨rfl, by decide +kernel, by decide +kernel, by decide +kernel, by decide +kernel, by decide, zk_in 980 (by decide +kernel) rfl, zk_in 63 (by decide +kernel) rfl⟩
theorem stX8_talk : Cond.instanceMethod yX8_talk ∈ zk_tb ∧ Cond.selects RX8 yX8_talk yX8_talk ∈ zk_tb := ⟨zk_in 978 (by decide +kernel) rfl, zk_in 979 (by decide +kernel) rfl⟩
theorem mtX8_hour : zk_Mt RX8 yX8_hour cX8_hour 1 (some .int) 0 := ⟨rfl, by decide +kernel, by decide +kernel, by decide +kernel, by decide +kernel, by decide, zk_in 998 (by decide +kernel) rfl, zk_in 63 (by decide +kernel) rfl⟩
theorem stX8_hour : Cond.instanceMethod yX8_hour ∈ zk_tb ∧ Cond.selects RX8 yX8_hour yX8_hour ∈ zk_tb := ⟨zk_in 996 (by decide +kernel) rfl, zk_in 997 (by decide +kernel) rfl⟩
theorem mtX8_open : zk_Mt RX8 yX8_open cX8_open 3 (some .int) 1 := ⟨rfl, by decide +kernel, by decide +kernel, by decide +kernel, by decide +kernel, by decide, zk_in 1006 (by decide +kernel) rfl, zk_in 63 (by decide +kernel) rfl⟩
theorem stX8_open : Cond.instanceMethod yX8_open ∈ zk_tb ∧ Cond.selects RX8 yX8_open yX8_open ∈ zk_tb := ⟨zk_in 1004 (by decide +kernel) rfl, zk_in 1005 (by decide +kernel) rfl⟩
theorem mtX8_thunder : zk_Mt RX8 yX8_thunder cX8_thunder 1 (some .int) 0 := ⟨rfl, by decide +kernel, by decide +kernel, by decide +kernel, by decide +kernel, by decide, zk_in 1010 (by decide +kernel) rfl, zk_in 63 (by decide +kernel) rfl⟩
theorem stX8_thunder : Cond.instanceMethod yX8_thunder ∈ zk_tb ∧ Cond.selects RX8 yX8_thunder yX8_thunder ∈ zk_tb := ⟨zk_in 1008 (by decide +kernel) rfl, zk_in 1009 (by decide +kernel) rfl⟩
theorem mtX8_undo : zk_Mt RX8 yX8_undo cX8_undo 3 (some .int) 1 := ⟨rfl, by decide +kernel, by decide +kernel, by decide +kernel, by decide +kernel, by decide, zk_in 1022 (by decide +kernel) rfl, zk_in 63 (by decide +kernel) rfl⟩
theorem stX8_undo : Cond.instanceMethod yX8_undo ∈ zk_tb ∧ Cond.selects RX8 yX8_undo yX8_undo ∈ zk_tb := ⟨zk_in 1020 (by decide +kernel) rfl, zk_in 1021 (by decide +kernel) rfl⟩
theorem mtX8_keep : zk_Mt RX8 yX8_keep cX8_keep 2 (some .int) 1 := ⟨rfl, by decide +kernel, by decide +kernel, by decide +kernel, by decide +kernel, by decide, zk_in 1026 (by decide +kernel) rfl, zk_in 63 (by decide +kernel) rfl⟩
theorem stX8_keep : Cond.instanceMethod yX8_keep ∈ zk_tb ∧ Cond.selects RX8 yX8_keep yX8_keep ∈ zk_tb := ⟨zk_in 1024 (by decide +kernel) rfl, zk_in 1025 (by decide +kernel) rfl⟩
theorem mtX8_on : zk_Mt RX8 yX8_on cX8_on 2 (some .int) 1 := ⟨rfl, by decide +kernel, by decide +kernel, by decide +kernel, by decide +kernel, by decide, zk_in 1030 (by decide +kernel) rfl, zk_in 63 (by decide +kernel) rfl⟩
theorem stX8_on : Cond.instanceMethod yX8_on ∈ zk_tb ∧ Cond.selects RX8 yX8_on yX8_on ∈ zk_tb := ⟨zk_in 1028 (by decide +kernel) rfl, zk_in 1029 (by decide +kernel) rfl⟩
theorem mtX8_says : zk_Mt RX8 yX8_says cX8_says 3 (some .int) 2 := ⟨rfl, by decide +kernel, by decide +kernel, by decide +kernel, by decide +kernel, by decide, zk_in 1034 (by decide +kernel) rfl, zk_in 63 (by decide +kernel) rfl⟩
theorem stX8_says : Cond.instanceMethod yX8_says ∈ zk_tb ∧ Cond.selects RX8 yX8_says yX8_says ∈ zk_tb := ⟨zk_in 1032 (by decide +kernel) rfl, zk_in 1033 (by decide +kernel) rfl⟩
theorem mtX8_breathes : zk_Mt RX8 yX8_breathes cX8_breathes 3 (some .int) 2 := ⟨rfl, by decide +kernel, by decide +kernel, by decide +kernel, by decide +kernel, by decide, zk_in 1038 (by decide +kernel) rfl, zk_in 63 (by decide +kernel) rfl⟩
theorem stX8_breathes : Cond.instanceMethod yX8_breathes ∈ zk_tb ∧ Cond.selects RX8 yX8_breathes yX8_breathes ∈ zk_tb := ⟨zk_in 1036 (by decide +kernel) rfl, zk_in 1037 (by decide +kernel) rfl⟩
theorem mtX8_means : zk_Mt RX8 yX8_means cX8_means 6 (some .int) 2 := ⟨rfl, by decide +kernel, by decide +kernel, by decide +kernel, by decide +kernel, by decide, zk_in 1042 (by decide +kernel) rfl, zk_in 63 (by decide +kernel) rfl⟩
theorem stX8_means : Cond.instanceMethod yX8_means ∈ zk_tb ∧ Cond.selects RX8 yX8_means yX8_means ∈ zk_tb := ⟨zk_in 1040 (by decide +kernel) rfl, zk_in 1041 (by decide +kernel) rfl⟩
theorem mtX8_least : zk_Mt RX8 yX8_least cX8_least 4 (some .int) 2 := ⟨rfl, by decide +kernel, by decide +kernel, by decide +kernel, by decide +kernel, by decide, zk_in 1046 (by decide +kernel) rfl, zk_in 63 (by decide +kernel) rfl⟩
theorem stX8_least : Cond.instanceMethod yX8_least ∈ zk_tb ∧ Cond.selects RX8 yX8_least yX8_least ∈ zk_tb := ⟨zk_in 1044 (by decide +kernel) rfl, zk_in 1045 (by decide +kernel) rfl⟩
theorem mtX8_begin : zk_Mt RX8 yX8_begin cX8_begin 1 (none) 0 := ⟨rfl, by decide +kernel, by decide +kernel, by decide +kernel, by decide +kernel, by decide, zk_in 1054 (by decide +kernel) rfl, zk_in 63 (by decide +kernel) rfl⟩
theorem stX8_begin : Cond.instanceMethod yX8_begin ∈ zk_tb ∧ Cond.selects RX8 yX8_begin yX8_begin ∈ zk_tb := ⟨zk_in 1053 (by decide +kernel) rfl, zk_in 44 (by decide +kernel) rfl⟩
theorem mtX8_hangs : zk_Mt RX8 yX8_hangs cX8_hangs 4 (some .int) 2 := ⟨rfl, by decide +kernel, by decide +kernel, by decide +kernel, by decide +kernel, by decide, zk_in 1050 (by decide +kernel) rfl, zk_in 63 (by decide +kernel) rfl⟩
theorem stX8_hangs : Cond.instanceMethod yX8_hangs ∈ zk_tb ∧ Cond.selects RX8 yX8_hangs yX8_hangs ∈ zk_tb := ⟨zk_in 1048 (by decide +kernel) rfl, zk_in 1049 (by decide +kernel) rfl⟩
theorem mtX8_clear : zk_Mt RX8 yX8_clear cX8_clear 2 (some .int) 0 := ⟨rfl, by decide +kernel, by decide +kernel, by decide +kernel, by decide +kernel, by decide, zk_in 1058 (by decide +kernel) rfl, zk_in 63 (by decide +kernel) rfl⟩
theorem stX8_clear : Cond.instanceMethod yX8_clear ∈ zk_tb ∧ Cond.selects RX8 yX8_clear yX8_clear ∈ zk_tb := ⟨zk_in 1056 (by decide +kernel) rfl, zk_in 1057 (by decide +kernel) rfl⟩
theorem mtX8_window : zk_Mt RX8 yX8_window cX8_window 6 (some .int) 1 := ⟨rfl, by decide +kernel, by decide +kernel, by decide +kernel, by decide +kernel, by decide, zk_in 1062 (by decide +kernel) rfl, zk_in 63 (by decide +kernel) rfl⟩
theorem stX8_window : Cond.instanceMethod yX8_window ∈ zk_tb ∧ Cond.selects RX8 yX8_window yX8_window ∈ zk_tb := ⟨zk_in 1060 (by decide +kernel) rfl, zk_in 1061 (by decide +kernel) rfl⟩
theorem mtX8_hangsBy : zk_Mt RX8 yX8_hangsBy cX8_hangsBy 8 (some .boolean) 5 := ⟨rfl, by decide +kernel, by decide +kernel, by decide +kernel, by decide +kernel, by decide, zk_in 1076 (by decide +kernel) rfl, zk_in 63 (by decide +kernel) rfl⟩
theorem stX8_hangsBy : Cond.instanceMethod yX8_hangsBy ∈ zk_tb ∧ Cond.selects RX8 yX8_hangsBy yX8_hangsBy ∈ zk_tb := ⟨zk_in 1075 (by decide +kernel) rfl, zk_in 45 (by decide +kernel) rfl⟩
theorem mtX8_talks : zk_Mt RX8 yX8_talks cX8_talks 10 (some .int) 4 := ⟨rfl, by decide +kernel, by decide +kernel, by decide +kernel, by decide +kernel, by decide, zk_in 1072 (by decide +kernel) rfl, zk_in 63 (by decide +kernel) rfl⟩
theorem stX8_talks : Cond.instanceMethod yX8_talks ∈ zk_tb ∧ Cond.selects RX8 yX8_talks yX8_talks ∈ zk_tb := ⟨zk_in 1070 (by decide +kernel) rfl, zk_in 1071 (by decide +kernel) rfl⟩
theorem mtX8_isSo : zk_Mt RX8 yX8_isSo cX8_isSo 6 (some .boolean) 3 := ⟨rfl, by decide +kernel, by decide +kernel, by decide +kernel, by decide +kernel, by decide, zk_in 1088 (by decide +kernel) rfl, zk_in 63 (by decide +kernel) rfl⟩
theorem stX8_isSo : Cond.instanceMethod yX8_isSo ∈ zk_tb ∧ Cond.selects RX8 yX8_isSo yX8_isSo ∈ zk_tb := ⟨zk_in 1087 (by decide +kernel) rfl, zk_in 47 (by decide +kernel) rfl⟩
theorem mtX8_wrongSets : zk_Mt RX8 yX8_wrongSets cX8_wrongSets 3 (some .int) 2 := ⟨rfl, by decide +kernel, by decide +kernel, by decide +kernel, by decide +kernel, by decide, zk_in 1084 (by decide +kernel) rfl, zk_in 63 (by decide +kernel) rfl⟩
theorem stX8_wrongSets : Cond.instanceMethod yX8_wrongSets ∈ zk_tb ∧ Cond.selects RX8 yX8_wrongSets yX8_wrongSets ∈ zk_tb := ⟨zk_in 1083 (by decide +kernel) rfl, zk_in 46 (by decide +kernel) rfl⟩
theorem mtX8_manyBy : zk_Mt RX8 yX8_manyBy cX8_manyBy 7 (some .int) 4 := ⟨rfl, by decide +kernel, by decide +kernel, by decide +kernel, by decide +kernel, by decide, zk_in 1092 (by decide +kernel) rfl, zk_in 63 (by decide +kernel) rfl⟩
theorem stX8_manyBy : Cond.instanceMethod yX8_manyBy ∈ zk_tb ∧ Cond.selects RX8 yX8_manyBy yX8_manyBy ∈ zk_tb := ⟨zk_in 1091 (by decide +kernel) rfl, zk_in 48 (by decide +kernel) rfl⟩
theorem mtX8_sets : zk_Mt RX8 yX8_sets cX8_sets 5 (some .int) 2 := ⟨rfl, by decide +kernel, by decide +kernel, by decide +kernel, by decide +kernel, by decide, zk_in 1080 (by decide +kernel) rfl, zk_in 63 (by decide +kernel) rfl⟩
theorem stX8_sets : Cond.instanceMethod yX8_sets ∈ zk_tb ∧ Cond.selects RX8 yX8_sets yX8_sets ∈ zk_tb := ⟨zk_in 1078 (by decide +kernel) rfl, zk_in 1079 (by decide +kernel) rfl⟩
theorem mtX8_sure : zk_Mt RX8 yX8_sure cX8_sure 8 (some .int) 2 := ⟨rfl, by decide +kernel, by decide +kernel, by decide +kernel, by decide +kernel, by decide, zk_in 1096 (by decide +kernel) rfl, zk_in 63 (by decide +kernel) rfl⟩
theorem stX8_sure : Cond.instanceMethod yX8_sure ∈ zk_tb ∧ Cond.selects RX8 yX8_sure yX8_sure ∈ zk_tb := ⟨zk_in 1094 (by decide +kernel) rfl, zk_in 1095 (by decide +kernel) rfl⟩
theorem mtX8_ask : zk_Mt RX8 yX8_ask cX8_ask 10 (some .int) 2 := ⟨rfl, by decide +kernel, by decide +kernel, by decide +kernel, by decide +kernel, by decide, zk_in 1100 (by decide +kernel) rfl, zk_in 63 (by decide +kernel) rfl⟩
theorem stX8_ask : Cond.instanceMethod yX8_ask ∈ zk_tb ∧ Cond.selects RX8 yX8_ask yX8_ask ∈ zk_tb := ⟨zk_in 1098 (by decide +kernel) rfl, zk_in 1099 (by decide +kernel) rfl⟩
theorem mtX8_wrongPairs : zk_Mt RX8 yX8_wrongPairs cX8_wrongPairs 4 (some .int) 1 := ⟨rfl, by decide +kernel, by decide +kernel, by decide +kernel, by decide +kernel, by decide, zk_in 1108 (by decide +kernel) rfl, zk_in 63 (by decide +kernel) rfl⟩
theorem stX8_wrongPairs : Cond.instanceMethod yX8_wrongPairs ∈ zk_tb ∧ Cond.selects RX8 yX8_wrongPairs yX8_wrongPairs ∈ zk_tb := ⟨zk_in 1107 (by decide +kernel) rfl, zk_in 49 (by decide +kernel) rfl⟩
theorem mtX8_saidSo : zk_Mt RX8 yX8_saidSo cX8_saidSo 5 (some .boolean) 2 := ⟨rfl, by decide +kernel, by decide +kernel, by decide +kernel, by decide +kernel, by decide, zk_in 1112 (by decide +kernel) rfl, zk_in 63 (by decide +kernel) rfl⟩
theorem stX8_saidSo : Cond.instanceMethod yX8_saidSo ∈ zk_tb ∧ Cond.selects RX8 yX8_saidSo yX8_saidSo ∈ zk_tb := ⟨zk_in 1111 (by decide +kernel) rfl, zk_in 50 (by decide +kernel) rfl⟩
theorem mtX8_kindsBy : zk_Mt RX8 yX8_kindsBy cX8_kindsBy 4 (some .int) 1 := ⟨rfl, by decide +kernel, by decide +kernel, by decide +kernel, by decide +kernel, by decide, zk_in 1120 (by decide +kernel) rfl, zk_in 63 (by decide +kernel) rfl⟩
theorem stX8_kindsBy : Cond.instanceMethod yX8_kindsBy ∈ zk_tb ∧ Cond.selects RX8 yX8_kindsBy yX8_kindsBy ∈ zk_tb := ⟨zk_in 1119 (by decide +kernel) rfl, zk_in 51 (by decide +kernel) rfl⟩
theorem mtX8_who : zk_Mt RX8 yX8_who cX8_who 4 (some .int) 1 := ⟨rfl, by decide +kernel, by decide +kernel, by decide +kernel, by decide +kernel, by decide, zk_in 1104 (by decide +kernel) rfl, zk_in 63 (by decide +kernel) rfl⟩
theorem stX8_who : Cond.instanceMethod yX8_who ∈ zk_tb ∧ Cond.selects RX8 yX8_who yX8_who ∈ zk_tb := ⟨zk_in 1102 (by decide +kernel) rfl, zk_in 1103 (by decide +kernel) rfl⟩
theorem mtX8_kinds : zk_Mt RX8 yX8_kinds cX8_kinds 2 (some .int) 1 := ⟨rfl, by decide +kernel, by decide +kernel, by decide +kernel, by decide +kernel, by decide, zk_in 1116 (by decide +kernel) rfl, zk_in 63 (by decide +kernel) rfl⟩
theorem stX8_kinds : Cond.instanceMethod yX8_kinds ∈ zk_tb ∧ Cond.selects RX8 yX8_kinds yX8_kinds ∈ zk_tb := ⟨zk_in 1114 (by decide +kernel) rfl, zk_in 1115 (by decide +kernel) rfl⟩
theorem mtX8_test : zk_Mt RX8 yX8_test cX8_test 10 (some .int) 1 := ⟨rfl, by decide +kernel, by decide +kernel, by decide +kernel, by decide +kernel, by decide, zk_in 1124 (by decide +kernel) rfl, zk_in 63 (by decide +kernel) rfl⟩
theorem stX8_test : Cond.instanceMethod yX8_test ∈ zk_tb ∧ Cond.selects RX8 yX8_test yX8_test ∈ zk_tb := ⟨zk_in 1122 (by decide +kernel) rfl, zk_in 1123 (by decide +kernel) rfl⟩
theorem mtX8_leaks : zk_Mt RX8 yX8_leaks cX8_leaks 8 (some .int) 1 := ⟨rfl, by decide +kernel, by decide +kernel, by decide +kernel, by decide +kernel, by decide, zk_in 1128 (by decide +kernel) rfl, zk_in 63 (by decide +kernel) rfl⟩
theorem stX8_leaks : Cond.instanceMethod yX8_leaks ∈ zk_tb ∧ Cond.selects RX8 yX8_leaks yX8_leaks ∈ zk_tb := ⟨zk_in 1126 (by decide +kernel) rfl, zk_in 1127 (by decide +kernel) rfl⟩
theorem mtX8_eveningBy : zk_Mt RX8 yX8_eveningBy cX8_eveningBy 8 (some .int) 3 := ⟨rfl, by decide +kernel, by decide +kernel, by decide +kernel, by decide +kernel, by decide, zk_in 1144 (by decide +kernel) rfl, zk_in 63 (by decide +kernel) rfl⟩
theorem stX8_eveningBy : Cond.instanceMethod yX8_eveningBy ∈ zk_tb ∧ Cond.selects RX8 yX8_eveningBy yX8_eveningBy ∈ zk_tb := ⟨zk_in 1143 (by decide +kernel) rfl, zk_in 54 (by decide +kernel) rfl⟩
theorem mtX8_isTurn : zk_Mt RX8 yX8_isTurn cX8_isTurn 4 (some .boolean) 1 := ⟨rfl, by decide +kernel, by decide +kernel, by decide +kernel, by decide +kernel, by decide, zk_in 1140 (by decide +kernel) rfl, zk_in 63 (by decide +kernel) rfl⟩
theorem stX8_isTurn : Cond.instanceMethod yX8_isTurn ∈ zk_tb ∧ Cond.selects RX8 yX8_isTurn yX8_isTurn ∈ zk_tb := ⟨zk_in 1139 (by decide +kernel) rfl, zk_in 53 (by decide +kernel) rfl⟩
theorem mtX8_lastTurn : zk_Mt RX8 yX8_lastTurn cX8_lastTurn 9 (some .int) 2 := ⟨rfl, by decide +kernel, by decide +kernel, by decide +kernel, by decide +kernel, by decide, zk_in 1136 (by decide +kernel) rfl, zk_in 63 (by decide +kernel) rfl⟩
theorem stX8_lastTurn : Cond.instanceMethod yX8_lastTurn ∈ zk_tb ∧ Cond.selects RX8 yX8_lastTurn yX8_lastTurn ∈ zk_tb := ⟨zk_in 1135 (by decide +kernel) rfl, zk_in 52 (by decide +kernel) rfl⟩
theorem mtX8_evening : zk_Mt RX8 yX8_evening cX8_evening 8 (some .int) 2 := ⟨rfl, by decide +kernel, by decide +kernel, by decide +kernel, by decide +kernel, by decide, zk_in 1132 (by decide +kernel) rfl, zk_in 63 (by decide +kernel) rfl⟩
theorem stX8_evening : Cond.instanceMethod yX8_evening ∈ zk_tb ∧ Cond.selects RX8 yX8_evening yX8_evening ∈ zk_tb := ⟨zk_in 1130 (by decide +kernel) rfl, zk_in 1131 (by decide +kernel) rfl⟩
theorem mtX8_tellsPart : zk_Mt RX8 yX8_tellsPart cX8_tellsPart 11 (none) 2 := ⟨rfl, by decide +kernel, by decide +kernel, by decide +kernel, by decide +kernel, by decide, zk_in 1159 (by decide +kernel) rfl, zk_in 63 (by decide +kernel) rfl⟩
theorem stX8_tellsPart : Cond.instanceMethod yX8_tellsPart ∈ zk_tb ∧ Cond.selects RX8 yX8_tellsPart yX8_tellsPart ∈ zk_tb := ⟨zk_in 1158 (by decide +kernel) rfl, zk_in 55 (by decide +kernel) rfl⟩
theorem mtX8_partOf : zk_Mt RX8 yX8_partOf cX8_partOf 6 (some .long) 3 := ⟨rfl, by decide +kernel, by decide +kernel, by decide +kernel, by decide +kernel, by decide, zk_in 1151 (by decide +kernel) rfl, zk_in 63 (by decide +kernel) rfl⟩
theorem stX8_partOf : Cond.static yX8_partOf ∈ zk_tb := zk_in 1150 (by decide +kernel) rfl
theorem mtX8_whole : zk_Mt RX8 yX8_whole cX8_whole 4 (some .long) 1 := ⟨rfl, by decide +kernel, by decide +kernel, by decide +kernel, by decide +kernel, by decide, zk_in 1155 (by decide +kernel) rfl, zk_in 63 (by decide +kernel) rfl⟩
theorem stX8_whole : Cond.static yX8_whole ∈ zk_tb := zk_in 1154 (by decide +kernel) rfl
theorem mtX8_odds : zk_Mt RX8 yX8_odds cX8_odds 7 (some .int) 3 := ⟨rfl, by decide +kernel, by decide +kernel, by decide +kernel, by decide +kernel, by decide, zk_in 1148 (by decide +kernel) rfl, zk_in 63 (by decide +kernel) rfl⟩
theorem stX8_odds : Cond.instanceMethod yX8_odds ∈ zk_tb ∧ Cond.selects RX8 yX8_odds yX8_odds ∈ zk_tb := ⟨zk_in 1146 (by decide +kernel) rfl, zk_in 1147 (by decide +kernel) rfl⟩
theorem mtX8_mid : zk_Mt RX8 yX8_mid cX8_mid 6 (some .int) 2 := ⟨rfl, by decide +kernel, by decide +kernel, by decide +kernel, by decide +kernel, by decide, zk_in 1163 (by decide +kernel) rfl, zk_in 63 (by decide +kernel) rfl⟩
theorem stX8_mid : Cond.instanceMethod yX8_mid ∈ zk_tb ∧ Cond.selects RX8 yX8_mid yX8_mid ∈ zk_tb := ⟨zk_in 1161 (by decide +kernel) rfl, zk_in 1162 (by decide +kernel) rfl⟩
theorem mtX8_lots : zk_Mt RX8 yX8_lots cX8_lots 7 (some .int) 2 := ⟨rfl, by decide +kernel, by decide +kernel, by decide +kernel, by decide +kernel, by decide, zk_in 1167 (by decide +kernel) rfl, zk_in 63 (by decide +kernel) rfl⟩
theorem stX8_lots : Cond.instanceMethod yX8_lots ∈ zk_tb ∧ Cond.selects RX8 yX8_lots yX8_lots ∈ zk_tb := ⟨zk_in 1165 (by decide +kernel) rfl, zk_in 1166 (by decide +kernel) rfl⟩
theorem mtX8_asked : zk_Mt RX8 yX8_asked cX8_asked 1 (some .int) 0 := ⟨rfl, by decide +kernel, by decide +kernel, by decide +kernel, by decide +kernel, by decide, zk_in 1177 (by decide +kernel) rfl, zk_in 63 (by decide +kernel) rfl⟩
theorem stX8_asked : Cond.instanceMethod yX8_asked ∈ zk_tb ∧ Cond.selects RX8 yX8_asked yX8_asked ∈ zk_tb := ⟨zk_in 1175 (by decide +kernel) rfl, zk_in 1176 (by decide +kernel) rfl⟩
theorem mtX8_upper : zk_Mt RX8 yX8_upper cX8_upper 1 (some .long) 0 := ⟨rfl, by decide +kernel, by decide +kernel, by decide +kernel, by decide +kernel, by decide, zk_in 1181 (by decide +kernel) rfl, zk_in 63 (by decide +kernel) rfl⟩
theorem stX8_upper : Cond.instanceMethod yX8_upper ∈ zk_tb ∧ Cond.selects RX8 yX8_upper yX8_upper ∈ zk_tb := ⟨zk_in 1179 (by decide +kernel) rfl, zk_in 1180 (by decide +kernel) rfl⟩
theorem mtX8_lower : zk_Mt RX8 yX8_lower cX8_lower 1 (some .long) 0 := ⟨rfl, by decide +kernel, by decide +kernel, by decide +kernel, by decide +kernel, by decide, zk_in 1185 (by decide +kernel) rfl, zk_in 63 (by decide +kernel) rfl⟩
theorem stX8_lower : Cond.instanceMethod yX8_lower ∈ zk_tb ∧ Cond.selects RX8 yX8_lower yX8_lower ∈ zk_tb := ⟨zk_in 1183 (by decide +kernel) rfl, zk_in 1184 (by decide +kernel) rfl⟩
theorem mtX8_thereOf : zk_Mt RX8 yX8_thereOf cX8_thereOf 6 (some .int) 1 := ⟨rfl, by decide +kernel, by decide +kernel, by decide +kernel, by decide +kernel, by decide, zk_in 1196 (by decide +kernel) rfl, zk_in 63 (by decide +kernel) rfl⟩
theorem stX8_thereOf : Cond.static yX8_thereOf ∈ zk_tb := zk_in 1195 (by decide +kernel) rfl
theorem mtX8_kindMany : zk_Mt RX8 yX8_kindMany cX8_kindMany 4 (some .int) 1 := ⟨rfl, by decide +kernel, by decide +kernel, by decide +kernel, by decide +kernel, by decide, zk_in 1193 (by decide +kernel) rfl, zk_in 63 (by decide +kernel) rfl⟩
theorem stX8_kindMany : Cond.instanceMethod yX8_kindMany ∈ zk_tb ∧ Cond.selects RX8 yX8_kindMany yX8_kindMany ∈ zk_tb := ⟨zk_in 1192 (by decide +kernel) rfl, zk_in 56 (by decide +kernel) rfl⟩
theorem mtX8_count : zk_Mt RX8 yX8_count cX8_count 2 (some .int) 1 := ⟨rfl, by decide +kernel, by decide +kernel, by decide +kernel, by decide +kernel, by decide, zk_in 1189 (by decide +kernel) rfl, zk_in 63 (by decide +kernel) rfl⟩
theorem stX8_count : Cond.instanceMethod yX8_count ∈ zk_tb ∧ Cond.selects RX8 yX8_count yX8_count ∈ zk_tb := ⟨zk_in 1187 (by decide +kernel) rfl, zk_in 1188 (by decide +kernel) rfl⟩
theorem mtX8_finding : zk_Mt RX8 yX8_finding cX8_finding 1 (some .int) 0 := ⟨rfl, by decide +kernel, by decide +kernel, by decide +kernel, by decide +kernel, by decide, zk_in 1200 (by decide +kernel) rfl, zk_in 63 (by decide +kernel) rfl⟩
theorem stX8_finding : Cond.instanceMethod yX8_finding ∈ zk_tb ∧ Cond.selects RX8 yX8_finding yX8_finding ∈ zk_tb := ⟨zk_in 1198 (by decide +kernel) rfl, zk_in 1199 (by decide +kernel) rfl⟩
theorem mtX8_findings : zk_Mt RX8 yX8_findings cX8_findings 2 (some .int) 1 := ⟨rfl, by decide +kernel, by decide +kernel, by decide +kernel, by decide +kernel, by decide, zk_in 1204 (by decide +kernel) rfl, zk_in 63 (by decide +kernel) rfl⟩
theorem stX8_findings : Cond.instanceMethod yX8_findings ∈ zk_tb ∧ Cond.selects RX8 yX8_findings yX8_findings ∈ zk_tb := ⟨zk_in 1202 (by decide +kernel) rfl, zk_in 1203 (by decide +kernel) rfl⟩
theorem mtX8_digest : zk_Mt RX8 yX8_digest cX8_digest 5 (some .long) 0 := ⟨rfl, by decide +kernel, by decide +kernel, by decide +kernel, by decide +kernel, by decide, zk_in 1208 (by decide +kernel) rfl, zk_in 63 (by decide +kernel) rfl⟩
theorem stX8_digest : Cond.instanceMethod yX8_digest ∈ zk_tb ∧ Cond.selects RX8 yX8_digest yX8_digest ∈ zk_tb := ⟨zk_in 1206 (by decide +kernel) rfl, zk_in 1207 (by decide +kernel) rfl⟩
theorem mtJ6_bitCount_0f7a4 : zk_Mt RJ6 yJ6_bitCount_0f7a4 cJ6_bitCount_0f7a4 1 (some .int) 1 := ⟨rfl, by decide +kernel, by decide +kernel, by decide +kernel, by decide +kernel, by decide, zk_in 548 (by decide +kernel) rfl, zk_in 68 (by decide +kernel) rfl⟩
theorem stJ6_bitCount_0f7a4 : Cond.static yJ6_bitCount_0f7a4 ∈ zk_tb := zk_in 547 (by decide +kernel) rfl
end
section
theorem lkL_9 : Cond.methodLink RL 9 yX7_init ∈ zk_tb := zk_in 72 (by decide +kernel) rfl
theorem lkX7_9 : Cond.methodLink RX7 9 yX7_shelf ∈ zk_tb := zk_in 78 (by decide +kernel) rfl
theorem lkX7_328 : Cond.methodLink RX7 328 yX4_init ∈ zk_tb := zk_in 84 (by decide +kernel) rfl
theorem lkX7_22 : Cond.methodLink RX7 22 yX0_init ∈ zk_tb := zk_in 102 (by decide +kernel) rfl
theorem lkX7_29 : Cond.methodLink RX7 29 yX1_init ∈ zk_tb := zk_in 155 (by decide +kernel) rfl
theorem lkX7_44 : Cond.methodLink RX7 44 yX6_init ∈ zk_tb := zk_in 170 (by decide +kernel) rfl
theorem lkL_13 : Cond.methodLink RL 13 yX7_row ∈ zk_tb := zk_in 221 (by decide +kernel) rfl
theorem lkX7_64 : Cond.methodLink RX7 64 yX7_lookUp ∈ zk_tb := zk_in 225 (by decide +kernel) rfl
theorem lkX7_68 : Cond.methodLink RX7 68 yX7_renewed ∈ zk_tb := zk_in 228 (by decide +kernel) rfl
theorem lkX7_93 : Cond.methodLink RX7 93 yX7_found ∈ zk_tb := zk_in 232 (by decide +kernel) rfl
theorem lkX7_330 : Cond.methodLink RX7 330 yX4_renew ∈ zk_tb := zk_in 236 (by decide +kernel) rfl
theorem lkX4_21 : Cond.methodLink RX4 21 yJ9_min_7cf53 ∈ zk_tb := zk_in 240 (by decide +kernel) rfl
theorem lkL_18 : Cond.methodLink RL 18 yX7_lay ∈ zk_tb := zk_in 243 (by decide +kernel) rfl
theorem lkX7_72 : Cond.methodLink RX7 72 yX7_refusedPlace ∈ zk_tb := zk_in 247 (by decide +kernel) rfl
theorem lkX7_89 : Cond.methodLink RX7 89 yX4_isThere ∈ zk_tb := zk_in 251 (by decide +kernel) rfl
theorem lkX7_325 : Cond.methodLink RX7 325 yX4_has ∈ zk_tb := zk_in 255 (by decide +kernel) rfl
theorem lkX7_76 : Cond.methodLink RX7 76 yX4_read ∈ zk_tb := zk_in 259 (by decide +kernel) rfl
theorem lkX4_17 : Cond.methodLink RX4 17 yX4_has ∈ zk_tb := zk_in 263 (by decide +kernel) rfl
theorem lkX7_85 : Cond.methodLink RX7 85 yX4_write ∈ zk_tb := zk_in 264 (by decide +kernel) rfl
theorem lkL_23 : Cond.methodLink RL 23 yX7_at ∈ zk_tb := zk_in 268 (by decide +kernel) rfl
theorem lkL_27 : Cond.methodLink RL 27 yX7_tear ∈ zk_tb := zk_in 272 (by decide +kernel) rfl
theorem lkL_32 : Cond.methodLink RL 32 yX7_copy ∈ zk_tb := zk_in 276 (by decide +kernel) rfl
theorem lkX7_97 : Cond.methodLink RX7 97 yX4_holds ∈ zk_tb := zk_in 280 (by decide +kernel) rfl
theorem lkX7_104 : Cond.methodLink RX7 104 arraycopyName ∈ zk_tb := zk_in 284 (by decide +kernel) rfl
theorem lkL_37 : Cond.methodLink RL 37 yX7_mean ∈ zk_tb := zk_in 287 (by decide +kernel) rfl
theorem lkL_41 : Cond.methodLink RL 41 yX7_text ∈ zk_tb := zk_in 291 (by decide +kernel) rfl
theorem lkL_45 : Cond.methodLink RL 45 yX7_put ∈ zk_tb := zk_in 295 (by decide +kernel) rfl
theorem lkL_49 : Cond.methodLink RL 49 yX7_fault ∈ zk_tb := zk_in 299 (by decide +kernel) rfl
theorem lkX7_110 : Cond.methodLink RX7 110 yX5_faultOf ∈ zk_tb := zk_in 303 (by decide +kernel) rfl
theorem lkX5_17 : Cond.methodLink RX5 17 yX4_read ∈ zk_tb := zk_in 306 (by decide +kernel) rfl
theorem lkX5_21 : Cond.methodLink RX5 21 yX5_isBetweenItems ∈ zk_tb := zk_in 307 (by decide +kernel) rfl
theorem lkX5_25 : Cond.methodLink RX5 25 yX5_fits ∈ zk_tb := zk_in 310 (by decide +kernel) rfl
theorem lkX5_40 : Cond.methodLink RX5 40 yX2_byLetter ∈ zk_tb := zk_in 316 (by decide +kernel) rfl
theorem lkL_53 : Cond.methodLink RL 53 yX7_club ∈ zk_tb := zk_in 319 (by decide +kernel) rfl
theorem lkX7_116 : Cond.methodLink RX7 116 yX5_settle ∈ zk_tb := zk_in 323 (by decide +kernel) rfl
theorem lkX5_45 : Cond.methodLink RX5 45 yX0_join ∈ zk_tb := zk_in 326 (by decide +kernel) rfl
theorem lkX5_49 : Cond.methodLink RX5 49 yX0_seat ∈ zk_tb := zk_in 330 (by decide +kernel) rfl
theorem lkX0_31 : Cond.methodLink RX0 31 yX0_hasCell ∈ zk_tb := zk_in 334 (by decide +kernel) rfl
theorem lkX7_120 : Cond.methodLink RX7 120 yX0_freshen ∈ zk_tb := zk_in 338 (by decide +kernel) rfl
theorem lkL_57 : Cond.methodLink RL 57 yX7_member ∈ zk_tb := zk_in 342 (by decide +kernel) rfl
theorem lkX7_126 : Cond.methodLink RX7 126 yX0_hasMember ∈ zk_tb := zk_in 346 (by decide +kernel) rfl
theorem lkX7_130 : Cond.methodLink RX7 130 yX7_within ∈ zk_tb := zk_in 350 (by decide +kernel) rfl
theorem lkX7_134 : Cond.methodLink RX7 134 yX7_memberFact ∈ zk_tb := zk_in 351 (by decide +kernel) rfl
theorem lkL_61 : Cond.methodLink RL 61 yX7_mark ∈ zk_tb := zk_in 355 (by decide +kernel) rfl
theorem lkX7_143 : Cond.methodLink RX7 143 yX2_isOf ∈ zk_tb := zk_in 359 (by decide +kernel) rfl
theorem lkX7_146 : Cond.methodLink RX7 146 yX0_ringSmoke ∈ zk_tb := zk_in 362 (by decide +kernel) rfl
theorem lkX0_54 : Cond.methodLink RX0 54 yX0_behind ∈ zk_tb := zk_in 366 (by decide +kernel) rfl
theorem lkX0_58 : Cond.methodLink RX0 58 yX0_ahead ∈ zk_tb := zk_in 370 (by decide +kernel) rfl
theorem lkX7_149 : Cond.methodLink RX7 149 yX0_otherYoungBeside ∈ zk_tb := zk_in 374 (by decide +kernel) rfl
theorem lkX0_50 : Cond.methodLink RX0 50 yX2_isOf ∈ zk_tb := zk_in 378 (by decide +kernel) rfl
theorem lkX7_152 : Cond.methodLink RX7 152 yX0_othersWithoutBreath ∈ zk_tb := zk_in 379 (by decide +kernel) rfl
theorem lkX0_44 : Cond.methodLink RX0 44 yX2_breathed ∈ zk_tb := zk_in 383 (by decide +kernel) rfl
theorem lkX2_17 : Cond.methodLink RX2 17 yX2_spoken ∈ zk_tb := zk_in 386 (by decide +kernel) rfl
theorem lkX2_11 : Cond.methodLink RX2 11 yJ9_max_7cf53 ∈ zk_tb := zk_in 389 (by decide +kernel) rfl
theorem lkX7_155 : Cond.methodLink RX7 155 yX2_meaningsOf ∈ zk_tb := zk_in 392 (by decide +kernel) rfl
theorem lkX7_158 : Cond.methodLink RX7 158 yX2_spoken ∈ zk_tb := zk_in 395 (by decide +kernel) rfl
theorem lkL_65 : Cond.methodLink RL 65 yX7_smoke ∈ zk_tb := zk_in 396 (by decide +kernel) rfl
theorem lkX7_161 : Cond.methodLink RX7 161 yX0_hasCell ∈ zk_tb := zk_in 400 (by decide +kernel) rfl
theorem lkL_69 : Cond.methodLink RL 69 yX7_talk ∈ zk_tb := zk_in 401 (by decide +kernel) rfl
theorem lkX7_167 : Cond.methodLink RX7 167 yX7_isMeaning ∈ zk_tb := zk_in 405 (by decide +kernel) rfl
theorem lkX7_170 : Cond.methodLink RX7 170 yX1_isFull ∈ zk_tb := zk_in 408 (by decide +kernel) rfl
theorem lkX7_173 : Cond.methodLink RX7 173 yX7_perform ∈ zk_tb := zk_in 412 (by decide +kernel) rfl
theorem lkX7_339 : Cond.methodLink RX7 339 yX1_write ∈ zk_tb := zk_in 416 (by decide +kernel) rfl
theorem lkX7_342 : Cond.methodLink RX7 342 yX7_enact ∈ zk_tb := zk_in 420 (by decide +kernel) rfl
theorem lkX7_345 : Cond.methodLink RX7 345 yX0_letTalk ∈ zk_tb := zk_in 424 (by decide +kernel) rfl
theorem lkX0_70 : Cond.methodLink RX0 70 yX0_hasMember ∈ zk_tb := zk_in 428 (by decide +kernel) rfl
theorem lkX0_73 : Cond.methodLink RX0 73 yX2_spoken ∈ zk_tb := zk_in 429 (by decide +kernel) rfl
theorem lkX0_76 : Cond.methodLink RX0 76 yX0_breatheInto ∈ zk_tb := zk_in 430 (by decide +kernel) rfl
theorem lkX0_61 : Cond.methodLink RX0 61 yX0_share ∈ zk_tb := zk_in 434 (by decide +kernel) rfl
theorem lkX0_65 : Cond.methodLink RX0 65 yJ9_min_7cf53 ∈ zk_tb := zk_in 438 (by decide +kernel) rfl
theorem lkX7_348 : Cond.methodLink RX7 348 yX0_passHour ∈ zk_tb := zk_in 439 (by decide +kernel) rfl
theorem lkX0_80 : Cond.methodLink RX0 80 yX0_allSmoke ∈ zk_tb := zk_in 443 (by decide +kernel) rfl
theorem lkX0_93 : Cond.methodLink RX0 93 yX0_sumOf ∈ zk_tb := zk_in 447 (by decide +kernel) rfl
theorem lkX0_84 : Cond.methodLink RX0 84 yX0_smokeIn ∈ zk_tb := zk_in 451 (by decide +kernel) rfl
theorem lkX0_90 : Cond.methodLink RX0 90 yJ9_max_7cf53 ∈ zk_tb := zk_in 455 (by decide +kernel) rfl
theorem lkX7_351 : Cond.methodLink RX7 351 yX0_openCell ∈ zk_tb := zk_in 456 (by decide +kernel) rfl
theorem lkX7_354 : Cond.methodLink RX7 354 yX0_comeDown ∈ zk_tb := zk_in 460 (by decide +kernel) rfl
theorem lkL_73 : Cond.methodLink RL 73 yX7_hour ∈ zk_tb := zk_in 464 (by decide +kernel) rfl
theorem lkL_78 : Cond.methodLink RL 78 yX7_open ∈ zk_tb := zk_in 468 (by decide +kernel) rfl
theorem lkL_82 : Cond.methodLink RL 82 yX7_thunder ∈ zk_tb := zk_in 472 (by decide +kernel) rfl
theorem lkX7_177 : Cond.methodLink RX7 177 yX0_allSmoke ∈ zk_tb := zk_in 476 (by decide +kernel) rfl
theorem lkL_86 : Cond.methodLink RL 86 yX7_undo ∈ zk_tb := zk_in 477 (by decide +kernel) rfl
theorem lkX7_181 : Cond.methodLink RX7 181 yX7_relive ∈ zk_tb := zk_in 481 (by decide +kernel) rfl
theorem lkX7_357 : Cond.methodLink RX7 357 yX1_what ∈ zk_tb := zk_in 485 (by decide +kernel) rfl
theorem lkX7_360 : Cond.methodLink RX7 360 yX1_whom ∈ zk_tb := zk_in 489 (by decide +kernel) rfl
theorem lkX7_363 : Cond.methodLink RX7 363 yX1_meant ∈ zk_tb := zk_in 493 (by decide +kernel) rfl
theorem lkL_90 : Cond.methodLink RL 90 yX7_keep ∈ zk_tb := zk_in 497 (by decide +kernel) rfl
theorem lkX7_184 : Cond.methodLink RX7 184 yX1_takeFrom ∈ zk_tb := zk_in 501 (by decide +kernel) rfl
theorem lkL_94 : Cond.methodLink RL 94 yX7_on ∈ zk_tb := zk_in 505 (by decide +kernel) rfl
theorem lkL_98 : Cond.methodLink RL 98 yX7_says ∈ zk_tb := zk_in 509 (by decide +kernel) rfl
theorem lkL_102 : Cond.methodLink RL 102 yX7_breathes ∈ zk_tb := zk_in 513 (by decide +kernel) rfl
theorem lkX7_188 : Cond.methodLink RX7 188 yX2_breathed ∈ zk_tb := zk_in 517 (by decide +kernel) rfl
theorem lkL_106 : Cond.methodLink RL 106 yX7_means ∈ zk_tb := zk_in 518 (by decide +kernel) rfl
theorem lkX7_191 : Cond.methodLink RX7 191 yX2_leastMeaningOf ∈ zk_tb := zk_in 522 (by decide +kernel) rfl
theorem lkL_110 : Cond.methodLink RL 110 yX7_least ∈ zk_tb := zk_in 525 (by decide +kernel) rfl
theorem lkL_114 : Cond.methodLink RL 114 yX7_hangs ∈ zk_tb := zk_in 529 (by decide +kernel) rfl
theorem lkX7_194 : Cond.methodLink RX7 194 yX0_smokeIn ∈ zk_tb := zk_in 533 (by decide +kernel) rfl
theorem lkL_118 : Cond.methodLink RL 118 yX7_clear ∈ zk_tb := zk_in 534 (by decide +kernel) rfl
theorem lkX7_197 : Cond.methodLink RX7 197 yX0_fullestOf ∈ zk_tb := zk_in 538 (by decide +kernel) rfl
theorem lkL_122 : Cond.methodLink RL 122 yX7_window ∈ zk_tb := zk_in 542 (by decide +kernel) rfl
theorem lkX7_207 : Cond.methodLink RX7 207 yJ6_bitCount_0f7a4 ∈ zk_tb := zk_in 546 (by decide +kernel) rfl
theorem lkX7_212 : Cond.methodLink RX7 212 yX0_smokeOutside ∈ zk_tb := zk_in 552 (by decide +kernel) rfl
theorem lkL_126 : Cond.methodLink RL 126 yX7_talks ∈ zk_tb := zk_in 556 (by decide +kernel) rfl
theorem lkX7_215 : Cond.methodLink RX7 215 yX0_share ∈ zk_tb := zk_in 560 (by decide +kernel) rfl
theorem lkX7_218 : Cond.methodLink RX7 218 yX7_lineBreath ∈ zk_tb := zk_in 561 (by decide +kernel) rfl
theorem lkX7_221 : Cond.methodLink RX7 221 yX7_writeLine ∈ zk_tb := zk_in 565 (by decide +kernel) rfl
theorem lkL_131 : Cond.methodLink RL 131 yX7_sets ∈ zk_tb := zk_in 569 (by decide +kernel) rfl
theorem lkX7_225 : Cond.methodLink RX7 225 yX7_refusedSets ∈ zk_tb := zk_in 573 (by decide +kernel) rfl
theorem lkX7_228 : Cond.methodLink RX7 228 yX7_weighBreaths ∈ zk_tb := zk_in 577 (by decide +kernel) rfl
theorem lkX7_232 : Cond.methodLink RX7 232 yX7_setsWith ∈ zk_tb := zk_in 581 (by decide +kernel) rfl
theorem lkX7_369 : Cond.methodLink RX7 369 yX7_setBreath ∈ zk_tb := zk_in 585 (by decide +kernel) rfl
theorem lkX7_235 : Cond.methodLink RX7 235 yX7_tell ∈ zk_tb := zk_in 589 (by decide +kernel) rfl
theorem lkX7_374 : Cond.methodLink RX7 374 yX7_commonDivisor ∈ zk_tb := zk_in 593 (by decide +kernel) rfl
theorem lkX7_239 : Cond.methodLink RX7 239 yX7_firstSet ∈ zk_tb := zk_in 596 (by decide +kernel) rfl
theorem lkL_135 : Cond.methodLink RL 135 yX7_sure ∈ zk_tb := zk_in 600 (by decide +kernel) rfl
theorem lkL_139 : Cond.methodLink RL 139 yX7_ask ∈ zk_tb := zk_in 604 (by decide +kernel) rfl
theorem lkX7_242 : Cond.methodLink RX7 242 yJ9_max_7cf53 ∈ zk_tb := zk_in 608 (by decide +kernel) rfl
theorem lkL_143 : Cond.methodLink RL 143 yX7_who ∈ zk_tb := zk_in 609 (by decide +kernel) rfl
theorem lkX7_247 : Cond.methodLink RX7 247 yX7_refusedNotes ∈ zk_tb := zk_in 613 (by decide +kernel) rfl
theorem lkX7_262 : Cond.methodLink RX7 262 yX4_isAllWithin ∈ zk_tb := zk_in 617 (by decide +kernel) rfl
theorem lkX4_27 : Cond.methodLink RX4 27 yX4_read ∈ zk_tb := zk_in 621 (by decide +kernel) rfl
theorem lkX7_250 : Cond.methodLink RX7 250 yX3_fit ∈ zk_tb := zk_in 623 (by decide +kernel) rfl
theorem lkX3_13 : Cond.methodLink RX3 13 yX4_read ∈ zk_tb := zk_in 626 (by decide +kernel) rfl
theorem lkX3_17 : Cond.methodLink RX3 17 yX2_spoken ∈ zk_tb := zk_in 627 (by decide +kernel) rfl
theorem lkL_147 : Cond.methodLink RL 147 yX7_kinds ∈ zk_tb := zk_in 628 (by decide +kernel) rfl
theorem lkX7_256 : Cond.methodLink RX7 256 yX3_fittingKinds ∈ zk_tb := zk_in 632 (by decide +kernel) rfl
theorem lkX3_23 : Cond.methodLink RX3 23 yX3_fit ∈ zk_tb := zk_in 635 (by decide +kernel) rfl
theorem lkL_151 : Cond.methodLink RL 151 yX7_test ∈ zk_tb := zk_in 636 (by decide +kernel) rfl
theorem lkX7_259 : Cond.methodLink RX7 259 yX3_greatestPart ∈ zk_tb := zk_in 640 (by decide +kernel) rfl
theorem lkX3_29 : Cond.methodLink RX3 29 yX3_partLike ∈ zk_tb := zk_in 643 (by decide +kernel) rfl
theorem lkX3_33 : Cond.methodLink RX3 33 yJ9_max_7cf53 ∈ zk_tb := zk_in 646 (by decide +kernel) rfl
theorem lkL_155 : Cond.methodLink RL 155 yX7_leaks ∈ zk_tb := zk_in 647 (by decide +kernel) rfl
theorem lkX7_265 : Cond.methodLink RX7 265 yX3_leaksBy ∈ zk_tb := zk_in 651 (by decide +kernel) rfl
theorem lkL_159 : Cond.methodLink RL 159 yX7_evening ∈ zk_tb := zk_in 654 (by decide +kernel) rfl
theorem lkX7_268 : Cond.methodLink RX7 268 yX6_play ∈ zk_tb := zk_in 658 (by decide +kernel) rfl
theorem lkX6_22 : Cond.methodLink RX6 22 arraycopyName ∈ zk_tb := zk_in 662 (by decide +kernel) rfl
theorem lkX6_28 : Cond.methodLink RX6 28 yX6_mostByTalk ∈ zk_tb := zk_in 663 (by decide +kernel) rfl
theorem lkX6_32 : Cond.methodLink RX6 32 yX0_sumOf ∈ zk_tb := zk_in 667 (by decide +kernel) rfl
theorem lkX6_40 : Cond.methodLink RX6 40 yX6_takeAir ∈ zk_tb := zk_in 668 (by decide +kernel) rfl
theorem lkX6_44 : Cond.methodLink RX6 44 yX0_breatheInto ∈ zk_tb := zk_in 672 (by decide +kernel) rfl
theorem lkX6_48 : Cond.methodLink RX6 48 yX6_leastByWindow ∈ zk_tb := zk_in 673 (by decide +kernel) rfl
theorem lkX6_57 : Cond.methodLink RX6 57 yX0_fullestOf ∈ zk_tb := zk_in 677 (by decide +kernel) rfl
theorem lkX6_63 : Cond.methodLink RX6 63 yJ9_min_7cf53 ∈ zk_tb := zk_in 678 (by decide +kernel) rfl
theorem lkX6_51 : Cond.methodLink RX6 51 yJ9_max_7cf53 ∈ zk_tb := zk_in 679 (by decide +kernel) rfl
theorem lkL_163 : Cond.methodLink RL 163 yX7_odds ∈ zk_tb := zk_in 680 (by decide +kernel) rfl
theorem lkX7_272 : Cond.methodLink RX7 272 yX7_areChances ∈ zk_tb := zk_in 684 (by decide +kernel) rfl
theorem lkX7_275 : Cond.methodLink RX7 275 yX0_allSmokeIn ∈ zk_tb := zk_in 687 (by decide +kernel) rfl
theorem lkX7_278 : Cond.methodLink RX7 278 yX7_tellWorth ∈ zk_tb := zk_in 691 (by decide +kernel) rfl
theorem lkL_167 : Cond.methodLink RL 167 yX7_mid ∈ zk_tb := zk_in 696 (by decide +kernel) rfl
theorem lkL_171 : Cond.methodLink RL 171 yX7_lots ∈ zk_tb := zk_in 700 (by decide +kernel) rfl
theorem lkX7_286 : Cond.methodLink RX7 286 yX7_performLot ∈ zk_tb := zk_in 707 (by decide +kernel) rfl
theorem lkX7_366 : Cond.methodLink RX7 366 yX7_remainder ∈ zk_tb := zk_in 711 (by decide +kernel) rfl
theorem lkL_175 : Cond.methodLink RL 175 yX7_asked ∈ zk_tb := zk_in 714 (by decide +kernel) rfl
theorem lkL_179 : Cond.methodLink RL 179 yX7_upper ∈ zk_tb := zk_in 718 (by decide +kernel) rfl
theorem lkL_184 : Cond.methodLink RL 184 yX7_lower ∈ zk_tb := zk_in 722 (by decide +kernel) rfl
theorem lkL_188 : Cond.methodLink RL 188 yX7_count ∈ zk_tb := zk_in 726 (by decide +kernel) rfl
theorem lkX7_301 : Cond.methodLink RX7 301 yX0_membersOf ∈ zk_tb := zk_in 730 (by decide +kernel) rfl
theorem lkX7_304 : Cond.methodLink RX7 304 yX7_thereOn ∈ zk_tb := zk_in 734 (by decide +kernel) rfl
theorem lkX7_308 : Cond.methodLink RX7 308 yX7_keptClubs ∈ zk_tb := zk_in 737 (by decide +kernel) rfl
theorem lkL_192 : Cond.methodLink RL 192 yX7_finding ∈ zk_tb := zk_in 741 (by decide +kernel) rfl
theorem lkL_196 : Cond.methodLink RL 196 yX7_findings ∈ zk_tb := zk_in 745 (by decide +kernel) rfl
theorem lkL_200 : Cond.methodLink RL 200 yX7_digest ∈ zk_tb := zk_in 749 (by decide +kernel) rfl
theorem lkX7_318 : Cond.methodLink RX7 318 yX7_count ∈ zk_tb := zk_in 755 (by decide +kernel) rfl
theorem lkX7_321 : Cond.methodLink RX7 321 yX7_digestOf ∈ zk_tb := zk_in 756 (by decide +kernel) rfl
theorem lkL_12 : Cond.methodLink RL 12 yX8_init ∈ zk_tb := zk_in 761 (by decide +kernel) rfl
theorem lkL_17 : Cond.methodLink RL 17 yX8_row ∈ zk_tb := zk_in 850 (by decide +kernel) rfl
theorem lkX8_66 : Cond.methodLink RX8 66 yX8_in ∈ zk_tb := zk_in 854 (by decide +kernel) rfl
theorem lkX8_73 : Cond.methodLink RX8 73 yX8_finds ∈ zk_tb := zk_in 857 (by decide +kernel) rfl
theorem lkL_22 : Cond.methodLink RL 22 yX8_lay ∈ zk_tb := zk_in 861 (by decide +kernel) rfl
theorem lkX8_77 : Cond.methodLink RX8 77 yX8_wrongAt ∈ zk_tb := zk_in 865 (by decide +kernel) rfl
theorem lkX8_81 : Cond.methodLink RX8 81 yX8_tells ∈ zk_tb := zk_in 869 (by decide +kernel) rfl
theorem lkL_26 : Cond.methodLink RL 26 yX8_at ∈ zk_tb := zk_in 873 (by decide +kernel) rfl
theorem lkL_31 : Cond.methodLink RL 31 yX8_tear ∈ zk_tb := zk_in 877 (by decide +kernel) rfl
theorem lkL_36 : Cond.methodLink RL 36 yX8_copy ∈ zk_tb := zk_in 881 (by decide +kernel) rfl
theorem lkX8_84 : Cond.methodLink RX8 84 yX8_isPart ∈ zk_tb := zk_in 885 (by decide +kernel) rfl
theorem lkL_40 : Cond.methodLink RL 40 yX8_mean ∈ zk_tb := zk_in 888 (by decide +kernel) rfl
theorem lkL_44 : Cond.methodLink RL 44 yX8_text ∈ zk_tb := zk_in 892 (by decide +kernel) rfl
theorem lkL_48 : Cond.methodLink RL 48 yX8_put ∈ zk_tb := zk_in 896 (by decide +kernel) rfl
theorem lkL_52 : Cond.methodLink RL 52 yX8_fault ∈ zk_tb := zk_in 900 (by decide +kernel) rfl
theorem lkX8_124 : Cond.methodLink RX8 124 yX8_read ∈ zk_tb := zk_in 904 (by decide +kernel) rfl
theorem lkX8_114 : Cond.methodLink RX8 114 yX8_skip ∈ zk_tb := zk_in 908 (by decide +kernel) rfl
theorem lkX8_96 : Cond.methodLink RX8 96 yX8_letterAt ∈ zk_tb := zk_in 912 (by decide +kernel) rfl
theorem lkX8_117 : Cond.methodLink RX8 117 yX8_isCeiling ∈ zk_tb := zk_in 916 (by decide +kernel) rfl
theorem lkX8_99 : Cond.methodLink RX8 99 yX8_figure ∈ zk_tb := zk_in 920 (by decide +kernel) rfl
theorem lkX8_121 : Cond.methodLink RX8 121 yX8_isMemberItem ∈ zk_tb := zk_in 924 (by decide +kernel) rfl
theorem lkX8_108 : Cond.methodLink RX8 108 yX8_sortBy ∈ zk_tb := zk_in 928 (by decide +kernel) rfl
theorem lkL_56 : Cond.methodLink RL 56 yX8_club ∈ zk_tb := zk_in 931 (by decide +kernel) rfl
theorem lkL_60 : Cond.methodLink RL 60 yX8_member ∈ zk_tb := zk_in 935 (by decide +kernel) rfl
theorem lkX8_133 : Cond.methodLink RX8 133 yX8_isOne ∈ zk_tb := zk_in 939 (by decide +kernel) rfl
theorem lkX8_137 : Cond.methodLink RX8 137 yX8_memberTells ∈ zk_tb := zk_in 943 (by decide +kernel) rfl
theorem lkL_64 : Cond.methodLink RL 64 yX8_mark ∈ zk_tb := zk_in 947 (by decide +kernel) rfl
theorem lkX8_143 : Cond.methodLink RX8 143 yX8_is ∈ zk_tb := zk_in 951 (by decide +kernel) rfl
theorem lkX8_147 : Cond.methodLink RX8 147 yX8_behind ∈ zk_tb := zk_in 954 (by decide +kernel) rfl
theorem lkX8_150 : Cond.methodLink RX8 150 yX8_ahead ∈ zk_tb := zk_in 958 (by decide +kernel) rfl
theorem lkX8_153 : Cond.methodLink RX8 153 yX8_breath ∈ zk_tb := zk_in 962 (by decide +kernel) rfl
theorem lkX8_140 : Cond.methodLink RX8 140 yX8_saysBy ∈ zk_tb := zk_in 966 (by decide +kernel) rfl
theorem lkL_68 : Cond.methodLink RL 68 yX8_smoke ∈ zk_tb := zk_in 969 (by decide +kernel) rfl
theorem lkX8_156 : Cond.methodLink RX8 156 yX8_isCell ∈ zk_tb := zk_in 973 (by decide +kernel) rfl
theorem lkL_72 : Cond.methodLink RL 72 yX8_talk ∈ zk_tb := zk_in 977 (by decide +kernel) rfl
theorem lkX8_171 : Cond.methodLink RX8 171 yX8_note ∈ zk_tb := zk_in 981 (by decide +kernel) rfl
theorem lkX8_159 : Cond.methodLink RX8 159 yX8_bring ∈ zk_tb := zk_in 985 (by decide +kernel) rfl
theorem lkX8_174 : Cond.methodLink RX8 174 yX8_talkIn ∈ zk_tb := zk_in 988 (by decide +kernel) rfl
theorem lkX8_163 : Cond.methodLink RX8 163 yX8_comes ∈ zk_tb := zk_in 992 (by decide +kernel) rfl
theorem lkL_77 : Cond.methodLink RL 77 yX8_hour ∈ zk_tb := zk_in 995 (by decide +kernel) rfl
theorem lkX8_177 : Cond.methodLink RX8 177 yX8_hourIn ∈ zk_tb := zk_in 999 (by decide +kernel) rfl
theorem lkL_81 : Cond.methodLink RL 81 yX8_open ∈ zk_tb := zk_in 1003 (by decide +kernel) rfl
theorem lkL_85 : Cond.methodLink RL 85 yX8_thunder ∈ zk_tb := zk_in 1007 (by decide +kernel) rfl
theorem lkX8_167 : Cond.methodLink RX8 167 yX8_allIn ∈ zk_tb := zk_in 1011 (by decide +kernel) rfl
theorem lkX8_180 : Cond.methodLink RX8 180 yX8_thunderIn ∈ zk_tb := zk_in 1015 (by decide +kernel) rfl
theorem lkL_89 : Cond.methodLink RL 89 yX8_undo ∈ zk_tb := zk_in 1019 (by decide +kernel) rfl
theorem lkL_93 : Cond.methodLink RL 93 yX8_keep ∈ zk_tb := zk_in 1023 (by decide +kernel) rfl
theorem lkL_97 : Cond.methodLink RL 97 yX8_on ∈ zk_tb := zk_in 1027 (by decide +kernel) rfl
theorem lkL_101 : Cond.methodLink RL 101 yX8_says ∈ zk_tb := zk_in 1031 (by decide +kernel) rfl
theorem lkL_105 : Cond.methodLink RL 105 yX8_breathes ∈ zk_tb := zk_in 1035 (by decide +kernel) rfl
theorem lkL_109 : Cond.methodLink RL 109 yX8_means ∈ zk_tb := zk_in 1039 (by decide +kernel) rfl
theorem lkL_113 : Cond.methodLink RL 113 yX8_least ∈ zk_tb := zk_in 1043 (by decide +kernel) rfl
theorem lkL_117 : Cond.methodLink RL 117 yX8_hangs ∈ zk_tb := zk_in 1047 (by decide +kernel) rfl
theorem lkX8_184 : Cond.methodLink RX8 184 yX8_begin ∈ zk_tb := zk_in 1051 (by decide +kernel) rfl
theorem lkL_121 : Cond.methodLink RL 121 yX8_clear ∈ zk_tb := zk_in 1055 (by decide +kernel) rfl
theorem lkL_125 : Cond.methodLink RL 125 yX8_window ∈ zk_tb := zk_in 1059 (by decide +kernel) rfl
theorem lkX8_187 : Cond.methodLink RX8 187 yX8_has ∈ zk_tb := zk_in 1063 (by decide +kernel) rfl
theorem lkX8_190 : Cond.methodLink RX8 190 yX8_bits ∈ zk_tb := zk_in 1066 (by decide +kernel) rfl
theorem lkL_130 : Cond.methodLink RL 130 yX8_talks ∈ zk_tb := zk_in 1069 (by decide +kernel) rfl
theorem lkX8_193 : Cond.methodLink RX8 193 yX8_hangsBy ∈ zk_tb := zk_in 1073 (by decide +kernel) rfl
theorem lkL_134 : Cond.methodLink RL 134 yX8_sets ∈ zk_tb := zk_in 1077 (by decide +kernel) rfl
theorem lkX8_200 : Cond.methodLink RX8 200 yX8_wrongSets ∈ zk_tb := zk_in 1081 (by decide +kernel) rfl
theorem lkX8_197 : Cond.methodLink RX8 197 yX8_isSo ∈ zk_tb := zk_in 1085 (by decide +kernel) rfl
theorem lkX8_203 : Cond.methodLink RX8 203 yX8_manyBy ∈ zk_tb := zk_in 1089 (by decide +kernel) rfl
theorem lkL_138 : Cond.methodLink RL 138 yX8_sure ∈ zk_tb := zk_in 1093 (by decide +kernel) rfl
theorem lkL_142 : Cond.methodLink RL 142 yX8_ask ∈ zk_tb := zk_in 1097 (by decide +kernel) rfl
theorem lkL_146 : Cond.methodLink RL 146 yX8_who ∈ zk_tb := zk_in 1101 (by decide +kernel) rfl
theorem lkX8_213 : Cond.methodLink RX8 213 yX8_wrongPairs ∈ zk_tb := zk_in 1105 (by decide +kernel) rfl
theorem lkX8_210 : Cond.methodLink RX8 210 yX8_saidSo ∈ zk_tb := zk_in 1109 (by decide +kernel) rfl
theorem lkL_150 : Cond.methodLink RL 150 yX8_kinds ∈ zk_tb := zk_in 1113 (by decide +kernel) rfl
theorem lkX8_216 : Cond.methodLink RX8 216 yX8_kindsBy ∈ zk_tb := zk_in 1117 (by decide +kernel) rfl
theorem lkL_154 : Cond.methodLink RL 154 yX8_test ∈ zk_tb := zk_in 1121 (by decide +kernel) rfl
theorem lkL_158 : Cond.methodLink RL 158 yX8_leaks ∈ zk_tb := zk_in 1125 (by decide +kernel) rfl
theorem lkL_162 : Cond.methodLink RL 162 yX8_evening ∈ zk_tb := zk_in 1129 (by decide +kernel) rfl
theorem lkX8_226 : Cond.methodLink RX8 226 yX8_lastTurn ∈ zk_tb := zk_in 1133 (by decide +kernel) rfl
theorem lkX8_219 : Cond.methodLink RX8 219 yX8_isTurn ∈ zk_tb := zk_in 1137 (by decide +kernel) rfl
theorem lkX8_222 : Cond.methodLink RX8 222 yX8_eveningBy ∈ zk_tb := zk_in 1141 (by decide +kernel) rfl
theorem lkL_166 : Cond.methodLink RL 166 yX8_odds ∈ zk_tb := zk_in 1145 (by decide +kernel) rfl
theorem lkX8_231 : Cond.methodLink RX8 231 yX8_partOf ∈ zk_tb := zk_in 1149 (by decide +kernel) rfl
theorem lkX8_235 : Cond.methodLink RX8 235 yX8_whole ∈ zk_tb := zk_in 1153 (by decide +kernel) rfl
theorem lkX8_239 : Cond.methodLink RX8 239 yX8_tellsPart ∈ zk_tb := zk_in 1156 (by decide +kernel) rfl
theorem lkL_170 : Cond.methodLink RL 170 yX8_mid ∈ zk_tb := zk_in 1160 (by decide +kernel) rfl
theorem lkL_174 : Cond.methodLink RL 174 yX8_lots ∈ zk_tb := zk_in 1164 (by decide +kernel) rfl
theorem lkL_178 : Cond.methodLink RL 178 yX8_asked ∈ zk_tb := zk_in 1174 (by decide +kernel) rfl
theorem lkL_183 : Cond.methodLink RL 183 yX8_upper ∈ zk_tb := zk_in 1178 (by decide +kernel) rfl
theorem lkL_187 : Cond.methodLink RL 187 yX8_lower ∈ zk_tb := zk_in 1182 (by decide +kernel) rfl
theorem lkL_191 : Cond.methodLink RL 191 yX8_count ∈ zk_tb := zk_in 1186 (by decide +kernel) rfl
theorem lkX8_254 : Cond.methodLink RX8 254 yX8_kindMany ∈ zk_tb := zk_in 1190 (by decide +kernel) rfl
theorem lkX8_257 : Cond.methodLink RX8 257 yX8_thereOf ∈ zk_tb := zk_in 1194 (by decide +kernel) rfl
theorem lkL_195 : Cond.methodLink RL 195 yX8_finding ∈ zk_tb := zk_in 1197 (by decide +kernel) rfl
theorem lkL_199 : Cond.methodLink RL 199 yX8_findings ∈ zk_tb := zk_in 1201 (by decide +kernel) rfl
theorem lkL_203 : Cond.methodLink RL 203 yX8_digest ∈ zk_tb := zk_in 1205 (by decide +kernel) rfl
theorem lkX8_264 : Cond.methodLink RX8 264 yX8_count ∈ zk_tb := zk_in 1211 (by decide +kernel) rfl
theorem lkX5_52 : ∀ s, zk_Nst s → va_Nw (.methodLinkNest RX5 52 yX7_within "ClubSmoke") s := fun s h => h.1
theorem lkX4_31 : ∀ s, zk_Nst s → va_Nw (.methodLinkNest RX4 31 yX7_within "ClubSmoke") s := fun s h => h.2
theorem acN : Cond.native arraycopyName ∈ zk_tb := zk_in 286 (by decide +kernel) rfl
theorem acS : Cond.static arraycopyName ∈ zk_tb := zk_in 285 (by decide +kernel) rfl
theorem acI : Cond.initialized "java/lang/System" ∈ zk_tb := zk_in 65 (by decide +kernel) rfl
theorem inX0 : ∀ w ∈ u_ws RX0 TX0 10, w ∈ zk_tb := by decide +kernel
theorem inX1 : ∀ w ∈ u_ws RX1 TX1 2, w ∈ zk_tb := by decide +kernel
theorem inX4 : ∀ w ∈ u_ws RX4 TX4 2, w ∈ zk_tb := by decide +kernel
theorem inX6 : ∀ w ∈ u_ws RX6 TX6 1, w ∈ zk_tb := by decide +kernel
theorem inX7 : ∀ w ∈ u_ws RX7 TX7 13, w ∈ zk_tb := by decide +kernel
theorem inX8 : ∀ w ∈ u_ws RX8 TX8 28, w ∈ zk_tb := by decide +kernel
theorem flX4_7 : zk_Fl RX4 7 2 0 (.array .int) true := ⟨RX4, TX4, 2, tyX4, rfl, by decide, zk_in 88 (by decide +kernel) rfl, inX4, tyX4_ok, nmX4, rfl, rfl⟩
theorem flX7_101 : zk_Fl RX7 101 2 0 (.array .int) true := ⟨RX4, TX4, 2, tyX4, rfl, by decide, zk_in 89 (by decide +kernel) rfl, inX4, tyX4_ok, nmX4, rfl, rfl⟩
theorem flX4_13 : zk_Fl RX4 13 2 1 .int false := ⟨RX4, TX4, 2, tyX4, rfl, by decide, zk_in 90 (by decide +kernel) rfl, inX4, tyX4_ok, nmX4, rfl, rfl⟩
theorem flX3_7 : zk_Fl RX3 7 2 1 .int false := ⟨RX4, TX4, 2, tyX4, rfl, by decide, zk_in 91 (by decide +kernel) rfl, inX4, tyX4_ok, nmX4, rfl, rfl⟩
theorem flX5_11 : zk_Fl RX5 11 2 1 .int false := ⟨RX4, TX4, 2, tyX4, rfl, by decide, zk_in 92 (by decide +kernel) rfl, inX4, tyX4_ok, nmX4, rfl, rfl⟩
theorem flX7_96 : zk_Fl RX7 96 2 1 .int false := ⟨RX4, TX4, 2, tyX4, rfl, by decide, zk_in 93 (by decide +kernel) rfl, inX4, tyX4_ok, nmX4, rfl, rfl⟩
theorem flX0_9 : zk_Fl RX0 9 0 0 (.array .int) true := ⟨RX0, TX0, 10, tyX0, rfl, by decide, zk_in 106 (by decide +kernel) rfl, inX0, tyX0_ok, nmX0, rfl, rfl⟩
theorem flX7_140 : zk_Fl RX7 140 0 0 (.array .int) true := ⟨RX0, TX0, 10, tyX0, rfl, by decide, zk_in 107 (by decide +kernel) rfl, inX0, tyX0_ok, nmX0, rfl, rfl⟩
theorem flX0_15 : zk_Fl RX0 15 0 1 (.array .int) true := ⟨RX0, TX0, 10, tyX0, rfl, by decide, zk_in 108 (by decide +kernel) rfl, inX0, tyX0_ok, nmX0, rfl, rfl⟩
theorem flX7_333 : zk_Fl RX7 333 0 1 (.array .int) true := ⟨RX0, TX0, 10, tyX0, rfl, by decide, zk_in 109 (by decide +kernel) rfl, inX0, tyX0_ok, nmX0, rfl, rfl⟩
theorem flX0_18 : zk_Fl RX0 18 0 2 (.array .int) true := ⟨RX0, TX0, 10, tyX0, rfl, by decide, zk_in 110 (by decide +kernel) rfl, inX0, tyX0_ok, nmX0, rfl, rfl⟩
theorem flX7_336 : zk_Fl RX7 336 0 2 (.array .int) true := ⟨RX0, TX0, 10, tyX0, rfl, by decide, zk_in 111 (by decide +kernel) rfl, inX0, tyX0_ok, nmX0, rfl, rfl⟩
theorem flX0_21 : zk_Fl RX0 21 0 3 (.array .int) true := ⟨RX0, TX0, 10, tyX0, rfl, by decide, zk_in 112 (by decide +kernel) rfl, inX0, tyX0_ok, nmX0, rfl, rfl⟩
theorem flX6_16 : zk_Fl RX6 16 0 3 (.array .int) true := ⟨RX0, TX0, 10, tyX0, rfl, by decide, zk_in 113 (by decide +kernel) rfl, inX0, tyX0_ok, nmX0, rfl, rfl⟩
theorem flX7_164 : zk_Fl RX7 164 0 3 (.array .int) true := ⟨RX0, TX0, 10, tyX0, rfl, by decide, zk_in 114 (by decide +kernel) rfl, inX0, tyX0_ok, nmX0, rfl, rfl⟩
theorem flX5_34 : zk_Fl RX5 34 0 4 .int false := ⟨RX0, TX0, 10, tyX0, rfl, by decide, zk_in 115 (by decide +kernel) rfl, inX0, tyX0_ok, nmX0, rfl, rfl⟩
theorem flX0_87 : zk_Fl RX0 87 0 4 .int false := ⟨RX0, TX0, 10, tyX0, rfl, by decide, zk_in 116 (by decide +kernel) rfl, inX0, tyX0_ok, nmX0, rfl, rfl⟩
theorem flX7_201 : zk_Fl RX7 201 0 4 .int false := ⟨RX0, TX0, 10, tyX0, rfl, by decide, zk_in 117 (by decide +kernel) rfl, inX0, tyX0_ok, nmX0, rfl, rfl⟩
theorem flX0_28 : zk_Fl RX0 28 0 5 .int false := ⟨RX0, TX0, 10, tyX0, rfl, by decide, zk_in 118 (by decide +kernel) rfl, inX0, tyX0_ok, nmX0, rfl, rfl⟩
theorem flX5_37 : zk_Fl RX5 37 0 5 .int false := ⟨RX0, TX0, 10, tyX0, rfl, by decide, zk_in 119 (by decide +kernel) rfl, inX0, tyX0_ok, nmX0, rfl, rfl⟩
theorem flX6_60 : zk_Fl RX6 60 0 5 .int false := ⟨RX0, TX0, 10, tyX0, rfl, by decide, zk_in 120 (by decide +kernel) rfl, inX0, tyX0_ok, nmX0, rfl, rfl⟩
theorem flX7_204 : zk_Fl RX7 204 0 5 .int false := ⟨RX0, TX0, 10, tyX0, rfl, by decide, zk_in 121 (by decide +kernel) rfl, inX0, tyX0_ok, nmX0, rfl, rfl⟩
theorem flX0_24 : zk_Fl RX0 24 0 6 .int false := ⟨RX0, TX0, 10, tyX0, rfl, by decide, zk_in 122 (by decide +kernel) rfl, inX0, tyX0_ok, nmX0, rfl, rfl⟩
theorem flX5_29 : zk_Fl RX5 29 0 6 .int false := ⟨RX0, TX0, 10, tyX0, rfl, by decide, zk_in 123 (by decide +kernel) rfl, inX0, tyX0_ok, nmX0, rfl, rfl⟩
theorem flX6_36 : zk_Fl RX6 36 0 6 .int false := ⟨RX0, TX0, 10, tyX0, rfl, by decide, zk_in 124 (by decide +kernel) rfl, inX0, tyX0_ok, nmX0, rfl, rfl⟩
theorem flX7_123 : zk_Fl RX7 123 0 6 .int false := ⟨RX0, TX0, 10, tyX0, rfl, by decide, zk_in 125 (by decide +kernel) rfl, inX0, tyX0_ok, nmX0, rfl, rfl⟩
theorem flX0_35 : zk_Fl RX0 35 0 7 .int false := ⟨RX0, TX0, 10, tyX0, rfl, by decide, zk_in 126 (by decide +kernel) rfl, inX0, tyX0_ok, nmX0, rfl, rfl⟩
theorem flX7_292 : zk_Fl RX7 292 0 7 .int false := ⟨RX0, TX0, 10, tyX0, rfl, by decide, zk_in 127 (by decide +kernel) rfl, inX0, tyX0_ok, nmX0, rfl, rfl⟩
theorem flX0_38 : zk_Fl RX0 38 0 8 .int false := ⟨RX0, TX0, 10, tyX0, rfl, by decide, zk_in 128 (by decide +kernel) rfl, inX0, tyX0_ok, nmX0, rfl, rfl⟩
theorem flX7_295 : zk_Fl RX7 295 0 8 .int false := ⟨RX0, TX0, 10, tyX0, rfl, by decide, zk_in 129 (by decide +kernel) rfl, inX0, tyX0_ok, nmX0, rfl, rfl⟩
theorem flX0_41 : zk_Fl RX0 41 0 9 .int false := ⟨RX0, TX0, 10, tyX0, rfl, by decide, zk_in 130 (by decide +kernel) rfl, inX0, tyX0_ok, nmX0, rfl, rfl⟩
theorem flX7_298 : zk_Fl RX7 298 0 9 .int false := ⟨RX0, TX0, 10, tyX0, rfl, by decide, zk_in 131 (by decide +kernel) rfl, inX0, tyX0_ok, nmX0, rfl, rfl⟩
theorem flX1_9 : zk_Fl RX1 9 1 0 (.array .int) true := ⟨RX1, TX1, 2, tyX1, rfl, by decide, zk_in 159 (by decide +kernel) rfl, inX1, tyX1_ok, nmX1, rfl, rfl⟩
theorem flX1_13 : zk_Fl RX1 13 1 1 .int false := ⟨RX1, TX1, 2, tyX1, rfl, by decide, zk_in 160 (by decide +kernel) rfl, inX1, tyX1_ok, nmX1, rfl, rfl⟩
theorem flX7_34 : zk_Fl RX7 34 1 1 .int false := ⟨RX1, TX1, 2, tyX1, rfl, by decide, zk_in 161 (by decide +kernel) rfl, inX1, tyX1_ok, nmX1, rfl, rfl⟩
theorem flX6_11 : zk_Fl RX6 11 3 0 (.array (.array .int)) true := ⟨RX6, TX6, 1, tyX6, rfl, by decide, zk_in 176 (by decide +kernel) rfl, inX6, tyX6_ok, nmX6, rfl, rfl⟩
theorem flX7_13 : zk_Fl RX7 13 4 0 (.array (.object "ClubSmoke$Row")) true := ⟨RX7, TX7, 13, tyX7, rfl, by decide, zk_in 180 (by decide +kernel) rfl, inX7, tyX7_ok, nmX7, rfl, rfl⟩
theorem flX7_17 : zk_Fl RX7 17 4 1 (.array (.object "ClubSmoke$Row")) true := ⟨RX7, TX7, 13, tyX7, rfl, by decide, zk_in 181 (by decide +kernel) rfl, inX7, tyX7_ok, nmX7, rfl, rfl⟩
theorem flX7_23 : zk_Fl RX7 23 4 2 (.object "ClubSmoke$Club") true := ⟨RX7, TX7, 13, tyX7, rfl, by decide, zk_in 182 (by decide +kernel) rfl, inX7, tyX7_ok, nmX7, rfl, rfl⟩
theorem flX7_30 : zk_Fl RX7 30 4 3 (.object "ClubSmoke$Deeds") true := ⟨RX7, TX7, 13, tyX7, rfl, by decide, zk_in 183 (by decide +kernel) rfl, inX7, tyX7_ok, nmX7, rfl, rfl⟩
theorem flX7_38 : zk_Fl RX7 38 4 4 (.array (.object "ClubSmoke$Deeds")) true := ⟨RX7, TX7, 13, tyX7, rfl, by decide, zk_in 184 (by decide +kernel) rfl, inX7, tyX7_ok, nmX7, rfl, rfl⟩
theorem flX7_45 : zk_Fl RX7 45 4 5 (.object "ClubSmoke$Turns") true := ⟨RX7, TX7, 13, tyX7, rfl, by decide, zk_in 185 (by decide +kernel) rfl, inX7, tyX7_ok, nmX7, rfl, rfl⟩
theorem flX7_49 : zk_Fl RX7 49 4 6 (.array .int) true := ⟨RX7, TX7, 13, tyX7, rfl, by decide, zk_in 186 (by decide +kernel) rfl, inX7, tyX7_ok, nmX7, rfl, rfl⟩
theorem flX7_53 : zk_Fl RX7 53 4 7 (.array .long) true := ⟨RX7, TX7, 13, tyX7, rfl, by decide, zk_in 187 (by decide +kernel) rfl, inX7, tyX7_ok, nmX7, rfl, rfl⟩
theorem flX7_57 : zk_Fl RX7 57 4 8 (.array .int) true := ⟨RX7, TX7, 13, tyX7, rfl, by decide, zk_in 188 (by decide +kernel) rfl, inX7, tyX7_ok, nmX7, rfl, rfl⟩
theorem flX7_311 : zk_Fl RX7 311 4 9 .int false := ⟨RX7, TX7, 13, tyX7, rfl, by decide, zk_in 189 (by decide +kernel) rfl, inX7, tyX7_ok, nmX7, rfl, rfl⟩
theorem flX7_82 : zk_Fl RX7 82 4 10 .int false := ⟨RX7, TX7, 13, tyX7, rfl, by decide, zk_in 190 (by decide +kernel) rfl, inX7, tyX7_ok, nmX7, rfl, rfl⟩
theorem flX7_289 : zk_Fl RX7 289 4 11 .long false := ⟨RX7, TX7, 13, tyX7, rfl, by decide, zk_in 191 (by decide +kernel) rfl, inX7, tyX7_ok, nmX7, rfl, rfl⟩
theorem flX7_60 : zk_Fl RX7 60 4 12 .long false := ⟨RX7, TX7, 13, tyX7, rfl, by decide, zk_in 192 (by decide +kernel) rfl, inX7, tyX7_ok, nmX7, rfl, rfl⟩
theorem flX8_7 : zk_Fl RX8 7 5 0 (.array .int) true := ⟨RX8, TX8, 28, tyX8, rfl, by decide, zk_in 765 (by decide +kernel) rfl, inX8, tyX8_ok, nmX8, rfl, rfl⟩
theorem flX8_13 : zk_Fl RX8 13 5 1 (.array .int) true := ⟨RX8, TX8, 28, tyX8, rfl, by decide, zk_in 766 (by decide +kernel) rfl, inX8, tyX8_ok, nmX8, rfl, rfl⟩
theorem flX8_16 : zk_Fl RX8 16 5 2 (.array .int) true := ⟨RX8, TX8, 28, tyX8, rfl, by decide, zk_in 767 (by decide +kernel) rfl, inX8, tyX8_ok, nmX8, rfl, rfl⟩
theorem flX8_19 : zk_Fl RX8 19 5 3 (.array .int) true := ⟨RX8, TX8, 28, tyX8, rfl, by decide, zk_in 768 (by decide +kernel) rfl, inX8, tyX8_ok, nmX8, rfl, rfl⟩
theorem flX8_56 : zk_Fl RX8 56 5 4 .int false := ⟨RX8, TX8, 28, tyX8, rfl, by decide, zk_in 769 (by decide +kernel) rfl, inX8, tyX8_ok, nmX8, rfl, rfl⟩
theorem flX8_22 : zk_Fl RX8 22 5 5 (.array .int) true := ⟨RX8, TX8, 28, tyX8, rfl, by decide, zk_in 770 (by decide +kernel) rfl, inX8, tyX8_ok, nmX8, rfl, rfl⟩
theorem flX8_60 : zk_Fl RX8 60 5 6 .int false := ⟨RX8, TX8, 28, tyX8, rfl, by decide, zk_in 771 (by decide +kernel) rfl, inX8, tyX8_ok, nmX8, rfl, rfl⟩
theorem flX8_207 : zk_Fl RX8 207 5 7 .long false := ⟨RX8, TX8, 28, tyX8, rfl, by decide, zk_in 772 (by decide +kernel) rfl, inX8, tyX8_ok, nmX8, rfl, rfl⟩
theorem flX8_25 : zk_Fl RX8 25 5 8 .long false := ⟨RX8, TX8, 28, tyX8, rfl, by decide, zk_in 773 (by decide +kernel) rfl, inX8, tyX8_ok, nmX8, rfl, rfl⟩
theorem flX8_93 : zk_Fl RX8 93 5 9 .int false := ⟨RX8, TX8, 28, tyX8, rfl, by decide, zk_in 774 (by decide +kernel) rfl, inX8, tyX8_ok, nmX8, rfl, rfl⟩
theorem flX8_90 : zk_Fl RX8 90 5 10 .int false := ⟨RX8, TX8, 28, tyX8, rfl, by decide, zk_in 775 (by decide +kernel) rfl, inX8, tyX8_ok, nmX8, rfl, rfl⟩
theorem flX8_87 : zk_Fl RX8 87 5 11 .int false := ⟨RX8, TX8, 28, tyX8, rfl, by decide, zk_in 776 (by decide +kernel) rfl, inX8, tyX8_ok, nmX8, rfl, rfl⟩
theorem flX8_102 : zk_Fl RX8 102 5 12 .int false := ⟨RX8, TX8, 28, tyX8, rfl, by decide, zk_in 777 (by decide +kernel) rfl, inX8, tyX8_ok, nmX8, rfl, rfl⟩
theorem flX8_105 : zk_Fl RX8 105 5 13 .int false := ⟨RX8, TX8, 28, tyX8, rfl, by decide, zk_in 778 (by decide +kernel) rfl, inX8, tyX8_ok, nmX8, rfl, rfl⟩
theorem flX8_111 : zk_Fl RX8 111 5 14 .int false := ⟨RX8, TX8, 28, tyX8, rfl, by decide, zk_in 779 (by decide +kernel) rfl, inX8, tyX8_ok, nmX8, rfl, rfl⟩
theorem flX8_29 : zk_Fl RX8 29 5 15 (.array .int) true := ⟨RX8, TX8, 28, tyX8, rfl, by decide, zk_in 780 (by decide +kernel) rfl, inX8, tyX8_ok, nmX8, rfl, rfl⟩
theorem flX8_127 : zk_Fl RX8 127 5 16 .int false := ⟨RX8, TX8, 28, tyX8, rfl, by decide, zk_in 781 (by decide +kernel) rfl, inX8, tyX8_ok, nmX8, rfl, rfl⟩
theorem flX8_70 : zk_Fl RX8 70 5 17 .int false := ⟨RX8, TX8, 28, tyX8, rfl, by decide, zk_in 782 (by decide +kernel) rfl, inX8, tyX8_ok, nmX8, rfl, rfl⟩
theorem flX8_63 : zk_Fl RX8 63 5 18 .int false := ⟨RX8, TX8, 28, tyX8, rfl, by decide, zk_in 783 (by decide +kernel) rfl, inX8, tyX8_ok, nmX8, rfl, rfl⟩
theorem flX8_32 : zk_Fl RX8 32 5 19 (.array .int) true := ⟨RX8, TX8, 28, tyX8, rfl, by decide, zk_in 784 (by decide +kernel) rfl, inX8, tyX8_ok, nmX8, rfl, rfl⟩
theorem flX8_35 : zk_Fl RX8 35 5 20 (.array .int) true := ⟨RX8, TX8, 28, tyX8, rfl, by decide, zk_in 785 (by decide +kernel) rfl, inX8, tyX8_ok, nmX8, rfl, rfl⟩
theorem flX8_38 : zk_Fl RX8 38 5 21 (.array .int) true := ⟨RX8, TX8, 28, tyX8, rfl, by decide, zk_in 786 (by decide +kernel) rfl, inX8, tyX8_ok, nmX8, rfl, rfl⟩
theorem flX8_41 : zk_Fl RX8 41 5 22 (.array .int) true := ⟨RX8, TX8, 28, tyX8, rfl, by decide, zk_in 787 (by decide +kernel) rfl, inX8, tyX8_ok, nmX8, rfl, rfl⟩
theorem flX8_44 : zk_Fl RX8 44 5 23 (.array .int) true := ⟨RX8, TX8, 28, tyX8, rfl, by decide, zk_in 788 (by decide +kernel) rfl, inX8, tyX8_ok, nmX8, rfl, rfl⟩
theorem flX8_130 : zk_Fl RX8 130 5 24 .int false := ⟨RX8, TX8, 28, tyX8, rfl, by decide, zk_in 789 (by decide +kernel) rfl, inX8, tyX8_ok, nmX8, rfl, rfl⟩
theorem flX8_47 : zk_Fl RX8 47 5 25 (.array .int) true := ⟨RX8, TX8, 28, tyX8, rfl, by decide, zk_in 790 (by decide +kernel) rfl, inX8, tyX8_ok, nmX8, rfl, rfl⟩
theorem flX8_50 : zk_Fl RX8 50 5 26 (.array .int) true := ⟨RX8, TX8, 28, tyX8, rfl, by decide, zk_in 791 (by decide +kernel) rfl, inX8, tyX8_ok, nmX8, rfl, rfl⟩
theorem flX8_53 : zk_Fl RX8 53 5 27 (.array .int) true := ⟨RX8, TX8, 28, tyX8, rfl, by decide, zk_in 792 (by decide +kernel) rfl, inX8, tyX8_ok, nmX8, rfl, rfl⟩
theorem kcJ6_265 : Cond.constant RJ6 265 (1431655765 : Int32) ∈ zk_tb := zk_in 549 (by decide +kernel) rfl
theorem kcJ6_266 : Cond.constant RJ6 266 (858993459 : Int32) ∈ zk_tb := zk_in 550 (by decide +kernel) rfl
theorem kcJ6_267 : Cond.constant RJ6 267 (252645135 : Int32) ∈ zk_tb := zk_in 551 (by decide +kernel) rfl
theorem kcX7_372 : Cond.constantLong RX7 372 (12 : Int64) ∈ zk_tb := zk_in 695 (by decide +kernel) rfl
theorem kcX7_281 : Cond.constant RX7 281 (2147483646 : Int32) ∈ zk_tb := zk_in 704 (by decide +kernel) rfl
theorem kcX7_282 : Cond.constantLong RX7 282 (48271 : Int64) ∈ zk_tb := zk_in 705 (by decide +kernel) rfl
theorem kcX7_284 : Cond.constantLong RX7 284 (2147483647 : Int64) ∈ zk_tb := zk_in 706 (by decide +kernel) rfl
theorem kcX7_314 : Cond.constantLong RX7 314 (17 : Int64) ∈ zk_tb := zk_in 753 (by decide +kernel) rfl
theorem kcX7_316 : Cond.constantLong RX7 316 (31 : Int64) ∈ zk_tb := zk_in 754 (by decide +kernel) rfl
theorem kcX8_229 : Cond.constantLong RX8 229 (12 : Int64) ∈ zk_tb := zk_in 1152 (by decide +kernel) rfl
theorem kcX8_243 : Cond.constant RX8 243 (2147483646 : Int32) ∈ zk_tb := zk_in 1168 (by decide +kernel) rfl
theorem kcX8_244 : Cond.constantLong RX8 244 (48271 : Int64) ∈ zk_tb := zk_in 1169 (by decide +kernel) rfl
theorem kcX8_246 : Cond.constantLong RX8 246 (2147483647 : Int64) ∈ zk_tb := zk_in 1170 (by decide +kernel) rfl
theorem kcX8_248 : Cond.constantLong RX8 248 (8 : Int64) ∈ zk_tb := zk_in 1171 (by decide +kernel) rfl
theorem kcX8_250 : Cond.constantLong RX8 250 (64 : Int64) ∈ zk_tb := zk_in 1172 (by decide +kernel) rfl
theorem kcX8_252 : Cond.constantLong RX8 252 (100 : Int64) ∈ zk_tb := zk_in 1173 (by decide +kernel) rfl
theorem kcX8_260 : Cond.constantLong RX8 260 (17 : Int64) ∈ zk_tb := zk_in 1209 (by decide +kernel) rfl
theorem kcX8_262 : Cond.constantLong RX8 262 (31 : Int64) ∈ zk_tb := zk_in 1210 (by decide +kernel) rfl
end
section
theorem dX0_init_0 : decode cX0_init 0 = .ok (.aload_n 0, 1) := by decide +kernel
theorem dX0_init_1 : decode cX0_init 1 = .ok (.invokespecial 3, 3) := by decide +kernel
theorem dX0_init_4 : decode cX0_init 4 = .ok (.aload_n 0, 1) := by decide +kernel
theorem dX0_init_5 : decode cX0_init 5 = .ok (.bipush 6, 2) := by decide +kernel
theorem dX0_init_7 : decode cX0_init 7 = .ok (.newarray .int, 2) := by decide +kernel
theorem dX0_init_9 : decode cX0_init 9 = .ok (.putfield 9, 3) := by decide +kernel
theorem dX0_init_12 : decode cX0_init 12 = .ok (.aload_n 0, 1) := by decide +kernel
theorem dX0_init_13 : decode cX0_init 13 = .ok (.bipush 6, 2) := by decide +kernel
theorem dX0_init_15 : decode cX0_init 15 = .ok (.newarray .int, 2) := by decide +kernel
theorem dX0_init_17 : decode cX0_init 17 = .ok (.putfield 15, 3) := by decide +kernel
theorem dX0_init_20 : decode cX0_init 20 = .ok (.aload_n 0, 1) := by decide +kernel
theorem dX0_init_21 : decode cX0_init 21 = .ok (.bipush 6, 2) := by decide +kernel
theorem dX0_init_23 : decode cX0_init 23 = .ok (.newarray .int, 2) := by decide +kernel
theorem dX0_init_25 : decode cX0_init 25 = .ok (.putfield 18, 3) := by decide +kernel
theorem dX0_init_28 : decode cX0_init 28 = .ok (.aload_n 0, 1) := by decide +kernel
theorem dX0_init_29 : decode cX0_init 29 = .ok (.bipush 8, 2) := by decide +kernel
theorem dX0_init_31 : decode cX0_init 31 = .ok (.newarray .int, 2) := by decide +kernel
theorem dX0_init_33 : decode cX0_init 33 = .ok (.putfield 21, 3) := by decide +kernel
theorem dX0_init_36 : decode cX0_init 36 = .ok (.return_, 1) := by decide +kernel
theorem dX0_hasMember_0 : decode cX0_hasMember 0 = .ok (.iload_n 1, 1) := by decide +kernel
theorem dX0_hasMember_1 : decode cX0_hasMember 1 = .ok (.ifCond .lt 15, 3) := by decide +kernel
theorem dX0_hasMember_4 : decode cX0_hasMember 4 = .ok (.iload_n 1, 1) := by decide +kernel
theorem dX0_hasMember_5 : decode cX0_hasMember 5 = .ok (.aload_n 0, 1) := by decide +kernel
theorem dX0_hasMember_6 : decode cX0_hasMember 6 = .ok (.getfield 24, 3) := by decide +kernel
theorem dX0_hasMember_9 : decode cX0_hasMember 9 = .ok (.if_icmp .ge 7, 3) := by decide +kernel
theorem dX0_hasMember_12 : decode cX0_hasMember 12 = .ok (.iconst 1, 1) := by decide +kernel
theorem dX0_hasMember_13 : decode cX0_hasMember 13 = .ok (.goto 4, 3) := by decide +kernel
theorem dX0_hasMember_16 : decode cX0_hasMember 16 = .ok (.iconst 0, 1) := by decide +kernel
theorem dX0_hasMember_17 : decode cX0_hasMember 17 = .ok (.ireturn, 1) := by decide +kernel
theorem dX0_hasCell_0 : decode cX0_hasCell 0 = .ok (.iload_n 1, 1) := by decide +kernel
theorem dX0_hasCell_1 : decode cX0_hasCell 1 = .ok (.ifCond .lt 15, 3) := by decide +kernel
theorem dX0_hasCell_4 : decode cX0_hasCell 4 = .ok (.iload_n 1, 1) := by decide +kernel
theorem dX0_hasCell_5 : decode cX0_hasCell 5 = .ok (.aload_n 0, 1) := by decide +kernel
theorem dX0_hasCell_6 : decode cX0_hasCell 6 = .ok (.getfield 28, 3) := by decide +kernel
theorem dX0_hasCell_9 : decode cX0_hasCell 9 = .ok (.if_icmp .ge 7, 3) := by decide +kernel
theorem dX0_hasCell_12 : decode cX0_hasCell 12 = .ok (.iconst 1, 1) := by decide +kernel
theorem dX0_hasCell_13 : decode cX0_hasCell 13 = .ok (.goto 4, 3) := by decide +kernel
theorem dX0_hasCell_16 : decode cX0_hasCell 16 = .ok (.iconst 0, 1) := by decide +kernel
theorem dX0_hasCell_17 : decode cX0_hasCell 17 = .ok (.ireturn, 1) := by decide +kernel
theorem dX0_join_0 : decode cX0_join 0 = .ok (.aload_n 0, 1) := by decide +kernel
theorem dX0_join_1 : decode cX0_join 1 = .ok (.getfield 24, 3) := by decide +kernel
theorem dX0_join_4 : decode cX0_join 4 = .ok (.bipush 6, 2) := by decide +kernel
theorem dX0_join_6 : decode cX0_join 6 = .ok (.if_icmp .ge 23, 3) := by decide +kernel
theorem dX0_join_9 : decode cX0_join 9 = .ok (.aload_n 0, 1) := by decide +kernel
theorem dX0_join_10 : decode cX0_join 10 = .ok (.getfield 9, 3) := by decide +kernel
theorem dX0_join_13 : decode cX0_join 13 = .ok (.aload_n 0, 1) := by decide +kernel
theorem dX0_join_14 : decode cX0_join 14 = .ok (.getfield 24, 3) := by decide +kernel
theorem dX0_join_17 : decode cX0_join 17 = .ok (.iload_n 1, 1) := by decide +kernel
theorem dX0_join_18 : decode cX0_join 18 = .ok (.iastore, 1) := by decide +kernel
theorem dX0_join_19 : decode cX0_join 19 = .ok (.aload_n 0, 1) := by decide +kernel
theorem dX0_join_20 : decode cX0_join 20 = .ok (.dup, 1) := by decide +kernel
theorem dX0_join_21 : decode cX0_join 21 = .ok (.getfield 24, 3) := by decide +kernel
theorem dX0_join_24 : decode cX0_join 24 = .ok (.iconst 1, 1) := by decide +kernel
theorem dX0_join_25 : decode cX0_join 25 = .ok (.iadd, 1) := by decide +kernel
theorem dX0_join_26 : decode cX0_join 26 = .ok (.putfield 24, 3) := by decide +kernel
theorem dX0_join_29 : decode cX0_join 29 = .ok (.return_, 1) := by decide +kernel
theorem dX0_seat_0 : decode cX0_seat 0 = .ok (.aload_n 0, 1) := by decide +kernel
theorem dX0_seat_1 : decode cX0_seat 1 = .ok (.getfield 24, 3) := by decide +kernel
theorem dX0_seat_4 : decode cX0_seat 4 = .ok (.ifCond .le 23, 3) := by decide +kernel
theorem dX0_seat_7 : decode cX0_seat 7 = .ok (.aload_n 0, 1) := by decide +kernel
theorem dX0_seat_8 : decode cX0_seat 8 = .ok (.iload_n 1, 1) := by decide +kernel
theorem dX0_seat_9 : decode cX0_seat 9 = .ok (.invokevirtual 31, 3) := by decide +kernel
theorem dX0_seat_12 : decode cX0_seat 12 = .ok (.ifCond .eq 15, 3) := by decide +kernel
theorem dX0_seat_15 : decode cX0_seat 15 = .ok (.aload_n 0, 1) := by decide +kernel
theorem dX0_seat_16 : decode cX0_seat 16 = .ok (.getfield 15, 3) := by decide +kernel
theorem dX0_seat_19 : decode cX0_seat 19 = .ok (.aload_n 0, 1) := by decide +kernel
theorem dX0_seat_20 : decode cX0_seat 20 = .ok (.getfield 24, 3) := by decide +kernel
theorem dX0_seat_23 : decode cX0_seat 23 = .ok (.iconst 1, 1) := by decide +kernel
theorem dX0_seat_24 : decode cX0_seat 24 = .ok (.isub, 1) := by decide +kernel
theorem dX0_seat_25 : decode cX0_seat 25 = .ok (.iload_n 1, 1) := by decide +kernel
theorem dX0_seat_26 : decode cX0_seat 26 = .ok (.iastore, 1) := by decide +kernel
theorem dX0_seat_27 : decode cX0_seat 27 = .ok (.return_, 1) := by decide +kernel
theorem dX0_freshen_0 : decode cX0_freshen 0 = .ok (.aload_n 0, 1) := by decide +kernel
theorem dX0_freshen_1 : decode cX0_freshen 1 = .ok (.iconst 0, 1) := by decide +kernel
theorem dX0_freshen_2 : decode cX0_freshen 2 = .ok (.putfield 35, 3) := by decide +kernel
theorem dX0_freshen_5 : decode cX0_freshen 5 = .ok (.aload_n 0, 1) := by decide +kernel
theorem dX0_freshen_6 : decode cX0_freshen 6 = .ok (.iconst 0, 1) := by decide +kernel
theorem dX0_freshen_7 : decode cX0_freshen 7 = .ok (.putfield 38, 3) := by decide +kernel
theorem dX0_freshen_10 : decode cX0_freshen 10 = .ok (.aload_n 0, 1) := by decide +kernel
theorem dX0_freshen_11 : decode cX0_freshen 11 = .ok (.iconst 0, 1) := by decide +kernel
theorem dX0_freshen_12 : decode cX0_freshen 12 = .ok (.putfield 41, 3) := by decide +kernel
theorem dX0_freshen_15 : decode cX0_freshen 15 = .ok (.iconst 0, 1) := by decide +kernel
theorem dX0_freshen_16 : decode cX0_freshen 16 = .ok (.istore_n 1, 1) := by decide +kernel
theorem dX0_freshen_17 : decode cX0_freshen 17 = .ok (.iload_n 1, 1) := by decide +kernel
theorem dX0_freshen_18 : decode cX0_freshen 18 = .ok (.bipush 6, 2) := by decide +kernel
theorem dX0_freshen_20 : decode cX0_freshen 20 = .ok (.if_icmp .ge 16, 3) := by decide +kernel
theorem dX0_freshen_23 : decode cX0_freshen 23 = .ok (.aload_n 0, 1) := by decide +kernel
theorem dX0_freshen_24 : decode cX0_freshen 24 = .ok (.getfield 18, 3) := by decide +kernel
theorem dX0_freshen_27 : decode cX0_freshen 27 = .ok (.iload_n 1, 1) := by decide +kernel
theorem dX0_freshen_28 : decode cX0_freshen 28 = .ok (.iconst 0, 1) := by decide +kernel
theorem dX0_freshen_29 : decode cX0_freshen 29 = .ok (.iastore, 1) := by decide +kernel
theorem dX0_freshen_30 : decode cX0_freshen 30 = .ok (.iinc 1 1, 3) := by decide +kernel
theorem dX0_freshen_33 : decode cX0_freshen 33 = .ok (.goto (-16), 3) := by decide +kernel
theorem dX0_freshen_36 : decode cX0_freshen 36 = .ok (.iconst 0, 1) := by decide +kernel
theorem dX0_freshen_37 : decode cX0_freshen 37 = .ok (.istore_n 1, 1) := by decide +kernel
theorem dX0_freshen_38 : decode cX0_freshen 38 = .ok (.iload_n 1, 1) := by decide +kernel
theorem dX0_freshen_39 : decode cX0_freshen 39 = .ok (.bipush 8, 2) := by decide +kernel
theorem dX0_freshen_41 : decode cX0_freshen 41 = .ok (.if_icmp .ge 16, 3) := by decide +kernel
theorem dX0_freshen_44 : decode cX0_freshen 44 = .ok (.aload_n 0, 1) := by decide +kernel
theorem dX0_freshen_45 : decode cX0_freshen 45 = .ok (.getfield 21, 3) := by decide +kernel
theorem dX0_freshen_48 : decode cX0_freshen 48 = .ok (.iload_n 1, 1) := by decide +kernel
theorem dX0_freshen_49 : decode cX0_freshen 49 = .ok (.iconst 0, 1) := by decide +kernel
theorem dX0_freshen_50 : decode cX0_freshen 50 = .ok (.iastore, 1) := by decide +kernel
theorem dX0_freshen_51 : decode cX0_freshen 51 = .ok (.iinc 1 1, 3) := by decide +kernel
theorem dX0_freshen_54 : decode cX0_freshen 54 = .ok (.goto (-16), 3) := by decide +kernel
theorem dX0_freshen_57 : decode cX0_freshen 57 = .ok (.return_, 1) := by decide +kernel
theorem dX0_behind_0 : decode cX0_behind 0 = .ok (.iload_n 1, 1) := by decide +kernel
theorem dX0_behind_1 : decode cX0_behind 1 = .ok (.iconst 1, 1) := by decide +kernel
theorem dX0_behind_2 : decode cX0_behind 2 = .ok (.iadd, 1) := by decide +kernel
theorem dX0_behind_3 : decode cX0_behind 3 = .ok (.aload_n 0, 1) := by decide +kernel
theorem dX0_behind_4 : decode cX0_behind 4 = .ok (.getfield 28, 3) := by decide +kernel
theorem dX0_behind_7 : decode cX0_behind 7 = .ok (.if_icmp .ge 9, 3) := by decide +kernel
theorem dX0_behind_10 : decode cX0_behind 10 = .ok (.iload_n 1, 1) := by decide +kernel
theorem dX0_behind_11 : decode cX0_behind 11 = .ok (.iconst 1, 1) := by decide +kernel
theorem dX0_behind_12 : decode cX0_behind 12 = .ok (.iadd, 1) := by decide +kernel
theorem dX0_behind_13 : decode cX0_behind 13 = .ok (.goto 4, 3) := by decide +kernel
theorem dX0_behind_16 : decode cX0_behind 16 = .ok (.iconst 0, 1) := by decide +kernel
theorem dX0_behind_17 : decode cX0_behind 17 = .ok (.ireturn, 1) := by decide +kernel
theorem dX0_ahead_0 : decode cX0_ahead 0 = .ok (.iload_n 1, 1) := by decide +kernel
theorem dX0_ahead_1 : decode cX0_ahead 1 = .ok (.ifCond .le 9, 3) := by decide +kernel
theorem dX0_ahead_4 : decode cX0_ahead 4 = .ok (.iload_n 1, 1) := by decide +kernel
theorem dX0_ahead_5 : decode cX0_ahead 5 = .ok (.iconst 1, 1) := by decide +kernel
theorem dX0_ahead_6 : decode cX0_ahead 6 = .ok (.isub, 1) := by decide +kernel
theorem dX0_ahead_7 : decode cX0_ahead 7 = .ok (.goto 9, 3) := by decide +kernel
theorem dX0_ahead_10 : decode cX0_ahead 10 = .ok (.aload_n 0, 1) := by decide +kernel
theorem dX0_ahead_11 : decode cX0_ahead 11 = .ok (.getfield 28, 3) := by decide +kernel
theorem dX0_ahead_14 : decode cX0_ahead 14 = .ok (.iconst 1, 1) := by decide +kernel
theorem dX0_ahead_15 : decode cX0_ahead 15 = .ok (.isub, 1) := by decide +kernel
theorem dX0_ahead_16 : decode cX0_ahead 16 = .ok (.ireturn, 1) := by decide +kernel
theorem dX0_share_0 : decode cX0_share 0 = .ok (.aload_n 0, 1) := by decide +kernel
theorem dX0_share_1 : decode cX0_share 1 = .ok (.getfield 9, 3) := by decide +kernel
theorem dX0_share_4 : decode cX0_share 4 = .ok (.iload_n 1, 1) := by decide +kernel
theorem dX0_share_5 : decode cX0_share 5 = .ok (.iaload, 1) := by decide +kernel
theorem dX0_share_6 : decode cX0_share 6 = .ok (.iload_n 2, 1) := by decide +kernel
theorem dX0_share_7 : decode cX0_share 7 = .ok (.invokestatic 44, 3) := by decide +kernel
theorem dX0_share_10 : decode cX0_share 10 = .ok (.istore 4, 2) := by decide +kernel
theorem dX0_share_12 : decode cX0_share 12 = .ok (.aload_n 0, 1) := by decide +kernel
theorem dX0_share_13 : decode cX0_share 13 = .ok (.getfield 9, 3) := by decide +kernel
theorem dX0_share_16 : decode cX0_share 16 = .ok (.iload_n 1, 1) := by decide +kernel
theorem dX0_share_17 : decode cX0_share 17 = .ok (.iaload, 1) := by decide +kernel
theorem dX0_share_18 : decode cX0_share 18 = .ok (.iconst 1, 1) := by decide +kernel
theorem dX0_share_19 : decode cX0_share 19 = .ok (.invokestatic 50, 3) := by decide +kernel
theorem dX0_share_22 : decode cX0_share 22 = .ok (.ifCond .ne 20, 3) := by decide +kernel
theorem dX0_share_25 : decode cX0_share 25 = .ok (.iload_n 3, 1) := by decide +kernel
theorem dX0_share_26 : decode cX0_share 26 = .ok (.aload_n 0, 1) := by decide +kernel
theorem dX0_share_27 : decode cX0_share 27 = .ok (.getfield 15, 3) := by decide +kernel
theorem dX0_share_30 : decode cX0_share 30 = .ok (.iload_n 1, 1) := by decide +kernel
theorem dX0_share_31 : decode cX0_share 31 = .ok (.iaload, 1) := by decide +kernel
theorem dX0_share_32 : decode cX0_share 32 = .ok (.if_icmp .ne 8, 3) := by decide +kernel
theorem dX0_share_35 : decode cX0_share 35 = .ok (.iload 4, 2) := by decide +kernel
theorem dX0_share_37 : decode cX0_share 37 = .ok (.goto 4, 3) := by decide +kernel
theorem dX0_share_40 : decode cX0_share 40 = .ok (.iconst 0, 1) := by decide +kernel
theorem dX0_share_41 : decode cX0_share 41 = .ok (.ireturn, 1) := by decide +kernel
theorem dX0_share_42 : decode cX0_share 42 = .ok (.iload 4, 2) := by decide +kernel
theorem dX0_share_44 : decode cX0_share 44 = .ok (.iconst 2, 1) := by decide +kernel
theorem dX0_share_45 : decode cX0_share 45 = .ok (.idiv, 1) := by decide +kernel
theorem dX0_share_46 : decode cX0_share 46 = .ok (.istore 5, 2) := by decide +kernel
theorem dX0_share_48 : decode cX0_share 48 = .ok (.iload 4, 2) := by decide +kernel
theorem dX0_share_50 : decode cX0_share 50 = .ok (.iload 5, 2) := by decide +kernel
theorem dX0_share_52 : decode cX0_share 52 = .ok (.isub, 1) := by decide +kernel
theorem dX0_share_53 : decode cX0_share 53 = .ok (.iconst 2, 1) := by decide +kernel
theorem dX0_share_54 : decode cX0_share 54 = .ok (.idiv, 1) := by decide +kernel
theorem dX0_share_55 : decode cX0_share 55 = .ok (.istore 6, 2) := by decide +kernel
theorem dX0_share_57 : decode cX0_share 57 = .ok (.iload_n 3, 1) := by decide +kernel
theorem dX0_share_58 : decode cX0_share 58 = .ok (.aload_n 0, 1) := by decide +kernel
theorem dX0_share_59 : decode cX0_share 59 = .ok (.getfield 15, 3) := by decide +kernel
theorem dX0_share_62 : decode cX0_share 62 = .ok (.iload_n 1, 1) := by decide +kernel
theorem dX0_share_63 : decode cX0_share 63 = .ok (.iaload, 1) := by decide +kernel
theorem dX0_share_64 : decode cX0_share 64 = .ok (.if_icmp .ne 6, 3) := by decide +kernel
theorem dX0_share_67 : decode cX0_share 67 = .ok (.iload 5, 2) := by decide +kernel
theorem dX0_share_69 : decode cX0_share 69 = .ok (.ireturn, 1) := by decide +kernel
theorem dX0_share_70 : decode cX0_share 70 = .ok (.iload_n 3, 1) := by decide +kernel
theorem dX0_share_71 : decode cX0_share 71 = .ok (.aload_n 0, 1) := by decide +kernel
theorem dX0_share_72 : decode cX0_share 72 = .ok (.aload_n 0, 1) := by decide +kernel
theorem dX0_share_73 : decode cX0_share 73 = .ok (.getfield 15, 3) := by decide +kernel
theorem dX0_share_76 : decode cX0_share 76 = .ok (.iload_n 1, 1) := by decide +kernel
theorem dX0_share_77 : decode cX0_share 77 = .ok (.iaload, 1) := by decide +kernel
theorem dX0_share_78 : decode cX0_share 78 = .ok (.invokevirtual 54, 3) := by decide +kernel
theorem dX0_share_81 : decode cX0_share 81 = .ok (.if_icmp .ne 6, 3) := by decide +kernel
theorem dX0_share_84 : decode cX0_share 84 = .ok (.iload 6, 2) := by decide +kernel
theorem dX0_share_86 : decode cX0_share 86 = .ok (.ireturn, 1) := by decide +kernel
theorem dX0_share_87 : decode cX0_share 87 = .ok (.iload_n 3, 1) := by decide +kernel
theorem dX0_share_88 : decode cX0_share 88 = .ok (.aload_n 0, 1) := by decide +kernel
theorem dX0_share_89 : decode cX0_share 89 = .ok (.aload_n 0, 1) := by decide +kernel
theorem dX0_share_90 : decode cX0_share 90 = .ok (.getfield 15, 3) := by decide +kernel
theorem dX0_share_93 : decode cX0_share 93 = .ok (.iload_n 1, 1) := by decide +kernel
theorem dX0_share_94 : decode cX0_share 94 = .ok (.iaload, 1) := by decide +kernel
theorem dX0_share_95 : decode cX0_share 95 = .ok (.invokevirtual 58, 3) := by decide +kernel
theorem dX0_share_98 : decode cX0_share 98 = .ok (.if_icmp .ne 14, 3) := by decide +kernel
theorem dX0_share_101 : decode cX0_share 101 = .ok (.iload 4, 2) := by decide +kernel
theorem dX0_share_103 : decode cX0_share 103 = .ok (.iload 5, 2) := by decide +kernel
theorem dX0_share_105 : decode cX0_share 105 = .ok (.isub, 1) := by decide +kernel
theorem dX0_share_106 : decode cX0_share 106 = .ok (.iload 6, 2) := by decide +kernel
theorem dX0_share_108 : decode cX0_share 108 = .ok (.isub, 1) := by decide +kernel
theorem dX0_share_109 : decode cX0_share 109 = .ok (.goto 4, 3) := by decide +kernel
theorem dX0_share_112 : decode cX0_share 112 = .ok (.iconst 0, 1) := by decide +kernel
theorem dX0_share_113 : decode cX0_share 113 = .ok (.ireturn, 1) := by decide +kernel
theorem dX0_breatheInto_0 : decode cX0_breatheInto 0 = .ok (.iconst 0, 1) := by decide +kernel
theorem dX0_breatheInto_1 : decode cX0_breatheInto 1 = .ok (.istore 4, 2) := by decide +kernel
theorem dX0_breatheInto_3 : decode cX0_breatheInto 3 = .ok (.iload 4, 2) := by decide +kernel
theorem dX0_breatheInto_5 : decode cX0_breatheInto 5 = .ok (.aload_n 0, 1) := by decide +kernel
theorem dX0_breatheInto_6 : decode cX0_breatheInto 6 = .ok (.getfield 28, 3) := by decide +kernel
theorem dX0_breatheInto_9 : decode cX0_breatheInto 9 = .ok (.if_icmp .ge 39, 3) := by decide +kernel
theorem dX0_breatheInto_12 : decode cX0_breatheInto 12 = .ok (.iload 4, 2) := by decide +kernel
theorem dX0_breatheInto_14 : decode cX0_breatheInto 14 = .ok (.aload_n 1, 1) := by decide +kernel
theorem dX0_breatheInto_15 : decode cX0_breatheInto 15 = .ok (.arraylength, 1) := by decide +kernel
theorem dX0_breatheInto_16 : decode cX0_breatheInto 16 = .ok (.if_icmp .ge 32, 3) := by decide +kernel
theorem dX0_breatheInto_19 : decode cX0_breatheInto 19 = .ok (.aload_n 1, 1) := by decide +kernel
theorem dX0_breatheInto_20 : decode cX0_breatheInto 20 = .ok (.iload 4, 2) := by decide +kernel
theorem dX0_breatheInto_22 : decode cX0_breatheInto 22 = .ok (.sipush 999, 3) := by decide +kernel
theorem dX0_breatheInto_25 : decode cX0_breatheInto 25 = .ok (.aload_n 1, 1) := by decide +kernel
theorem dX0_breatheInto_26 : decode cX0_breatheInto 26 = .ok (.iload 4, 2) := by decide +kernel
theorem dX0_breatheInto_28 : decode cX0_breatheInto 28 = .ok (.iaload, 1) := by decide +kernel
theorem dX0_breatheInto_29 : decode cX0_breatheInto 29 = .ok (.aload_n 0, 1) := by decide +kernel
theorem dX0_breatheInto_30 : decode cX0_breatheInto 30 = .ok (.iload_n 2, 1) := by decide +kernel
theorem dX0_breatheInto_31 : decode cX0_breatheInto 31 = .ok (.iload_n 3, 1) := by decide +kernel
theorem dX0_breatheInto_32 : decode cX0_breatheInto 32 = .ok (.iload 4, 2) := by decide +kernel
theorem dX0_breatheInto_34 : decode cX0_breatheInto 34 = .ok (.invokevirtual 61, 3) := by decide +kernel
theorem dX0_breatheInto_37 : decode cX0_breatheInto 37 = .ok (.iadd, 1) := by decide +kernel
theorem dX0_breatheInto_38 : decode cX0_breatheInto 38 = .ok (.invokestatic 65, 3) := by decide +kernel
theorem dX0_breatheInto_41 : decode cX0_breatheInto 41 = .ok (.iastore, 1) := by decide +kernel
theorem dX0_breatheInto_42 : decode cX0_breatheInto 42 = .ok (.iinc 4 1, 3) := by decide +kernel
theorem dX0_breatheInto_45 : decode cX0_breatheInto 45 = .ok (.goto (-42), 3) := by decide +kernel
theorem dX0_breatheInto_48 : decode cX0_breatheInto 48 = .ok (.return_, 1) := by decide +kernel
theorem dX0_letTalk_0 : decode cX0_letTalk 0 = .ok (.aload_n 0, 1) := by decide +kernel
theorem dX0_letTalk_1 : decode cX0_letTalk 1 = .ok (.iload_n 1, 1) := by decide +kernel
theorem dX0_letTalk_2 : decode cX0_letTalk 2 = .ok (.invokevirtual 70, 3) := by decide +kernel
theorem dX0_letTalk_5 : decode cX0_letTalk 5 = .ok (.ifCond .ne 5, 3) := by decide +kernel
theorem dX0_letTalk_8 : decode cX0_letTalk 8 = .ok (.iconst 0, 1) := by decide +kernel
theorem dX0_letTalk_9 : decode cX0_letTalk 9 = .ok (.ireturn, 1) := by decide +kernel
theorem dX0_letTalk_10 : decode cX0_letTalk 10 = .ok (.aload_n 0, 1) := by decide +kernel
theorem dX0_letTalk_11 : decode cX0_letTalk 11 = .ok (.getfield 9, 3) := by decide +kernel
theorem dX0_letTalk_14 : decode cX0_letTalk 14 = .ok (.iload_n 1, 1) := by decide +kernel
theorem dX0_letTalk_15 : decode cX0_letTalk 15 = .ok (.iaload, 1) := by decide +kernel
theorem dX0_letTalk_16 : decode cX0_letTalk 16 = .ok (.iload_n 2, 1) := by decide +kernel
theorem dX0_letTalk_17 : decode cX0_letTalk 17 = .ok (.invokestatic 73, 3) := by decide +kernel
theorem dX0_letTalk_20 : decode cX0_letTalk 20 = .ok (.istore_n 3, 1) := by decide +kernel
theorem dX0_letTalk_21 : decode cX0_letTalk 21 = .ok (.aload_n 0, 1) := by decide +kernel
theorem dX0_letTalk_22 : decode cX0_letTalk 22 = .ok (.aload_n 0, 1) := by decide +kernel
theorem dX0_letTalk_23 : decode cX0_letTalk 23 = .ok (.getfield 21, 3) := by decide +kernel
theorem dX0_letTalk_26 : decode cX0_letTalk 26 = .ok (.iload_n 1, 1) := by decide +kernel
theorem dX0_letTalk_27 : decode cX0_letTalk 27 = .ok (.iload_n 2, 1) := by decide +kernel
theorem dX0_letTalk_28 : decode cX0_letTalk 28 = .ok (.invokevirtual 76, 3) := by decide +kernel
theorem dX0_letTalk_31 : decode cX0_letTalk 31 = .ok (.aload_n 0, 1) := by decide +kernel
theorem dX0_letTalk_32 : decode cX0_letTalk 32 = .ok (.getfield 18, 3) := by decide +kernel
theorem dX0_letTalk_35 : decode cX0_letTalk 35 = .ok (.iload_n 1, 1) := by decide +kernel
theorem dX0_letTalk_36 : decode cX0_letTalk 36 = .ok (.dup2, 1) := by decide +kernel
theorem dX0_letTalk_37 : decode cX0_letTalk 37 = .ok (.iaload, 1) := by decide +kernel
theorem dX0_letTalk_38 : decode cX0_letTalk 38 = .ok (.iconst 1, 1) := by decide +kernel
theorem dX0_letTalk_39 : decode cX0_letTalk 39 = .ok (.iadd, 1) := by decide +kernel
theorem dX0_letTalk_40 : decode cX0_letTalk 40 = .ok (.iastore, 1) := by decide +kernel
theorem dX0_letTalk_41 : decode cX0_letTalk 41 = .ok (.aload_n 0, 1) := by decide +kernel
theorem dX0_letTalk_42 : decode cX0_letTalk 42 = .ok (.dup, 1) := by decide +kernel
theorem dX0_letTalk_43 : decode cX0_letTalk 43 = .ok (.getfield 41, 3) := by decide +kernel
theorem dX0_letTalk_46 : decode cX0_letTalk 46 = .ok (.iload_n 3, 1) := by decide +kernel
theorem dX0_letTalk_47 : decode cX0_letTalk 47 = .ok (.iadd, 1) := by decide +kernel
theorem dX0_letTalk_48 : decode cX0_letTalk 48 = .ok (.putfield 41, 3) := by decide +kernel
theorem dX0_letTalk_51 : decode cX0_letTalk 51 = .ok (.iload_n 3, 1) := by decide +kernel
theorem dX0_letTalk_52 : decode cX0_letTalk 52 = .ok (.ireturn, 1) := by decide +kernel
theorem dX0_passHour_0 : decode cX0_passHour 0 = .ok (.aload_n 0, 1) := by decide +kernel
theorem dX0_passHour_1 : decode cX0_passHour 1 = .ok (.invokevirtual 80, 3) := by decide +kernel
theorem dX0_passHour_4 : decode cX0_passHour 4 = .ok (.istore_n 1, 1) := by decide +kernel
theorem dX0_passHour_5 : decode cX0_passHour 5 = .ok (.iconst 0, 1) := by decide +kernel
theorem dX0_passHour_6 : decode cX0_passHour 6 = .ok (.istore_n 2, 1) := by decide +kernel
theorem dX0_passHour_7 : decode cX0_passHour 7 = .ok (.iload_n 2, 1) := by decide +kernel
theorem dX0_passHour_8 : decode cX0_passHour 8 = .ok (.aload_n 0, 1) := by decide +kernel
theorem dX0_passHour_9 : decode cX0_passHour 9 = .ok (.getfield 28, 3) := by decide +kernel
theorem dX0_passHour_12 : decode cX0_passHour 12 = .ok (.if_icmp .ge 21, 3) := by decide +kernel
theorem dX0_passHour_15 : decode cX0_passHour 15 = .ok (.aload_n 0, 1) := by decide +kernel
theorem dX0_passHour_16 : decode cX0_passHour 16 = .ok (.getfield 21, 3) := by decide +kernel
theorem dX0_passHour_19 : decode cX0_passHour 19 = .ok (.iload_n 2, 1) := by decide +kernel
theorem dX0_passHour_20 : decode cX0_passHour 20 = .ok (.aload_n 0, 1) := by decide +kernel
theorem dX0_passHour_21 : decode cX0_passHour 21 = .ok (.iload_n 2, 1) := by decide +kernel
theorem dX0_passHour_22 : decode cX0_passHour 22 = .ok (.iconst 1, 1) := by decide +kernel
theorem dX0_passHour_23 : decode cX0_passHour 23 = .ok (.invokevirtual 84, 3) := by decide +kernel
theorem dX0_passHour_26 : decode cX0_passHour 26 = .ok (.iastore, 1) := by decide +kernel
theorem dX0_passHour_27 : decode cX0_passHour 27 = .ok (.iinc 2 1, 3) := by decide +kernel
theorem dX0_passHour_30 : decode cX0_passHour 30 = .ok (.goto (-23), 3) := by decide +kernel
theorem dX0_passHour_33 : decode cX0_passHour 33 = .ok (.aload_n 0, 1) := by decide +kernel
theorem dX0_passHour_34 : decode cX0_passHour 34 = .ok (.dup, 1) := by decide +kernel
theorem dX0_passHour_35 : decode cX0_passHour 35 = .ok (.getfield 35, 3) := by decide +kernel
theorem dX0_passHour_38 : decode cX0_passHour 38 = .ok (.iconst 1, 1) := by decide +kernel
theorem dX0_passHour_39 : decode cX0_passHour 39 = .ok (.iadd, 1) := by decide +kernel
theorem dX0_passHour_40 : decode cX0_passHour 40 = .ok (.putfield 35, 3) := by decide +kernel
theorem dX0_passHour_43 : decode cX0_passHour 43 = .ok (.iload_n 1, 1) := by decide +kernel
theorem dX0_passHour_44 : decode cX0_passHour 44 = .ok (.aload_n 0, 1) := by decide +kernel
theorem dX0_passHour_45 : decode cX0_passHour 45 = .ok (.invokevirtual 80, 3) := by decide +kernel
theorem dX0_passHour_48 : decode cX0_passHour 48 = .ok (.isub, 1) := by decide +kernel
theorem dX0_passHour_49 : decode cX0_passHour 49 = .ok (.ireturn, 1) := by decide +kernel
theorem dX0_openCell_0 : decode cX0_openCell 0 = .ok (.aload_n 0, 1) := by decide +kernel
theorem dX0_openCell_1 : decode cX0_openCell 1 = .ok (.iload_n 1, 1) := by decide +kernel
theorem dX0_openCell_2 : decode cX0_openCell 2 = .ok (.invokevirtual 31, 3) := by decide +kernel
theorem dX0_openCell_5 : decode cX0_openCell 5 = .ok (.ifCond .ne 5, 3) := by decide +kernel
theorem dX0_openCell_8 : decode cX0_openCell 8 = .ok (.iconst 0, 1) := by decide +kernel
theorem dX0_openCell_9 : decode cX0_openCell 9 = .ok (.ireturn, 1) := by decide +kernel
theorem dX0_openCell_10 : decode cX0_openCell 10 = .ok (.aload_n 0, 1) := by decide +kernel
theorem dX0_openCell_11 : decode cX0_openCell 11 = .ok (.getfield 21, 3) := by decide +kernel
theorem dX0_openCell_14 : decode cX0_openCell 14 = .ok (.iload_n 1, 1) := by decide +kernel
theorem dX0_openCell_15 : decode cX0_openCell 15 = .ok (.iaload, 1) := by decide +kernel
theorem dX0_openCell_16 : decode cX0_openCell 16 = .ok (.istore_n 2, 1) := by decide +kernel
theorem dX0_openCell_17 : decode cX0_openCell 17 = .ok (.aload_n 0, 1) := by decide +kernel
theorem dX0_openCell_18 : decode cX0_openCell 18 = .ok (.getfield 21, 3) := by decide +kernel
theorem dX0_openCell_21 : decode cX0_openCell 21 = .ok (.iload_n 1, 1) := by decide +kernel
theorem dX0_openCell_22 : decode cX0_openCell 22 = .ok (.iconst 0, 1) := by decide +kernel
theorem dX0_openCell_23 : decode cX0_openCell 23 = .ok (.iastore, 1) := by decide +kernel
theorem dX0_openCell_24 : decode cX0_openCell 24 = .ok (.iload_n 2, 1) := by decide +kernel
theorem dX0_openCell_25 : decode cX0_openCell 25 = .ok (.ireturn, 1) := by decide +kernel
theorem dX0_comeDown_0 : decode cX0_comeDown 0 = .ok (.aload_n 0, 1) := by decide +kernel
theorem dX0_comeDown_1 : decode cX0_comeDown 1 = .ok (.dup, 1) := by decide +kernel
theorem dX0_comeDown_2 : decode cX0_comeDown 2 = .ok (.getfield 38, 3) := by decide +kernel
theorem dX0_comeDown_5 : decode cX0_comeDown 5 = .ok (.aload_n 0, 1) := by decide +kernel
theorem dX0_comeDown_6 : decode cX0_comeDown 6 = .ok (.invokevirtual 80, 3) := by decide +kernel
theorem dX0_comeDown_9 : decode cX0_comeDown 9 = .ok (.iadd, 1) := by decide +kernel
theorem dX0_comeDown_10 : decode cX0_comeDown 10 = .ok (.putfield 38, 3) := by decide +kernel
theorem dX0_comeDown_13 : decode cX0_comeDown 13 = .ok (.iconst 0, 1) := by decide +kernel
theorem dX0_comeDown_14 : decode cX0_comeDown 14 = .ok (.istore_n 1, 1) := by decide +kernel
theorem dX0_comeDown_15 : decode cX0_comeDown 15 = .ok (.iload_n 1, 1) := by decide +kernel
theorem dX0_comeDown_16 : decode cX0_comeDown 16 = .ok (.aload_n 0, 1) := by decide +kernel
theorem dX0_comeDown_17 : decode cX0_comeDown 17 = .ok (.getfield 28, 3) := by decide +kernel
theorem dX0_comeDown_20 : decode cX0_comeDown 20 = .ok (.if_icmp .ge 16, 3) := by decide +kernel
theorem dX0_comeDown_23 : decode cX0_comeDown 23 = .ok (.aload_n 0, 1) := by decide +kernel
theorem dX0_comeDown_24 : decode cX0_comeDown 24 = .ok (.getfield 21, 3) := by decide +kernel
theorem dX0_comeDown_27 : decode cX0_comeDown 27 = .ok (.iload_n 1, 1) := by decide +kernel
theorem dX0_comeDown_28 : decode cX0_comeDown 28 = .ok (.iconst 0, 1) := by decide +kernel
theorem dX0_comeDown_29 : decode cX0_comeDown 29 = .ok (.iastore, 1) := by decide +kernel
theorem dX0_comeDown_30 : decode cX0_comeDown 30 = .ok (.iinc 1 1, 3) := by decide +kernel
theorem dX0_comeDown_33 : decode cX0_comeDown 33 = .ok (.goto (-18), 3) := by decide +kernel
theorem dX0_comeDown_36 : decode cX0_comeDown 36 = .ok (.aload_n 0, 1) := by decide +kernel
theorem dX0_comeDown_37 : decode cX0_comeDown 37 = .ok (.getfield 38, 3) := by decide +kernel
theorem dX0_comeDown_40 : decode cX0_comeDown 40 = .ok (.ireturn, 1) := by decide +kernel
theorem dX0_smokeIn_0 : decode cX0_smokeIn 0 = .ok (.iconst 0, 1) := by decide +kernel
theorem dX0_smokeIn_1 : decode cX0_smokeIn 1 = .ok (.aload_n 0, 1) := by decide +kernel
theorem dX0_smokeIn_2 : decode cX0_smokeIn 2 = .ok (.getfield 21, 3) := by decide +kernel
theorem dX0_smokeIn_5 : decode cX0_smokeIn 5 = .ok (.iload_n 1, 1) := by decide +kernel
theorem dX0_smokeIn_6 : decode cX0_smokeIn 6 = .ok (.iaload, 1) := by decide +kernel
theorem dX0_smokeIn_7 : decode cX0_smokeIn 7 = .ok (.aload_n 0, 1) := by decide +kernel
theorem dX0_smokeIn_8 : decode cX0_smokeIn 8 = .ok (.getfield 87, 3) := by decide +kernel
theorem dX0_smokeIn_11 : decode cX0_smokeIn 11 = .ok (.iload_n 2, 1) := by decide +kernel
theorem dX0_smokeIn_12 : decode cX0_smokeIn 12 = .ok (.imul, 1) := by decide +kernel
theorem dX0_smokeIn_13 : decode cX0_smokeIn 13 = .ok (.isub, 1) := by decide +kernel
theorem dX0_smokeIn_14 : decode cX0_smokeIn 14 = .ok (.invokestatic 90, 3) := by decide +kernel
theorem dX0_smokeIn_17 : decode cX0_smokeIn 17 = .ok (.ireturn, 1) := by decide +kernel
theorem dX0_allSmokeIn_0 : decode cX0_allSmokeIn 0 = .ok (.iconst 0, 1) := by decide +kernel
theorem dX0_allSmokeIn_1 : decode cX0_allSmokeIn 1 = .ok (.istore_n 2, 1) := by decide +kernel
theorem dX0_allSmokeIn_2 : decode cX0_allSmokeIn 2 = .ok (.iconst 0, 1) := by decide +kernel
theorem dX0_allSmokeIn_3 : decode cX0_allSmokeIn 3 = .ok (.istore_n 3, 1) := by decide +kernel
theorem dX0_allSmokeIn_4 : decode cX0_allSmokeIn 4 = .ok (.iload_n 3, 1) := by decide +kernel
theorem dX0_allSmokeIn_5 : decode cX0_allSmokeIn 5 = .ok (.aload_n 0, 1) := by decide +kernel
theorem dX0_allSmokeIn_6 : decode cX0_allSmokeIn 6 = .ok (.getfield 28, 3) := by decide +kernel
theorem dX0_allSmokeIn_9 : decode cX0_allSmokeIn 9 = .ok (.if_icmp .ge 18, 3) := by decide +kernel
theorem dX0_allSmokeIn_12 : decode cX0_allSmokeIn 12 = .ok (.iload_n 2, 1) := by decide +kernel
theorem dX0_allSmokeIn_13 : decode cX0_allSmokeIn 13 = .ok (.aload_n 0, 1) := by decide +kernel
theorem dX0_allSmokeIn_14 : decode cX0_allSmokeIn 14 = .ok (.iload_n 3, 1) := by decide +kernel
theorem dX0_allSmokeIn_15 : decode cX0_allSmokeIn 15 = .ok (.iload_n 1, 1) := by decide +kernel
theorem dX0_allSmokeIn_16 : decode cX0_allSmokeIn 16 = .ok (.invokevirtual 84, 3) := by decide +kernel
theorem dX0_allSmokeIn_19 : decode cX0_allSmokeIn 19 = .ok (.iadd, 1) := by decide +kernel
theorem dX0_allSmokeIn_20 : decode cX0_allSmokeIn 20 = .ok (.istore_n 2, 1) := by decide +kernel
theorem dX0_allSmokeIn_21 : decode cX0_allSmokeIn 21 = .ok (.iinc 3 1, 3) := by decide +kernel
theorem dX0_allSmokeIn_24 : decode cX0_allSmokeIn 24 = .ok (.goto (-20), 3) := by decide +kernel
theorem dX0_allSmokeIn_27 : decode cX0_allSmokeIn 27 = .ok (.iload_n 2, 1) := by decide +kernel
theorem dX0_allSmokeIn_28 : decode cX0_allSmokeIn 28 = .ok (.ireturn, 1) := by decide +kernel
theorem dX0_allSmoke_0 : decode cX0_allSmoke 0 = .ok (.aload_n 0, 1) := by decide +kernel
theorem dX0_allSmoke_1 : decode cX0_allSmoke 1 = .ok (.aload_n 0, 1) := by decide +kernel
theorem dX0_allSmoke_2 : decode cX0_allSmoke 2 = .ok (.getfield 21, 3) := by decide +kernel
theorem dX0_allSmoke_5 : decode cX0_allSmoke 5 = .ok (.invokevirtual 93, 3) := by decide +kernel
theorem dX0_allSmoke_8 : decode cX0_allSmoke 8 = .ok (.ireturn, 1) := by decide +kernel
theorem dX0_sumOf_0 : decode cX0_sumOf 0 = .ok (.iconst 0, 1) := by decide +kernel
theorem dX0_sumOf_1 : decode cX0_sumOf 1 = .ok (.istore_n 2, 1) := by decide +kernel
theorem dX0_sumOf_2 : decode cX0_sumOf 2 = .ok (.iconst 0, 1) := by decide +kernel
theorem dX0_sumOf_3 : decode cX0_sumOf 3 = .ok (.istore_n 3, 1) := by decide +kernel
theorem dX0_sumOf_4 : decode cX0_sumOf 4 = .ok (.iload_n 3, 1) := by decide +kernel
theorem dX0_sumOf_5 : decode cX0_sumOf 5 = .ok (.aload_n 0, 1) := by decide +kernel
theorem dX0_sumOf_6 : decode cX0_sumOf 6 = .ok (.getfield 28, 3) := by decide +kernel
theorem dX0_sumOf_9 : decode cX0_sumOf 9 = .ok (.if_icmp .ge 21, 3) := by decide +kernel
theorem dX0_sumOf_12 : decode cX0_sumOf 12 = .ok (.iload_n 3, 1) := by decide +kernel
theorem dX0_sumOf_13 : decode cX0_sumOf 13 = .ok (.aload_n 1, 1) := by decide +kernel
theorem dX0_sumOf_14 : decode cX0_sumOf 14 = .ok (.arraylength, 1) := by decide +kernel
theorem dX0_sumOf_15 : decode cX0_sumOf 15 = .ok (.if_icmp .ge 15, 3) := by decide +kernel
theorem dX0_sumOf_18 : decode cX0_sumOf 18 = .ok (.iload_n 2, 1) := by decide +kernel
theorem dX0_sumOf_19 : decode cX0_sumOf 19 = .ok (.aload_n 1, 1) := by decide +kernel
theorem dX0_sumOf_20 : decode cX0_sumOf 20 = .ok (.iload_n 3, 1) := by decide +kernel
theorem dX0_sumOf_21 : decode cX0_sumOf 21 = .ok (.iaload, 1) := by decide +kernel
theorem dX0_sumOf_22 : decode cX0_sumOf 22 = .ok (.iadd, 1) := by decide +kernel
theorem dX0_sumOf_23 : decode cX0_sumOf 23 = .ok (.istore_n 2, 1) := by decide +kernel
theorem dX0_sumOf_24 : decode cX0_sumOf 24 = .ok (.iinc 3 1, 3) := by decide +kernel
theorem dX0_sumOf_27 : decode cX0_sumOf 27 = .ok (.goto (-23), 3) := by decide +kernel
theorem dX0_sumOf_30 : decode cX0_sumOf 30 = .ok (.iload_n 2, 1) := by decide +kernel
theorem dX0_sumOf_31 : decode cX0_sumOf 31 = .ok (.ireturn, 1) := by decide +kernel
theorem dX0_smokeOutside_0 : decode cX0_smokeOutside 0 = .ok (.iconst 0, 1) := by decide +kernel
theorem dX0_smokeOutside_1 : decode cX0_smokeOutside 1 = .ok (.istore_n 2, 1) := by decide +kernel
theorem dX0_smokeOutside_2 : decode cX0_smokeOutside 2 = .ok (.iconst 0, 1) := by decide +kernel
theorem dX0_smokeOutside_3 : decode cX0_smokeOutside 3 = .ok (.istore_n 3, 1) := by decide +kernel
theorem dX0_smokeOutside_4 : decode cX0_smokeOutside 4 = .ok (.iload_n 3, 1) := by decide +kernel
theorem dX0_smokeOutside_5 : decode cX0_smokeOutside 5 = .ok (.aload_n 0, 1) := by decide +kernel
theorem dX0_smokeOutside_6 : decode cX0_smokeOutside 6 = .ok (.getfield 28, 3) := by decide +kernel
theorem dX0_smokeOutside_9 : decode cX0_smokeOutside 9 = .ok (.if_icmp .ge 30, 3) := by decide +kernel
theorem dX0_smokeOutside_12 : decode cX0_smokeOutside 12 = .ok (.iload_n 2, 1) := by decide +kernel
theorem dX0_smokeOutside_13 : decode cX0_smokeOutside 13 = .ok (.iload_n 1, 1) := by decide +kernel
theorem dX0_smokeOutside_14 : decode cX0_smokeOutside 14 = .ok (.iload_n 3, 1) := by decide +kernel
theorem dX0_smokeOutside_15 : decode cX0_smokeOutside 15 = .ok (.ishr, 1) := by decide +kernel
theorem dX0_smokeOutside_16 : decode cX0_smokeOutside 16 = .ok (.iconst 1, 1) := by decide +kernel
theorem dX0_smokeOutside_17 : decode cX0_smokeOutside 17 = .ok (.iand, 1) := by decide +kernel
theorem dX0_smokeOutside_18 : decode cX0_smokeOutside 18 = .ok (.ifCond .ne 12, 3) := by decide +kernel
theorem dX0_smokeOutside_21 : decode cX0_smokeOutside 21 = .ok (.aload_n 0, 1) := by decide +kernel
theorem dX0_smokeOutside_22 : decode cX0_smokeOutside 22 = .ok (.getfield 21, 3) := by decide +kernel
theorem dX0_smokeOutside_25 : decode cX0_smokeOutside 25 = .ok (.iload_n 3, 1) := by decide +kernel
theorem dX0_smokeOutside_26 : decode cX0_smokeOutside 26 = .ok (.iaload, 1) := by decide +kernel
theorem dX0_smokeOutside_27 : decode cX0_smokeOutside 27 = .ok (.goto 4, 3) := by decide +kernel
theorem dX0_smokeOutside_30 : decode cX0_smokeOutside 30 = .ok (.iconst 0, 1) := by decide +kernel
theorem dX0_smokeOutside_31 : decode cX0_smokeOutside 31 = .ok (.iadd, 1) := by decide +kernel
theorem dX0_smokeOutside_32 : decode cX0_smokeOutside 32 = .ok (.istore_n 2, 1) := by decide +kernel
theorem dX0_smokeOutside_33 : decode cX0_smokeOutside 33 = .ok (.iinc 3 1, 3) := by decide +kernel
theorem dX0_smokeOutside_36 : decode cX0_smokeOutside 36 = .ok (.goto (-32), 3) := by decide +kernel
theorem dX0_smokeOutside_39 : decode cX0_smokeOutside 39 = .ok (.iload_n 2, 1) := by decide +kernel
theorem dX0_smokeOutside_40 : decode cX0_smokeOutside 40 = .ok (.ireturn, 1) := by decide +kernel
theorem dX0_fullestOf_0 : decode cX0_fullestOf 0 = .ok (.iconst 0, 1) := by decide +kernel
theorem dX0_fullestOf_1 : decode cX0_fullestOf 1 = .ok (.istore_n 2, 1) := by decide +kernel
theorem dX0_fullestOf_2 : decode cX0_fullestOf 2 = .ok (.iconst 0, 1) := by decide +kernel
theorem dX0_fullestOf_3 : decode cX0_fullestOf 3 = .ok (.istore_n 3, 1) := by decide +kernel
theorem dX0_fullestOf_4 : decode cX0_fullestOf 4 = .ok (.iload_n 3, 1) := by decide +kernel
theorem dX0_fullestOf_5 : decode cX0_fullestOf 5 = .ok (.aload_n 0, 1) := by decide +kernel
theorem dX0_fullestOf_6 : decode cX0_fullestOf 6 = .ok (.getfield 28, 3) := by decide +kernel
theorem dX0_fullestOf_9 : decode cX0_fullestOf 9 = .ok (.if_icmp .ge 23, 3) := by decide +kernel
theorem dX0_fullestOf_12 : decode cX0_fullestOf 12 = .ok (.iload_n 3, 1) := by decide +kernel
theorem dX0_fullestOf_13 : decode cX0_fullestOf 13 = .ok (.aload_n 1, 1) := by decide +kernel
theorem dX0_fullestOf_14 : decode cX0_fullestOf 14 = .ok (.arraylength, 1) := by decide +kernel
theorem dX0_fullestOf_15 : decode cX0_fullestOf 15 = .ok (.if_icmp .ge 17, 3) := by decide +kernel
theorem dX0_fullestOf_18 : decode cX0_fullestOf 18 = .ok (.iload_n 2, 1) := by decide +kernel
theorem dX0_fullestOf_19 : decode cX0_fullestOf 19 = .ok (.aload_n 1, 1) := by decide +kernel
theorem dX0_fullestOf_20 : decode cX0_fullestOf 20 = .ok (.iload_n 3, 1) := by decide +kernel
theorem dX0_fullestOf_21 : decode cX0_fullestOf 21 = .ok (.iaload, 1) := by decide +kernel
theorem dX0_fullestOf_22 : decode cX0_fullestOf 22 = .ok (.invokestatic 90, 3) := by decide +kernel
theorem dX0_fullestOf_25 : decode cX0_fullestOf 25 = .ok (.istore_n 2, 1) := by decide +kernel
theorem dX0_fullestOf_26 : decode cX0_fullestOf 26 = .ok (.iinc 3 1, 3) := by decide +kernel
theorem dX0_fullestOf_29 : decode cX0_fullestOf 29 = .ok (.goto (-25), 3) := by decide +kernel
theorem dX0_fullestOf_32 : decode cX0_fullestOf 32 = .ok (.iload_n 2, 1) := by decide +kernel
theorem dX0_fullestOf_33 : decode cX0_fullestOf 33 = .ok (.ireturn, 1) := by decide +kernel
theorem dX0_ringSmoke_0 : decode cX0_ringSmoke 0 = .ok (.aload_n 0, 1) := by decide +kernel
theorem dX0_ringSmoke_1 : decode cX0_ringSmoke 1 = .ok (.getfield 15, 3) := by decide +kernel
theorem dX0_ringSmoke_4 : decode cX0_ringSmoke 4 = .ok (.iload_n 1, 1) := by decide +kernel
theorem dX0_ringSmoke_5 : decode cX0_ringSmoke 5 = .ok (.iaload, 1) := by decide +kernel
theorem dX0_ringSmoke_6 : decode cX0_ringSmoke 6 = .ok (.istore_n 2, 1) := by decide +kernel
theorem dX0_ringSmoke_7 : decode cX0_ringSmoke 7 = .ok (.aload_n 0, 1) := by decide +kernel
theorem dX0_ringSmoke_8 : decode cX0_ringSmoke 8 = .ok (.getfield 21, 3) := by decide +kernel
theorem dX0_ringSmoke_11 : decode cX0_ringSmoke 11 = .ok (.iload_n 2, 1) := by decide +kernel
theorem dX0_ringSmoke_12 : decode cX0_ringSmoke 12 = .ok (.iaload, 1) := by decide +kernel
theorem dX0_ringSmoke_13 : decode cX0_ringSmoke 13 = .ok (.aload_n 0, 1) := by decide +kernel
theorem dX0_ringSmoke_14 : decode cX0_ringSmoke 14 = .ok (.getfield 21, 3) := by decide +kernel
theorem dX0_ringSmoke_17 : decode cX0_ringSmoke 17 = .ok (.aload_n 0, 1) := by decide +kernel
theorem dX0_ringSmoke_18 : decode cX0_ringSmoke 18 = .ok (.iload_n 2, 1) := by decide +kernel
theorem dX0_ringSmoke_19 : decode cX0_ringSmoke 19 = .ok (.invokevirtual 54, 3) := by decide +kernel
theorem dX0_ringSmoke_22 : decode cX0_ringSmoke 22 = .ok (.iaload, 1) := by decide +kernel
theorem dX0_ringSmoke_23 : decode cX0_ringSmoke 23 = .ok (.iadd, 1) := by decide +kernel
theorem dX0_ringSmoke_24 : decode cX0_ringSmoke 24 = .ok (.aload_n 0, 1) := by decide +kernel
theorem dX0_ringSmoke_25 : decode cX0_ringSmoke 25 = .ok (.getfield 21, 3) := by decide +kernel
theorem dX0_ringSmoke_28 : decode cX0_ringSmoke 28 = .ok (.aload_n 0, 1) := by decide +kernel
theorem dX0_ringSmoke_29 : decode cX0_ringSmoke 29 = .ok (.iload_n 2, 1) := by decide +kernel
theorem dX0_ringSmoke_30 : decode cX0_ringSmoke 30 = .ok (.invokevirtual 58, 3) := by decide +kernel
theorem dX0_ringSmoke_33 : decode cX0_ringSmoke 33 = .ok (.iaload, 1) := by decide +kernel
theorem dX0_ringSmoke_34 : decode cX0_ringSmoke 34 = .ok (.iadd, 1) := by decide +kernel
theorem dX0_ringSmoke_35 : decode cX0_ringSmoke 35 = .ok (.ireturn, 1) := by decide +kernel
theorem dX0_otherYoungBeside_0 : decode cX0_otherYoungBeside 0 = .ok (.iconst 0, 1) := by decide +kernel
theorem dX0_otherYoungBeside_1 : decode cX0_otherYoungBeside 1 = .ok (.istore_n 2, 1) := by decide +kernel
theorem dX0_otherYoungBeside_2 : decode cX0_otherYoungBeside 2 = .ok (.iconst 0, 1) := by decide +kernel
theorem dX0_otherYoungBeside_3 : decode cX0_otherYoungBeside 3 = .ok (.istore_n 3, 1) := by decide +kernel
theorem dX0_otherYoungBeside_4 : decode cX0_otherYoungBeside 4 = .ok (.iload_n 3, 1) := by decide +kernel
theorem dX0_otherYoungBeside_5 : decode cX0_otherYoungBeside 5 = .ok (.aload_n 0, 1) := by decide +kernel
theorem dX0_otherYoungBeside_6 : decode cX0_otherYoungBeside 6 = .ok (.getfield 24, 3) := by decide +kernel
theorem dX0_otherYoungBeside_9 : decode cX0_otherYoungBeside 9 = .ok (.if_icmp .ge 62, 3) := by decide +kernel
theorem dX0_otherYoungBeside_12 : decode cX0_otherYoungBeside 12 = .ok (.iload_n 3, 1) := by decide +kernel
theorem dX0_otherYoungBeside_13 : decode cX0_otherYoungBeside 13 = .ok (.iload_n 1, 1) := by decide +kernel
theorem dX0_otherYoungBeside_14 : decode cX0_otherYoungBeside 14 = .ok (.if_icmp .eq 22, 3) := by decide +kernel
theorem dX0_otherYoungBeside_17 : decode cX0_otherYoungBeside 17 = .ok (.aload_n 0, 1) := by decide +kernel
theorem dX0_otherYoungBeside_18 : decode cX0_otherYoungBeside 18 = .ok (.getfield 15, 3) := by decide +kernel
theorem dX0_otherYoungBeside_21 : decode cX0_otherYoungBeside 21 = .ok (.iload_n 3, 1) := by decide +kernel
theorem dX0_otherYoungBeside_22 : decode cX0_otherYoungBeside 22 = .ok (.iaload, 1) := by decide +kernel
theorem dX0_otherYoungBeside_23 : decode cX0_otherYoungBeside 23 = .ok (.aload_n 0, 1) := by decide +kernel
theorem dX0_otherYoungBeside_24 : decode cX0_otherYoungBeside 24 = .ok (.getfield 15, 3) := by decide +kernel
theorem dX0_otherYoungBeside_27 : decode cX0_otherYoungBeside 27 = .ok (.iload_n 1, 1) := by decide +kernel
theorem dX0_otherYoungBeside_28 : decode cX0_otherYoungBeside 28 = .ok (.iaload, 1) := by decide +kernel
theorem dX0_otherYoungBeside_29 : decode cX0_otherYoungBeside 29 = .ok (.if_icmp .ne 7, 3) := by decide +kernel
theorem dX0_otherYoungBeside_32 : decode cX0_otherYoungBeside 32 = .ok (.iconst 1, 1) := by decide +kernel
theorem dX0_otherYoungBeside_33 : decode cX0_otherYoungBeside 33 = .ok (.goto 4, 3) := by decide +kernel
theorem dX0_otherYoungBeside_36 : decode cX0_otherYoungBeside 36 = .ok (.iconst 0, 1) := by decide +kernel
theorem dX0_otherYoungBeside_37 : decode cX0_otherYoungBeside 37 = .ok (.istore 4, 2) := by decide +kernel
theorem dX0_otherYoungBeside_39 : decode cX0_otherYoungBeside 39 = .ok (.iload_n 2, 1) := by decide +kernel
theorem dX0_otherYoungBeside_40 : decode cX0_otherYoungBeside 40 = .ok (.iload 4, 2) := by decide +kernel
theorem dX0_otherYoungBeside_42 : decode cX0_otherYoungBeside 42 = .ok (.ifCond .eq 20, 3) := by decide +kernel
theorem dX0_otherYoungBeside_45 : decode cX0_otherYoungBeside 45 = .ok (.aload_n 0, 1) := by decide +kernel
theorem dX0_otherYoungBeside_46 : decode cX0_otherYoungBeside 46 = .ok (.getfield 9, 3) := by decide +kernel
theorem dX0_otherYoungBeside_49 : decode cX0_otherYoungBeside 49 = .ok (.iload_n 3, 1) := by decide +kernel
theorem dX0_otherYoungBeside_50 : decode cX0_otherYoungBeside 50 = .ok (.iaload, 1) := by decide +kernel
theorem dX0_otherYoungBeside_51 : decode cX0_otherYoungBeside 51 = .ok (.iconst 2, 1) := by decide +kernel
theorem dX0_otherYoungBeside_52 : decode cX0_otherYoungBeside 52 = .ok (.invokestatic 50, 3) := by decide +kernel
theorem dX0_otherYoungBeside_55 : decode cX0_otherYoungBeside 55 = .ok (.ifCond .eq 7, 3) := by decide +kernel
theorem dX0_otherYoungBeside_58 : decode cX0_otherYoungBeside 58 = .ok (.iconst 1, 1) := by decide +kernel
theorem dX0_otherYoungBeside_59 : decode cX0_otherYoungBeside 59 = .ok (.goto 4, 3) := by decide +kernel
theorem dX0_otherYoungBeside_62 : decode cX0_otherYoungBeside 62 = .ok (.iconst 0, 1) := by decide +kernel
theorem dX0_otherYoungBeside_63 : decode cX0_otherYoungBeside 63 = .ok (.iadd, 1) := by decide +kernel
theorem dX0_otherYoungBeside_64 : decode cX0_otherYoungBeside 64 = .ok (.istore_n 2, 1) := by decide +kernel
theorem dX0_otherYoungBeside_65 : decode cX0_otherYoungBeside 65 = .ok (.iinc 3 1, 3) := by decide +kernel
theorem dX0_otherYoungBeside_68 : decode cX0_otherYoungBeside 68 = .ok (.goto (-64), 3) := by decide +kernel
theorem dX0_otherYoungBeside_71 : decode cX0_otherYoungBeside 71 = .ok (.iload_n 2, 1) := by decide +kernel
theorem dX0_otherYoungBeside_72 : decode cX0_otherYoungBeside 72 = .ok (.ireturn, 1) := by decide +kernel
theorem dX0_othersWithoutBreath_0 : decode cX0_othersWithoutBreath 0 = .ok (.iconst 0, 1) := by decide +kernel
theorem dX0_othersWithoutBreath_1 : decode cX0_othersWithoutBreath 1 = .ok (.istore_n 3, 1) := by decide +kernel
theorem dX0_othersWithoutBreath_2 : decode cX0_othersWithoutBreath 2 = .ok (.iconst 0, 1) := by decide +kernel
theorem dX0_othersWithoutBreath_3 : decode cX0_othersWithoutBreath 3 = .ok (.istore 4, 2) := by decide +kernel
theorem dX0_othersWithoutBreath_5 : decode cX0_othersWithoutBreath 5 = .ok (.iload 4, 2) := by decide +kernel
theorem dX0_othersWithoutBreath_7 : decode cX0_othersWithoutBreath 7 = .ok (.aload_n 0, 1) := by decide +kernel
theorem dX0_othersWithoutBreath_8 : decode cX0_othersWithoutBreath 8 = .ok (.getfield 24, 3) := by decide +kernel
theorem dX0_othersWithoutBreath_11 : decode cX0_othersWithoutBreath 11 = .ok (.if_icmp .ge 37, 3) := by decide +kernel
theorem dX0_othersWithoutBreath_14 : decode cX0_othersWithoutBreath 14 = .ok (.iload_n 3, 1) := by decide +kernel
theorem dX0_othersWithoutBreath_15 : decode cX0_othersWithoutBreath 15 = .ok (.iload 4, 2) := by decide +kernel
theorem dX0_othersWithoutBreath_17 : decode cX0_othersWithoutBreath 17 = .ok (.iload_n 1, 1) := by decide +kernel
theorem dX0_othersWithoutBreath_18 : decode cX0_othersWithoutBreath 18 = .ok (.if_icmp .eq 21, 3) := by decide +kernel
theorem dX0_othersWithoutBreath_21 : decode cX0_othersWithoutBreath 21 = .ok (.aload_n 0, 1) := by decide +kernel
theorem dX0_othersWithoutBreath_22 : decode cX0_othersWithoutBreath 22 = .ok (.getfield 9, 3) := by decide +kernel
theorem dX0_othersWithoutBreath_25 : decode cX0_othersWithoutBreath 25 = .ok (.iload 4, 2) := by decide +kernel
theorem dX0_othersWithoutBreath_27 : decode cX0_othersWithoutBreath 27 = .ok (.iaload, 1) := by decide +kernel
theorem dX0_othersWithoutBreath_28 : decode cX0_othersWithoutBreath 28 = .ok (.iload_n 2, 1) := by decide +kernel
theorem dX0_othersWithoutBreath_29 : decode cX0_othersWithoutBreath 29 = .ok (.invokestatic 44, 3) := by decide +kernel
theorem dX0_othersWithoutBreath_32 : decode cX0_othersWithoutBreath 32 = .ok (.ifCond .ne 7, 3) := by decide +kernel
theorem dX0_othersWithoutBreath_35 : decode cX0_othersWithoutBreath 35 = .ok (.iconst 1, 1) := by decide +kernel
theorem dX0_othersWithoutBreath_36 : decode cX0_othersWithoutBreath 36 = .ok (.goto 4, 3) := by decide +kernel
theorem dX0_othersWithoutBreath_39 : decode cX0_othersWithoutBreath 39 = .ok (.iconst 0, 1) := by decide +kernel
theorem dX0_othersWithoutBreath_40 : decode cX0_othersWithoutBreath 40 = .ok (.iadd, 1) := by decide +kernel
theorem dX0_othersWithoutBreath_41 : decode cX0_othersWithoutBreath 41 = .ok (.istore_n 3, 1) := by decide +kernel
theorem dX0_othersWithoutBreath_42 : decode cX0_othersWithoutBreath 42 = .ok (.iinc 4 1, 3) := by decide +kernel
theorem dX0_othersWithoutBreath_45 : decode cX0_othersWithoutBreath 45 = .ok (.goto (-40), 3) := by decide +kernel
theorem dX0_othersWithoutBreath_48 : decode cX0_othersWithoutBreath 48 = .ok (.iload_n 3, 1) := by decide +kernel
theorem dX0_othersWithoutBreath_49 : decode cX0_othersWithoutBreath 49 = .ok (.ireturn, 1) := by decide +kernel
theorem dX0_membersOf_0 : decode cX0_membersOf 0 = .ok (.iconst 0, 1) := by decide +kernel
theorem dX0_membersOf_1 : decode cX0_membersOf 1 = .ok (.istore_n 2, 1) := by decide +kernel
theorem dX0_membersOf_2 : decode cX0_membersOf 2 = .ok (.iconst 0, 1) := by decide +kernel
theorem dX0_membersOf_3 : decode cX0_membersOf 3 = .ok (.istore_n 3, 1) := by decide +kernel
theorem dX0_membersOf_4 : decode cX0_membersOf 4 = .ok (.iload_n 3, 1) := by decide +kernel
theorem dX0_membersOf_5 : decode cX0_membersOf 5 = .ok (.aload_n 0, 1) := by decide +kernel
theorem dX0_membersOf_6 : decode cX0_membersOf 6 = .ok (.getfield 24, 3) := by decide +kernel
theorem dX0_membersOf_9 : decode cX0_membersOf 9 = .ok (.if_icmp .ge 30, 3) := by decide +kernel
theorem dX0_membersOf_12 : decode cX0_membersOf 12 = .ok (.iload_n 2, 1) := by decide +kernel
theorem dX0_membersOf_13 : decode cX0_membersOf 13 = .ok (.aload_n 0, 1) := by decide +kernel
theorem dX0_membersOf_14 : decode cX0_membersOf 14 = .ok (.getfield 9, 3) := by decide +kernel
theorem dX0_membersOf_17 : decode cX0_membersOf 17 = .ok (.iload_n 3, 1) := by decide +kernel
theorem dX0_membersOf_18 : decode cX0_membersOf 18 = .ok (.iaload, 1) := by decide +kernel
theorem dX0_membersOf_19 : decode cX0_membersOf 19 = .ok (.iload_n 1, 1) := by decide +kernel
theorem dX0_membersOf_20 : decode cX0_membersOf 20 = .ok (.invokestatic 50, 3) := by decide +kernel
theorem dX0_membersOf_23 : decode cX0_membersOf 23 = .ok (.ifCond .eq 7, 3) := by decide +kernel
theorem dX0_membersOf_26 : decode cX0_membersOf 26 = .ok (.iconst 1, 1) := by decide +kernel
theorem dX0_membersOf_27 : decode cX0_membersOf 27 = .ok (.goto 4, 3) := by decide +kernel
theorem dX0_membersOf_30 : decode cX0_membersOf 30 = .ok (.iconst 0, 1) := by decide +kernel
theorem dX0_membersOf_31 : decode cX0_membersOf 31 = .ok (.iadd, 1) := by decide +kernel
theorem dX0_membersOf_32 : decode cX0_membersOf 32 = .ok (.istore_n 2, 1) := by decide +kernel
theorem dX0_membersOf_33 : decode cX0_membersOf 33 = .ok (.iinc 3 1, 3) := by decide +kernel
theorem dX0_membersOf_36 : decode cX0_membersOf 36 = .ok (.goto (-32), 3) := by decide +kernel
theorem dX0_membersOf_39 : decode cX0_membersOf 39 = .ok (.iload_n 2, 1) := by decide +kernel
theorem dX0_membersOf_40 : decode cX0_membersOf 40 = .ok (.ireturn, 1) := by decide +kernel
theorem dX1_init_0 : decode cX1_init 0 = .ok (.aload_n 0, 1) := by decide +kernel
theorem dX1_init_1 : decode cX1_init 1 = .ok (.invokespecial 1, 3) := by decide +kernel
theorem dX1_init_4 : decode cX1_init 4 = .ok (.aload_n 0, 1) := by decide +kernel
theorem dX1_init_5 : decode cX1_init 5 = .ok (.bipush 40, 2) := by decide +kernel
theorem dX1_init_7 : decode cX1_init 7 = .ok (.newarray .int, 2) := by decide +kernel
theorem dX1_init_9 : decode cX1_init 9 = .ok (.putfield 9, 3) := by decide +kernel
theorem dX1_init_12 : decode cX1_init 12 = .ok (.aload_n 0, 1) := by decide +kernel
theorem dX1_init_13 : decode cX1_init 13 = .ok (.iconst (-1), 1) := by decide +kernel
theorem dX1_init_14 : decode cX1_init 14 = .ok (.putfield 13, 3) := by decide +kernel
theorem dX1_init_17 : decode cX1_init 17 = .ok (.return_, 1) := by decide +kernel
theorem dX1_isFull_0 : decode cX1_isFull 0 = .ok (.aload_n 0, 1) := by decide +kernel
theorem dX1_isFull_1 : decode cX1_isFull 1 = .ok (.getfield 13, 3) := by decide +kernel
theorem dX1_isFull_4 : decode cX1_isFull 4 = .ok (.bipush 40, 2) := by decide +kernel
theorem dX1_isFull_6 : decode cX1_isFull 6 = .ok (.if_icmp .lt 7, 3) := by decide +kernel
theorem dX1_isFull_9 : decode cX1_isFull 9 = .ok (.iconst 1, 1) := by decide +kernel
theorem dX1_isFull_10 : decode cX1_isFull 10 = .ok (.goto 4, 3) := by decide +kernel
theorem dX1_isFull_13 : decode cX1_isFull 13 = .ok (.iconst 0, 1) := by decide +kernel
theorem dX1_isFull_14 : decode cX1_isFull 14 = .ok (.ireturn, 1) := by decide +kernel
theorem dX1_write_0 : decode cX1_write 0 = .ok (.aload_n 0, 1) := by decide +kernel
theorem dX1_write_1 : decode cX1_write 1 = .ok (.getfield 13, 3) := by decide +kernel
theorem dX1_write_4 : decode cX1_write 4 = .ok (.ifCond .lt 41, 3) := by decide +kernel
theorem dX1_write_7 : decode cX1_write 7 = .ok (.aload_n 0, 1) := by decide +kernel
theorem dX1_write_8 : decode cX1_write 8 = .ok (.getfield 13, 3) := by decide +kernel
theorem dX1_write_11 : decode cX1_write 11 = .ok (.bipush 40, 2) := by decide +kernel
theorem dX1_write_13 : decode cX1_write 13 = .ok (.if_icmp .ge 32, 3) := by decide +kernel
theorem dX1_write_16 : decode cX1_write 16 = .ok (.aload_n 0, 1) := by decide +kernel
theorem dX1_write_17 : decode cX1_write 17 = .ok (.getfield 9, 3) := by decide +kernel
theorem dX1_write_20 : decode cX1_write 20 = .ok (.aload_n 0, 1) := by decide +kernel
theorem dX1_write_21 : decode cX1_write 21 = .ok (.getfield 13, 3) := by decide +kernel
theorem dX1_write_24 : decode cX1_write 24 = .ok (.iload_n 3, 1) := by decide +kernel
theorem dX1_write_25 : decode cX1_write 25 = .ok (.bipush 8, 2) := by decide +kernel
theorem dX1_write_27 : decode cX1_write 27 = .ok (.imul, 1) := by decide +kernel
theorem dX1_write_28 : decode cX1_write 28 = .ok (.iload_n 2, 1) := by decide +kernel
theorem dX1_write_29 : decode cX1_write 29 = .ok (.iadd, 1) := by decide +kernel
theorem dX1_write_30 : decode cX1_write 30 = .ok (.iconst 4, 1) := by decide +kernel
theorem dX1_write_31 : decode cX1_write 31 = .ok (.imul, 1) := by decide +kernel
theorem dX1_write_32 : decode cX1_write 32 = .ok (.iload_n 1, 1) := by decide +kernel
theorem dX1_write_33 : decode cX1_write 33 = .ok (.iadd, 1) := by decide +kernel
theorem dX1_write_34 : decode cX1_write 34 = .ok (.iastore, 1) := by decide +kernel
theorem dX1_write_35 : decode cX1_write 35 = .ok (.aload_n 0, 1) := by decide +kernel
theorem dX1_write_36 : decode cX1_write 36 = .ok (.dup, 1) := by decide +kernel
theorem dX1_write_37 : decode cX1_write 37 = .ok (.getfield 13, 3) := by decide +kernel
theorem dX1_write_40 : decode cX1_write 40 = .ok (.iconst 1, 1) := by decide +kernel
theorem dX1_write_41 : decode cX1_write 41 = .ok (.iadd, 1) := by decide +kernel
theorem dX1_write_42 : decode cX1_write 42 = .ok (.putfield 13, 3) := by decide +kernel
theorem dX1_write_45 : decode cX1_write 45 = .ok (.return_, 1) := by decide +kernel
theorem dX1_what_0 : decode cX1_what 0 = .ok (.aload_n 0, 1) := by decide +kernel
theorem dX1_what_1 : decode cX1_what 1 = .ok (.getfield 9, 3) := by decide +kernel
theorem dX1_what_4 : decode cX1_what 4 = .ok (.iload_n 1, 1) := by decide +kernel
theorem dX1_what_5 : decode cX1_what 5 = .ok (.iaload, 1) := by decide +kernel
theorem dX1_what_6 : decode cX1_what 6 = .ok (.iconst 4, 1) := by decide +kernel
theorem dX1_what_7 : decode cX1_what 7 = .ok (.irem, 1) := by decide +kernel
theorem dX1_what_8 : decode cX1_what 8 = .ok (.ireturn, 1) := by decide +kernel
theorem dX1_whom_0 : decode cX1_whom 0 = .ok (.aload_n 0, 1) := by decide +kernel
theorem dX1_whom_1 : decode cX1_whom 1 = .ok (.getfield 9, 3) := by decide +kernel
theorem dX1_whom_4 : decode cX1_whom 4 = .ok (.iload_n 1, 1) := by decide +kernel
theorem dX1_whom_5 : decode cX1_whom 5 = .ok (.iaload, 1) := by decide +kernel
theorem dX1_whom_6 : decode cX1_whom 6 = .ok (.iconst 4, 1) := by decide +kernel
theorem dX1_whom_7 : decode cX1_whom 7 = .ok (.idiv, 1) := by decide +kernel
theorem dX1_whom_8 : decode cX1_whom 8 = .ok (.bipush 8, 2) := by decide +kernel
theorem dX1_whom_10 : decode cX1_whom 10 = .ok (.irem, 1) := by decide +kernel
theorem dX1_whom_11 : decode cX1_whom 11 = .ok (.ireturn, 1) := by decide +kernel
theorem dX1_meant_0 : decode cX1_meant 0 = .ok (.aload_n 0, 1) := by decide +kernel
theorem dX1_meant_1 : decode cX1_meant 1 = .ok (.getfield 9, 3) := by decide +kernel
theorem dX1_meant_4 : decode cX1_meant 4 = .ok (.iload_n 1, 1) := by decide +kernel
theorem dX1_meant_5 : decode cX1_meant 5 = .ok (.iaload, 1) := by decide +kernel
theorem dX1_meant_6 : decode cX1_meant 6 = .ok (.iconst 4, 1) := by decide +kernel
theorem dX1_meant_7 : decode cX1_meant 7 = .ok (.idiv, 1) := by decide +kernel
theorem dX1_meant_8 : decode cX1_meant 8 = .ok (.bipush 8, 2) := by decide +kernel
theorem dX1_meant_10 : decode cX1_meant 10 = .ok (.idiv, 1) := by decide +kernel
theorem dX1_meant_11 : decode cX1_meant 11 = .ok (.ireturn, 1) := by decide +kernel
theorem dX1_takeFrom_0 : decode cX1_takeFrom 0 = .ok (.iconst 0, 1) := by decide +kernel
theorem dX1_takeFrom_1 : decode cX1_takeFrom 1 = .ok (.istore_n 2, 1) := by decide +kernel
theorem dX1_takeFrom_2 : decode cX1_takeFrom 2 = .ok (.iload_n 2, 1) := by decide +kernel
theorem dX1_takeFrom_3 : decode cX1_takeFrom 3 = .ok (.bipush 40, 2) := by decide +kernel
theorem dX1_takeFrom_5 : decode cX1_takeFrom 5 = .ok (.if_icmp .ge 21, 3) := by decide +kernel
theorem dX1_takeFrom_8 : decode cX1_takeFrom 8 = .ok (.aload_n 0, 1) := by decide +kernel
theorem dX1_takeFrom_9 : decode cX1_takeFrom 9 = .ok (.getfield 9, 3) := by decide +kernel
theorem dX1_takeFrom_12 : decode cX1_takeFrom 12 = .ok (.iload_n 2, 1) := by decide +kernel
theorem dX1_takeFrom_13 : decode cX1_takeFrom 13 = .ok (.aload_n 1, 1) := by decide +kernel
theorem dX1_takeFrom_14 : decode cX1_takeFrom 14 = .ok (.getfield 9, 3) := by decide +kernel
theorem dX1_takeFrom_17 : decode cX1_takeFrom 17 = .ok (.iload_n 2, 1) := by decide +kernel
theorem dX1_takeFrom_18 : decode cX1_takeFrom 18 = .ok (.iaload, 1) := by decide +kernel
theorem dX1_takeFrom_19 : decode cX1_takeFrom 19 = .ok (.iastore, 1) := by decide +kernel
theorem dX1_takeFrom_20 : decode cX1_takeFrom 20 = .ok (.iinc 2 1, 3) := by decide +kernel
theorem dX1_takeFrom_23 : decode cX1_takeFrom 23 = .ok (.goto (-21), 3) := by decide +kernel
theorem dX1_takeFrom_26 : decode cX1_takeFrom 26 = .ok (.aload_n 0, 1) := by decide +kernel
theorem dX1_takeFrom_27 : decode cX1_takeFrom 27 = .ok (.aload_n 1, 1) := by decide +kernel
theorem dX1_takeFrom_28 : decode cX1_takeFrom 28 = .ok (.getfield 13, 3) := by decide +kernel
theorem dX1_takeFrom_31 : decode cX1_takeFrom 31 = .ok (.putfield 13, 3) := by decide +kernel
theorem dX1_takeFrom_34 : decode cX1_takeFrom 34 = .ok (.return_, 1) := by decide +kernel
theorem dX2_byLetter_0 : decode cX2_byLetter 0 = .ok (.iload_n 0, 1) := by decide +kernel
theorem dX2_byLetter_1 : decode cX2_byLetter 1 = .ok (.lookupswitch 71 #[(97, 67), (98, 61), (102, 65), (109, 59), (118, 69), (121, 63)], 59) := by decide +kernel
theorem dX2_byLetter_60 : decode cX2_byLetter 60 = .ok (.iconst 0, 1) := by decide +kernel
theorem dX2_byLetter_61 : decode cX2_byLetter 61 = .ok (.ireturn, 1) := by decide +kernel
theorem dX2_byLetter_62 : decode cX2_byLetter 62 = .ok (.iconst 1, 1) := by decide +kernel
theorem dX2_byLetter_63 : decode cX2_byLetter 63 = .ok (.ireturn, 1) := by decide +kernel
theorem dX2_byLetter_64 : decode cX2_byLetter 64 = .ok (.iconst 2, 1) := by decide +kernel
theorem dX2_byLetter_65 : decode cX2_byLetter 65 = .ok (.ireturn, 1) := by decide +kernel
theorem dX2_byLetter_66 : decode cX2_byLetter 66 = .ok (.iconst 3, 1) := by decide +kernel
theorem dX2_byLetter_67 : decode cX2_byLetter 67 = .ok (.ireturn, 1) := by decide +kernel
theorem dX2_byLetter_68 : decode cX2_byLetter 68 = .ok (.iconst 4, 1) := by decide +kernel
theorem dX2_byLetter_69 : decode cX2_byLetter 69 = .ok (.ireturn, 1) := by decide +kernel
theorem dX2_byLetter_70 : decode cX2_byLetter 70 = .ok (.iconst 5, 1) := by decide +kernel
theorem dX2_byLetter_71 : decode cX2_byLetter 71 = .ok (.ireturn, 1) := by decide +kernel
theorem dX2_byLetter_72 : decode cX2_byLetter 72 = .ok (.bipush (-9), 2) := by decide +kernel
theorem dX2_byLetter_74 : decode cX2_byLetter 74 = .ok (.ireturn, 1) := by decide +kernel
theorem dX2_isOf_0 : decode cX2_isOf 0 = .ok (.iload_n 1, 1) := by decide +kernel
theorem dX2_isOf_1 : decode cX2_isOf 1 = .ok (.tableswitch 61 0 2 #[27, 29, 45], 27) := by decide +kernel
theorem dX2_isOf_28 : decode cX2_isOf 28 = .ok (.iconst 1, 1) := by decide +kernel
theorem dX2_isOf_29 : decode cX2_isOf 29 = .ok (.ireturn, 1) := by decide +kernel
theorem dX2_isOf_30 : decode cX2_isOf 30 = .ok (.iload_n 0, 1) := by decide +kernel
theorem dX2_isOf_31 : decode cX2_isOf 31 = .ok (.iconst 1, 1) := by decide +kernel
theorem dX2_isOf_32 : decode cX2_isOf 32 = .ok (.if_icmp .eq 8, 3) := by decide +kernel
theorem dX2_isOf_35 : decode cX2_isOf 35 = .ok (.iload_n 0, 1) := by decide +kernel
theorem dX2_isOf_36 : decode cX2_isOf 36 = .ok (.iconst 4, 1) := by decide +kernel
theorem dX2_isOf_37 : decode cX2_isOf 37 = .ok (.if_icmp .ne 7, 3) := by decide +kernel
theorem dX2_isOf_40 : decode cX2_isOf 40 = .ok (.iconst 1, 1) := by decide +kernel
theorem dX2_isOf_41 : decode cX2_isOf 41 = .ok (.goto 4, 3) := by decide +kernel
theorem dX2_isOf_44 : decode cX2_isOf 44 = .ok (.iconst 0, 1) := by decide +kernel
theorem dX2_isOf_45 : decode cX2_isOf 45 = .ok (.ireturn, 1) := by decide +kernel
theorem dX2_isOf_46 : decode cX2_isOf 46 = .ok (.iload_n 0, 1) := by decide +kernel
theorem dX2_isOf_47 : decode cX2_isOf 47 = .ok (.iconst 2, 1) := by decide +kernel
theorem dX2_isOf_48 : decode cX2_isOf 48 = .ok (.if_icmp .eq 8, 3) := by decide +kernel
theorem dX2_isOf_51 : decode cX2_isOf 51 = .ok (.iload_n 0, 1) := by decide +kernel
theorem dX2_isOf_52 : decode cX2_isOf 52 = .ok (.iconst 5, 1) := by decide +kernel
theorem dX2_isOf_53 : decode cX2_isOf 53 = .ok (.if_icmp .ne 7, 3) := by decide +kernel
theorem dX2_isOf_56 : decode cX2_isOf 56 = .ok (.iconst 1, 1) := by decide +kernel
theorem dX2_isOf_57 : decode cX2_isOf 57 = .ok (.goto 4, 3) := by decide +kernel
theorem dX2_isOf_60 : decode cX2_isOf 60 = .ok (.iconst 0, 1) := by decide +kernel
theorem dX2_isOf_61 : decode cX2_isOf 61 = .ok (.ireturn, 1) := by decide +kernel
theorem dX2_isOf_62 : decode cX2_isOf 62 = .ok (.iload_n 0, 1) := by decide +kernel
theorem dX2_isOf_63 : decode cX2_isOf 63 = .ok (.iload_n 1, 1) := by decide +kernel
theorem dX2_isOf_64 : decode cX2_isOf 64 = .ok (.if_icmp .ne 7, 3) := by decide +kernel
theorem dX2_isOf_67 : decode cX2_isOf 67 = .ok (.iconst 1, 1) := by decide +kernel
theorem dX2_isOf_68 : decode cX2_isOf 68 = .ok (.goto 4, 3) := by decide +kernel
theorem dX2_isOf_71 : decode cX2_isOf 71 = .ok (.iconst 0, 1) := by decide +kernel
theorem dX2_isOf_72 : decode cX2_isOf 72 = .ok (.ireturn, 1) := by decide +kernel
theorem dX2_spoken_0 : decode cX2_spoken 0 = .ok (.iload_n 0, 1) := by decide +kernel
theorem dX2_spoken_1 : decode cX2_spoken 1 = .ok (.tableswitch 55 2 5 #[31, 43, 45, 38], 31) := by decide +kernel
theorem dX2_spoken_32 : decode cX2_spoken 32 = .ok (.iload_n 1, 1) := by decide +kernel
theorem dX2_spoken_33 : decode cX2_spoken 33 = .ok (.iload_n 1, 1) := by decide +kernel
theorem dX2_spoken_34 : decode cX2_spoken 34 = .ok (.bipush 10, 2) := by decide +kernel
theorem dX2_spoken_36 : decode cX2_spoken 36 = .ok (.irem, 1) := by decide +kernel
theorem dX2_spoken_37 : decode cX2_spoken 37 = .ok (.isub, 1) := by decide +kernel
theorem dX2_spoken_38 : decode cX2_spoken 38 = .ok (.ireturn, 1) := by decide +kernel
theorem dX2_spoken_39 : decode cX2_spoken 39 = .ok (.iload_n 1, 1) := by decide +kernel
theorem dX2_spoken_40 : decode cX2_spoken 40 = .ok (.bipush 10, 2) := by decide +kernel
theorem dX2_spoken_42 : decode cX2_spoken 42 = .ok (.irem, 1) := by decide +kernel
theorem dX2_spoken_43 : decode cX2_spoken 43 = .ok (.ireturn, 1) := by decide +kernel
theorem dX2_spoken_44 : decode cX2_spoken 44 = .ok (.iload_n 1, 1) := by decide +kernel
theorem dX2_spoken_45 : decode cX2_spoken 45 = .ok (.ireturn, 1) := by decide +kernel
theorem dX2_spoken_46 : decode cX2_spoken 46 = .ok (.iconst 0, 1) := by decide +kernel
theorem dX2_spoken_47 : decode cX2_spoken 47 = .ok (.iload_n 1, 1) := by decide +kernel
theorem dX2_spoken_48 : decode cX2_spoken 48 = .ok (.iconst 2, 1) := by decide +kernel
theorem dX2_spoken_49 : decode cX2_spoken 49 = .ok (.idiv, 1) := by decide +kernel
theorem dX2_spoken_50 : decode cX2_spoken 50 = .ok (.iconst 1, 1) := by decide +kernel
theorem dX2_spoken_51 : decode cX2_spoken 51 = .ok (.isub, 1) := by decide +kernel
theorem dX2_spoken_52 : decode cX2_spoken 52 = .ok (.invokestatic 11, 3) := by decide +kernel
theorem dX2_spoken_55 : decode cX2_spoken 55 = .ok (.ireturn, 1) := by decide +kernel
theorem dX2_spoken_56 : decode cX2_spoken 56 = .ok (.iload_n 1, 1) := by decide +kernel
theorem dX2_spoken_57 : decode cX2_spoken 57 = .ok (.iconst 2, 1) := by decide +kernel
theorem dX2_spoken_58 : decode cX2_spoken 58 = .ok (.idiv, 1) := by decide +kernel
theorem dX2_spoken_59 : decode cX2_spoken 59 = .ok (.ireturn, 1) := by decide +kernel
theorem dX2_breathed_0 : decode cX2_breathed 0 = .ok (.iload_n 1, 1) := by decide +kernel
theorem dX2_breathed_1 : decode cX2_breathed 1 = .ok (.iload_n 0, 1) := by decide +kernel
theorem dX2_breathed_2 : decode cX2_breathed 2 = .ok (.iload_n 1, 1) := by decide +kernel
theorem dX2_breathed_3 : decode cX2_breathed 3 = .ok (.invokestatic 17, 3) := by decide +kernel
theorem dX2_breathed_6 : decode cX2_breathed 6 = .ok (.isub, 1) := by decide +kernel
theorem dX2_breathed_7 : decode cX2_breathed 7 = .ok (.ireturn, 1) := by decide +kernel
theorem dX2_meaningsOf_0 : decode cX2_meaningsOf 0 = .ok (.iconst 0, 1) := by decide +kernel
theorem dX2_meaningsOf_1 : decode cX2_meaningsOf 1 = .ok (.istore_n 2, 1) := by decide +kernel
theorem dX2_meaningsOf_2 : decode cX2_meaningsOf 2 = .ok (.iconst 0, 1) := by decide +kernel
theorem dX2_meaningsOf_3 : decode cX2_meaningsOf 3 = .ok (.istore_n 3, 1) := by decide +kernel
theorem dX2_meaningsOf_4 : decode cX2_meaningsOf 4 = .ok (.iload_n 3, 1) := by decide +kernel
theorem dX2_meaningsOf_5 : decode cX2_meaningsOf 5 = .ok (.bipush 99, 2) := by decide +kernel
theorem dX2_meaningsOf_7 : decode cX2_meaningsOf 7 = .ok (.if_icmp .gt 26, 3) := by decide +kernel
theorem dX2_meaningsOf_10 : decode cX2_meaningsOf 10 = .ok (.iload_n 2, 1) := by decide +kernel
theorem dX2_meaningsOf_11 : decode cX2_meaningsOf 11 = .ok (.iload_n 0, 1) := by decide +kernel
theorem dX2_meaningsOf_12 : decode cX2_meaningsOf 12 = .ok (.iload_n 3, 1) := by decide +kernel
theorem dX2_meaningsOf_13 : decode cX2_meaningsOf 13 = .ok (.invokestatic 17, 3) := by decide +kernel
theorem dX2_meaningsOf_16 : decode cX2_meaningsOf 16 = .ok (.iload_n 1, 1) := by decide +kernel
theorem dX2_meaningsOf_17 : decode cX2_meaningsOf 17 = .ok (.if_icmp .ne 7, 3) := by decide +kernel
theorem dX2_meaningsOf_20 : decode cX2_meaningsOf 20 = .ok (.iconst 1, 1) := by decide +kernel
theorem dX2_meaningsOf_21 : decode cX2_meaningsOf 21 = .ok (.goto 4, 3) := by decide +kernel
theorem dX2_meaningsOf_24 : decode cX2_meaningsOf 24 = .ok (.iconst 0, 1) := by decide +kernel
theorem dX2_meaningsOf_25 : decode cX2_meaningsOf 25 = .ok (.iadd, 1) := by decide +kernel
theorem dX2_meaningsOf_26 : decode cX2_meaningsOf 26 = .ok (.istore_n 2, 1) := by decide +kernel
theorem dX2_meaningsOf_27 : decode cX2_meaningsOf 27 = .ok (.iinc 3 1, 3) := by decide +kernel
theorem dX2_meaningsOf_30 : decode cX2_meaningsOf 30 = .ok (.goto (-26), 3) := by decide +kernel
theorem dX2_meaningsOf_33 : decode cX2_meaningsOf 33 = .ok (.iload_n 2, 1) := by decide +kernel
theorem dX2_meaningsOf_34 : decode cX2_meaningsOf 34 = .ok (.ireturn, 1) := by decide +kernel
theorem dX2_leastMeaningOf_0 : decode cX2_leastMeaningOf 0 = .ok (.iconst 0, 1) := by decide +kernel
theorem dX2_leastMeaningOf_1 : decode cX2_leastMeaningOf 1 = .ok (.istore_n 2, 1) := by decide +kernel
theorem dX2_leastMeaningOf_2 : decode cX2_leastMeaningOf 2 = .ok (.iload_n 2, 1) := by decide +kernel
theorem dX2_leastMeaningOf_3 : decode cX2_leastMeaningOf 3 = .ok (.bipush 99, 2) := by decide +kernel
theorem dX2_leastMeaningOf_5 : decode cX2_leastMeaningOf 5 = .ok (.if_icmp .gt 20, 3) := by decide +kernel
theorem dX2_leastMeaningOf_8 : decode cX2_leastMeaningOf 8 = .ok (.iload_n 0, 1) := by decide +kernel
theorem dX2_leastMeaningOf_9 : decode cX2_leastMeaningOf 9 = .ok (.iload_n 2, 1) := by decide +kernel
theorem dX2_leastMeaningOf_10 : decode cX2_leastMeaningOf 10 = .ok (.invokestatic 17, 3) := by decide +kernel
theorem dX2_leastMeaningOf_13 : decode cX2_leastMeaningOf 13 = .ok (.iload_n 1, 1) := by decide +kernel
theorem dX2_leastMeaningOf_14 : decode cX2_leastMeaningOf 14 = .ok (.if_icmp .ne 5, 3) := by decide +kernel
theorem dX2_leastMeaningOf_17 : decode cX2_leastMeaningOf 17 = .ok (.iload_n 2, 1) := by decide +kernel
theorem dX2_leastMeaningOf_18 : decode cX2_leastMeaningOf 18 = .ok (.ireturn, 1) := by decide +kernel
theorem dX2_leastMeaningOf_19 : decode cX2_leastMeaningOf 19 = .ok (.iinc 2 1, 3) := by decide +kernel
theorem dX2_leastMeaningOf_22 : decode cX2_leastMeaningOf 22 = .ok (.goto (-20), 3) := by decide +kernel
theorem dX2_leastMeaningOf_25 : decode cX2_leastMeaningOf 25 = .ok (.bipush (-9), 2) := by decide +kernel
theorem dX2_leastMeaningOf_27 : decode cX2_leastMeaningOf 27 = .ok (.ireturn, 1) := by decide +kernel
theorem dX3_fit_0 : decode cX3_fit 0 = .ok (.iconst 0, 1) := by decide +kernel
theorem dX3_fit_1 : decode cX3_fit 1 = .ok (.istore_n 2, 1) := by decide +kernel
theorem dX3_fit_2 : decode cX3_fit 2 = .ok (.iload_n 2, 1) := by decide +kernel
theorem dX3_fit_3 : decode cX3_fit 3 = .ok (.iconst 1, 1) := by decide +kernel
theorem dX3_fit_4 : decode cX3_fit 4 = .ok (.iadd, 1) := by decide +kernel
theorem dX3_fit_5 : decode cX3_fit 5 = .ok (.aload_n 0, 1) := by decide +kernel
theorem dX3_fit_6 : decode cX3_fit 6 = .ok (.getfield 7, 3) := by decide +kernel
theorem dX3_fit_9 : decode cX3_fit 9 = .ok (.if_icmp .ge 30, 3) := by decide +kernel
theorem dX3_fit_12 : decode cX3_fit 12 = .ok (.iload_n 1, 1) := by decide +kernel
theorem dX3_fit_13 : decode cX3_fit 13 = .ok (.aload_n 0, 1) := by decide +kernel
theorem dX3_fit_14 : decode cX3_fit 14 = .ok (.iload_n 2, 1) := by decide +kernel
theorem dX3_fit_15 : decode cX3_fit 15 = .ok (.invokevirtual 13, 3) := by decide +kernel
theorem dX3_fit_18 : decode cX3_fit 18 = .ok (.invokestatic 17, 3) := by decide +kernel
theorem dX3_fit_21 : decode cX3_fit 21 = .ok (.aload_n 0, 1) := by decide +kernel
theorem dX3_fit_22 : decode cX3_fit 22 = .ok (.iload_n 2, 1) := by decide +kernel
theorem dX3_fit_23 : decode cX3_fit 23 = .ok (.iconst 1, 1) := by decide +kernel
theorem dX3_fit_24 : decode cX3_fit 24 = .ok (.iadd, 1) := by decide +kernel
theorem dX3_fit_25 : decode cX3_fit 25 = .ok (.invokevirtual 13, 3) := by decide +kernel
theorem dX3_fit_28 : decode cX3_fit 28 = .ok (.if_icmp .eq 5, 3) := by decide +kernel
theorem dX3_fit_31 : decode cX3_fit 31 = .ok (.iconst 0, 1) := by decide +kernel
theorem dX3_fit_32 : decode cX3_fit 32 = .ok (.ireturn, 1) := by decide +kernel
theorem dX3_fit_33 : decode cX3_fit 33 = .ok (.iinc 2 2, 3) := by decide +kernel
theorem dX3_fit_36 : decode cX3_fit 36 = .ok (.goto (-34), 3) := by decide +kernel
theorem dX3_fit_39 : decode cX3_fit 39 = .ok (.iconst 1, 1) := by decide +kernel
theorem dX3_fit_40 : decode cX3_fit 40 = .ok (.ireturn, 1) := by decide +kernel
theorem dX3_fittingKinds_0 : decode cX3_fittingKinds 0 = .ok (.iconst 0, 1) := by decide +kernel
theorem dX3_fittingKinds_1 : decode cX3_fittingKinds 1 = .ok (.istore_n 1, 1) := by decide +kernel
theorem dX3_fittingKinds_2 : decode cX3_fittingKinds 2 = .ok (.iconst 0, 1) := by decide +kernel
theorem dX3_fittingKinds_3 : decode cX3_fittingKinds 3 = .ok (.istore_n 2, 1) := by decide +kernel
theorem dX3_fittingKinds_4 : decode cX3_fittingKinds 4 = .ok (.iload_n 2, 1) := by decide +kernel
theorem dX3_fittingKinds_5 : decode cX3_fittingKinds 5 = .ok (.bipush 6, 2) := by decide +kernel
theorem dX3_fittingKinds_7 : decode cX3_fittingKinds 7 = .ok (.if_icmp .ge 27, 3) := by decide +kernel
theorem dX3_fittingKinds_10 : decode cX3_fittingKinds 10 = .ok (.iload_n 1, 1) := by decide +kernel
theorem dX3_fittingKinds_11 : decode cX3_fittingKinds 11 = .ok (.aload_n 0, 1) := by decide +kernel
theorem dX3_fittingKinds_12 : decode cX3_fittingKinds 12 = .ok (.iload_n 2, 1) := by decide +kernel
theorem dX3_fittingKinds_13 : decode cX3_fittingKinds 13 = .ok (.invokestatic 23, 3) := by decide +kernel
theorem dX3_fittingKinds_16 : decode cX3_fittingKinds 16 = .ok (.ifCond .eq 9, 3) := by decide +kernel
theorem dX3_fittingKinds_19 : decode cX3_fittingKinds 19 = .ok (.iconst 1, 1) := by decide +kernel
theorem dX3_fittingKinds_20 : decode cX3_fittingKinds 20 = .ok (.iload_n 2, 1) := by decide +kernel
theorem dX3_fittingKinds_21 : decode cX3_fittingKinds 21 = .ok (.ishl, 1) := by decide +kernel
theorem dX3_fittingKinds_22 : decode cX3_fittingKinds 22 = .ok (.goto 4, 3) := by decide +kernel
theorem dX3_fittingKinds_25 : decode cX3_fittingKinds 25 = .ok (.iconst 0, 1) := by decide +kernel
theorem dX3_fittingKinds_26 : decode cX3_fittingKinds 26 = .ok (.ior, 1) := by decide +kernel
theorem dX3_fittingKinds_27 : decode cX3_fittingKinds 27 = .ok (.istore_n 1, 1) := by decide +kernel
theorem dX3_fittingKinds_28 : decode cX3_fittingKinds 28 = .ok (.iinc 2 1, 3) := by decide +kernel
theorem dX3_fittingKinds_31 : decode cX3_fittingKinds 31 = .ok (.goto (-27), 3) := by decide +kernel
theorem dX3_fittingKinds_34 : decode cX3_fittingKinds 34 = .ok (.iload_n 1, 1) := by decide +kernel
theorem dX3_fittingKinds_35 : decode cX3_fittingKinds 35 = .ok (.ireturn, 1) := by decide +kernel
theorem dX3_greatestPart_0 : decode cX3_greatestPart 0 = .ok (.iconst 0, 1) := by decide +kernel
theorem dX3_greatestPart_1 : decode cX3_greatestPart 1 = .ok (.istore_n 2, 1) := by decide +kernel
theorem dX3_greatestPart_2 : decode cX3_greatestPart 2 = .ok (.iconst 0, 1) := by decide +kernel
theorem dX3_greatestPart_3 : decode cX3_greatestPart 3 = .ok (.istore_n 3, 1) := by decide +kernel
theorem dX3_greatestPart_4 : decode cX3_greatestPart 4 = .ok (.iload_n 3, 1) := by decide +kernel
theorem dX3_greatestPart_5 : decode cX3_greatestPart 5 = .ok (.bipush 6, 2) := by decide +kernel
theorem dX3_greatestPart_7 : decode cX3_greatestPart 7 = .ok (.if_icmp .ge 29, 3) := by decide +kernel
theorem dX3_greatestPart_10 : decode cX3_greatestPart 10 = .ok (.iload_n 0, 1) := by decide +kernel
theorem dX3_greatestPart_11 : decode cX3_greatestPart 11 = .ok (.iload_n 3, 1) := by decide +kernel
theorem dX3_greatestPart_12 : decode cX3_greatestPart 12 = .ok (.ishr, 1) := by decide +kernel
theorem dX3_greatestPart_13 : decode cX3_greatestPart 13 = .ok (.iconst 1, 1) := by decide +kernel
theorem dX3_greatestPart_14 : decode cX3_greatestPart 14 = .ok (.iand, 1) := by decide +kernel
theorem dX3_greatestPart_15 : decode cX3_greatestPart 15 = .ok (.iconst 1, 1) := by decide +kernel
theorem dX3_greatestPart_16 : decode cX3_greatestPart 16 = .ok (.if_icmp .ne 14, 3) := by decide +kernel
theorem dX3_greatestPart_19 : decode cX3_greatestPart 19 = .ok (.iload_n 2, 1) := by decide +kernel
theorem dX3_greatestPart_20 : decode cX3_greatestPart 20 = .ok (.iload_n 0, 1) := by decide +kernel
theorem dX3_greatestPart_21 : decode cX3_greatestPart 21 = .ok (.iload_n 3, 1) := by decide +kernel
theorem dX3_greatestPart_22 : decode cX3_greatestPart 22 = .ok (.iload_n 1, 1) := by decide +kernel
theorem dX3_greatestPart_23 : decode cX3_greatestPart 23 = .ok (.invokestatic 29, 3) := by decide +kernel
theorem dX3_greatestPart_26 : decode cX3_greatestPart 26 = .ok (.invokestatic 33, 3) := by decide +kernel
theorem dX3_greatestPart_29 : decode cX3_greatestPart 29 = .ok (.istore_n 2, 1) := by decide +kernel
theorem dX3_greatestPart_30 : decode cX3_greatestPart 30 = .ok (.iinc 3 1, 3) := by decide +kernel
theorem dX3_greatestPart_33 : decode cX3_greatestPart 33 = .ok (.goto (-29), 3) := by decide +kernel
theorem dX3_greatestPart_36 : decode cX3_greatestPart 36 = .ok (.iload_n 2, 1) := by decide +kernel
theorem dX3_greatestPart_37 : decode cX3_greatestPart 37 = .ok (.ireturn, 1) := by decide +kernel
theorem dX3_partLike_0 : decode cX3_partLike 0 = .ok (.iconst 0, 1) := by decide +kernel
theorem dX3_partLike_1 : decode cX3_partLike 1 = .ok (.istore_n 3, 1) := by decide +kernel
theorem dX3_partLike_2 : decode cX3_partLike 2 = .ok (.iconst 0, 1) := by decide +kernel
theorem dX3_partLike_3 : decode cX3_partLike 3 = .ok (.istore 4, 2) := by decide +kernel
theorem dX3_partLike_5 : decode cX3_partLike 5 = .ok (.iload 4, 2) := by decide +kernel
theorem dX3_partLike_7 : decode cX3_partLike 7 = .ok (.bipush 6, 2) := by decide +kernel
theorem dX3_partLike_9 : decode cX3_partLike 9 = .ok (.if_icmp .ge 48, 3) := by decide +kernel
theorem dX3_partLike_12 : decode cX3_partLike 12 = .ok (.iload 4, 2) := by decide +kernel
theorem dX3_partLike_14 : decode cX3_partLike 14 = .ok (.iload_n 2, 1) := by decide +kernel
theorem dX3_partLike_15 : decode cX3_partLike 15 = .ok (.invokestatic 17, 3) := by decide +kernel
theorem dX3_partLike_18 : decode cX3_partLike 18 = .ok (.iload_n 1, 1) := by decide +kernel
theorem dX3_partLike_19 : decode cX3_partLike 19 = .ok (.iload_n 2, 1) := by decide +kernel
theorem dX3_partLike_20 : decode cX3_partLike 20 = .ok (.invokestatic 17, 3) := by decide +kernel
theorem dX3_partLike_23 : decode cX3_partLike 23 = .ok (.if_icmp .ne 7, 3) := by decide +kernel
theorem dX3_partLike_26 : decode cX3_partLike 26 = .ok (.iconst 1, 1) := by decide +kernel
theorem dX3_partLike_27 : decode cX3_partLike 27 = .ok (.goto 4, 3) := by decide +kernel
theorem dX3_partLike_30 : decode cX3_partLike 30 = .ok (.iconst 0, 1) := by decide +kernel
theorem dX3_partLike_31 : decode cX3_partLike 31 = .ok (.istore 5, 2) := by decide +kernel
theorem dX3_partLike_33 : decode cX3_partLike 33 = .ok (.iload_n 3, 1) := by decide +kernel
theorem dX3_partLike_34 : decode cX3_partLike 34 = .ok (.iload 5, 2) := by decide +kernel
theorem dX3_partLike_36 : decode cX3_partLike 36 = .ok (.ifCond .eq 12, 3) := by decide +kernel
theorem dX3_partLike_39 : decode cX3_partLike 39 = .ok (.iload_n 0, 1) := by decide +kernel
theorem dX3_partLike_40 : decode cX3_partLike 40 = .ok (.iload 4, 2) := by decide +kernel
theorem dX3_partLike_42 : decode cX3_partLike 42 = .ok (.ishr, 1) := by decide +kernel
theorem dX3_partLike_43 : decode cX3_partLike 43 = .ok (.iconst 1, 1) := by decide +kernel
theorem dX3_partLike_44 : decode cX3_partLike 44 = .ok (.iand, 1) := by decide +kernel
theorem dX3_partLike_45 : decode cX3_partLike 45 = .ok (.goto 4, 3) := by decide +kernel
theorem dX3_partLike_48 : decode cX3_partLike 48 = .ok (.iconst 0, 1) := by decide +kernel
theorem dX3_partLike_49 : decode cX3_partLike 49 = .ok (.iadd, 1) := by decide +kernel
theorem dX3_partLike_50 : decode cX3_partLike 50 = .ok (.istore_n 3, 1) := by decide +kernel
theorem dX3_partLike_51 : decode cX3_partLike 51 = .ok (.iinc 4 1, 3) := by decide +kernel
theorem dX3_partLike_54 : decode cX3_partLike 54 = .ok (.goto (-49), 3) := by decide +kernel
theorem dX3_partLike_57 : decode cX3_partLike 57 = .ok (.iload_n 3, 1) := by decide +kernel
theorem dX3_partLike_58 : decode cX3_partLike 58 = .ok (.ireturn, 1) := by decide +kernel
theorem dX3_leaksBy_0 : decode cX3_leaksBy 0 = .ok (.iconst 0, 1) := by decide +kernel
theorem dX3_leaksBy_1 : decode cX3_leaksBy 1 = .ok (.istore_n 2, 1) := by decide +kernel
theorem dX3_leaksBy_2 : decode cX3_leaksBy 2 = .ok (.iload_n 2, 1) := by decide +kernel
theorem dX3_leaksBy_3 : decode cX3_leaksBy 3 = .ok (.iconst 1, 1) := by decide +kernel
theorem dX3_leaksBy_4 : decode cX3_leaksBy 4 = .ok (.iadd, 1) := by decide +kernel
theorem dX3_leaksBy_5 : decode cX3_leaksBy 5 = .ok (.aload_n 0, 1) := by decide +kernel
theorem dX3_leaksBy_6 : decode cX3_leaksBy 6 = .ok (.getfield 7, 3) := by decide +kernel
theorem dX3_leaksBy_9 : decode cX3_leaksBy 9 = .ok (.if_icmp .ge 32, 3) := by decide +kernel
theorem dX3_leaksBy_12 : decode cX3_leaksBy 12 = .ok (.aload_n 0, 1) := by decide +kernel
theorem dX3_leaksBy_13 : decode cX3_leaksBy 13 = .ok (.iload_n 2, 1) := by decide +kernel
theorem dX3_leaksBy_14 : decode cX3_leaksBy 14 = .ok (.iconst 1, 1) := by decide +kernel
theorem dX3_leaksBy_15 : decode cX3_leaksBy 15 = .ok (.iadd, 1) := by decide +kernel
theorem dX3_leaksBy_16 : decode cX3_leaksBy 16 = .ok (.invokevirtual 13, 3) := by decide +kernel
theorem dX3_leaksBy_19 : decode cX3_leaksBy 19 = .ok (.iconst 0, 1) := by decide +kernel
theorem dX3_leaksBy_20 : decode cX3_leaksBy 20 = .ok (.aload_n 0, 1) := by decide +kernel
theorem dX3_leaksBy_21 : decode cX3_leaksBy 21 = .ok (.iload_n 2, 1) := by decide +kernel
theorem dX3_leaksBy_22 : decode cX3_leaksBy 22 = .ok (.invokevirtual 13, 3) := by decide +kernel
theorem dX3_leaksBy_25 : decode cX3_leaksBy 25 = .ok (.iload_n 1, 1) := by decide +kernel
theorem dX3_leaksBy_26 : decode cX3_leaksBy 26 = .ok (.isub, 1) := by decide +kernel
theorem dX3_leaksBy_27 : decode cX3_leaksBy 27 = .ok (.invokestatic 33, 3) := by decide +kernel
theorem dX3_leaksBy_30 : decode cX3_leaksBy 30 = .ok (.if_icmp .eq 5, 3) := by decide +kernel
theorem dX3_leaksBy_33 : decode cX3_leaksBy 33 = .ok (.iconst 0, 1) := by decide +kernel
theorem dX3_leaksBy_34 : decode cX3_leaksBy 34 = .ok (.ireturn, 1) := by decide +kernel
theorem dX3_leaksBy_35 : decode cX3_leaksBy 35 = .ok (.iinc 2 1, 3) := by decide +kernel
theorem dX3_leaksBy_38 : decode cX3_leaksBy 38 = .ok (.goto (-36), 3) := by decide +kernel
theorem dX3_leaksBy_41 : decode cX3_leaksBy 41 = .ok (.iconst 1, 1) := by decide +kernel
theorem dX3_leaksBy_42 : decode cX3_leaksBy 42 = .ok (.ireturn, 1) := by decide +kernel
theorem dX4_init_0 : decode cX4_init 0 = .ok (.aload_n 0, 1) := by decide +kernel
theorem dX4_init_1 : decode cX4_init 1 = .ok (.invokespecial 1, 3) := by decide +kernel
theorem dX4_init_4 : decode cX4_init 4 = .ok (.aload_n 0, 1) := by decide +kernel
theorem dX4_init_5 : decode cX4_init 5 = .ok (.iload_n 1, 1) := by decide +kernel
theorem dX4_init_6 : decode cX4_init 6 = .ok (.newarray .int, 2) := by decide +kernel
theorem dX4_init_8 : decode cX4_init 8 = .ok (.putfield 7, 3) := by decide +kernel
theorem dX4_init_11 : decode cX4_init 11 = .ok (.aload_n 0, 1) := by decide +kernel
theorem dX4_init_12 : decode cX4_init 12 = .ok (.iconst (-1), 1) := by decide +kernel
theorem dX4_init_13 : decode cX4_init 13 = .ok (.putfield 13, 3) := by decide +kernel
theorem dX4_init_16 : decode cX4_init 16 = .ok (.return_, 1) := by decide +kernel
theorem dX4_isThere_0 : decode cX4_isThere 0 = .ok (.aload_n 0, 1) := by decide +kernel
theorem dX4_isThere_1 : decode cX4_isThere 1 = .ok (.getfield 13, 3) := by decide +kernel
theorem dX4_isThere_4 : decode cX4_isThere 4 = .ok (.ifCond .lt 7, 3) := by decide +kernel
theorem dX4_isThere_7 : decode cX4_isThere 7 = .ok (.iconst 1, 1) := by decide +kernel
theorem dX4_isThere_8 : decode cX4_isThere 8 = .ok (.goto 4, 3) := by decide +kernel
theorem dX4_isThere_11 : decode cX4_isThere 11 = .ok (.iconst 0, 1) := by decide +kernel
theorem dX4_isThere_12 : decode cX4_isThere 12 = .ok (.ireturn, 1) := by decide +kernel
theorem dX4_has_0 : decode cX4_has 0 = .ok (.iload_n 1, 1) := by decide +kernel
theorem dX4_has_1 : decode cX4_has 1 = .ok (.ifCond .lt 24, 3) := by decide +kernel
theorem dX4_has_4 : decode cX4_has 4 = .ok (.iload_n 1, 1) := by decide +kernel
theorem dX4_has_5 : decode cX4_has 5 = .ok (.aload_n 0, 1) := by decide +kernel
theorem dX4_has_6 : decode cX4_has 6 = .ok (.getfield 13, 3) := by decide +kernel
theorem dX4_has_9 : decode cX4_has 9 = .ok (.if_icmp .ge 16, 3) := by decide +kernel
theorem dX4_has_12 : decode cX4_has 12 = .ok (.iload_n 1, 1) := by decide +kernel
theorem dX4_has_13 : decode cX4_has 13 = .ok (.aload_n 0, 1) := by decide +kernel
theorem dX4_has_14 : decode cX4_has 14 = .ok (.getfield 7, 3) := by decide +kernel
theorem dX4_has_17 : decode cX4_has 17 = .ok (.arraylength, 1) := by decide +kernel
theorem dX4_has_18 : decode cX4_has 18 = .ok (.if_icmp .ge 7, 3) := by decide +kernel
theorem dX4_has_21 : decode cX4_has 21 = .ok (.iconst 1, 1) := by decide +kernel
theorem dX4_has_22 : decode cX4_has 22 = .ok (.goto 4, 3) := by decide +kernel
theorem dX4_has_25 : decode cX4_has 25 = .ok (.iconst 0, 1) := by decide +kernel
theorem dX4_has_26 : decode cX4_has 26 = .ok (.ireturn, 1) := by decide +kernel
theorem dX4_holds_0 : decode cX4_holds 0 = .ok (.iload_n 1, 1) := by decide +kernel
theorem dX4_holds_1 : decode cX4_holds 1 = .ok (.ifCond .lt 29, 3) := by decide +kernel
theorem dX4_holds_4 : decode cX4_holds 4 = .ok (.iload_n 2, 1) := by decide +kernel
theorem dX4_holds_5 : decode cX4_holds 5 = .ok (.ifCond .lt 25, 3) := by decide +kernel
theorem dX4_holds_8 : decode cX4_holds 8 = .ok (.iload_n 2, 1) := by decide +kernel
theorem dX4_holds_9 : decode cX4_holds 9 = .ok (.aload_n 0, 1) := by decide +kernel
theorem dX4_holds_10 : decode cX4_holds 10 = .ok (.getfield 13, 3) := by decide +kernel
theorem dX4_holds_13 : decode cX4_holds 13 = .ok (.if_icmp .gt 17, 3) := by decide +kernel
theorem dX4_holds_16 : decode cX4_holds 16 = .ok (.iload_n 1, 1) := by decide +kernel
theorem dX4_holds_17 : decode cX4_holds 17 = .ok (.aload_n 0, 1) := by decide +kernel
theorem dX4_holds_18 : decode cX4_holds 18 = .ok (.getfield 13, 3) := by decide +kernel
theorem dX4_holds_21 : decode cX4_holds 21 = .ok (.iload_n 2, 1) := by decide +kernel
theorem dX4_holds_22 : decode cX4_holds 22 = .ok (.isub, 1) := by decide +kernel
theorem dX4_holds_23 : decode cX4_holds 23 = .ok (.if_icmp .gt 7, 3) := by decide +kernel
theorem dX4_holds_26 : decode cX4_holds 26 = .ok (.iconst 1, 1) := by decide +kernel
theorem dX4_holds_27 : decode cX4_holds 27 = .ok (.goto 4, 3) := by decide +kernel
theorem dX4_holds_30 : decode cX4_holds 30 = .ok (.iconst 0, 1) := by decide +kernel
theorem dX4_holds_31 : decode cX4_holds 31 = .ok (.ireturn, 1) := by decide +kernel
theorem dX4_read_0 : decode cX4_read 0 = .ok (.aload_n 0, 1) := by decide +kernel
theorem dX4_read_1 : decode cX4_read 1 = .ok (.iload_n 1, 1) := by decide +kernel
theorem dX4_read_2 : decode cX4_read 2 = .ok (.invokevirtual 17, 3) := by decide +kernel
theorem dX4_read_5 : decode cX4_read 5 = .ok (.ifCond .eq 12, 3) := by decide +kernel
theorem dX4_read_8 : decode cX4_read 8 = .ok (.aload_n 0, 1) := by decide +kernel
theorem dX4_read_9 : decode cX4_read 9 = .ok (.getfield 7, 3) := by decide +kernel
theorem dX4_read_12 : decode cX4_read 12 = .ok (.iload_n 1, 1) := by decide +kernel
theorem dX4_read_13 : decode cX4_read 13 = .ok (.iaload, 1) := by decide +kernel
theorem dX4_read_14 : decode cX4_read 14 = .ok (.goto 4, 3) := by decide +kernel
theorem dX4_read_17 : decode cX4_read 17 = .ok (.iconst 0, 1) := by decide +kernel
theorem dX4_read_18 : decode cX4_read 18 = .ok (.ireturn, 1) := by decide +kernel
theorem dX4_write_0 : decode cX4_write 0 = .ok (.aload_n 0, 1) := by decide +kernel
theorem dX4_write_1 : decode cX4_write 1 = .ok (.iload_n 1, 1) := by decide +kernel
theorem dX4_write_2 : decode cX4_write 2 = .ok (.invokevirtual 17, 3) := by decide +kernel
theorem dX4_write_5 : decode cX4_write 5 = .ok (.ifCond .eq 10, 3) := by decide +kernel
theorem dX4_write_8 : decode cX4_write 8 = .ok (.aload_n 0, 1) := by decide +kernel
theorem dX4_write_9 : decode cX4_write 9 = .ok (.getfield 7, 3) := by decide +kernel
theorem dX4_write_12 : decode cX4_write 12 = .ok (.iload_n 1, 1) := by decide +kernel
theorem dX4_write_13 : decode cX4_write 13 = .ok (.iload_n 2, 1) := by decide +kernel
theorem dX4_write_14 : decode cX4_write 14 = .ok (.iastore, 1) := by decide +kernel
theorem dX4_write_15 : decode cX4_write 15 = .ok (.return_, 1) := by decide +kernel
theorem dX4_renew_0 : decode cX4_renew 0 = .ok (.aload_n 0, 1) := by decide +kernel
theorem dX4_renew_1 : decode cX4_renew 1 = .ok (.iload_n 1, 1) := by decide +kernel
theorem dX4_renew_2 : decode cX4_renew 2 = .ok (.aload_n 0, 1) := by decide +kernel
theorem dX4_renew_3 : decode cX4_renew 3 = .ok (.getfield 7, 3) := by decide +kernel
theorem dX4_renew_6 : decode cX4_renew 6 = .ok (.arraylength, 1) := by decide +kernel
theorem dX4_renew_7 : decode cX4_renew 7 = .ok (.invokestatic 21, 3) := by decide +kernel
theorem dX4_renew_10 : decode cX4_renew 10 = .ok (.putfield 13, 3) := by decide +kernel
theorem dX4_renew_13 : decode cX4_renew 13 = .ok (.iconst 0, 1) := by decide +kernel
theorem dX4_renew_14 : decode cX4_renew 14 = .ok (.istore_n 3, 1) := by decide +kernel
theorem dX4_renew_15 : decode cX4_renew 15 = .ok (.iload_n 3, 1) := by decide +kernel
theorem dX4_renew_16 : decode cX4_renew 16 = .ok (.aload_n 0, 1) := by decide +kernel
theorem dX4_renew_17 : decode cX4_renew 17 = .ok (.getfield 13, 3) := by decide +kernel
theorem dX4_renew_20 : decode cX4_renew 20 = .ok (.if_icmp .ge 16, 3) := by decide +kernel
theorem dX4_renew_23 : decode cX4_renew 23 = .ok (.aload_n 0, 1) := by decide +kernel
theorem dX4_renew_24 : decode cX4_renew 24 = .ok (.getfield 7, 3) := by decide +kernel
theorem dX4_renew_27 : decode cX4_renew 27 = .ok (.iload_n 3, 1) := by decide +kernel
theorem dX4_renew_28 : decode cX4_renew 28 = .ok (.iload_n 2, 1) := by decide +kernel
theorem dX4_renew_29 : decode cX4_renew 29 = .ok (.iastore, 1) := by decide +kernel
theorem dX4_renew_30 : decode cX4_renew 30 = .ok (.iinc 3 1, 3) := by decide +kernel
theorem dX4_renew_33 : decode cX4_renew 33 = .ok (.goto (-18), 3) := by decide +kernel
theorem dX4_renew_36 : decode cX4_renew 36 = .ok (.return_, 1) := by decide +kernel
theorem dX4_isAllWithin_0 : decode cX4_isAllWithin 0 = .ok (.iconst 0, 1) := by decide +kernel
theorem dX4_isAllWithin_1 : decode cX4_isAllWithin 1 = .ok (.istore_n 3, 1) := by decide +kernel
theorem dX4_isAllWithin_2 : decode cX4_isAllWithin 2 = .ok (.iload_n 3, 1) := by decide +kernel
theorem dX4_isAllWithin_3 : decode cX4_isAllWithin 3 = .ok (.aload_n 0, 1) := by decide +kernel
theorem dX4_isAllWithin_4 : decode cX4_isAllWithin 4 = .ok (.getfield 13, 3) := by decide +kernel
theorem dX4_isAllWithin_7 : decode cX4_isAllWithin 7 = .ok (.if_icmp .ge 24, 3) := by decide +kernel
theorem dX4_isAllWithin_10 : decode cX4_isAllWithin 10 = .ok (.aload_n 0, 1) := by decide +kernel
theorem dX4_isAllWithin_11 : decode cX4_isAllWithin 11 = .ok (.iload_n 3, 1) := by decide +kernel
theorem dX4_isAllWithin_12 : decode cX4_isAllWithin 12 = .ok (.invokevirtual 27, 3) := by decide +kernel
theorem dX4_isAllWithin_15 : decode cX4_isAllWithin 15 = .ok (.iload_n 1, 1) := by decide +kernel
theorem dX4_isAllWithin_16 : decode cX4_isAllWithin 16 = .ok (.iload_n 2, 1) := by decide +kernel
theorem dX4_isAllWithin_17 : decode cX4_isAllWithin 17 = .ok (.invokestatic 31, 3) := by decide +kernel
theorem dX4_isAllWithin_20 : decode cX4_isAllWithin 20 = .ok (.ifCond .ne 5, 3) := by decide +kernel
theorem dX4_isAllWithin_23 : decode cX4_isAllWithin 23 = .ok (.iconst 0, 1) := by decide +kernel
theorem dX4_isAllWithin_24 : decode cX4_isAllWithin 24 = .ok (.ireturn, 1) := by decide +kernel
theorem dX4_isAllWithin_25 : decode cX4_isAllWithin 25 = .ok (.iinc 3 1, 3) := by decide +kernel
theorem dX4_isAllWithin_28 : decode cX4_isAllWithin 28 = .ok (.goto (-26), 3) := by decide +kernel
theorem dX4_isAllWithin_31 : decode cX4_isAllWithin 31 = .ok (.iconst 1, 1) := by decide +kernel
theorem dX4_isAllWithin_32 : decode cX4_isAllWithin 32 = .ok (.ireturn, 1) := by decide +kernel
theorem dX5_faultOf_0 : decode cX5_faultOf 0 = .ok (.iconst 0, 1) := by decide +kernel
theorem dX5_faultOf_1 : decode cX5_faultOf 1 = .ok (.istore_n 1, 1) := by decide +kernel
theorem dX5_faultOf_2 : decode cX5_faultOf 2 = .ok (.iconst 0, 1) := by decide +kernel
theorem dX5_faultOf_3 : decode cX5_faultOf 3 = .ok (.istore_n 2, 1) := by decide +kernel
theorem dX5_faultOf_4 : decode cX5_faultOf 4 = .ok (.iconst 0, 1) := by decide +kernel
theorem dX5_faultOf_5 : decode cX5_faultOf 5 = .ok (.istore_n 3, 1) := by decide +kernel
theorem dX5_faultOf_6 : decode cX5_faultOf 6 = .ok (.iload_n 3, 1) := by decide +kernel
theorem dX5_faultOf_7 : decode cX5_faultOf 7 = .ok (.aload_n 0, 1) := by decide +kernel
theorem dX5_faultOf_8 : decode cX5_faultOf 8 = .ok (.getfield 11, 3) := by decide +kernel
theorem dX5_faultOf_11 : decode cX5_faultOf 11 = .ok (.if_icmp .ge 59, 3) := by decide +kernel
theorem dX5_faultOf_14 : decode cX5_faultOf 14 = .ok (.aload_n 0, 1) := by decide +kernel
theorem dX5_faultOf_15 : decode cX5_faultOf 15 = .ok (.iload_n 3, 1) := by decide +kernel
theorem dX5_faultOf_16 : decode cX5_faultOf 16 = .ok (.invokevirtual 17, 3) := by decide +kernel
theorem dX5_faultOf_19 : decode cX5_faultOf 19 = .ok (.istore 4, 2) := by decide +kernel
theorem dX5_faultOf_21 : decode cX5_faultOf 21 = .ok (.iload 4, 2) := by decide +kernel
theorem dX5_faultOf_23 : decode cX5_faultOf 23 = .ok (.bipush 32, 2) := by decide +kernel
theorem dX5_faultOf_25 : decode cX5_faultOf 25 = .ok (.if_icmp .ne 13, 3) := by decide +kernel
theorem dX5_faultOf_28 : decode cX5_faultOf 28 = .ok (.iload_n 1, 1) := by decide +kernel
theorem dX5_faultOf_29 : decode cX5_faultOf 29 = .ok (.invokestatic 21, 3) := by decide +kernel
theorem dX5_faultOf_32 : decode cX5_faultOf 32 = .ok (.ifCond .eq 6, 3) := by decide +kernel
theorem dX5_faultOf_35 : decode cX5_faultOf 35 = .ok (.goto 29, 3) := by decide +kernel
theorem dX5_faultOf_38 : decode cX5_faultOf 38 = .ok (.iload 4, 2) := by decide +kernel
theorem dX5_faultOf_40 : decode cX5_faultOf 40 = .ok (.iload_n 1, 1) := by decide +kernel
theorem dX5_faultOf_41 : decode cX5_faultOf 41 = .ok (.iload_n 2, 1) := by decide +kernel
theorem dX5_faultOf_42 : decode cX5_faultOf 42 = .ok (.invokestatic 25, 3) := by decide +kernel
theorem dX5_faultOf_45 : decode cX5_faultOf 45 = .ok (.ifCond .ne 5, 3) := by decide +kernel
theorem dX5_faultOf_48 : decode cX5_faultOf 48 = .ok (.iload_n 3, 1) := by decide +kernel
theorem dX5_faultOf_49 : decode cX5_faultOf 49 = .ok (.ireturn, 1) := by decide +kernel
theorem dX5_faultOf_50 : decode cX5_faultOf 50 = .ok (.iload_n 1, 1) := by decide +kernel
theorem dX5_faultOf_51 : decode cX5_faultOf 51 = .ok (.iconst 2, 1) := by decide +kernel
theorem dX5_faultOf_52 : decode cX5_faultOf 52 = .ok (.if_icmp .ne 9, 3) := by decide +kernel
theorem dX5_faultOf_55 : decode cX5_faultOf 55 = .ok (.iload 4, 2) := by decide +kernel
theorem dX5_faultOf_57 : decode cX5_faultOf 57 = .ok (.bipush 48, 2) := by decide +kernel
theorem dX5_faultOf_59 : decode cX5_faultOf 59 = .ok (.isub, 1) := by decide +kernel
theorem dX5_faultOf_60 : decode cX5_faultOf 60 = .ok (.istore_n 2, 1) := by decide +kernel
theorem dX5_faultOf_61 : decode cX5_faultOf 61 = .ok (.iinc 1 1, 3) := by decide +kernel
theorem dX5_faultOf_64 : decode cX5_faultOf 64 = .ok (.iinc 3 1, 3) := by decide +kernel
theorem dX5_faultOf_67 : decode cX5_faultOf 67 = .ok (.goto (-61), 3) := by decide +kernel
theorem dX5_faultOf_70 : decode cX5_faultOf 70 = .ok (.iload_n 1, 1) := by decide +kernel
theorem dX5_faultOf_71 : decode cX5_faultOf 71 = .ok (.iconst 3, 1) := by decide +kernel
theorem dX5_faultOf_72 : decode cX5_faultOf 72 = .ok (.if_icmp .le 14, 3) := by decide +kernel
theorem dX5_faultOf_75 : decode cX5_faultOf 75 = .ok (.iload_n 1, 1) := by decide +kernel
theorem dX5_faultOf_76 : decode cX5_faultOf 76 = .ok (.invokestatic 21, 3) := by decide +kernel
theorem dX5_faultOf_79 : decode cX5_faultOf 79 = .ok (.ifCond .eq 7, 3) := by decide +kernel
theorem dX5_faultOf_82 : decode cX5_faultOf 82 = .ok (.iconst 1, 1) := by decide +kernel
theorem dX5_faultOf_83 : decode cX5_faultOf 83 = .ok (.goto 4, 3) := by decide +kernel
theorem dX5_faultOf_86 : decode cX5_faultOf 86 = .ok (.iconst 0, 1) := by decide +kernel
theorem dX5_faultOf_87 : decode cX5_faultOf 87 = .ok (.istore_n 3, 1) := by decide +kernel
theorem dX5_faultOf_88 : decode cX5_faultOf 88 = .ok (.iload_n 3, 1) := by decide +kernel
theorem dX5_faultOf_89 : decode cX5_faultOf 89 = .ok (.ifCond .eq 8, 3) := by decide +kernel
theorem dX5_faultOf_92 : decode cX5_faultOf 92 = .ok (.bipush (-9), 2) := by decide +kernel
theorem dX5_faultOf_94 : decode cX5_faultOf 94 = .ok (.goto 7, 3) := by decide +kernel
theorem dX5_faultOf_97 : decode cX5_faultOf 97 = .ok (.aload_n 0, 1) := by decide +kernel
theorem dX5_faultOf_98 : decode cX5_faultOf 98 = .ok (.getfield 11, 3) := by decide +kernel
theorem dX5_faultOf_101 : decode cX5_faultOf 101 = .ok (.ireturn, 1) := by decide +kernel
theorem dX5_settle_0 : decode cX5_settle 0 = .ok (.iconst 0, 1) := by decide +kernel
theorem dX5_settle_1 : decode cX5_settle 1 = .ok (.istore_n 2, 1) := by decide +kernel
theorem dX5_settle_2 : decode cX5_settle 2 = .ok (.aload_n 1, 1) := by decide +kernel
theorem dX5_settle_3 : decode cX5_settle 3 = .ok (.iconst 0, 1) := by decide +kernel
theorem dX5_settle_4 : decode cX5_settle 4 = .ok (.putfield 29, 3) := by decide +kernel
theorem dX5_settle_7 : decode cX5_settle 7 = .ok (.iconst 0, 1) := by decide +kernel
theorem dX5_settle_8 : decode cX5_settle 8 = .ok (.istore_n 3, 1) := by decide +kernel
theorem dX5_settle_9 : decode cX5_settle 9 = .ok (.iload_n 3, 1) := by decide +kernel
theorem dX5_settle_10 : decode cX5_settle 10 = .ok (.aload_n 0, 1) := by decide +kernel
theorem dX5_settle_11 : decode cX5_settle 11 = .ok (.getfield 11, 3) := by decide +kernel
theorem dX5_settle_14 : decode cX5_settle 14 = .ok (.if_icmp .ge 101, 3) := by decide +kernel
theorem dX5_settle_17 : decode cX5_settle 17 = .ok (.aload_n 0, 1) := by decide +kernel
theorem dX5_settle_18 : decode cX5_settle 18 = .ok (.iload_n 3, 1) := by decide +kernel
theorem dX5_settle_19 : decode cX5_settle 19 = .ok (.invokevirtual 17, 3) := by decide +kernel
theorem dX5_settle_22 : decode cX5_settle 22 = .ok (.istore 4, 2) := by decide +kernel
theorem dX5_settle_24 : decode cX5_settle 24 = .ok (.iload 4, 2) := by decide +kernel
theorem dX5_settle_26 : decode cX5_settle 26 = .ok (.bipush 32, 2) := by decide +kernel
theorem dX5_settle_28 : decode cX5_settle 28 = .ok (.if_icmp .ne 6, 3) := by decide +kernel
theorem dX5_settle_31 : decode cX5_settle 31 = .ok (.goto 78, 3) := by decide +kernel
theorem dX5_settle_34 : decode cX5_settle 34 = .ok (.iload_n 2, 1) := by decide +kernel
theorem dX5_settle_35 : decode cX5_settle 35 = .ok (.iconst 1, 1) := by decide +kernel
theorem dX5_settle_36 : decode cX5_settle 36 = .ok (.if_icmp .ne 15, 3) := by decide +kernel
theorem dX5_settle_39 : decode cX5_settle 39 = .ok (.aload_n 1, 1) := by decide +kernel
theorem dX5_settle_40 : decode cX5_settle 40 = .ok (.iload 4, 2) := by decide +kernel
theorem dX5_settle_42 : decode cX5_settle 42 = .ok (.bipush 48, 2) := by decide +kernel
theorem dX5_settle_44 : decode cX5_settle 44 = .ok (.isub, 1) := by decide +kernel
theorem dX5_settle_45 : decode cX5_settle 45 = .ok (.putfield 34, 3) := by decide +kernel
theorem dX5_settle_48 : decode cX5_settle 48 = .ok (.goto 58, 3) := by decide +kernel
theorem dX5_settle_51 : decode cX5_settle 51 = .ok (.iload_n 2, 1) := by decide +kernel
theorem dX5_settle_52 : decode cX5_settle 52 = .ok (.iconst 2, 1) := by decide +kernel
theorem dX5_settle_53 : decode cX5_settle 53 = .ok (.if_icmp .ne 15, 3) := by decide +kernel
theorem dX5_settle_56 : decode cX5_settle 56 = .ok (.aload_n 1, 1) := by decide +kernel
theorem dX5_settle_57 : decode cX5_settle 57 = .ok (.iload 4, 2) := by decide +kernel
theorem dX5_settle_59 : decode cX5_settle 59 = .ok (.bipush 48, 2) := by decide +kernel
theorem dX5_settle_61 : decode cX5_settle 61 = .ok (.isub, 1) := by decide +kernel
theorem dX5_settle_62 : decode cX5_settle 62 = .ok (.putfield 37, 3) := by decide +kernel
theorem dX5_settle_65 : decode cX5_settle 65 = .ok (.goto 41, 3) := by decide +kernel
theorem dX5_settle_68 : decode cX5_settle 68 = .ok (.iload_n 2, 1) := by decide +kernel
theorem dX5_settle_69 : decode cX5_settle 69 = .ok (.iconst 3, 1) := by decide +kernel
theorem dX5_settle_70 : decode cX5_settle 70 = .ok (.if_icmp .lt 22, 3) := by decide +kernel
theorem dX5_settle_73 : decode cX5_settle 73 = .ok (.iload_n 2, 1) := by decide +kernel
theorem dX5_settle_74 : decode cX5_settle 74 = .ok (.invokestatic 21, 3) := by decide +kernel
theorem dX5_settle_77 : decode cX5_settle 77 = .ok (.ifCond .eq 15, 3) := by decide +kernel
theorem dX5_settle_80 : decode cX5_settle 80 = .ok (.aload_n 1, 1) := by decide +kernel
theorem dX5_settle_81 : decode cX5_settle 81 = .ok (.iload 4, 2) := by decide +kernel
theorem dX5_settle_83 : decode cX5_settle 83 = .ok (.invokestatic 40, 3) := by decide +kernel
theorem dX5_settle_86 : decode cX5_settle 86 = .ok (.invokevirtual 45, 3) := by decide +kernel
theorem dX5_settle_89 : decode cX5_settle 89 = .ok (.goto 17, 3) := by decide +kernel
theorem dX5_settle_92 : decode cX5_settle 92 = .ok (.iload_n 2, 1) := by decide +kernel
theorem dX5_settle_93 : decode cX5_settle 93 = .ok (.iconst 3, 1) := by decide +kernel
theorem dX5_settle_94 : decode cX5_settle 94 = .ok (.if_icmp .le 12, 3) := by decide +kernel
theorem dX5_settle_97 : decode cX5_settle 97 = .ok (.aload_n 1, 1) := by decide +kernel
theorem dX5_settle_98 : decode cX5_settle 98 = .ok (.iload 4, 2) := by decide +kernel
theorem dX5_settle_100 : decode cX5_settle 100 = .ok (.bipush 48, 2) := by decide +kernel
theorem dX5_settle_102 : decode cX5_settle 102 = .ok (.isub, 1) := by decide +kernel
theorem dX5_settle_103 : decode cX5_settle 103 = .ok (.invokevirtual 49, 3) := by decide +kernel
theorem dX5_settle_106 : decode cX5_settle 106 = .ok (.iinc 2 1, 3) := by decide +kernel
theorem dX5_settle_109 : decode cX5_settle 109 = .ok (.iinc 3 1, 3) := by decide +kernel
theorem dX5_settle_112 : decode cX5_settle 112 = .ok (.goto (-103), 3) := by decide +kernel
theorem dX5_settle_115 : decode cX5_settle 115 = .ok (.return_, 1) := by decide +kernel
theorem dX5_isBetweenItems_0 : decode cX5_isBetweenItems 0 = .ok (.iload_n 0, 1) := by decide +kernel
theorem dX5_isBetweenItems_1 : decode cX5_isBetweenItems 1 = .ok (.ifCond .eq 16, 3) := by decide +kernel
theorem dX5_isBetweenItems_4 : decode cX5_isBetweenItems 4 = .ok (.iload_n 0, 1) := by decide +kernel
theorem dX5_isBetweenItems_5 : decode cX5_isBetweenItems 5 = .ok (.iconst 3, 1) := by decide +kernel
theorem dX5_isBetweenItems_6 : decode cX5_isBetweenItems 6 = .ok (.if_icmp .lt 15, 3) := by decide +kernel
theorem dX5_isBetweenItems_9 : decode cX5_isBetweenItems 9 = .ok (.iload_n 0, 1) := by decide +kernel
theorem dX5_isBetweenItems_10 : decode cX5_isBetweenItems 10 = .ok (.iconst 3, 1) := by decide +kernel
theorem dX5_isBetweenItems_11 : decode cX5_isBetweenItems 11 = .ok (.isub, 1) := by decide +kernel
theorem dX5_isBetweenItems_12 : decode cX5_isBetweenItems 12 = .ok (.iconst 2, 1) := by decide +kernel
theorem dX5_isBetweenItems_13 : decode cX5_isBetweenItems 13 = .ok (.irem, 1) := by decide +kernel
theorem dX5_isBetweenItems_14 : decode cX5_isBetweenItems 14 = .ok (.ifCond .ne 7, 3) := by decide +kernel
theorem dX5_isBetweenItems_17 : decode cX5_isBetweenItems 17 = .ok (.iconst 1, 1) := by decide +kernel
theorem dX5_isBetweenItems_18 : decode cX5_isBetweenItems 18 = .ok (.goto 4, 3) := by decide +kernel
theorem dX5_isBetweenItems_21 : decode cX5_isBetweenItems 21 = .ok (.iconst 0, 1) := by decide +kernel
theorem dX5_isBetweenItems_22 : decode cX5_isBetweenItems 22 = .ok (.ireturn, 1) := by decide +kernel
theorem dX5_fits_0 : decode cX5_fits 0 = .ok (.iload_n 1, 1) := by decide +kernel
theorem dX5_fits_1 : decode cX5_fits 1 = .ok (.bipush 15, 2) := by decide +kernel
theorem dX5_fits_3 : decode cX5_fits 3 = .ok (.if_icmp .lt 5, 3) := by decide +kernel
theorem dX5_fits_6 : decode cX5_fits 6 = .ok (.iconst 0, 1) := by decide +kernel
theorem dX5_fits_7 : decode cX5_fits 7 = .ok (.ireturn, 1) := by decide +kernel
theorem dX5_fits_8 : decode cX5_fits 8 = .ok (.iload_n 1, 1) := by decide +kernel
theorem dX5_fits_9 : decode cX5_fits 9 = .ok (.ifCond .ne 15, 3) := by decide +kernel
theorem dX5_fits_12 : decode cX5_fits 12 = .ok (.iload_n 0, 1) := by decide +kernel
theorem dX5_fits_13 : decode cX5_fits 13 = .ok (.bipush 112, 2) := by decide +kernel
theorem dX5_fits_15 : decode cX5_fits 15 = .ok (.if_icmp .ne 7, 3) := by decide +kernel
theorem dX5_fits_18 : decode cX5_fits 18 = .ok (.iconst 1, 1) := by decide +kernel
theorem dX5_fits_19 : decode cX5_fits 19 = .ok (.goto 4, 3) := by decide +kernel
theorem dX5_fits_22 : decode cX5_fits 22 = .ok (.iconst 0, 1) := by decide +kernel
theorem dX5_fits_23 : decode cX5_fits 23 = .ok (.ireturn, 1) := by decide +kernel
theorem dX5_fits_24 : decode cX5_fits 24 = .ok (.iload_n 1, 1) := by decide +kernel
theorem dX5_fits_25 : decode cX5_fits 25 = .ok (.iconst 1, 1) := by decide +kernel
theorem dX5_fits_26 : decode cX5_fits 26 = .ok (.if_icmp .ne 12, 3) := by decide +kernel
theorem dX5_fits_29 : decode cX5_fits 29 = .ok (.iload_n 0, 1) := by decide +kernel
theorem dX5_fits_30 : decode cX5_fits 30 = .ok (.bipush 48, 2) := by decide +kernel
theorem dX5_fits_32 : decode cX5_fits 32 = .ok (.bipush 57, 2) := by decide +kernel
theorem dX5_fits_34 : decode cX5_fits 34 = .ok (.invokestatic 52, 3) := by decide +kernel
theorem dX5_fits_37 : decode cX5_fits 37 = .ok (.ireturn, 1) := by decide +kernel
theorem dX5_fits_38 : decode cX5_fits 38 = .ok (.iload_n 1, 1) := by decide +kernel
theorem dX5_fits_39 : decode cX5_fits 39 = .ok (.iconst 2, 1) := by decide +kernel
theorem dX5_fits_40 : decode cX5_fits 40 = .ok (.if_icmp .ne 12, 3) := by decide +kernel
theorem dX5_fits_43 : decode cX5_fits 43 = .ok (.iload_n 0, 1) := by decide +kernel
theorem dX5_fits_44 : decode cX5_fits 44 = .ok (.bipush 51, 2) := by decide +kernel
theorem dX5_fits_46 : decode cX5_fits 46 = .ok (.bipush 56, 2) := by decide +kernel
theorem dX5_fits_48 : decode cX5_fits 48 = .ok (.invokestatic 52, 3) := by decide +kernel
theorem dX5_fits_51 : decode cX5_fits 51 = .ok (.ireturn, 1) := by decide +kernel
theorem dX5_fits_52 : decode cX5_fits 52 = .ok (.iload_n 1, 1) := by decide +kernel
theorem dX5_fits_53 : decode cX5_fits 53 = .ok (.invokestatic 21, 3) := by decide +kernel
theorem dX5_fits_56 : decode cX5_fits 56 = .ok (.ifCond .eq 18, 3) := by decide +kernel
theorem dX5_fits_59 : decode cX5_fits 59 = .ok (.iload_n 0, 1) := by decide +kernel
theorem dX5_fits_60 : decode cX5_fits 60 = .ok (.invokestatic 40, 3) := by decide +kernel
theorem dX5_fits_63 : decode cX5_fits 63 = .ok (.bipush (-9), 2) := by decide +kernel
theorem dX5_fits_65 : decode cX5_fits 65 = .ok (.if_icmp .eq 7, 3) := by decide +kernel
theorem dX5_fits_68 : decode cX5_fits 68 = .ok (.iconst 1, 1) := by decide +kernel
theorem dX5_fits_69 : decode cX5_fits 69 = .ok (.goto 4, 3) := by decide +kernel
theorem dX5_fits_72 : decode cX5_fits 72 = .ok (.iconst 0, 1) := by decide +kernel
theorem dX5_fits_73 : decode cX5_fits 73 = .ok (.ireturn, 1) := by decide +kernel
theorem dX5_fits_74 : decode cX5_fits 74 = .ok (.iload_n 0, 1) := by decide +kernel
theorem dX5_fits_75 : decode cX5_fits 75 = .ok (.bipush 48, 2) := by decide +kernel
theorem dX5_fits_77 : decode cX5_fits 77 = .ok (.bipush 48, 2) := by decide +kernel
theorem dX5_fits_79 : decode cX5_fits 79 = .ok (.iload_n 2, 1) := by decide +kernel
theorem dX5_fits_80 : decode cX5_fits 80 = .ok (.iadd, 1) := by decide +kernel
theorem dX5_fits_81 : decode cX5_fits 81 = .ok (.iconst 1, 1) := by decide +kernel
theorem dX5_fits_82 : decode cX5_fits 82 = .ok (.isub, 1) := by decide +kernel
theorem dX5_fits_83 : decode cX5_fits 83 = .ok (.invokestatic 52, 3) := by decide +kernel
theorem dX5_fits_86 : decode cX5_fits 86 = .ok (.ireturn, 1) := by decide +kernel
theorem dX6_init_0 : decode cX6_init 0 = .ok (.aload_n 0, 1) := by decide +kernel
theorem dX6_init_1 : decode cX6_init 1 = .ok (.invokespecial 3, 3) := by decide +kernel
theorem dX6_init_4 : decode cX6_init 4 = .ok (.aload_n 0, 1) := by decide +kernel
theorem dX6_init_5 : decode cX6_init 5 = .ok (.iconst 4, 1) := by decide +kernel
theorem dX6_init_6 : decode cX6_init 6 = .ok (.bipush 8, 2) := by decide +kernel
theorem dX6_init_8 : decode cX6_init 8 = .ok (.multianewarray 9 2, 4) := by decide +kernel
theorem dX6_init_12 : decode cX6_init 12 = .ok (.putfield 11, 3) := by decide +kernel
theorem dX6_init_15 : decode cX6_init 15 = .ok (.return_, 1) := by decide +kernel
theorem dX6_play_0 : decode cX6_play 0 = .ok (.aload_n 1, 1) := by decide +kernel
theorem dX6_play_1 : decode cX6_play 1 = .ok (.getfield 16, 3) := by decide +kernel
theorem dX6_play_4 : decode cX6_play 4 = .ok (.iconst 0, 1) := by decide +kernel
theorem dX6_play_5 : decode cX6_play 5 = .ok (.aload_n 0, 1) := by decide +kernel
theorem dX6_play_6 : decode cX6_play 6 = .ok (.getfield 11, 3) := by decide +kernel
theorem dX6_play_9 : decode cX6_play 9 = .ok (.iconst 0, 1) := by decide +kernel
theorem dX6_play_10 : decode cX6_play 10 = .ok (.aaload, 1) := by decide +kernel
theorem dX6_play_11 : decode cX6_play 11 = .ok (.iconst 0, 1) := by decide +kernel
theorem dX6_play_12 : decode cX6_play 12 = .ok (.bipush 8, 2) := by decide +kernel
theorem dX6_play_14 : decode cX6_play 14 = .ok (.invokestatic 22, 3) := by decide +kernel
theorem dX6_play_17 : decode cX6_play 17 = .ok (.aload_n 0, 1) := by decide +kernel
theorem dX6_play_18 : decode cX6_play 18 = .ok (.aload_n 1, 1) := by decide +kernel
theorem dX6_play_19 : decode cX6_play 19 = .ok (.iload_n 2, 1) := by decide +kernel
theorem dX6_play_20 : decode cX6_play 20 = .ok (.iload_n 3, 1) := by decide +kernel
theorem dX6_play_21 : decode cX6_play 21 = .ok (.iconst 0, 1) := by decide +kernel
theorem dX6_play_22 : decode cX6_play 22 = .ok (.invokevirtual 28, 3) := by decide +kernel
theorem dX6_play_25 : decode cX6_play 25 = .ok (.ireturn, 1) := by decide +kernel
theorem dX6_mostByTalk_0 : decode cX6_mostByTalk 0 = .ok (.iload_n 3, 1) := by decide +kernel
theorem dX6_mostByTalk_1 : decode cX6_mostByTalk 1 = .ok (.ifCond .le 15, 3) := by decide +kernel
theorem dX6_mostByTalk_4 : decode cX6_mostByTalk 4 = .ok (.iload 4, 2) := by decide +kernel
theorem dX6_mostByTalk_6 : decode cX6_mostByTalk 6 = .ok (.iconst 1, 1) := by decide +kernel
theorem dX6_mostByTalk_7 : decode cX6_mostByTalk 7 = .ok (.iadd, 1) := by decide +kernel
theorem dX6_mostByTalk_8 : decode cX6_mostByTalk 8 = .ok (.aload_n 0, 1) := by decide +kernel
theorem dX6_mostByTalk_9 : decode cX6_mostByTalk 9 = .ok (.getfield 11, 3) := by decide +kernel
theorem dX6_mostByTalk_12 : decode cX6_mostByTalk 12 = .ok (.arraylength, 1) := by decide +kernel
theorem dX6_mostByTalk_13 : decode cX6_mostByTalk 13 = .ok (.if_icmp .lt 15, 3) := by decide +kernel
theorem dX6_mostByTalk_16 : decode cX6_mostByTalk 16 = .ok (.aload_n 1, 1) := by decide +kernel
theorem dX6_mostByTalk_17 : decode cX6_mostByTalk 17 = .ok (.aload_n 0, 1) := by decide +kernel
theorem dX6_mostByTalk_18 : decode cX6_mostByTalk 18 = .ok (.getfield 11, 3) := by decide +kernel
theorem dX6_mostByTalk_21 : decode cX6_mostByTalk 21 = .ok (.iload 4, 2) := by decide +kernel
theorem dX6_mostByTalk_23 : decode cX6_mostByTalk 23 = .ok (.aaload, 1) := by decide +kernel
theorem dX6_mostByTalk_24 : decode cX6_mostByTalk 24 = .ok (.invokevirtual 32, 3) := by decide +kernel
theorem dX6_mostByTalk_27 : decode cX6_mostByTalk 27 = .ok (.ireturn, 1) := by decide +kernel
theorem dX6_mostByTalk_28 : decode cX6_mostByTalk 28 = .ok (.iconst 0, 1) := by decide +kernel
theorem dX6_mostByTalk_29 : decode cX6_mostByTalk 29 = .ok (.istore 5, 2) := by decide +kernel
theorem dX6_mostByTalk_31 : decode cX6_mostByTalk 31 = .ok (.iconst (-1), 1) := by decide +kernel
theorem dX6_mostByTalk_32 : decode cX6_mostByTalk 32 = .ok (.istore 6, 2) := by decide +kernel
theorem dX6_mostByTalk_34 : decode cX6_mostByTalk 34 = .ok (.iload 6, 2) := by decide +kernel
theorem dX6_mostByTalk_36 : decode cX6_mostByTalk 36 = .ok (.aload_n 1, 1) := by decide +kernel
theorem dX6_mostByTalk_37 : decode cX6_mostByTalk 37 = .ok (.getfield 36, 3) := by decide +kernel
theorem dX6_mostByTalk_40 : decode cX6_mostByTalk 40 = .ok (.if_icmp .ge 54, 3) := by decide +kernel
theorem dX6_mostByTalk_43 : decode cX6_mostByTalk 43 = .ok (.aload_n 0, 1) := by decide +kernel
theorem dX6_mostByTalk_44 : decode cX6_mostByTalk 44 = .ok (.iload 4, 2) := by decide +kernel
theorem dX6_mostByTalk_46 : decode cX6_mostByTalk 46 = .ok (.invokevirtual 40, 3) := by decide +kernel
theorem dX6_mostByTalk_49 : decode cX6_mostByTalk 49 = .ok (.iload 6, 2) := by decide +kernel
theorem dX6_mostByTalk_51 : decode cX6_mostByTalk 51 = .ok (.ifCond .lt 19, 3) := by decide +kernel
theorem dX6_mostByTalk_54 : decode cX6_mostByTalk 54 = .ok (.aload_n 1, 1) := by decide +kernel
theorem dX6_mostByTalk_55 : decode cX6_mostByTalk 55 = .ok (.aload_n 0, 1) := by decide +kernel
theorem dX6_mostByTalk_56 : decode cX6_mostByTalk 56 = .ok (.getfield 11, 3) := by decide +kernel
theorem dX6_mostByTalk_59 : decode cX6_mostByTalk 59 = .ok (.iload 4, 2) := by decide +kernel
theorem dX6_mostByTalk_61 : decode cX6_mostByTalk 61 = .ok (.iconst 1, 1) := by decide +kernel
theorem dX6_mostByTalk_62 : decode cX6_mostByTalk 62 = .ok (.iadd, 1) := by decide +kernel
theorem dX6_mostByTalk_63 : decode cX6_mostByTalk 63 = .ok (.aaload, 1) := by decide +kernel
theorem dX6_mostByTalk_64 : decode cX6_mostByTalk 64 = .ok (.iload 6, 2) := by decide +kernel
theorem dX6_mostByTalk_66 : decode cX6_mostByTalk 66 = .ok (.iload_n 2, 1) := by decide +kernel
theorem dX6_mostByTalk_67 : decode cX6_mostByTalk 67 = .ok (.invokevirtual 44, 3) := by decide +kernel
theorem dX6_mostByTalk_70 : decode cX6_mostByTalk 70 = .ok (.iload 5, 2) := by decide +kernel
theorem dX6_mostByTalk_72 : decode cX6_mostByTalk 72 = .ok (.aload_n 0, 1) := by decide +kernel
theorem dX6_mostByTalk_73 : decode cX6_mostByTalk 73 = .ok (.aload_n 1, 1) := by decide +kernel
theorem dX6_mostByTalk_74 : decode cX6_mostByTalk 74 = .ok (.iload_n 2, 1) := by decide +kernel
theorem dX6_mostByTalk_75 : decode cX6_mostByTalk 75 = .ok (.iload_n 3, 1) := by decide +kernel
theorem dX6_mostByTalk_76 : decode cX6_mostByTalk 76 = .ok (.iload 4, 2) := by decide +kernel
theorem dX6_mostByTalk_78 : decode cX6_mostByTalk 78 = .ok (.iconst 1, 1) := by decide +kernel
theorem dX6_mostByTalk_79 : decode cX6_mostByTalk 79 = .ok (.iadd, 1) := by decide +kernel
theorem dX6_mostByTalk_80 : decode cX6_mostByTalk 80 = .ok (.invokevirtual 48, 3) := by decide +kernel
theorem dX6_mostByTalk_83 : decode cX6_mostByTalk 83 = .ok (.invokestatic 51, 3) := by decide +kernel
theorem dX6_mostByTalk_86 : decode cX6_mostByTalk 86 = .ok (.istore 5, 2) := by decide +kernel
theorem dX6_mostByTalk_88 : decode cX6_mostByTalk 88 = .ok (.iinc 6 1, 3) := by decide +kernel
theorem dX6_mostByTalk_91 : decode cX6_mostByTalk 91 = .ok (.goto (-57), 3) := by decide +kernel
theorem dX6_mostByTalk_94 : decode cX6_mostByTalk 94 = .ok (.iload 5, 2) := by decide +kernel
theorem dX6_mostByTalk_96 : decode cX6_mostByTalk 96 = .ok (.ireturn, 1) := by decide +kernel
theorem dX6_leastByWindow_0 : decode cX6_leastByWindow 0 = .ok (.iload_n 3, 1) := by decide +kernel
theorem dX6_leastByWindow_1 : decode cX6_leastByWindow 1 = .ok (.iconst 1, 1) := by decide +kernel
theorem dX6_leastByWindow_2 : decode cX6_leastByWindow 2 = .ok (.if_icmp .le 15, 3) := by decide +kernel
theorem dX6_leastByWindow_5 : decode cX6_leastByWindow 5 = .ok (.iload 4, 2) := by decide +kernel
theorem dX6_leastByWindow_7 : decode cX6_leastByWindow 7 = .ok (.iconst 1, 1) := by decide +kernel
theorem dX6_leastByWindow_8 : decode cX6_leastByWindow 8 = .ok (.iadd, 1) := by decide +kernel
theorem dX6_leastByWindow_9 : decode cX6_leastByWindow 9 = .ok (.aload_n 0, 1) := by decide +kernel
theorem dX6_leastByWindow_10 : decode cX6_leastByWindow 10 = .ok (.getfield 11, 3) := by decide +kernel
theorem dX6_leastByWindow_13 : decode cX6_leastByWindow 13 = .ok (.arraylength, 1) := by decide +kernel
theorem dX6_leastByWindow_14 : decode cX6_leastByWindow 14 = .ok (.if_icmp .lt 27, 3) := by decide +kernel
theorem dX6_leastByWindow_17 : decode cX6_leastByWindow 17 = .ok (.aload_n 1, 1) := by decide +kernel
theorem dX6_leastByWindow_18 : decode cX6_leastByWindow 18 = .ok (.aload_n 0, 1) := by decide +kernel
theorem dX6_leastByWindow_19 : decode cX6_leastByWindow 19 = .ok (.getfield 11, 3) := by decide +kernel
theorem dX6_leastByWindow_22 : decode cX6_leastByWindow 22 = .ok (.iload 4, 2) := by decide +kernel
theorem dX6_leastByWindow_24 : decode cX6_leastByWindow 24 = .ok (.aaload, 1) := by decide +kernel
theorem dX6_leastByWindow_25 : decode cX6_leastByWindow 25 = .ok (.invokevirtual 32, 3) := by decide +kernel
theorem dX6_leastByWindow_28 : decode cX6_leastByWindow 28 = .ok (.aload_n 1, 1) := by decide +kernel
theorem dX6_leastByWindow_29 : decode cX6_leastByWindow 29 = .ok (.aload_n 0, 1) := by decide +kernel
theorem dX6_leastByWindow_30 : decode cX6_leastByWindow 30 = .ok (.getfield 11, 3) := by decide +kernel
theorem dX6_leastByWindow_33 : decode cX6_leastByWindow 33 = .ok (.iload 4, 2) := by decide +kernel
theorem dX6_leastByWindow_35 : decode cX6_leastByWindow 35 = .ok (.aaload, 1) := by decide +kernel
theorem dX6_leastByWindow_36 : decode cX6_leastByWindow 36 = .ok (.invokevirtual 57, 3) := by decide +kernel
theorem dX6_leastByWindow_39 : decode cX6_leastByWindow 39 = .ok (.isub, 1) := by decide +kernel
theorem dX6_leastByWindow_40 : decode cX6_leastByWindow 40 = .ok (.ireturn, 1) := by decide +kernel
theorem dX6_leastByWindow_41 : decode cX6_leastByWindow 41 = .ok (.sipush 7992, 3) := by decide +kernel
theorem dX6_leastByWindow_44 : decode cX6_leastByWindow 44 = .ok (.istore 5, 2) := by decide +kernel
theorem dX6_leastByWindow_46 : decode cX6_leastByWindow 46 = .ok (.iconst (-1), 1) := by decide +kernel
theorem dX6_leastByWindow_47 : decode cX6_leastByWindow 47 = .ok (.istore 6, 2) := by decide +kernel
theorem dX6_leastByWindow_49 : decode cX6_leastByWindow 49 = .ok (.iload 6, 2) := by decide +kernel
theorem dX6_leastByWindow_51 : decode cX6_leastByWindow 51 = .ok (.aload_n 1, 1) := by decide +kernel
theorem dX6_leastByWindow_52 : decode cX6_leastByWindow 52 = .ok (.getfield 60, 3) := by decide +kernel
theorem dX6_leastByWindow_55 : decode cX6_leastByWindow 55 = .ok (.if_icmp .ge 53, 3) := by decide +kernel
theorem dX6_leastByWindow_58 : decode cX6_leastByWindow 58 = .ok (.aload_n 0, 1) := by decide +kernel
theorem dX6_leastByWindow_59 : decode cX6_leastByWindow 59 = .ok (.iload 4, 2) := by decide +kernel
theorem dX6_leastByWindow_61 : decode cX6_leastByWindow 61 = .ok (.invokevirtual 40, 3) := by decide +kernel
theorem dX6_leastByWindow_64 : decode cX6_leastByWindow 64 = .ok (.iload 6, 2) := by decide +kernel
theorem dX6_leastByWindow_66 : decode cX6_leastByWindow 66 = .ok (.ifCond .lt 16, 3) := by decide +kernel
theorem dX6_leastByWindow_69 : decode cX6_leastByWindow 69 = .ok (.aload_n 0, 1) := by decide +kernel
theorem dX6_leastByWindow_70 : decode cX6_leastByWindow 70 = .ok (.getfield 11, 3) := by decide +kernel
theorem dX6_leastByWindow_73 : decode cX6_leastByWindow 73 = .ok (.iload 4, 2) := by decide +kernel
theorem dX6_leastByWindow_75 : decode cX6_leastByWindow 75 = .ok (.iconst 1, 1) := by decide +kernel
theorem dX6_leastByWindow_76 : decode cX6_leastByWindow 76 = .ok (.iadd, 1) := by decide +kernel
theorem dX6_leastByWindow_77 : decode cX6_leastByWindow 77 = .ok (.aaload, 1) := by decide +kernel
theorem dX6_leastByWindow_78 : decode cX6_leastByWindow 78 = .ok (.iload 6, 2) := by decide +kernel
theorem dX6_leastByWindow_80 : decode cX6_leastByWindow 80 = .ok (.iconst 0, 1) := by decide +kernel
theorem dX6_leastByWindow_81 : decode cX6_leastByWindow 81 = .ok (.iastore, 1) := by decide +kernel
theorem dX6_leastByWindow_82 : decode cX6_leastByWindow 82 = .ok (.iload 5, 2) := by decide +kernel
theorem dX6_leastByWindow_84 : decode cX6_leastByWindow 84 = .ok (.aload_n 0, 1) := by decide +kernel
theorem dX6_leastByWindow_85 : decode cX6_leastByWindow 85 = .ok (.aload_n 1, 1) := by decide +kernel
theorem dX6_leastByWindow_86 : decode cX6_leastByWindow 86 = .ok (.iload_n 2, 1) := by decide +kernel
theorem dX6_leastByWindow_87 : decode cX6_leastByWindow 87 = .ok (.iload_n 3, 1) := by decide +kernel
theorem dX6_leastByWindow_88 : decode cX6_leastByWindow 88 = .ok (.iconst 1, 1) := by decide +kernel
theorem dX6_leastByWindow_89 : decode cX6_leastByWindow 89 = .ok (.isub, 1) := by decide +kernel
theorem dX6_leastByWindow_90 : decode cX6_leastByWindow 90 = .ok (.iload 4, 2) := by decide +kernel
theorem dX6_leastByWindow_92 : decode cX6_leastByWindow 92 = .ok (.iconst 1, 1) := by decide +kernel
theorem dX6_leastByWindow_93 : decode cX6_leastByWindow 93 = .ok (.iadd, 1) := by decide +kernel
theorem dX6_leastByWindow_94 : decode cX6_leastByWindow 94 = .ok (.invokevirtual 28, 3) := by decide +kernel
theorem dX6_leastByWindow_97 : decode cX6_leastByWindow 97 = .ok (.invokestatic 63, 3) := by decide +kernel
theorem dX6_leastByWindow_100 : decode cX6_leastByWindow 100 = .ok (.istore 5, 2) := by decide +kernel
theorem dX6_leastByWindow_102 : decode cX6_leastByWindow 102 = .ok (.iinc 6 1, 3) := by decide +kernel
theorem dX6_leastByWindow_105 : decode cX6_leastByWindow 105 = .ok (.goto (-56), 3) := by decide +kernel
theorem dX6_leastByWindow_108 : decode cX6_leastByWindow 108 = .ok (.iload 5, 2) := by decide +kernel
theorem dX6_leastByWindow_110 : decode cX6_leastByWindow 110 = .ok (.ireturn, 1) := by decide +kernel
theorem dX6_takeAir_0 : decode cX6_takeAir 0 = .ok (.aload_n 0, 1) := by decide +kernel
theorem dX6_takeAir_1 : decode cX6_takeAir 1 = .ok (.getfield 11, 3) := by decide +kernel
theorem dX6_takeAir_4 : decode cX6_takeAir 4 = .ok (.iload_n 1, 1) := by decide +kernel
theorem dX6_takeAir_5 : decode cX6_takeAir 5 = .ok (.aaload, 1) := by decide +kernel
theorem dX6_takeAir_6 : decode cX6_takeAir 6 = .ok (.iconst 0, 1) := by decide +kernel
theorem dX6_takeAir_7 : decode cX6_takeAir 7 = .ok (.aload_n 0, 1) := by decide +kernel
theorem dX6_takeAir_8 : decode cX6_takeAir 8 = .ok (.getfield 11, 3) := by decide +kernel
theorem dX6_takeAir_11 : decode cX6_takeAir 11 = .ok (.iload_n 1, 1) := by decide +kernel
theorem dX6_takeAir_12 : decode cX6_takeAir 12 = .ok (.iconst 1, 1) := by decide +kernel
theorem dX6_takeAir_13 : decode cX6_takeAir 13 = .ok (.iadd, 1) := by decide +kernel
theorem dX6_takeAir_14 : decode cX6_takeAir 14 = .ok (.aaload, 1) := by decide +kernel
theorem dX6_takeAir_15 : decode cX6_takeAir 15 = .ok (.iconst 0, 1) := by decide +kernel
theorem dX6_takeAir_16 : decode cX6_takeAir 16 = .ok (.bipush 8, 2) := by decide +kernel
theorem dX6_takeAir_18 : decode cX6_takeAir 18 = .ok (.invokestatic 22, 3) := by decide +kernel
theorem dX6_takeAir_21 : decode cX6_takeAir 21 = .ok (.return_, 1) := by decide +kernel
theorem dJ6_bitCount_0f7a4_0 : decode cJ6_bitCount_0f7a4 0 = .ok (.iload_n 0, 1) := by decide +kernel
theorem dJ6_bitCount_0f7a4_1 : decode cJ6_bitCount_0f7a4 1 = .ok (.iload_n 0, 1) := by decide +kernel
theorem dJ6_bitCount_0f7a4_2 : decode cJ6_bitCount_0f7a4 2 = .ok (.iconst 1, 1) := by decide +kernel
theorem dJ6_bitCount_0f7a4_3 : decode cJ6_bitCount_0f7a4 3 = .ok (.iushr, 1) := by decide +kernel
theorem dJ6_bitCount_0f7a4_4 : decode cJ6_bitCount_0f7a4 4 = .ok (.ldc_w 265, 3) := by decide +kernel
theorem dJ6_bitCount_0f7a4_7 : decode cJ6_bitCount_0f7a4 7 = .ok (.iand, 1) := by decide +kernel
theorem dJ6_bitCount_0f7a4_8 : decode cJ6_bitCount_0f7a4 8 = .ok (.isub, 1) := by decide +kernel
theorem dJ6_bitCount_0f7a4_9 : decode cJ6_bitCount_0f7a4 9 = .ok (.istore_n 0, 1) := by decide +kernel
theorem dJ6_bitCount_0f7a4_10 : decode cJ6_bitCount_0f7a4 10 = .ok (.iload_n 0, 1) := by decide +kernel
theorem dJ6_bitCount_0f7a4_11 : decode cJ6_bitCount_0f7a4 11 = .ok (.ldc_w 266, 3) := by decide +kernel
theorem dJ6_bitCount_0f7a4_14 : decode cJ6_bitCount_0f7a4 14 = .ok (.iand, 1) := by decide +kernel
theorem dJ6_bitCount_0f7a4_15 : decode cJ6_bitCount_0f7a4 15 = .ok (.iload_n 0, 1) := by decide +kernel
theorem dJ6_bitCount_0f7a4_16 : decode cJ6_bitCount_0f7a4 16 = .ok (.iconst 2, 1) := by decide +kernel
theorem dJ6_bitCount_0f7a4_17 : decode cJ6_bitCount_0f7a4 17 = .ok (.iushr, 1) := by decide +kernel
theorem dJ6_bitCount_0f7a4_18 : decode cJ6_bitCount_0f7a4 18 = .ok (.ldc_w 266, 3) := by decide +kernel
theorem dJ6_bitCount_0f7a4_21 : decode cJ6_bitCount_0f7a4 21 = .ok (.iand, 1) := by decide +kernel
theorem dJ6_bitCount_0f7a4_22 : decode cJ6_bitCount_0f7a4 22 = .ok (.iadd, 1) := by decide +kernel
theorem dJ6_bitCount_0f7a4_23 : decode cJ6_bitCount_0f7a4 23 = .ok (.istore_n 0, 1) := by decide +kernel
theorem dJ6_bitCount_0f7a4_24 : decode cJ6_bitCount_0f7a4 24 = .ok (.iload_n 0, 1) := by decide +kernel
theorem dJ6_bitCount_0f7a4_25 : decode cJ6_bitCount_0f7a4 25 = .ok (.iload_n 0, 1) := by decide +kernel
theorem dJ6_bitCount_0f7a4_26 : decode cJ6_bitCount_0f7a4 26 = .ok (.iconst 4, 1) := by decide +kernel
theorem dJ6_bitCount_0f7a4_27 : decode cJ6_bitCount_0f7a4 27 = .ok (.iushr, 1) := by decide +kernel
theorem dJ6_bitCount_0f7a4_28 : decode cJ6_bitCount_0f7a4 28 = .ok (.iadd, 1) := by decide +kernel
theorem dJ6_bitCount_0f7a4_29 : decode cJ6_bitCount_0f7a4 29 = .ok (.ldc_w 267, 3) := by decide +kernel
theorem dJ6_bitCount_0f7a4_32 : decode cJ6_bitCount_0f7a4 32 = .ok (.iand, 1) := by decide +kernel
theorem dJ6_bitCount_0f7a4_33 : decode cJ6_bitCount_0f7a4 33 = .ok (.istore_n 0, 1) := by decide +kernel
theorem dJ6_bitCount_0f7a4_34 : decode cJ6_bitCount_0f7a4 34 = .ok (.iload_n 0, 1) := by decide +kernel
theorem dJ6_bitCount_0f7a4_35 : decode cJ6_bitCount_0f7a4 35 = .ok (.iload_n 0, 1) := by decide +kernel
theorem dJ6_bitCount_0f7a4_36 : decode cJ6_bitCount_0f7a4 36 = .ok (.bipush 8, 2) := by decide +kernel
theorem dJ6_bitCount_0f7a4_38 : decode cJ6_bitCount_0f7a4 38 = .ok (.iushr, 1) := by decide +kernel
theorem dJ6_bitCount_0f7a4_39 : decode cJ6_bitCount_0f7a4 39 = .ok (.iadd, 1) := by decide +kernel
theorem dJ6_bitCount_0f7a4_40 : decode cJ6_bitCount_0f7a4 40 = .ok (.istore_n 0, 1) := by decide +kernel
theorem dJ6_bitCount_0f7a4_41 : decode cJ6_bitCount_0f7a4 41 = .ok (.iload_n 0, 1) := by decide +kernel
theorem dJ6_bitCount_0f7a4_42 : decode cJ6_bitCount_0f7a4 42 = .ok (.iload_n 0, 1) := by decide +kernel
theorem dJ6_bitCount_0f7a4_43 : decode cJ6_bitCount_0f7a4 43 = .ok (.bipush 16, 2) := by decide +kernel
theorem dJ6_bitCount_0f7a4_45 : decode cJ6_bitCount_0f7a4 45 = .ok (.iushr, 1) := by decide +kernel
theorem dJ6_bitCount_0f7a4_46 : decode cJ6_bitCount_0f7a4 46 = .ok (.iadd, 1) := by decide +kernel
theorem dJ6_bitCount_0f7a4_47 : decode cJ6_bitCount_0f7a4 47 = .ok (.istore_n 0, 1) := by decide +kernel
theorem dJ6_bitCount_0f7a4_48 : decode cJ6_bitCount_0f7a4 48 = .ok (.iload_n 0, 1) := by decide +kernel
theorem dJ6_bitCount_0f7a4_49 : decode cJ6_bitCount_0f7a4 49 = .ok (.bipush 63, 2) := by decide +kernel
theorem dJ6_bitCount_0f7a4_51 : decode cJ6_bitCount_0f7a4 51 = .ok (.iand, 1) := by decide +kernel
theorem dJ6_bitCount_0f7a4_52 : decode cJ6_bitCount_0f7a4 52 = .ok (.ireturn, 1) := by decide +kernel
theorem dJ9_max_7cf53_0 : decode cJ9_max_7cf53 0 = .ok (.iload_n 0, 1) := by decide +kernel
theorem dJ9_max_7cf53_1 : decode cJ9_max_7cf53 1 = .ok (.iload_n 1, 1) := by decide +kernel
theorem dJ9_max_7cf53_2 : decode cJ9_max_7cf53 2 = .ok (.if_icmp .lt 7, 3) := by decide +kernel
theorem dJ9_max_7cf53_5 : decode cJ9_max_7cf53 5 = .ok (.iload_n 0, 1) := by decide +kernel
theorem dJ9_max_7cf53_6 : decode cJ9_max_7cf53 6 = .ok (.goto 4, 3) := by decide +kernel
theorem dJ9_max_7cf53_9 : decode cJ9_max_7cf53 9 = .ok (.iload_n 1, 1) := by decide +kernel
theorem dJ9_max_7cf53_10 : decode cJ9_max_7cf53 10 = .ok (.ireturn, 1) := by decide +kernel
theorem dJ9_min_7cf53_0 : decode cJ9_min_7cf53 0 = .ok (.iload_n 0, 1) := by decide +kernel
theorem dJ9_min_7cf53_1 : decode cJ9_min_7cf53 1 = .ok (.iload_n 1, 1) := by decide +kernel
theorem dJ9_min_7cf53_2 : decode cJ9_min_7cf53 2 = .ok (.if_icmp .gt 7, 3) := by decide +kernel
theorem dJ9_min_7cf53_5 : decode cJ9_min_7cf53 5 = .ok (.iload_n 0, 1) := by decide +kernel
theorem dJ9_min_7cf53_6 : decode cJ9_min_7cf53 6 = .ok (.goto 4, 3) := by decide +kernel
theorem dJ9_min_7cf53_9 : decode cJ9_min_7cf53 9 = .ok (.iload_n 1, 1) := by decide +kernel
theorem dJ9_min_7cf53_10 : decode cJ9_min_7cf53 10 = .ok (.ireturn, 1) := by decide +kernel
end
section
theorem dX7_init_0 : decode cX7_init 0 = .ok (.aload_n 0, 1) := by decide +kernel
theorem dX7_init_1 : decode cX7_init 1 = .ok (.invokespecial 3, 3) := by decide +kernel
theorem dX7_init_4 : decode cX7_init 4 = .ok (.aload_n 0, 1) := by decide +kernel
theorem dX7_init_5 : decode cX7_init 5 = .ok (.bipush 6, 2) := by decide +kernel
theorem dX7_init_7 : decode cX7_init 7 = .ok (.bipush 40, 2) := by decide +kernel
theorem dX7_init_9 : decode cX7_init 9 = .ok (.invokestatic 9, 3) := by decide +kernel
theorem dX7_init_12 : decode cX7_init 12 = .ok (.putfield 13, 3) := by decide +kernel
theorem dX7_init_15 : decode cX7_init 15 = .ok (.aload_n 0, 1) := by decide +kernel
theorem dX7_init_16 : decode cX7_init 16 = .ok (.iconst 4, 1) := by decide +kernel
theorem dX7_init_17 : decode cX7_init 17 = .ok (.bipush 60, 2) := by decide +kernel
theorem dX7_init_19 : decode cX7_init 19 = .ok (.invokestatic 9, 3) := by decide +kernel
theorem dX7_init_22 : decode cX7_init 22 = .ok (.putfield 17, 3) := by decide +kernel
theorem dX7_init_25 : decode cX7_init 25 = .ok (.aload_n 0, 1) := by decide +kernel
theorem dX7_init_26 : decode cX7_init 26 = .ok (.new 20, 3) := by decide +kernel
theorem dX7_init_29 : decode cX7_init 29 = .ok (.dup, 1) := by decide +kernel
theorem dX7_init_30 : decode cX7_init 30 = .ok (.invokespecial 22, 3) := by decide +kernel
theorem dX7_init_33 : decode cX7_init 33 = .ok (.putfield 23, 3) := by decide +kernel
theorem dX7_init_36 : decode cX7_init 36 = .ok (.aload_n 0, 1) := by decide +kernel
theorem dX7_init_37 : decode cX7_init 37 = .ok (.new 27, 3) := by decide +kernel
theorem dX7_init_40 : decode cX7_init 40 = .ok (.dup, 1) := by decide +kernel
theorem dX7_init_41 : decode cX7_init 41 = .ok (.invokespecial 29, 3) := by decide +kernel
theorem dX7_init_44 : decode cX7_init 44 = .ok (.putfield 30, 3) := by decide +kernel
theorem dX7_init_47 : decode cX7_init 47 = .ok (.aload_n 0, 1) := by decide +kernel
theorem dX7_init_48 : decode cX7_init 48 = .ok (.getfield 30, 3) := by decide +kernel
theorem dX7_init_51 : decode cX7_init 51 = .ok (.iconst 0, 1) := by decide +kernel
theorem dX7_init_52 : decode cX7_init 52 = .ok (.putfield 34, 3) := by decide +kernel
theorem dX7_init_55 : decode cX7_init 55 = .ok (.aload_n 0, 1) := by decide +kernel
theorem dX7_init_56 : decode cX7_init 56 = .ok (.iconst 3, 1) := by decide +kernel
theorem dX7_init_57 : decode cX7_init 57 = .ok (.anewarray 27, 3) := by decide +kernel
theorem dX7_init_60 : decode cX7_init 60 = .ok (.putfield 38, 3) := by decide +kernel
theorem dX7_init_63 : decode cX7_init 63 = .ok (.iconst 0, 1) := by decide +kernel
theorem dX7_init_64 : decode cX7_init 64 = .ok (.istore_n 1, 1) := by decide +kernel
theorem dX7_init_65 : decode cX7_init 65 = .ok (.iload_n 1, 1) := by decide +kernel
theorem dX7_init_66 : decode cX7_init 66 = .ok (.aload_n 0, 1) := by decide +kernel
theorem dX7_init_67 : decode cX7_init 67 = .ok (.getfield 38, 3) := by decide +kernel
theorem dX7_init_70 : decode cX7_init 70 = .ok (.arraylength, 1) := by decide +kernel
theorem dX7_init_71 : decode cX7_init 71 = .ok (.if_icmp .ge 22, 3) := by decide +kernel
theorem dX7_init_74 : decode cX7_init 74 = .ok (.aload_n 0, 1) := by decide +kernel
theorem dX7_init_75 : decode cX7_init 75 = .ok (.getfield 38, 3) := by decide +kernel
theorem dX7_init_78 : decode cX7_init 78 = .ok (.iload_n 1, 1) := by decide +kernel
theorem dX7_init_79 : decode cX7_init 79 = .ok (.new 27, 3) := by decide +kernel
theorem dX7_init_82 : decode cX7_init 82 = .ok (.dup, 1) := by decide +kernel
theorem dX7_init_83 : decode cX7_init 83 = .ok (.invokespecial 29, 3) := by decide +kernel
theorem dX7_init_86 : decode cX7_init 86 = .ok (.aastore, 1) := by decide +kernel
theorem dX7_init_87 : decode cX7_init 87 = .ok (.iinc 1 1, 3) := by decide +kernel
theorem dX7_init_90 : decode cX7_init 90 = .ok (.goto (-25), 3) := by decide +kernel
theorem dX7_init_93 : decode cX7_init 93 = .ok (.aload_n 0, 1) := by decide +kernel
theorem dX7_init_94 : decode cX7_init 94 = .ok (.new 42, 3) := by decide +kernel
theorem dX7_init_97 : decode cX7_init 97 = .ok (.dup, 1) := by decide +kernel
theorem dX7_init_98 : decode cX7_init 98 = .ok (.invokespecial 44, 3) := by decide +kernel
theorem dX7_init_101 : decode cX7_init 101 = .ok (.putfield 45, 3) := by decide +kernel
theorem dX7_init_104 : decode cX7_init 104 = .ok (.aload_n 0, 1) := by decide +kernel
theorem dX7_init_105 : decode cX7_init 105 = .ok (.bipush 6, 2) := by decide +kernel
theorem dX7_init_107 : decode cX7_init 107 = .ok (.newarray .int, 2) := by decide +kernel
theorem dX7_init_109 : decode cX7_init 109 = .ok (.putfield 49, 3) := by decide +kernel
theorem dX7_init_112 : decode cX7_init 112 = .ok (.aload_n 0, 1) := by decide +kernel
theorem dX7_init_113 : decode cX7_init 113 = .ok (.bipush 7, 2) := by decide +kernel
theorem dX7_init_115 : decode cX7_init 115 = .ok (.newarray .long, 2) := by decide +kernel
theorem dX7_init_117 : decode cX7_init 117 = .ok (.putfield 53, 3) := by decide +kernel
theorem dX7_init_120 : decode cX7_init 120 = .ok (.aload_n 0, 1) := by decide +kernel
theorem dX7_init_121 : decode cX7_init 121 = .ok (.bipush 6, 2) := by decide +kernel
theorem dX7_init_123 : decode cX7_init 123 = .ok (.newarray .int, 2) := by decide +kernel
theorem dX7_init_125 : decode cX7_init 125 = .ok (.putfield 57, 3) := by decide +kernel
theorem dX7_init_128 : decode cX7_init 128 = .ok (.aload_n 0, 1) := by decide +kernel
theorem dX7_init_129 : decode cX7_init 129 = .ok (.lconst 1, 1) := by decide +kernel
theorem dX7_init_130 : decode cX7_init 130 = .ok (.putfield 60, 3) := by decide +kernel
theorem dX7_init_133 : decode cX7_init 133 = .ok (.return_, 1) := by decide +kernel
theorem dX7_row_0 : decode cX7_row 0 = .ok (.aload_n 0, 1) := by decide +kernel
theorem dX7_row_1 : decode cX7_row 1 = .ok (.aload_n 0, 1) := by decide +kernel
theorem dX7_row_2 : decode cX7_row 2 = .ok (.getfield 13, 3) := by decide +kernel
theorem dX7_row_5 : decode cX7_row 5 = .ok (.iload_n 1, 1) := by decide +kernel
theorem dX7_row_6 : decode cX7_row 6 = .ok (.invokestatic 64, 3) := by decide +kernel
theorem dX7_row_9 : decode cX7_row 9 = .ok (.iload_n 2, 1) := by decide +kernel
theorem dX7_row_10 : decode cX7_row 10 = .ok (.bipush 40, 2) := by decide +kernel
theorem dX7_row_12 : decode cX7_row 12 = .ok (.iconst 0, 1) := by decide +kernel
theorem dX7_row_13 : decode cX7_row 13 = .ok (.invokevirtual 68, 3) := by decide +kernel
theorem dX7_row_16 : decode cX7_row 16 = .ok (.ireturn, 1) := by decide +kernel
theorem dX7_lay_0 : decode cX7_lay 0 = .ok (.aload_n 0, 1) := by decide +kernel
theorem dX7_lay_1 : decode cX7_lay 1 = .ok (.getfield 13, 3) := by decide +kernel
theorem dX7_lay_4 : decode cX7_lay 4 = .ok (.iload_n 1, 1) := by decide +kernel
theorem dX7_lay_5 : decode cX7_lay 5 = .ok (.invokestatic 64, 3) := by decide +kernel
theorem dX7_lay_8 : decode cX7_lay 8 = .ok (.astore 4, 2) := by decide +kernel
theorem dX7_lay_10 : decode cX7_lay 10 = .ok (.aload 4, 2) := by decide +kernel
theorem dX7_lay_12 : decode cX7_lay 12 = .ok (.ifnonnull 5, 3) := by decide +kernel
theorem dX7_lay_15 : decode cX7_lay 15 = .ok (.iconst (-1), 1) := by decide +kernel
theorem dX7_lay_16 : decode cX7_lay 16 = .ok (.ireturn, 1) := by decide +kernel
theorem dX7_lay_17 : decode cX7_lay 17 = .ok (.aload_n 0, 1) := by decide +kernel
theorem dX7_lay_18 : decode cX7_lay 18 = .ok (.aload 4, 2) := by decide +kernel
theorem dX7_lay_20 : decode cX7_lay 20 = .ok (.iload_n 2, 1) := by decide +kernel
theorem dX7_lay_21 : decode cX7_lay 21 = .ok (.invokevirtual 72, 3) := by decide +kernel
theorem dX7_lay_24 : decode cX7_lay 24 = .ok (.istore 5, 2) := by decide +kernel
theorem dX7_lay_26 : decode cX7_lay 26 = .ok (.iload 5, 2) := by decide +kernel
theorem dX7_lay_28 : decode cX7_lay 28 = .ok (.ifCond .eq 6, 3) := by decide +kernel
theorem dX7_lay_31 : decode cX7_lay 31 = .ok (.iload 5, 2) := by decide +kernel
theorem dX7_lay_33 : decode cX7_lay 33 = .ok (.ireturn, 1) := by decide +kernel
theorem dX7_lay_34 : decode cX7_lay 34 = .ok (.aload_n 0, 1) := by decide +kernel
theorem dX7_lay_35 : decode cX7_lay 35 = .ok (.aload 4, 2) := by decide +kernel
theorem dX7_lay_37 : decode cX7_lay 37 = .ok (.iload_n 2, 1) := by decide +kernel
theorem dX7_lay_38 : decode cX7_lay 38 = .ok (.invokevirtual 76, 3) := by decide +kernel
theorem dX7_lay_41 : decode cX7_lay 41 = .ok (.putfield 82, 3) := by decide +kernel
theorem dX7_lay_44 : decode cX7_lay 44 = .ok (.aload 4, 2) := by decide +kernel
theorem dX7_lay_46 : decode cX7_lay 46 = .ok (.iload_n 2, 1) := by decide +kernel
theorem dX7_lay_47 : decode cX7_lay 47 = .ok (.iload_n 3, 1) := by decide +kernel
theorem dX7_lay_48 : decode cX7_lay 48 = .ok (.invokevirtual 85, 3) := by decide +kernel
theorem dX7_lay_51 : decode cX7_lay 51 = .ok (.iconst 1, 1) := by decide +kernel
theorem dX7_lay_52 : decode cX7_lay 52 = .ok (.ireturn, 1) := by decide +kernel
theorem dX7_at_0 : decode cX7_at 0 = .ok (.aload_n 0, 1) := by decide +kernel
theorem dX7_at_1 : decode cX7_at 1 = .ok (.getfield 13, 3) := by decide +kernel
theorem dX7_at_4 : decode cX7_at 4 = .ok (.iload_n 1, 1) := by decide +kernel
theorem dX7_at_5 : decode cX7_at 5 = .ok (.invokestatic 64, 3) := by decide +kernel
theorem dX7_at_8 : decode cX7_at 8 = .ok (.astore_n 3, 1) := by decide +kernel
theorem dX7_at_9 : decode cX7_at 9 = .ok (.aload_n 3, 1) := by decide +kernel
theorem dX7_at_10 : decode cX7_at 10 = .ok (.ifnonnull 5, 3) := by decide +kernel
theorem dX7_at_13 : decode cX7_at 13 = .ok (.iconst (-1), 1) := by decide +kernel
theorem dX7_at_14 : decode cX7_at 14 = .ok (.ireturn, 1) := by decide +kernel
theorem dX7_at_15 : decode cX7_at 15 = .ok (.aload_n 0, 1) := by decide +kernel
theorem dX7_at_16 : decode cX7_at 16 = .ok (.aload_n 3, 1) := by decide +kernel
theorem dX7_at_17 : decode cX7_at 17 = .ok (.iload_n 2, 1) := by decide +kernel
theorem dX7_at_18 : decode cX7_at 18 = .ok (.invokevirtual 72, 3) := by decide +kernel
theorem dX7_at_21 : decode cX7_at 21 = .ok (.istore 4, 2) := by decide +kernel
theorem dX7_at_23 : decode cX7_at 23 = .ok (.iload 4, 2) := by decide +kernel
theorem dX7_at_25 : decode cX7_at 25 = .ok (.ifCond .eq 6, 3) := by decide +kernel
theorem dX7_at_28 : decode cX7_at 28 = .ok (.iload 4, 2) := by decide +kernel
theorem dX7_at_30 : decode cX7_at 30 = .ok (.ireturn, 1) := by decide +kernel
theorem dX7_at_31 : decode cX7_at 31 = .ok (.aload_n 0, 1) := by decide +kernel
theorem dX7_at_32 : decode cX7_at 32 = .ok (.aload_n 3, 1) := by decide +kernel
theorem dX7_at_33 : decode cX7_at 33 = .ok (.iload_n 2, 1) := by decide +kernel
theorem dX7_at_34 : decode cX7_at 34 = .ok (.invokevirtual 76, 3) := by decide +kernel
theorem dX7_at_37 : decode cX7_at 37 = .ok (.putfield 82, 3) := by decide +kernel
theorem dX7_at_40 : decode cX7_at 40 = .ok (.iconst 1, 1) := by decide +kernel
theorem dX7_at_41 : decode cX7_at 41 = .ok (.ireturn, 1) := by decide +kernel
theorem dX7_tear_0 : decode cX7_tear 0 = .ok (.aload_n 0, 1) := by decide +kernel
theorem dX7_tear_1 : decode cX7_tear 1 = .ok (.getfield 13, 3) := by decide +kernel
theorem dX7_tear_4 : decode cX7_tear 4 = .ok (.iload_n 1, 1) := by decide +kernel
theorem dX7_tear_5 : decode cX7_tear 5 = .ok (.invokestatic 64, 3) := by decide +kernel
theorem dX7_tear_8 : decode cX7_tear 8 = .ok (.astore_n 2, 1) := by decide +kernel
theorem dX7_tear_9 : decode cX7_tear 9 = .ok (.aload_n 2, 1) := by decide +kernel
theorem dX7_tear_10 : decode cX7_tear 10 = .ok (.ifnonnull 5, 3) := by decide +kernel
theorem dX7_tear_13 : decode cX7_tear 13 = .ok (.iconst (-1), 1) := by decide +kernel
theorem dX7_tear_14 : decode cX7_tear 14 = .ok (.ireturn, 1) := by decide +kernel
theorem dX7_tear_15 : decode cX7_tear 15 = .ok (.aload_n 2, 1) := by decide +kernel
theorem dX7_tear_16 : decode cX7_tear 16 = .ok (.invokevirtual 89, 3) := by decide +kernel
theorem dX7_tear_19 : decode cX7_tear 19 = .ok (.ifCond .ne 9, 3) := by decide +kernel
theorem dX7_tear_22 : decode cX7_tear 22 = .ok (.aload_n 0, 1) := by decide +kernel
theorem dX7_tear_23 : decode cX7_tear 23 = .ok (.iconst 1, 1) := by decide +kernel
theorem dX7_tear_24 : decode cX7_tear 24 = .ok (.invokevirtual 93, 3) := by decide +kernel
theorem dX7_tear_27 : decode cX7_tear 27 = .ok (.ireturn, 1) := by decide +kernel
theorem dX7_tear_28 : decode cX7_tear 28 = .ok (.aload_n 2, 1) := by decide +kernel
theorem dX7_tear_29 : decode cX7_tear 29 = .ok (.iconst (-1), 1) := by decide +kernel
theorem dX7_tear_30 : decode cX7_tear 30 = .ok (.putfield 96, 3) := by decide +kernel
theorem dX7_tear_33 : decode cX7_tear 33 = .ok (.iconst 1, 1) := by decide +kernel
theorem dX7_tear_34 : decode cX7_tear 34 = .ok (.ireturn, 1) := by decide +kernel
theorem dX7_copy_0 : decode cX7_copy 0 = .ok (.aload_n 0, 1) := by decide +kernel
theorem dX7_copy_1 : decode cX7_copy 1 = .ok (.getfield 13, 3) := by decide +kernel
theorem dX7_copy_4 : decode cX7_copy 4 = .ok (.iload_n 1, 1) := by decide +kernel
theorem dX7_copy_5 : decode cX7_copy 5 = .ok (.invokestatic 64, 3) := by decide +kernel
theorem dX7_copy_8 : decode cX7_copy 8 = .ok (.astore 6, 2) := by decide +kernel
theorem dX7_copy_10 : decode cX7_copy 10 = .ok (.aload_n 0, 1) := by decide +kernel
theorem dX7_copy_11 : decode cX7_copy 11 = .ok (.getfield 13, 3) := by decide +kernel
theorem dX7_copy_14 : decode cX7_copy 14 = .ok (.iload_n 3, 1) := by decide +kernel
theorem dX7_copy_15 : decode cX7_copy 15 = .ok (.invokestatic 64, 3) := by decide +kernel
theorem dX7_copy_18 : decode cX7_copy 18 = .ok (.astore 7, 2) := by decide +kernel
theorem dX7_copy_20 : decode cX7_copy 20 = .ok (.aload 6, 2) := by decide +kernel
theorem dX7_copy_22 : decode cX7_copy 22 = .ok (.ifnull 8, 3) := by decide +kernel
theorem dX7_copy_25 : decode cX7_copy 25 = .ok (.aload 7, 2) := by decide +kernel
theorem dX7_copy_27 : decode cX7_copy 27 = .ok (.ifnonnull 5, 3) := by decide +kernel
theorem dX7_copy_30 : decode cX7_copy 30 = .ok (.iconst (-1), 1) := by decide +kernel
theorem dX7_copy_31 : decode cX7_copy 31 = .ok (.ireturn, 1) := by decide +kernel
theorem dX7_copy_32 : decode cX7_copy 32 = .ok (.iload 5, 2) := by decide +kernel
theorem dX7_copy_34 : decode cX7_copy 34 = .ok (.ifCond .ge 9, 3) := by decide +kernel
theorem dX7_copy_37 : decode cX7_copy 37 = .ok (.aload_n 0, 1) := by decide +kernel
theorem dX7_copy_38 : decode cX7_copy 38 = .ok (.iconst 5, 1) := by decide +kernel
theorem dX7_copy_39 : decode cX7_copy 39 = .ok (.invokevirtual 93, 3) := by decide +kernel
theorem dX7_copy_42 : decode cX7_copy 42 = .ok (.ireturn, 1) := by decide +kernel
theorem dX7_copy_43 : decode cX7_copy 43 = .ok (.aload 6, 2) := by decide +kernel
theorem dX7_copy_45 : decode cX7_copy 45 = .ok (.invokevirtual 89, 3) := by decide +kernel
theorem dX7_copy_48 : decode cX7_copy 48 = .ok (.ifCond .eq 11, 3) := by decide +kernel
theorem dX7_copy_51 : decode cX7_copy 51 = .ok (.aload 7, 2) := by decide +kernel
theorem dX7_copy_53 : decode cX7_copy 53 = .ok (.invokevirtual 89, 3) := by decide +kernel
theorem dX7_copy_56 : decode cX7_copy 56 = .ok (.ifCond .ne 9, 3) := by decide +kernel
theorem dX7_copy_59 : decode cX7_copy 59 = .ok (.aload_n 0, 1) := by decide +kernel
theorem dX7_copy_60 : decode cX7_copy 60 = .ok (.iconst 1, 1) := by decide +kernel
theorem dX7_copy_61 : decode cX7_copy 61 = .ok (.invokevirtual 93, 3) := by decide +kernel
theorem dX7_copy_64 : decode cX7_copy 64 = .ok (.ireturn, 1) := by decide +kernel
theorem dX7_copy_65 : decode cX7_copy 65 = .ok (.aload 6, 2) := by decide +kernel
theorem dX7_copy_67 : decode cX7_copy 67 = .ok (.iload_n 2, 1) := by decide +kernel
theorem dX7_copy_68 : decode cX7_copy 68 = .ok (.iload 5, 2) := by decide +kernel
theorem dX7_copy_70 : decode cX7_copy 70 = .ok (.invokevirtual 97, 3) := by decide +kernel
theorem dX7_copy_73 : decode cX7_copy 73 = .ok (.ifCond .eq 15, 3) := by decide +kernel
theorem dX7_copy_76 : decode cX7_copy 76 = .ok (.aload 7, 2) := by decide +kernel
theorem dX7_copy_78 : decode cX7_copy 78 = .ok (.iload 4, 2) := by decide +kernel
theorem dX7_copy_80 : decode cX7_copy 80 = .ok (.iload 5, 2) := by decide +kernel
theorem dX7_copy_82 : decode cX7_copy 82 = .ok (.invokevirtual 97, 3) := by decide +kernel
theorem dX7_copy_85 : decode cX7_copy 85 = .ok (.ifCond .ne 9, 3) := by decide +kernel
theorem dX7_copy_88 : decode cX7_copy 88 = .ok (.aload_n 0, 1) := by decide +kernel
theorem dX7_copy_89 : decode cX7_copy 89 = .ok (.iconst 2, 1) := by decide +kernel
theorem dX7_copy_90 : decode cX7_copy 90 = .ok (.invokevirtual 93, 3) := by decide +kernel
theorem dX7_copy_93 : decode cX7_copy 93 = .ok (.ireturn, 1) := by decide +kernel
theorem dX7_copy_94 : decode cX7_copy 94 = .ok (.aload 6, 2) := by decide +kernel
theorem dX7_copy_96 : decode cX7_copy 96 = .ok (.getfield 101, 3) := by decide +kernel
theorem dX7_copy_99 : decode cX7_copy 99 = .ok (.iload_n 2, 1) := by decide +kernel
theorem dX7_copy_100 : decode cX7_copy 100 = .ok (.aload 7, 2) := by decide +kernel
theorem dX7_copy_102 : decode cX7_copy 102 = .ok (.getfield 101, 3) := by decide +kernel
theorem dX7_copy_105 : decode cX7_copy 105 = .ok (.iload 4, 2) := by decide +kernel
theorem dX7_copy_107 : decode cX7_copy 107 = .ok (.iload 5, 2) := by decide +kernel
theorem dX7_copy_109 : decode cX7_copy 109 = .ok (.invokestatic 104, 3) := by decide +kernel
theorem dX7_copy_112 : decode cX7_copy 112 = .ok (.iconst 1, 1) := by decide +kernel
theorem dX7_copy_113 : decode cX7_copy 113 = .ok (.ireturn, 1) := by decide +kernel
theorem dX7_mean_0 : decode cX7_mean 0 = .ok (.aload_n 0, 1) := by decide +kernel
theorem dX7_mean_1 : decode cX7_mean 1 = .ok (.getfield 13, 3) := by decide +kernel
theorem dX7_mean_4 : decode cX7_mean 4 = .ok (.iload_n 1, 1) := by decide +kernel
theorem dX7_mean_5 : decode cX7_mean 5 = .ok (.invokestatic 64, 3) := by decide +kernel
theorem dX7_mean_8 : decode cX7_mean 8 = .ok (.astore_n 2, 1) := by decide +kernel
theorem dX7_mean_9 : decode cX7_mean 9 = .ok (.aload_n 2, 1) := by decide +kernel
theorem dX7_mean_10 : decode cX7_mean 10 = .ok (.ifnonnull 5, 3) := by decide +kernel
theorem dX7_mean_13 : decode cX7_mean 13 = .ok (.iconst (-1), 1) := by decide +kernel
theorem dX7_mean_14 : decode cX7_mean 14 = .ok (.ireturn, 1) := by decide +kernel
theorem dX7_mean_15 : decode cX7_mean 15 = .ok (.aload_n 2, 1) := by decide +kernel
theorem dX7_mean_16 : decode cX7_mean 16 = .ok (.invokevirtual 89, 3) := by decide +kernel
theorem dX7_mean_19 : decode cX7_mean 19 = .ok (.ifCond .ne 9, 3) := by decide +kernel
theorem dX7_mean_22 : decode cX7_mean 22 = .ok (.aload_n 0, 1) := by decide +kernel
theorem dX7_mean_23 : decode cX7_mean 23 = .ok (.iconst 1, 1) := by decide +kernel
theorem dX7_mean_24 : decode cX7_mean 24 = .ok (.invokevirtual 93, 3) := by decide +kernel
theorem dX7_mean_27 : decode cX7_mean 27 = .ok (.ireturn, 1) := by decide +kernel
theorem dX7_mean_28 : decode cX7_mean 28 = .ok (.aload_n 2, 1) := by decide +kernel
theorem dX7_mean_29 : decode cX7_mean 29 = .ok (.getfield 96, 3) := by decide +kernel
theorem dX7_mean_32 : decode cX7_mean 32 = .ok (.ifCond .ne 9, 3) := by decide +kernel
theorem dX7_mean_35 : decode cX7_mean 35 = .ok (.aload_n 0, 1) := by decide +kernel
theorem dX7_mean_36 : decode cX7_mean 36 = .ok (.iconst 4, 1) := by decide +kernel
theorem dX7_mean_37 : decode cX7_mean 37 = .ok (.invokevirtual 93, 3) := by decide +kernel
theorem dX7_mean_40 : decode cX7_mean 40 = .ok (.ireturn, 1) := by decide +kernel
theorem dX7_mean_41 : decode cX7_mean 41 = .ok (.lconst 0, 1) := by decide +kernel
theorem dX7_mean_42 : decode cX7_mean 42 = .ok (.lstore_n 3, 1) := by decide +kernel
theorem dX7_mean_43 : decode cX7_mean 43 = .ok (.iconst 0, 1) := by decide +kernel
theorem dX7_mean_44 : decode cX7_mean 44 = .ok (.istore 5, 2) := by decide +kernel
theorem dX7_mean_46 : decode cX7_mean 46 = .ok (.iload 5, 2) := by decide +kernel
theorem dX7_mean_48 : decode cX7_mean 48 = .ok (.aload_n 2, 1) := by decide +kernel
theorem dX7_mean_49 : decode cX7_mean 49 = .ok (.getfield 96, 3) := by decide +kernel
theorem dX7_mean_52 : decode cX7_mean 52 = .ok (.if_icmp .ge 19, 3) := by decide +kernel
theorem dX7_mean_55 : decode cX7_mean 55 = .ok (.lload_n 3, 1) := by decide +kernel
theorem dX7_mean_56 : decode cX7_mean 56 = .ok (.aload_n 2, 1) := by decide +kernel
theorem dX7_mean_57 : decode cX7_mean 57 = .ok (.iload 5, 2) := by decide +kernel
theorem dX7_mean_59 : decode cX7_mean 59 = .ok (.invokevirtual 76, 3) := by decide +kernel
theorem dX7_mean_62 : decode cX7_mean 62 = .ok (.i2l, 1) := by decide +kernel
theorem dX7_mean_63 : decode cX7_mean 63 = .ok (.ladd, 1) := by decide +kernel
theorem dX7_mean_64 : decode cX7_mean 64 = .ok (.lstore_n 3, 1) := by decide +kernel
theorem dX7_mean_65 : decode cX7_mean 65 = .ok (.iinc 5 1, 3) := by decide +kernel
theorem dX7_mean_68 : decode cX7_mean 68 = .ok (.goto (-22), 3) := by decide +kernel
theorem dX7_mean_71 : decode cX7_mean 71 = .ok (.aload_n 0, 1) := by decide +kernel
theorem dX7_mean_72 : decode cX7_mean 72 = .ok (.lload_n 3, 1) := by decide +kernel
theorem dX7_mean_73 : decode cX7_mean 73 = .ok (.aload_n 2, 1) := by decide +kernel
theorem dX7_mean_74 : decode cX7_mean 74 = .ok (.getfield 96, 3) := by decide +kernel
theorem dX7_mean_77 : decode cX7_mean 77 = .ok (.i2l, 1) := by decide +kernel
theorem dX7_mean_78 : decode cX7_mean 78 = .ok (.ldiv, 1) := by decide +kernel
theorem dX7_mean_79 : decode cX7_mean 79 = .ok (.l2i, 1) := by decide +kernel
theorem dX7_mean_80 : decode cX7_mean 80 = .ok (.putfield 82, 3) := by decide +kernel
theorem dX7_mean_83 : decode cX7_mean 83 = .ok (.iconst 1, 1) := by decide +kernel
theorem dX7_mean_84 : decode cX7_mean 84 = .ok (.ireturn, 1) := by decide +kernel
theorem dX7_text_0 : decode cX7_text 0 = .ok (.aload_n 0, 1) := by decide +kernel
theorem dX7_text_1 : decode cX7_text 1 = .ok (.aload_n 0, 1) := by decide +kernel
theorem dX7_text_2 : decode cX7_text 2 = .ok (.getfield 17, 3) := by decide +kernel
theorem dX7_text_5 : decode cX7_text 5 = .ok (.iload_n 1, 1) := by decide +kernel
theorem dX7_text_6 : decode cX7_text 6 = .ok (.invokestatic 64, 3) := by decide +kernel
theorem dX7_text_9 : decode cX7_text 9 = .ok (.iload_n 2, 1) := by decide +kernel
theorem dX7_text_10 : decode cX7_text 10 = .ok (.bipush 60, 2) := by decide +kernel
theorem dX7_text_12 : decode cX7_text 12 = .ok (.bipush 32, 2) := by decide +kernel
theorem dX7_text_14 : decode cX7_text 14 = .ok (.invokevirtual 68, 3) := by decide +kernel
theorem dX7_text_17 : decode cX7_text 17 = .ok (.ireturn, 1) := by decide +kernel
theorem dX7_put_0 : decode cX7_put 0 = .ok (.aload_n 0, 1) := by decide +kernel
theorem dX7_put_1 : decode cX7_put 1 = .ok (.getfield 17, 3) := by decide +kernel
theorem dX7_put_4 : decode cX7_put 4 = .ok (.iload_n 1, 1) := by decide +kernel
theorem dX7_put_5 : decode cX7_put 5 = .ok (.invokestatic 64, 3) := by decide +kernel
theorem dX7_put_8 : decode cX7_put 8 = .ok (.astore 4, 2) := by decide +kernel
theorem dX7_put_10 : decode cX7_put 10 = .ok (.aload 4, 2) := by decide +kernel
theorem dX7_put_12 : decode cX7_put 12 = .ok (.ifnonnull 5, 3) := by decide +kernel
theorem dX7_put_15 : decode cX7_put 15 = .ok (.iconst (-1), 1) := by decide +kernel
theorem dX7_put_16 : decode cX7_put 16 = .ok (.ireturn, 1) := by decide +kernel
theorem dX7_put_17 : decode cX7_put 17 = .ok (.aload_n 0, 1) := by decide +kernel
theorem dX7_put_18 : decode cX7_put 18 = .ok (.aload 4, 2) := by decide +kernel
theorem dX7_put_20 : decode cX7_put 20 = .ok (.iload_n 2, 1) := by decide +kernel
theorem dX7_put_21 : decode cX7_put 21 = .ok (.invokevirtual 72, 3) := by decide +kernel
theorem dX7_put_24 : decode cX7_put 24 = .ok (.istore 5, 2) := by decide +kernel
theorem dX7_put_26 : decode cX7_put 26 = .ok (.iload 5, 2) := by decide +kernel
theorem dX7_put_28 : decode cX7_put 28 = .ok (.ifCond .eq 6, 3) := by decide +kernel
theorem dX7_put_31 : decode cX7_put 31 = .ok (.iload 5, 2) := by decide +kernel
theorem dX7_put_33 : decode cX7_put 33 = .ok (.ireturn, 1) := by decide +kernel
theorem dX7_put_34 : decode cX7_put 34 = .ok (.aload 4, 2) := by decide +kernel
theorem dX7_put_36 : decode cX7_put 36 = .ok (.iload_n 2, 1) := by decide +kernel
theorem dX7_put_37 : decode cX7_put 37 = .ok (.invokevirtual 76, 3) := by decide +kernel
theorem dX7_put_40 : decode cX7_put 40 = .ok (.istore 6, 2) := by decide +kernel
theorem dX7_put_42 : decode cX7_put 42 = .ok (.aload 4, 2) := by decide +kernel
theorem dX7_put_44 : decode cX7_put 44 = .ok (.iload_n 2, 1) := by decide +kernel
theorem dX7_put_45 : decode cX7_put 45 = .ok (.iload_n 3, 1) := by decide +kernel
theorem dX7_put_46 : decode cX7_put 46 = .ok (.i2b, 1) := by decide +kernel
theorem dX7_put_47 : decode cX7_put 47 = .ok (.invokevirtual 85, 3) := by decide +kernel
theorem dX7_put_50 : decode cX7_put 50 = .ok (.iload 6, 2) := by decide +kernel
theorem dX7_put_52 : decode cX7_put 52 = .ok (.sipush 1000, 3) := by decide +kernel
theorem dX7_put_55 : decode cX7_put 55 = .ok (.iadd, 1) := by decide +kernel
theorem dX7_put_56 : decode cX7_put 56 = .ok (.ireturn, 1) := by decide +kernel
theorem dX7_fault_0 : decode cX7_fault 0 = .ok (.aload_n 0, 1) := by decide +kernel
theorem dX7_fault_1 : decode cX7_fault 1 = .ok (.getfield 17, 3) := by decide +kernel
theorem dX7_fault_4 : decode cX7_fault 4 = .ok (.iload_n 1, 1) := by decide +kernel
theorem dX7_fault_5 : decode cX7_fault 5 = .ok (.invokestatic 64, 3) := by decide +kernel
theorem dX7_fault_8 : decode cX7_fault 8 = .ok (.astore_n 2, 1) := by decide +kernel
theorem dX7_fault_9 : decode cX7_fault 9 = .ok (.aload_n 2, 1) := by decide +kernel
theorem dX7_fault_10 : decode cX7_fault 10 = .ok (.ifnonnull 5, 3) := by decide +kernel
theorem dX7_fault_13 : decode cX7_fault 13 = .ok (.iconst (-1), 1) := by decide +kernel
theorem dX7_fault_14 : decode cX7_fault 14 = .ok (.ireturn, 1) := by decide +kernel
theorem dX7_fault_15 : decode cX7_fault 15 = .ok (.aload_n 2, 1) := by decide +kernel
theorem dX7_fault_16 : decode cX7_fault 16 = .ok (.invokevirtual 89, 3) := by decide +kernel
theorem dX7_fault_19 : decode cX7_fault 19 = .ok (.ifCond .ne 9, 3) := by decide +kernel
theorem dX7_fault_22 : decode cX7_fault 22 = .ok (.aload_n 0, 1) := by decide +kernel
theorem dX7_fault_23 : decode cX7_fault 23 = .ok (.iconst 1, 1) := by decide +kernel
theorem dX7_fault_24 : decode cX7_fault 24 = .ok (.invokevirtual 93, 3) := by decide +kernel
theorem dX7_fault_27 : decode cX7_fault 27 = .ok (.ireturn, 1) := by decide +kernel
theorem dX7_fault_28 : decode cX7_fault 28 = .ok (.aload_n 2, 1) := by decide +kernel
theorem dX7_fault_29 : decode cX7_fault 29 = .ok (.invokestatic 110, 3) := by decide +kernel
theorem dX7_fault_32 : decode cX7_fault 32 = .ok (.ireturn, 1) := by decide +kernel
theorem dX7_club_0 : decode cX7_club 0 = .ok (.aload_n 0, 1) := by decide +kernel
theorem dX7_club_1 : decode cX7_club 1 = .ok (.getfield 17, 3) := by decide +kernel
theorem dX7_club_4 : decode cX7_club 4 = .ok (.iload_n 1, 1) := by decide +kernel
theorem dX7_club_5 : decode cX7_club 5 = .ok (.invokestatic 64, 3) := by decide +kernel
theorem dX7_club_8 : decode cX7_club 8 = .ok (.astore_n 2, 1) := by decide +kernel
theorem dX7_club_9 : decode cX7_club 9 = .ok (.aload_n 2, 1) := by decide +kernel
theorem dX7_club_10 : decode cX7_club 10 = .ok (.ifnonnull 5, 3) := by decide +kernel
theorem dX7_club_13 : decode cX7_club 13 = .ok (.iconst (-1), 1) := by decide +kernel
theorem dX7_club_14 : decode cX7_club 14 = .ok (.ireturn, 1) := by decide +kernel
theorem dX7_club_15 : decode cX7_club 15 = .ok (.aload_n 2, 1) := by decide +kernel
theorem dX7_club_16 : decode cX7_club 16 = .ok (.invokevirtual 89, 3) := by decide +kernel
theorem dX7_club_19 : decode cX7_club 19 = .ok (.ifCond .ne 9, 3) := by decide +kernel
theorem dX7_club_22 : decode cX7_club 22 = .ok (.aload_n 0, 1) := by decide +kernel
theorem dX7_club_23 : decode cX7_club 23 = .ok (.iconst 1, 1) := by decide +kernel
theorem dX7_club_24 : decode cX7_club 24 = .ok (.invokevirtual 93, 3) := by decide +kernel
theorem dX7_club_27 : decode cX7_club 27 = .ok (.ireturn, 1) := by decide +kernel
theorem dX7_club_28 : decode cX7_club 28 = .ok (.aload_n 2, 1) := by decide +kernel
theorem dX7_club_29 : decode cX7_club 29 = .ok (.invokestatic 110, 3) := by decide +kernel
theorem dX7_club_32 : decode cX7_club 32 = .ok (.bipush (-9), 2) := by decide +kernel
theorem dX7_club_34 : decode cX7_club 34 = .ok (.if_icmp .eq 6, 3) := by decide +kernel
theorem dX7_club_37 : decode cX7_club 37 = .ok (.bipush (-4), 2) := by decide +kernel
theorem dX7_club_39 : decode cX7_club 39 = .ok (.ireturn, 1) := by decide +kernel
theorem dX7_club_40 : decode cX7_club 40 = .ok (.aload_n 2, 1) := by decide +kernel
theorem dX7_club_41 : decode cX7_club 41 = .ok (.aload_n 0, 1) := by decide +kernel
theorem dX7_club_42 : decode cX7_club 42 = .ok (.getfield 23, 3) := by decide +kernel
theorem dX7_club_45 : decode cX7_club 45 = .ok (.invokestatic 116, 3) := by decide +kernel
theorem dX7_club_48 : decode cX7_club 48 = .ok (.aload_n 0, 1) := by decide +kernel
theorem dX7_club_49 : decode cX7_club 49 = .ok (.getfield 23, 3) := by decide +kernel
theorem dX7_club_52 : decode cX7_club 52 = .ok (.invokevirtual 120, 3) := by decide +kernel
theorem dX7_club_55 : decode cX7_club 55 = .ok (.aload_n 0, 1) := by decide +kernel
theorem dX7_club_56 : decode cX7_club 56 = .ok (.getfield 30, 3) := by decide +kernel
theorem dX7_club_59 : decode cX7_club 59 = .ok (.iconst 0, 1) := by decide +kernel
theorem dX7_club_60 : decode cX7_club 60 = .ok (.putfield 34, 3) := by decide +kernel
theorem dX7_club_63 : decode cX7_club 63 = .ok (.iconst 0, 1) := by decide +kernel
theorem dX7_club_64 : decode cX7_club 64 = .ok (.istore_n 3, 1) := by decide +kernel
theorem dX7_club_65 : decode cX7_club 65 = .ok (.iload_n 3, 1) := by decide +kernel
theorem dX7_club_66 : decode cX7_club 66 = .ok (.aload_n 0, 1) := by decide +kernel
theorem dX7_club_67 : decode cX7_club 67 = .ok (.getfield 38, 3) := by decide +kernel
theorem dX7_club_70 : decode cX7_club 70 = .ok (.arraylength, 1) := by decide +kernel
theorem dX7_club_71 : decode cX7_club 71 = .ok (.if_icmp .ge 19, 3) := by decide +kernel
theorem dX7_club_74 : decode cX7_club 74 = .ok (.aload_n 0, 1) := by decide +kernel
theorem dX7_club_75 : decode cX7_club 75 = .ok (.getfield 38, 3) := by decide +kernel
theorem dX7_club_78 : decode cX7_club 78 = .ok (.iload_n 3, 1) := by decide +kernel
theorem dX7_club_79 : decode cX7_club 79 = .ok (.aaload, 1) := by decide +kernel
theorem dX7_club_80 : decode cX7_club 80 = .ok (.iconst (-1), 1) := by decide +kernel
theorem dX7_club_81 : decode cX7_club 81 = .ok (.putfield 34, 3) := by decide +kernel
theorem dX7_club_84 : decode cX7_club 84 = .ok (.iinc 3 1, 3) := by decide +kernel
theorem dX7_club_87 : decode cX7_club 87 = .ok (.goto (-22), 3) := by decide +kernel
theorem dX7_club_90 : decode cX7_club 90 = .ok (.aload_n 0, 1) := by decide +kernel
theorem dX7_club_91 : decode cX7_club 91 = .ok (.getfield 23, 3) := by decide +kernel
theorem dX7_club_94 : decode cX7_club 94 = .ok (.getfield 123, 3) := by decide +kernel
theorem dX7_club_97 : decode cX7_club 97 = .ok (.ireturn, 1) := by decide +kernel
theorem dX7_member_0 : decode cX7_member 0 = .ok (.aload_n 0, 1) := by decide +kernel
theorem dX7_member_1 : decode cX7_member 1 = .ok (.getfield 23, 3) := by decide +kernel
theorem dX7_member_4 : decode cX7_member 4 = .ok (.iload_n 1, 1) := by decide +kernel
theorem dX7_member_5 : decode cX7_member 5 = .ok (.invokevirtual 126, 3) := by decide +kernel
theorem dX7_member_8 : decode cX7_member 8 = .ok (.ifCond .eq 12, 3) := by decide +kernel
theorem dX7_member_11 : decode cX7_member 11 = .ok (.iload_n 2, 1) := by decide +kernel
theorem dX7_member_12 : decode cX7_member 12 = .ok (.iconst 0, 1) := by decide +kernel
theorem dX7_member_13 : decode cX7_member 13 = .ok (.iconst 3, 1) := by decide +kernel
theorem dX7_member_14 : decode cX7_member 14 = .ok (.invokestatic 130, 3) := by decide +kernel
theorem dX7_member_17 : decode cX7_member 17 = .ok (.ifCond .ne 5, 3) := by decide +kernel
theorem dX7_member_20 : decode cX7_member 20 = .ok (.iconst (-1), 1) := by decide +kernel
theorem dX7_member_21 : decode cX7_member 21 = .ok (.ireturn, 1) := by decide +kernel
theorem dX7_member_22 : decode cX7_member 22 = .ok (.aload_n 0, 1) := by decide +kernel
theorem dX7_member_23 : decode cX7_member 23 = .ok (.aload_n 0, 1) := by decide +kernel
theorem dX7_member_24 : decode cX7_member 24 = .ok (.iload_n 1, 1) := by decide +kernel
theorem dX7_member_25 : decode cX7_member 25 = .ok (.iload_n 2, 1) := by decide +kernel
theorem dX7_member_26 : decode cX7_member 26 = .ok (.invokevirtual 134, 3) := by decide +kernel
theorem dX7_member_29 : decode cX7_member 29 = .ok (.putfield 82, 3) := by decide +kernel
theorem dX7_member_32 : decode cX7_member 32 = .ok (.iconst 1, 1) := by decide +kernel
theorem dX7_member_33 : decode cX7_member 33 = .ok (.ireturn, 1) := by decide +kernel
theorem dX7_mark_0 : decode cX7_mark 0 = .ok (.aload_n 0, 1) := by decide +kernel
theorem dX7_mark_1 : decode cX7_mark 1 = .ok (.getfield 23, 3) := by decide +kernel
theorem dX7_mark_4 : decode cX7_mark 4 = .ok (.iload_n 1, 1) := by decide +kernel
theorem dX7_mark_5 : decode cX7_mark 5 = .ok (.invokevirtual 126, 3) := by decide +kernel
theorem dX7_mark_8 : decode cX7_mark 8 = .ok (.ifCond .eq 12, 3) := by decide +kernel
theorem dX7_mark_11 : decode cX7_mark 11 = .ok (.iload_n 2, 1) := by decide +kernel
theorem dX7_mark_12 : decode cX7_mark 12 = .ok (.iconst 1, 1) := by decide +kernel
theorem dX7_mark_13 : decode cX7_mark 13 = .ok (.iconst 5, 1) := by decide +kernel
theorem dX7_mark_14 : decode cX7_mark 14 = .ok (.invokestatic 130, 3) := by decide +kernel
theorem dX7_mark_17 : decode cX7_mark 17 = .ok (.ifCond .ne 5, 3) := by decide +kernel
theorem dX7_mark_20 : decode cX7_mark 20 = .ok (.iconst (-1), 1) := by decide +kernel
theorem dX7_mark_21 : decode cX7_mark 21 = .ok (.ireturn, 1) := by decide +kernel
theorem dX7_mark_22 : decode cX7_mark 22 = .ok (.aload_n 0, 1) := by decide +kernel
theorem dX7_mark_23 : decode cX7_mark 23 = .ok (.getfield 23, 3) := by decide +kernel
theorem dX7_mark_26 : decode cX7_mark 26 = .ok (.getfield 140, 3) := by decide +kernel
theorem dX7_mark_29 : decode cX7_mark 29 = .ok (.iload_n 1, 1) := by decide +kernel
theorem dX7_mark_30 : decode cX7_mark 30 = .ok (.iaload, 1) := by decide +kernel
theorem dX7_mark_31 : decode cX7_mark 31 = .ok (.istore_n 3, 1) := by decide +kernel
theorem dX7_mark_32 : decode cX7_mark 32 = .ok (.iload_n 3, 1) := by decide +kernel
theorem dX7_mark_33 : decode cX7_mark 33 = .ok (.iload_n 2, 1) := by decide +kernel
theorem dX7_mark_34 : decode cX7_mark 34 = .ok (.invokestatic 143, 3) := by decide +kernel
theorem dX7_mark_37 : decode cX7_mark 37 = .ok (.ifCond .ne 9, 3) := by decide +kernel
theorem dX7_mark_40 : decode cX7_mark 40 = .ok (.aload_n 0, 1) := by decide +kernel
theorem dX7_mark_41 : decode cX7_mark 41 = .ok (.iconst 3, 1) := by decide +kernel
theorem dX7_mark_42 : decode cX7_mark 42 = .ok (.invokevirtual 93, 3) := by decide +kernel
theorem dX7_mark_45 : decode cX7_mark 45 = .ok (.ireturn, 1) := by decide +kernel
theorem dX7_mark_46 : decode cX7_mark 46 = .ok (.iload_n 2, 1) := by decide +kernel
theorem dX7_mark_47 : decode cX7_mark 47 = .ok (.tableswitch 63 1 4 #[29, 38, 47, 57], 29) := by decide +kernel
theorem dX7_mark_76 : decode cX7_mark 76 = .ok (.aload_n 0, 1) := by decide +kernel
theorem dX7_mark_77 : decode cX7_mark 77 = .ok (.getfield 23, 3) := by decide +kernel
theorem dX7_mark_80 : decode cX7_mark 80 = .ok (.iload_n 1, 1) := by decide +kernel
theorem dX7_mark_81 : decode cX7_mark 81 = .ok (.invokevirtual 146, 3) := by decide +kernel
theorem dX7_mark_84 : decode cX7_mark 84 = .ok (.ireturn, 1) := by decide +kernel
theorem dX7_mark_85 : decode cX7_mark 85 = .ok (.aload_n 0, 1) := by decide +kernel
theorem dX7_mark_86 : decode cX7_mark 86 = .ok (.getfield 23, 3) := by decide +kernel
theorem dX7_mark_89 : decode cX7_mark 89 = .ok (.iload_n 1, 1) := by decide +kernel
theorem dX7_mark_90 : decode cX7_mark 90 = .ok (.invokevirtual 149, 3) := by decide +kernel
theorem dX7_mark_93 : decode cX7_mark 93 = .ok (.ireturn, 1) := by decide +kernel
theorem dX7_mark_94 : decode cX7_mark 94 = .ok (.aload_n 0, 1) := by decide +kernel
theorem dX7_mark_95 : decode cX7_mark 95 = .ok (.getfield 23, 3) := by decide +kernel
theorem dX7_mark_98 : decode cX7_mark 98 = .ok (.iload_n 1, 1) := by decide +kernel
theorem dX7_mark_99 : decode cX7_mark 99 = .ok (.iconst 5, 1) := by decide +kernel
theorem dX7_mark_100 : decode cX7_mark 100 = .ok (.invokevirtual 152, 3) := by decide +kernel
theorem dX7_mark_103 : decode cX7_mark 103 = .ok (.ireturn, 1) := by decide +kernel
theorem dX7_mark_104 : decode cX7_mark 104 = .ok (.iload_n 3, 1) := by decide +kernel
theorem dX7_mark_105 : decode cX7_mark 105 = .ok (.iconst 0, 1) := by decide +kernel
theorem dX7_mark_106 : decode cX7_mark 106 = .ok (.invokestatic 155, 3) := by decide +kernel
theorem dX7_mark_109 : decode cX7_mark 109 = .ok (.ireturn, 1) := by decide +kernel
theorem dX7_mark_110 : decode cX7_mark 110 = .ok (.iload_n 3, 1) := by decide +kernel
theorem dX7_mark_111 : decode cX7_mark 111 = .ok (.iload_n 3, 1) := by decide +kernel
theorem dX7_mark_112 : decode cX7_mark 112 = .ok (.bipush 7, 2) := by decide +kernel
theorem dX7_mark_114 : decode cX7_mark 114 = .ok (.invokestatic 158, 3) := by decide +kernel
theorem dX7_mark_117 : decode cX7_mark 117 = .ok (.invokestatic 155, 3) := by decide +kernel
theorem dX7_mark_120 : decode cX7_mark 120 = .ok (.ireturn, 1) := by decide +kernel
theorem dX7_smoke_0 : decode cX7_smoke 0 = .ok (.aload_n 0, 1) := by decide +kernel
theorem dX7_smoke_1 : decode cX7_smoke 1 = .ok (.getfield 23, 3) := by decide +kernel
theorem dX7_smoke_4 : decode cX7_smoke 4 = .ok (.iload_n 1, 1) := by decide +kernel
theorem dX7_smoke_5 : decode cX7_smoke 5 = .ok (.invokevirtual 161, 3) := by decide +kernel
theorem dX7_smoke_8 : decode cX7_smoke 8 = .ok (.ifCond .eq 15, 3) := by decide +kernel
theorem dX7_smoke_11 : decode cX7_smoke 11 = .ok (.aload_n 0, 1) := by decide +kernel
theorem dX7_smoke_12 : decode cX7_smoke 12 = .ok (.getfield 23, 3) := by decide +kernel
theorem dX7_smoke_15 : decode cX7_smoke 15 = .ok (.getfield 164, 3) := by decide +kernel
theorem dX7_smoke_18 : decode cX7_smoke 18 = .ok (.iload_n 1, 1) := by decide +kernel
theorem dX7_smoke_19 : decode cX7_smoke 19 = .ok (.iaload, 1) := by decide +kernel
theorem dX7_smoke_20 : decode cX7_smoke 20 = .ok (.goto 4, 3) := by decide +kernel
theorem dX7_smoke_23 : decode cX7_smoke 23 = .ok (.iconst (-1), 1) := by decide +kernel
theorem dX7_smoke_24 : decode cX7_smoke 24 = .ok (.ireturn, 1) := by decide +kernel
theorem dX7_talk_0 : decode cX7_talk 0 = .ok (.aload_n 0, 1) := by decide +kernel
theorem dX7_talk_1 : decode cX7_talk 1 = .ok (.getfield 23, 3) := by decide +kernel
theorem dX7_talk_4 : decode cX7_talk 4 = .ok (.iload_n 1, 1) := by decide +kernel
theorem dX7_talk_5 : decode cX7_talk 5 = .ok (.invokevirtual 126, 3) := by decide +kernel
theorem dX7_talk_8 : decode cX7_talk 8 = .ok (.ifCond .eq 10, 3) := by decide +kernel
theorem dX7_talk_11 : decode cX7_talk 11 = .ok (.iload_n 2, 1) := by decide +kernel
theorem dX7_talk_12 : decode cX7_talk 12 = .ok (.invokestatic 167, 3) := by decide +kernel
theorem dX7_talk_15 : decode cX7_talk 15 = .ok (.ifCond .ne 5, 3) := by decide +kernel
theorem dX7_talk_18 : decode cX7_talk 18 = .ok (.iconst (-1), 1) := by decide +kernel
theorem dX7_talk_19 : decode cX7_talk 19 = .ok (.ireturn, 1) := by decide +kernel
theorem dX7_talk_20 : decode cX7_talk 20 = .ok (.aload_n 0, 1) := by decide +kernel
theorem dX7_talk_21 : decode cX7_talk 21 = .ok (.getfield 30, 3) := by decide +kernel
theorem dX7_talk_24 : decode cX7_talk 24 = .ok (.invokevirtual 170, 3) := by decide +kernel
theorem dX7_talk_27 : decode cX7_talk 27 = .ok (.ifCond .eq 8, 3) := by decide +kernel
theorem dX7_talk_30 : decode cX7_talk 30 = .ok (.bipush (-2), 2) := by decide +kernel
theorem dX7_talk_32 : decode cX7_talk 32 = .ok (.goto 10, 3) := by decide +kernel
theorem dX7_talk_35 : decode cX7_talk 35 = .ok (.aload_n 0, 1) := by decide +kernel
theorem dX7_talk_36 : decode cX7_talk 36 = .ok (.iconst 0, 1) := by decide +kernel
theorem dX7_talk_37 : decode cX7_talk 37 = .ok (.iload_n 1, 1) := by decide +kernel
theorem dX7_talk_38 : decode cX7_talk 38 = .ok (.iload_n 2, 1) := by decide +kernel
theorem dX7_talk_39 : decode cX7_talk 39 = .ok (.invokevirtual 173, 3) := by decide +kernel
theorem dX7_talk_42 : decode cX7_talk 42 = .ok (.ireturn, 1) := by decide +kernel
theorem dX7_hour_0 : decode cX7_hour 0 = .ok (.aload_n 0, 1) := by decide +kernel
theorem dX7_hour_1 : decode cX7_hour 1 = .ok (.getfield 23, 3) := by decide +kernel
theorem dX7_hour_4 : decode cX7_hour 4 = .ok (.getfield 123, 3) := by decide +kernel
theorem dX7_hour_7 : decode cX7_hour 7 = .ok (.ifCond .ne 6, 3) := by decide +kernel
theorem dX7_hour_10 : decode cX7_hour 10 = .ok (.bipush (-4), 2) := by decide +kernel
theorem dX7_hour_12 : decode cX7_hour 12 = .ok (.ireturn, 1) := by decide +kernel
theorem dX7_hour_13 : decode cX7_hour 13 = .ok (.aload_n 0, 1) := by decide +kernel
theorem dX7_hour_14 : decode cX7_hour 14 = .ok (.getfield 30, 3) := by decide +kernel
theorem dX7_hour_17 : decode cX7_hour 17 = .ok (.invokevirtual 170, 3) := by decide +kernel
theorem dX7_hour_20 : decode cX7_hour 20 = .ok (.ifCond .eq 8, 3) := by decide +kernel
theorem dX7_hour_23 : decode cX7_hour 23 = .ok (.bipush (-2), 2) := by decide +kernel
theorem dX7_hour_25 : decode cX7_hour 25 = .ok (.goto 10, 3) := by decide +kernel
theorem dX7_hour_28 : decode cX7_hour 28 = .ok (.aload_n 0, 1) := by decide +kernel
theorem dX7_hour_29 : decode cX7_hour 29 = .ok (.iconst 1, 1) := by decide +kernel
theorem dX7_hour_30 : decode cX7_hour 30 = .ok (.iconst 0, 1) := by decide +kernel
theorem dX7_hour_31 : decode cX7_hour 31 = .ok (.iconst 0, 1) := by decide +kernel
theorem dX7_hour_32 : decode cX7_hour 32 = .ok (.invokevirtual 173, 3) := by decide +kernel
theorem dX7_hour_35 : decode cX7_hour 35 = .ok (.ireturn, 1) := by decide +kernel
theorem dX7_open_0 : decode cX7_open 0 = .ok (.aload_n 0, 1) := by decide +kernel
theorem dX7_open_1 : decode cX7_open 1 = .ok (.getfield 23, 3) := by decide +kernel
theorem dX7_open_4 : decode cX7_open 4 = .ok (.iload_n 1, 1) := by decide +kernel
theorem dX7_open_5 : decode cX7_open 5 = .ok (.invokevirtual 161, 3) := by decide +kernel
theorem dX7_open_8 : decode cX7_open 8 = .ok (.ifCond .ne 5, 3) := by decide +kernel
theorem dX7_open_11 : decode cX7_open 11 = .ok (.iconst (-1), 1) := by decide +kernel
theorem dX7_open_12 : decode cX7_open 12 = .ok (.ireturn, 1) := by decide +kernel
theorem dX7_open_13 : decode cX7_open 13 = .ok (.aload_n 0, 1) := by decide +kernel
theorem dX7_open_14 : decode cX7_open 14 = .ok (.getfield 23, 3) := by decide +kernel
theorem dX7_open_17 : decode cX7_open 17 = .ok (.getfield 164, 3) := by decide +kernel
theorem dX7_open_20 : decode cX7_open 20 = .ok (.iload_n 1, 1) := by decide +kernel
theorem dX7_open_21 : decode cX7_open 21 = .ok (.iaload, 1) := by decide +kernel
theorem dX7_open_22 : decode cX7_open 22 = .ok (.ifCond .ne 6, 3) := by decide +kernel
theorem dX7_open_25 : decode cX7_open 25 = .ok (.bipush (-4), 2) := by decide +kernel
theorem dX7_open_27 : decode cX7_open 27 = .ok (.ireturn, 1) := by decide +kernel
theorem dX7_open_28 : decode cX7_open 28 = .ok (.aload_n 0, 1) := by decide +kernel
theorem dX7_open_29 : decode cX7_open 29 = .ok (.getfield 30, 3) := by decide +kernel
theorem dX7_open_32 : decode cX7_open 32 = .ok (.invokevirtual 170, 3) := by decide +kernel
theorem dX7_open_35 : decode cX7_open 35 = .ok (.ifCond .eq 8, 3) := by decide +kernel
theorem dX7_open_38 : decode cX7_open 38 = .ok (.bipush (-2), 2) := by decide +kernel
theorem dX7_open_40 : decode cX7_open 40 = .ok (.goto 10, 3) := by decide +kernel
theorem dX7_open_43 : decode cX7_open 43 = .ok (.aload_n 0, 1) := by decide +kernel
theorem dX7_open_44 : decode cX7_open 44 = .ok (.iconst 2, 1) := by decide +kernel
theorem dX7_open_45 : decode cX7_open 45 = .ok (.iload_n 1, 1) := by decide +kernel
theorem dX7_open_46 : decode cX7_open 46 = .ok (.iconst 0, 1) := by decide +kernel
theorem dX7_open_47 : decode cX7_open 47 = .ok (.invokevirtual 173, 3) := by decide +kernel
theorem dX7_open_50 : decode cX7_open 50 = .ok (.ireturn, 1) := by decide +kernel
theorem dX7_thunder_0 : decode cX7_thunder 0 = .ok (.aload_n 0, 1) := by decide +kernel
theorem dX7_thunder_1 : decode cX7_thunder 1 = .ok (.getfield 23, 3) := by decide +kernel
theorem dX7_thunder_4 : decode cX7_thunder 4 = .ok (.invokevirtual 177, 3) := by decide +kernel
theorem dX7_thunder_7 : decode cX7_thunder 7 = .ok (.ifCond .ne 6, 3) := by decide +kernel
theorem dX7_thunder_10 : decode cX7_thunder 10 = .ok (.bipush (-4), 2) := by decide +kernel
theorem dX7_thunder_12 : decode cX7_thunder 12 = .ok (.ireturn, 1) := by decide +kernel
theorem dX7_thunder_13 : decode cX7_thunder 13 = .ok (.aload_n 0, 1) := by decide +kernel
theorem dX7_thunder_14 : decode cX7_thunder 14 = .ok (.getfield 30, 3) := by decide +kernel
theorem dX7_thunder_17 : decode cX7_thunder 17 = .ok (.invokevirtual 170, 3) := by decide +kernel
theorem dX7_thunder_20 : decode cX7_thunder 20 = .ok (.ifCond .eq 8, 3) := by decide +kernel
theorem dX7_thunder_23 : decode cX7_thunder 23 = .ok (.bipush (-2), 2) := by decide +kernel
theorem dX7_thunder_25 : decode cX7_thunder 25 = .ok (.goto 10, 3) := by decide +kernel
theorem dX7_thunder_28 : decode cX7_thunder 28 = .ok (.aload_n 0, 1) := by decide +kernel
theorem dX7_thunder_29 : decode cX7_thunder 29 = .ok (.iconst 3, 1) := by decide +kernel
theorem dX7_thunder_30 : decode cX7_thunder 30 = .ok (.iconst 0, 1) := by decide +kernel
theorem dX7_thunder_31 : decode cX7_thunder 31 = .ok (.iconst 0, 1) := by decide +kernel
theorem dX7_thunder_32 : decode cX7_thunder 32 = .ok (.invokevirtual 173, 3) := by decide +kernel
theorem dX7_thunder_35 : decode cX7_thunder 35 = .ok (.ireturn, 1) := by decide +kernel
theorem dX7_undo_0 : decode cX7_undo 0 = .ok (.iload_n 1, 1) := by decide +kernel
theorem dX7_undo_1 : decode cX7_undo 1 = .ok (.iconst 0, 1) := by decide +kernel
theorem dX7_undo_2 : decode cX7_undo 2 = .ok (.aload_n 0, 1) := by decide +kernel
theorem dX7_undo_3 : decode cX7_undo 3 = .ok (.getfield 30, 3) := by decide +kernel
theorem dX7_undo_6 : decode cX7_undo 6 = .ok (.getfield 34, 3) := by decide +kernel
theorem dX7_undo_9 : decode cX7_undo 9 = .ok (.invokestatic 130, 3) := by decide +kernel
theorem dX7_undo_12 : decode cX7_undo 12 = .ok (.ifCond .ne 5, 3) := by decide +kernel
theorem dX7_undo_15 : decode cX7_undo 15 = .ok (.iconst (-1), 1) := by decide +kernel
theorem dX7_undo_16 : decode cX7_undo 16 = .ok (.ireturn, 1) := by decide +kernel
theorem dX7_undo_17 : decode cX7_undo 17 = .ok (.aload_n 0, 1) := by decide +kernel
theorem dX7_undo_18 : decode cX7_undo 18 = .ok (.getfield 30, 3) := by decide +kernel
theorem dX7_undo_21 : decode cX7_undo 21 = .ok (.getfield 34, 3) := by decide +kernel
theorem dX7_undo_24 : decode cX7_undo 24 = .ok (.iload_n 1, 1) := by decide +kernel
theorem dX7_undo_25 : decode cX7_undo 25 = .ok (.isub, 1) := by decide +kernel
theorem dX7_undo_26 : decode cX7_undo 26 = .ok (.istore_n 2, 1) := by decide +kernel
theorem dX7_undo_27 : decode cX7_undo 27 = .ok (.aload_n 0, 1) := by decide +kernel
theorem dX7_undo_28 : decode cX7_undo 28 = .ok (.getfield 30, 3) := by decide +kernel
theorem dX7_undo_31 : decode cX7_undo 31 = .ok (.iload_n 1, 1) := by decide +kernel
theorem dX7_undo_32 : decode cX7_undo 32 = .ok (.putfield 34, 3) := by decide +kernel
theorem dX7_undo_35 : decode cX7_undo 35 = .ok (.aload_n 0, 1) := by decide +kernel
theorem dX7_undo_36 : decode cX7_undo 36 = .ok (.invokevirtual 181, 3) := by decide +kernel
theorem dX7_undo_39 : decode cX7_undo 39 = .ok (.iload_n 2, 1) := by decide +kernel
theorem dX7_undo_40 : decode cX7_undo 40 = .ok (.ireturn, 1) := by decide +kernel
theorem dX7_keep_0 : decode cX7_keep 0 = .ok (.iload_n 1, 1) := by decide +kernel
theorem dX7_keep_1 : decode cX7_keep 1 = .ok (.iconst 0, 1) := by decide +kernel
theorem dX7_keep_2 : decode cX7_keep 2 = .ok (.aload_n 0, 1) := by decide +kernel
theorem dX7_keep_3 : decode cX7_keep 3 = .ok (.getfield 38, 3) := by decide +kernel
theorem dX7_keep_6 : decode cX7_keep 6 = .ok (.arraylength, 1) := by decide +kernel
theorem dX7_keep_7 : decode cX7_keep 7 = .ok (.iconst 1, 1) := by decide +kernel
theorem dX7_keep_8 : decode cX7_keep 8 = .ok (.isub, 1) := by decide +kernel
theorem dX7_keep_9 : decode cX7_keep 9 = .ok (.invokestatic 130, 3) := by decide +kernel
theorem dX7_keep_12 : decode cX7_keep 12 = .ok (.ifCond .ne 5, 3) := by decide +kernel
theorem dX7_keep_15 : decode cX7_keep 15 = .ok (.iconst (-1), 1) := by decide +kernel
theorem dX7_keep_16 : decode cX7_keep 16 = .ok (.ireturn, 1) := by decide +kernel
theorem dX7_keep_17 : decode cX7_keep 17 = .ok (.aload_n 0, 1) := by decide +kernel
theorem dX7_keep_18 : decode cX7_keep 18 = .ok (.getfield 23, 3) := by decide +kernel
theorem dX7_keep_21 : decode cX7_keep 21 = .ok (.getfield 123, 3) := by decide +kernel
theorem dX7_keep_24 : decode cX7_keep 24 = .ok (.ifCond .ne 6, 3) := by decide +kernel
theorem dX7_keep_27 : decode cX7_keep 27 = .ok (.bipush (-4), 2) := by decide +kernel
theorem dX7_keep_29 : decode cX7_keep 29 = .ok (.ireturn, 1) := by decide +kernel
theorem dX7_keep_30 : decode cX7_keep 30 = .ok (.aload_n 0, 1) := by decide +kernel
theorem dX7_keep_31 : decode cX7_keep 31 = .ok (.getfield 38, 3) := by decide +kernel
theorem dX7_keep_34 : decode cX7_keep 34 = .ok (.iload_n 1, 1) := by decide +kernel
theorem dX7_keep_35 : decode cX7_keep 35 = .ok (.aaload, 1) := by decide +kernel
theorem dX7_keep_36 : decode cX7_keep 36 = .ok (.aload_n 0, 1) := by decide +kernel
theorem dX7_keep_37 : decode cX7_keep 37 = .ok (.getfield 30, 3) := by decide +kernel
theorem dX7_keep_40 : decode cX7_keep 40 = .ok (.invokevirtual 184, 3) := by decide +kernel
theorem dX7_keep_43 : decode cX7_keep 43 = .ok (.aload_n 0, 1) := by decide +kernel
theorem dX7_keep_44 : decode cX7_keep 44 = .ok (.getfield 30, 3) := by decide +kernel
theorem dX7_keep_47 : decode cX7_keep 47 = .ok (.getfield 34, 3) := by decide +kernel
theorem dX7_keep_50 : decode cX7_keep 50 = .ok (.ireturn, 1) := by decide +kernel
theorem dX7_on_0 : decode cX7_on 0 = .ok (.iload_n 1, 1) := by decide +kernel
theorem dX7_on_1 : decode cX7_on 1 = .ok (.iconst 0, 1) := by decide +kernel
theorem dX7_on_2 : decode cX7_on 2 = .ok (.aload_n 0, 1) := by decide +kernel
theorem dX7_on_3 : decode cX7_on 3 = .ok (.getfield 38, 3) := by decide +kernel
theorem dX7_on_6 : decode cX7_on 6 = .ok (.arraylength, 1) := by decide +kernel
theorem dX7_on_7 : decode cX7_on 7 = .ok (.iconst 1, 1) := by decide +kernel
theorem dX7_on_8 : decode cX7_on 8 = .ok (.isub, 1) := by decide +kernel
theorem dX7_on_9 : decode cX7_on 9 = .ok (.invokestatic 130, 3) := by decide +kernel
theorem dX7_on_12 : decode cX7_on 12 = .ok (.ifCond .ne 5, 3) := by decide +kernel
theorem dX7_on_15 : decode cX7_on 15 = .ok (.iconst (-1), 1) := by decide +kernel
theorem dX7_on_16 : decode cX7_on 16 = .ok (.ireturn, 1) := by decide +kernel
theorem dX7_on_17 : decode cX7_on 17 = .ok (.aload_n 0, 1) := by decide +kernel
theorem dX7_on_18 : decode cX7_on 18 = .ok (.getfield 38, 3) := by decide +kernel
theorem dX7_on_21 : decode cX7_on 21 = .ok (.iload_n 1, 1) := by decide +kernel
theorem dX7_on_22 : decode cX7_on 22 = .ok (.aaload, 1) := by decide +kernel
theorem dX7_on_23 : decode cX7_on 23 = .ok (.getfield 34, 3) := by decide +kernel
theorem dX7_on_26 : decode cX7_on 26 = .ok (.iconst (-1), 1) := by decide +kernel
theorem dX7_on_27 : decode cX7_on 27 = .ok (.if_icmp .ne 9, 3) := by decide +kernel
theorem dX7_on_30 : decode cX7_on 30 = .ok (.aload_n 0, 1) := by decide +kernel
theorem dX7_on_31 : decode cX7_on 31 = .ok (.iconst 1, 1) := by decide +kernel
theorem dX7_on_32 : decode cX7_on 32 = .ok (.invokevirtual 93, 3) := by decide +kernel
theorem dX7_on_35 : decode cX7_on 35 = .ok (.ireturn, 1) := by decide +kernel
theorem dX7_on_36 : decode cX7_on 36 = .ok (.aload_n 0, 1) := by decide +kernel
theorem dX7_on_37 : decode cX7_on 37 = .ok (.getfield 30, 3) := by decide +kernel
theorem dX7_on_40 : decode cX7_on 40 = .ok (.aload_n 0, 1) := by decide +kernel
theorem dX7_on_41 : decode cX7_on 41 = .ok (.getfield 38, 3) := by decide +kernel
theorem dX7_on_44 : decode cX7_on 44 = .ok (.iload_n 1, 1) := by decide +kernel
theorem dX7_on_45 : decode cX7_on 45 = .ok (.aaload, 1) := by decide +kernel
theorem dX7_on_46 : decode cX7_on 46 = .ok (.invokevirtual 184, 3) := by decide +kernel
theorem dX7_on_49 : decode cX7_on 49 = .ok (.aload_n 0, 1) := by decide +kernel
theorem dX7_on_50 : decode cX7_on 50 = .ok (.invokevirtual 181, 3) := by decide +kernel
theorem dX7_on_53 : decode cX7_on 53 = .ok (.aload_n 0, 1) := by decide +kernel
theorem dX7_on_54 : decode cX7_on 54 = .ok (.getfield 30, 3) := by decide +kernel
theorem dX7_on_57 : decode cX7_on 57 = .ok (.getfield 34, 3) := by decide +kernel
theorem dX7_on_60 : decode cX7_on 60 = .ok (.ireturn, 1) := by decide +kernel
theorem dX7_says_0 : decode cX7_says 0 = .ok (.aload_n 0, 1) := by decide +kernel
theorem dX7_says_1 : decode cX7_says 1 = .ok (.getfield 23, 3) := by decide +kernel
theorem dX7_says_4 : decode cX7_says 4 = .ok (.iload_n 1, 1) := by decide +kernel
theorem dX7_says_5 : decode cX7_says 5 = .ok (.invokevirtual 126, 3) := by decide +kernel
theorem dX7_says_8 : decode cX7_says 8 = .ok (.ifCond .eq 26, 3) := by decide +kernel
theorem dX7_says_11 : decode cX7_says 11 = .ok (.iload_n 2, 1) := by decide +kernel
theorem dX7_says_12 : decode cX7_says 12 = .ok (.invokestatic 167, 3) := by decide +kernel
theorem dX7_says_15 : decode cX7_says 15 = .ok (.ifCond .eq 19, 3) := by decide +kernel
theorem dX7_says_18 : decode cX7_says 18 = .ok (.aload_n 0, 1) := by decide +kernel
theorem dX7_says_19 : decode cX7_says 19 = .ok (.getfield 23, 3) := by decide +kernel
theorem dX7_says_22 : decode cX7_says 22 = .ok (.getfield 140, 3) := by decide +kernel
theorem dX7_says_25 : decode cX7_says 25 = .ok (.iload_n 1, 1) := by decide +kernel
theorem dX7_says_26 : decode cX7_says 26 = .ok (.iaload, 1) := by decide +kernel
theorem dX7_says_27 : decode cX7_says 27 = .ok (.iload_n 2, 1) := by decide +kernel
theorem dX7_says_28 : decode cX7_says 28 = .ok (.invokestatic 158, 3) := by decide +kernel
theorem dX7_says_31 : decode cX7_says 31 = .ok (.goto 4, 3) := by decide +kernel
theorem dX7_says_34 : decode cX7_says 34 = .ok (.iconst (-1), 1) := by decide +kernel
theorem dX7_says_35 : decode cX7_says 35 = .ok (.ireturn, 1) := by decide +kernel
theorem dX7_breathes_0 : decode cX7_breathes 0 = .ok (.aload_n 0, 1) := by decide +kernel
theorem dX7_breathes_1 : decode cX7_breathes 1 = .ok (.getfield 23, 3) := by decide +kernel
theorem dX7_breathes_4 : decode cX7_breathes 4 = .ok (.iload_n 1, 1) := by decide +kernel
theorem dX7_breathes_5 : decode cX7_breathes 5 = .ok (.invokevirtual 126, 3) := by decide +kernel
theorem dX7_breathes_8 : decode cX7_breathes 8 = .ok (.ifCond .eq 26, 3) := by decide +kernel
theorem dX7_breathes_11 : decode cX7_breathes 11 = .ok (.iload_n 2, 1) := by decide +kernel
theorem dX7_breathes_12 : decode cX7_breathes 12 = .ok (.invokestatic 167, 3) := by decide +kernel
theorem dX7_breathes_15 : decode cX7_breathes 15 = .ok (.ifCond .eq 19, 3) := by decide +kernel
theorem dX7_breathes_18 : decode cX7_breathes 18 = .ok (.aload_n 0, 1) := by decide +kernel
theorem dX7_breathes_19 : decode cX7_breathes 19 = .ok (.getfield 23, 3) := by decide +kernel
theorem dX7_breathes_22 : decode cX7_breathes 22 = .ok (.getfield 140, 3) := by decide +kernel
theorem dX7_breathes_25 : decode cX7_breathes 25 = .ok (.iload_n 1, 1) := by decide +kernel
theorem dX7_breathes_26 : decode cX7_breathes 26 = .ok (.iaload, 1) := by decide +kernel
theorem dX7_breathes_27 : decode cX7_breathes 27 = .ok (.iload_n 2, 1) := by decide +kernel
theorem dX7_breathes_28 : decode cX7_breathes 28 = .ok (.invokestatic 188, 3) := by decide +kernel
theorem dX7_breathes_31 : decode cX7_breathes 31 = .ok (.goto 4, 3) := by decide +kernel
theorem dX7_breathes_34 : decode cX7_breathes 34 = .ok (.iconst (-1), 1) := by decide +kernel
theorem dX7_breathes_35 : decode cX7_breathes 35 = .ok (.ireturn, 1) := by decide +kernel
theorem dX7_means_0 : decode cX7_means 0 = .ok (.aload_n 0, 1) := by decide +kernel
theorem dX7_means_1 : decode cX7_means 1 = .ok (.getfield 23, 3) := by decide +kernel
theorem dX7_means_4 : decode cX7_means 4 = .ok (.iload_n 1, 1) := by decide +kernel
theorem dX7_means_5 : decode cX7_means 5 = .ok (.invokevirtual 126, 3) := by decide +kernel
theorem dX7_means_8 : decode cX7_means 8 = .ok (.ifCond .eq 10, 3) := by decide +kernel
theorem dX7_means_11 : decode cX7_means 11 = .ok (.iload_n 2, 1) := by decide +kernel
theorem dX7_means_12 : decode cX7_means 12 = .ok (.invokestatic 167, 3) := by decide +kernel
theorem dX7_means_15 : decode cX7_means 15 = .ok (.ifCond .ne 5, 3) := by decide +kernel
theorem dX7_means_18 : decode cX7_means 18 = .ok (.iconst (-1), 1) := by decide +kernel
theorem dX7_means_19 : decode cX7_means 19 = .ok (.ireturn, 1) := by decide +kernel
theorem dX7_means_20 : decode cX7_means 20 = .ok (.aload_n 0, 1) := by decide +kernel
theorem dX7_means_21 : decode cX7_means 21 = .ok (.aload_n 0, 1) := by decide +kernel
theorem dX7_means_22 : decode cX7_means 22 = .ok (.getfield 23, 3) := by decide +kernel
theorem dX7_means_25 : decode cX7_means 25 = .ok (.getfield 140, 3) := by decide +kernel
theorem dX7_means_28 : decode cX7_means 28 = .ok (.iload_n 1, 1) := by decide +kernel
theorem dX7_means_29 : decode cX7_means 29 = .ok (.iaload, 1) := by decide +kernel
theorem dX7_means_30 : decode cX7_means 30 = .ok (.iload_n 2, 1) := by decide +kernel
theorem dX7_means_31 : decode cX7_means 31 = .ok (.invokestatic 191, 3) := by decide +kernel
theorem dX7_means_34 : decode cX7_means 34 = .ok (.putfield 82, 3) := by decide +kernel
theorem dX7_means_37 : decode cX7_means 37 = .ok (.aload_n 0, 1) := by decide +kernel
theorem dX7_means_38 : decode cX7_means 38 = .ok (.getfield 23, 3) := by decide +kernel
theorem dX7_means_41 : decode cX7_means 41 = .ok (.getfield 140, 3) := by decide +kernel
theorem dX7_means_44 : decode cX7_means 44 = .ok (.iload_n 1, 1) := by decide +kernel
theorem dX7_means_45 : decode cX7_means 45 = .ok (.iaload, 1) := by decide +kernel
theorem dX7_means_46 : decode cX7_means 46 = .ok (.iload_n 2, 1) := by decide +kernel
theorem dX7_means_47 : decode cX7_means 47 = .ok (.invokestatic 155, 3) := by decide +kernel
theorem dX7_means_50 : decode cX7_means 50 = .ok (.ireturn, 1) := by decide +kernel
theorem dX7_least_0 : decode cX7_least 0 = .ok (.aload_n 0, 1) := by decide +kernel
theorem dX7_least_1 : decode cX7_least 1 = .ok (.getfield 23, 3) := by decide +kernel
theorem dX7_least_4 : decode cX7_least 4 = .ok (.iload_n 1, 1) := by decide +kernel
theorem dX7_least_5 : decode cX7_least 5 = .ok (.invokevirtual 126, 3) := by decide +kernel
theorem dX7_least_8 : decode cX7_least 8 = .ok (.ifCond .eq 10, 3) := by decide +kernel
theorem dX7_least_11 : decode cX7_least 11 = .ok (.iload_n 2, 1) := by decide +kernel
theorem dX7_least_12 : decode cX7_least 12 = .ok (.invokestatic 167, 3) := by decide +kernel
theorem dX7_least_15 : decode cX7_least 15 = .ok (.ifCond .ne 5, 3) := by decide +kernel
theorem dX7_least_18 : decode cX7_least 18 = .ok (.iconst (-1), 1) := by decide +kernel
theorem dX7_least_19 : decode cX7_least 19 = .ok (.ireturn, 1) := by decide +kernel
theorem dX7_least_20 : decode cX7_least 20 = .ok (.iconst 0, 1) := by decide +kernel
theorem dX7_least_21 : decode cX7_least 21 = .ok (.istore_n 3, 1) := by decide +kernel
theorem dX7_least_22 : decode cX7_least 22 = .ok (.iload_n 3, 1) := by decide +kernel
theorem dX7_least_23 : decode cX7_least 23 = .ok (.bipush 99, 2) := by decide +kernel
theorem dX7_least_25 : decode cX7_least 25 = .ok (.if_icmp .gt 28, 3) := by decide +kernel
theorem dX7_least_28 : decode cX7_least 28 = .ok (.aload_n 0, 1) := by decide +kernel
theorem dX7_least_29 : decode cX7_least 29 = .ok (.getfield 23, 3) := by decide +kernel
theorem dX7_least_32 : decode cX7_least 32 = .ok (.getfield 140, 3) := by decide +kernel
theorem dX7_least_35 : decode cX7_least 35 = .ok (.iload_n 1, 1) := by decide +kernel
theorem dX7_least_36 : decode cX7_least 36 = .ok (.iaload, 1) := by decide +kernel
theorem dX7_least_37 : decode cX7_least 37 = .ok (.iload_n 3, 1) := by decide +kernel
theorem dX7_least_38 : decode cX7_least 38 = .ok (.invokestatic 188, 3) := by decide +kernel
theorem dX7_least_41 : decode cX7_least 41 = .ok (.iload_n 2, 1) := by decide +kernel
theorem dX7_least_42 : decode cX7_least 42 = .ok (.if_icmp .lt 5, 3) := by decide +kernel
theorem dX7_least_45 : decode cX7_least 45 = .ok (.iload_n 3, 1) := by decide +kernel
theorem dX7_least_46 : decode cX7_least 46 = .ok (.ireturn, 1) := by decide +kernel
theorem dX7_least_47 : decode cX7_least 47 = .ok (.iinc 3 1, 3) := by decide +kernel
theorem dX7_least_50 : decode cX7_least 50 = .ok (.goto (-28), 3) := by decide +kernel
theorem dX7_least_53 : decode cX7_least 53 = .ok (.bipush (-9), 2) := by decide +kernel
theorem dX7_least_55 : decode cX7_least 55 = .ok (.ireturn, 1) := by decide +kernel
theorem dX7_hangs_0 : decode cX7_hangs 0 = .ok (.aload_n 0, 1) := by decide +kernel
theorem dX7_hangs_1 : decode cX7_hangs 1 = .ok (.getfield 23, 3) := by decide +kernel
theorem dX7_hangs_4 : decode cX7_hangs 4 = .ok (.iload_n 1, 1) := by decide +kernel
theorem dX7_hangs_5 : decode cX7_hangs 5 = .ok (.invokevirtual 161, 3) := by decide +kernel
theorem dX7_hangs_8 : decode cX7_hangs 8 = .ok (.ifCond .eq 13, 3) := by decide +kernel
theorem dX7_hangs_11 : decode cX7_hangs 11 = .ok (.iload_n 2, 1) := by decide +kernel
theorem dX7_hangs_12 : decode cX7_hangs 12 = .ok (.iconst 0, 1) := by decide +kernel
theorem dX7_hangs_13 : decode cX7_hangs 13 = .ok (.bipush 60, 2) := by decide +kernel
theorem dX7_hangs_15 : decode cX7_hangs 15 = .ok (.invokestatic 130, 3) := by decide +kernel
theorem dX7_hangs_18 : decode cX7_hangs 18 = .ok (.ifCond .ne 5, 3) := by decide +kernel
theorem dX7_hangs_21 : decode cX7_hangs 21 = .ok (.iconst (-1), 1) := by decide +kernel
theorem dX7_hangs_22 : decode cX7_hangs 22 = .ok (.ireturn, 1) := by decide +kernel
theorem dX7_hangs_23 : decode cX7_hangs 23 = .ok (.aload_n 0, 1) := by decide +kernel
theorem dX7_hangs_24 : decode cX7_hangs 24 = .ok (.getfield 23, 3) := by decide +kernel
theorem dX7_hangs_27 : decode cX7_hangs 27 = .ok (.iload_n 1, 1) := by decide +kernel
theorem dX7_hangs_28 : decode cX7_hangs 28 = .ok (.iload_n 2, 1) := by decide +kernel
theorem dX7_hangs_29 : decode cX7_hangs 29 = .ok (.invokevirtual 194, 3) := by decide +kernel
theorem dX7_hangs_32 : decode cX7_hangs 32 = .ok (.ireturn, 1) := by decide +kernel
theorem dX7_clear_0 : decode cX7_clear 0 = .ok (.aload_n 0, 1) := by decide +kernel
theorem dX7_clear_1 : decode cX7_clear 1 = .ok (.getfield 23, 3) := by decide +kernel
theorem dX7_clear_4 : decode cX7_clear 4 = .ok (.getfield 123, 3) := by decide +kernel
theorem dX7_clear_7 : decode cX7_clear 7 = .ok (.ifCond .ne 6, 3) := by decide +kernel
theorem dX7_clear_10 : decode cX7_clear 10 = .ok (.bipush (-4), 2) := by decide +kernel
theorem dX7_clear_12 : decode cX7_clear 12 = .ok (.ireturn, 1) := by decide +kernel
theorem dX7_clear_13 : decode cX7_clear 13 = .ok (.aload_n 0, 1) := by decide +kernel
theorem dX7_clear_14 : decode cX7_clear 14 = .ok (.getfield 23, 3) := by decide +kernel
theorem dX7_clear_17 : decode cX7_clear 17 = .ok (.aload_n 0, 1) := by decide +kernel
theorem dX7_clear_18 : decode cX7_clear 18 = .ok (.getfield 23, 3) := by decide +kernel
theorem dX7_clear_21 : decode cX7_clear 21 = .ok (.getfield 164, 3) := by decide +kernel
theorem dX7_clear_24 : decode cX7_clear 24 = .ok (.invokevirtual 197, 3) := by decide +kernel
theorem dX7_clear_27 : decode cX7_clear 27 = .ok (.istore_n 1, 1) := by decide +kernel
theorem dX7_clear_28 : decode cX7_clear 28 = .ok (.iload_n 1, 1) := by decide +kernel
theorem dX7_clear_29 : decode cX7_clear 29 = .ok (.ifCond .ne 5, 3) := by decide +kernel
theorem dX7_clear_32 : decode cX7_clear 32 = .ok (.iconst 0, 1) := by decide +kernel
theorem dX7_clear_33 : decode cX7_clear 33 = .ok (.ireturn, 1) := by decide +kernel
theorem dX7_clear_34 : decode cX7_clear 34 = .ok (.aload_n 0, 1) := by decide +kernel
theorem dX7_clear_35 : decode cX7_clear 35 = .ok (.getfield 23, 3) := by decide +kernel
theorem dX7_clear_38 : decode cX7_clear 38 = .ok (.getfield 201, 3) := by decide +kernel
theorem dX7_clear_41 : decode cX7_clear 41 = .ok (.ifCond .ne 6, 3) := by decide +kernel
theorem dX7_clear_44 : decode cX7_clear 44 = .ok (.bipush (-9), 2) := by decide +kernel
theorem dX7_clear_46 : decode cX7_clear 46 = .ok (.ireturn, 1) := by decide +kernel
theorem dX7_clear_47 : decode cX7_clear 47 = .ok (.iload_n 1, 1) := by decide +kernel
theorem dX7_clear_48 : decode cX7_clear 48 = .ok (.aload_n 0, 1) := by decide +kernel
theorem dX7_clear_49 : decode cX7_clear 49 = .ok (.getfield 23, 3) := by decide +kernel
theorem dX7_clear_52 : decode cX7_clear 52 = .ok (.getfield 201, 3) := by decide +kernel
theorem dX7_clear_55 : decode cX7_clear 55 = .ok (.iadd, 1) := by decide +kernel
theorem dX7_clear_56 : decode cX7_clear 56 = .ok (.iconst 1, 1) := by decide +kernel
theorem dX7_clear_57 : decode cX7_clear 57 = .ok (.isub, 1) := by decide +kernel
theorem dX7_clear_58 : decode cX7_clear 58 = .ok (.aload_n 0, 1) := by decide +kernel
theorem dX7_clear_59 : decode cX7_clear 59 = .ok (.getfield 23, 3) := by decide +kernel
theorem dX7_clear_62 : decode cX7_clear 62 = .ok (.getfield 201, 3) := by decide +kernel
theorem dX7_clear_65 : decode cX7_clear 65 = .ok (.idiv, 1) := by decide +kernel
theorem dX7_clear_66 : decode cX7_clear 66 = .ok (.ireturn, 1) := by decide +kernel
theorem dX7_window_0 : decode cX7_window 0 = .ok (.iload_n 1, 1) := by decide +kernel
theorem dX7_window_1 : decode cX7_window 1 = .ok (.iconst 0, 1) := by decide +kernel
theorem dX7_window_2 : decode cX7_window 2 = .ok (.sipush 7992, 3) := by decide +kernel
theorem dX7_window_5 : decode cX7_window 5 = .ok (.invokestatic 130, 3) := by decide +kernel
theorem dX7_window_8 : decode cX7_window 8 = .ok (.ifCond .ne 5, 3) := by decide +kernel
theorem dX7_window_11 : decode cX7_window 11 = .ok (.iconst (-1), 1) := by decide +kernel
theorem dX7_window_12 : decode cX7_window 12 = .ok (.ireturn, 1) := by decide +kernel
theorem dX7_window_13 : decode cX7_window 13 = .ok (.aload_n 0, 1) := by decide +kernel
theorem dX7_window_14 : decode cX7_window 14 = .ok (.getfield 23, 3) := by decide +kernel
theorem dX7_window_17 : decode cX7_window 17 = .ok (.getfield 123, 3) := by decide +kernel
theorem dX7_window_20 : decode cX7_window 20 = .ok (.ifCond .ne 6, 3) := by decide +kernel
theorem dX7_window_23 : decode cX7_window 23 = .ok (.bipush (-4), 2) := by decide +kernel
theorem dX7_window_25 : decode cX7_window 25 = .ok (.ireturn, 1) := by decide +kernel
theorem dX7_window_26 : decode cX7_window 26 = .ok (.iconst 1, 1) := by decide +kernel
theorem dX7_window_27 : decode cX7_window 27 = .ok (.aload_n 0, 1) := by decide +kernel
theorem dX7_window_28 : decode cX7_window 28 = .ok (.getfield 23, 3) := by decide +kernel
theorem dX7_window_31 : decode cX7_window 31 = .ok (.getfield 204, 3) := by decide +kernel
theorem dX7_window_34 : decode cX7_window 34 = .ok (.ishl, 1) := by decide +kernel
theorem dX7_window_35 : decode cX7_window 35 = .ok (.iconst 1, 1) := by decide +kernel
theorem dX7_window_36 : decode cX7_window 36 = .ok (.isub, 1) := by decide +kernel
theorem dX7_window_37 : decode cX7_window 37 = .ok (.istore_n 2, 1) := by decide +kernel
theorem dX7_window_38 : decode cX7_window 38 = .ok (.iload_n 2, 1) := by decide +kernel
theorem dX7_window_39 : decode cX7_window 39 = .ok (.istore_n 3, 1) := by decide +kernel
theorem dX7_window_40 : decode cX7_window 40 = .ok (.iconst 0, 1) := by decide +kernel
theorem dX7_window_41 : decode cX7_window 41 = .ok (.istore 4, 2) := by decide +kernel
theorem dX7_window_43 : decode cX7_window 43 = .ok (.iload 4, 2) := by decide +kernel
theorem dX7_window_45 : decode cX7_window 45 = .ok (.iload_n 2, 1) := by decide +kernel
theorem dX7_window_46 : decode cX7_window 46 = .ok (.if_icmp .ge 49, 3) := by decide +kernel
theorem dX7_window_49 : decode cX7_window 49 = .ok (.iload 4, 2) := by decide +kernel
theorem dX7_window_51 : decode cX7_window 51 = .ok (.invokestatic 207, 3) := by decide +kernel
theorem dX7_window_54 : decode cX7_window 54 = .ok (.iload_n 3, 1) := by decide +kernel
theorem dX7_window_55 : decode cX7_window 55 = .ok (.invokestatic 207, 3) := by decide +kernel
theorem dX7_window_58 : decode cX7_window 58 = .ok (.if_icmp .ge 7, 3) := by decide +kernel
theorem dX7_window_61 : decode cX7_window 61 = .ok (.iconst 1, 1) := by decide +kernel
theorem dX7_window_62 : decode cX7_window 62 = .ok (.goto 4, 3) := by decide +kernel
theorem dX7_window_65 : decode cX7_window 65 = .ok (.iconst 0, 1) := by decide +kernel
theorem dX7_window_66 : decode cX7_window 66 = .ok (.istore 5, 2) := by decide +kernel
theorem dX7_window_68 : decode cX7_window 68 = .ok (.iload 5, 2) := by decide +kernel
theorem dX7_window_70 : decode cX7_window 70 = .ok (.ifCond .eq 19, 3) := by decide +kernel
theorem dX7_window_73 : decode cX7_window 73 = .ok (.aload_n 0, 1) := by decide +kernel
theorem dX7_window_74 : decode cX7_window 74 = .ok (.getfield 23, 3) := by decide +kernel
theorem dX7_window_77 : decode cX7_window 77 = .ok (.iload 4, 2) := by decide +kernel
theorem dX7_window_79 : decode cX7_window 79 = .ok (.invokevirtual 212, 3) := by decide +kernel
theorem dX7_window_82 : decode cX7_window 82 = .ok (.iload_n 1, 1) := by decide +kernel
theorem dX7_window_83 : decode cX7_window 83 = .ok (.if_icmp .gt 6, 3) := by decide +kernel
theorem dX7_window_86 : decode cX7_window 86 = .ok (.iload 4, 2) := by decide +kernel
theorem dX7_window_88 : decode cX7_window 88 = .ok (.istore_n 3, 1) := by decide +kernel
theorem dX7_window_89 : decode cX7_window 89 = .ok (.iinc 4 1, 3) := by decide +kernel
theorem dX7_window_92 : decode cX7_window 92 = .ok (.goto (-49), 3) := by decide +kernel
theorem dX7_window_95 : decode cX7_window 95 = .ok (.aload_n 0, 1) := by decide +kernel
theorem dX7_window_96 : decode cX7_window 96 = .ok (.iload_n 3, 1) := by decide +kernel
theorem dX7_window_97 : decode cX7_window 97 = .ok (.putfield 82, 3) := by decide +kernel
theorem dX7_window_100 : decode cX7_window 100 = .ok (.iload_n 3, 1) := by decide +kernel
theorem dX7_window_101 : decode cX7_window 101 = .ok (.invokestatic 207, 3) := by decide +kernel
theorem dX7_window_104 : decode cX7_window 104 = .ok (.ireturn, 1) := by decide +kernel
theorem dX7_talks_0 : decode cX7_talks 0 = .ok (.aload_n 0, 1) := by decide +kernel
theorem dX7_talks_1 : decode cX7_talks 1 = .ok (.getfield 13, 3) := by decide +kernel
theorem dX7_talks_4 : decode cX7_talks 4 = .ok (.iload 4, 2) := by decide +kernel
theorem dX7_talks_6 : decode cX7_talks 6 = .ok (.invokestatic 64, 3) := by decide +kernel
theorem dX7_talks_9 : decode cX7_talks 9 = .ok (.astore 5, 2) := by decide +kernel
theorem dX7_talks_11 : decode cX7_talks 11 = .ok (.aload 5, 2) := by decide +kernel
theorem dX7_talks_13 : decode cX7_talks 13 = .ok (.ifnull 32, 3) := by decide +kernel
theorem dX7_talks_16 : decode cX7_talks 16 = .ok (.iload_n 1, 1) := by decide +kernel
theorem dX7_talks_17 : decode cX7_talks 17 = .ok (.invokestatic 167, 3) := by decide +kernel
theorem dX7_talks_20 : decode cX7_talks 20 = .ok (.ifCond .eq 25, 3) := by decide +kernel
theorem dX7_talks_23 : decode cX7_talks 23 = .ok (.aload_n 0, 1) := by decide +kernel
theorem dX7_talks_24 : decode cX7_talks 24 = .ok (.getfield 23, 3) := by decide +kernel
theorem dX7_talks_27 : decode cX7_talks 27 = .ok (.iload_n 2, 1) := by decide +kernel
theorem dX7_talks_28 : decode cX7_talks 28 = .ok (.invokevirtual 161, 3) := by decide +kernel
theorem dX7_talks_31 : decode cX7_talks 31 = .ok (.ifCond .eq 14, 3) := by decide +kernel
theorem dX7_talks_34 : decode cX7_talks 34 = .ok (.iload_n 3, 1) := by decide +kernel
theorem dX7_talks_35 : decode cX7_talks 35 = .ok (.iconst 0, 1) := by decide +kernel
theorem dX7_talks_36 : decode cX7_talks 36 = .ok (.sipush 999, 3) := by decide +kernel
theorem dX7_talks_39 : decode cX7_talks 39 = .ok (.invokestatic 130, 3) := by decide +kernel
theorem dX7_talks_42 : decode cX7_talks 42 = .ok (.ifCond .ne 5, 3) := by decide +kernel
theorem dX7_talks_45 : decode cX7_talks 45 = .ok (.iconst (-1), 1) := by decide +kernel
theorem dX7_talks_46 : decode cX7_talks 46 = .ok (.ireturn, 1) := by decide +kernel
theorem dX7_talks_47 : decode cX7_talks 47 = .ok (.iconst 0, 1) := by decide +kernel
theorem dX7_talks_48 : decode cX7_talks 48 = .ok (.istore 6, 2) := by decide +kernel
theorem dX7_talks_50 : decode cX7_talks 50 = .ok (.iload 6, 2) := by decide +kernel
theorem dX7_talks_52 : decode cX7_talks 52 = .ok (.aload_n 0, 1) := by decide +kernel
theorem dX7_talks_53 : decode cX7_talks 53 = .ok (.getfield 23, 3) := by decide +kernel
theorem dX7_talks_56 : decode cX7_talks 56 = .ok (.getfield 123, 3) := by decide +kernel
theorem dX7_talks_59 : decode cX7_talks 59 = .ok (.if_icmp .ge 27, 3) := by decide +kernel
theorem dX7_talks_62 : decode cX7_talks 62 = .ok (.aload_n 0, 1) := by decide +kernel
theorem dX7_talks_63 : decode cX7_talks 63 = .ok (.getfield 49, 3) := by decide +kernel
theorem dX7_talks_66 : decode cX7_talks 66 = .ok (.iload 6, 2) := by decide +kernel
theorem dX7_talks_68 : decode cX7_talks 68 = .ok (.aload_n 0, 1) := by decide +kernel
theorem dX7_talks_69 : decode cX7_talks 69 = .ok (.getfield 23, 3) := by decide +kernel
theorem dX7_talks_72 : decode cX7_talks 72 = .ok (.iload 6, 2) := by decide +kernel
theorem dX7_talks_74 : decode cX7_talks 74 = .ok (.iload_n 1, 1) := by decide +kernel
theorem dX7_talks_75 : decode cX7_talks 75 = .ok (.iload_n 2, 1) := by decide +kernel
theorem dX7_talks_76 : decode cX7_talks 76 = .ok (.invokevirtual 215, 3) := by decide +kernel
theorem dX7_talks_79 : decode cX7_talks 79 = .ok (.iastore, 1) := by decide +kernel
theorem dX7_talks_80 : decode cX7_talks 80 = .ok (.iinc 6 1, 3) := by decide +kernel
theorem dX7_talks_83 : decode cX7_talks 83 = .ok (.goto (-33), 3) := by decide +kernel
theorem dX7_talks_86 : decode cX7_talks 86 = .ok (.iconst 1, 1) := by decide +kernel
theorem dX7_talks_87 : decode cX7_talks 87 = .ok (.istore 6, 2) := by decide +kernel
theorem dX7_talks_89 : decode cX7_talks 89 = .ok (.iconst 0, 1) := by decide +kernel
theorem dX7_talks_90 : decode cX7_talks 90 = .ok (.istore 7, 2) := by decide +kernel
theorem dX7_talks_92 : decode cX7_talks 92 = .ok (.iload 7, 2) := by decide +kernel
theorem dX7_talks_94 : decode cX7_talks 94 = .ok (.iconst 3, 1) := by decide +kernel
theorem dX7_talks_95 : decode cX7_talks 95 = .ok (.if_icmp .gt 72, 3) := by decide +kernel
theorem dX7_talks_98 : decode cX7_talks 98 = .ok (.iconst 0, 1) := by decide +kernel
theorem dX7_talks_99 : decode cX7_talks 99 = .ok (.istore 8, 2) := by decide +kernel
theorem dX7_talks_101 : decode cX7_talks 101 = .ok (.iload 8, 2) := by decide +kernel
theorem dX7_talks_103 : decode cX7_talks 103 = .ok (.iload 6, 2) := by decide +kernel
theorem dX7_talks_105 : decode cX7_talks 105 = .ok (.if_icmp .ge 44, 3) := by decide +kernel
theorem dX7_talks_108 : decode cX7_talks 108 = .ok (.aload_n 0, 1) := by decide +kernel
theorem dX7_talks_109 : decode cX7_talks 109 = .ok (.getfield 23, 3) := by decide +kernel
theorem dX7_talks_112 : decode cX7_talks 112 = .ok (.getfield 164, 3) := by decide +kernel
theorem dX7_talks_115 : decode cX7_talks 115 = .ok (.iload_n 2, 1) := by decide +kernel
theorem dX7_talks_116 : decode cX7_talks 116 = .ok (.iaload, 1) := by decide +kernel
theorem dX7_talks_117 : decode cX7_talks 117 = .ok (.aload_n 0, 1) := by decide +kernel
theorem dX7_talks_118 : decode cX7_talks 118 = .ok (.iload 8, 2) := by decide +kernel
theorem dX7_talks_120 : decode cX7_talks 120 = .ok (.iload 7, 2) := by decide +kernel
theorem dX7_talks_122 : decode cX7_talks 122 = .ok (.invokevirtual 218, 3) := by decide +kernel
theorem dX7_talks_125 : decode cX7_talks 125 = .ok (.iadd, 1) := by decide +kernel
theorem dX7_talks_126 : decode cX7_talks 126 = .ok (.iload_n 3, 1) := by decide +kernel
theorem dX7_talks_127 : decode cX7_talks 127 = .ok (.if_icmp .lt 16, 3) := by decide +kernel
theorem dX7_talks_130 : decode cX7_talks 130 = .ok (.aload_n 0, 1) := by decide +kernel
theorem dX7_talks_131 : decode cX7_talks 131 = .ok (.aload 5, 2) := by decide +kernel
theorem dX7_talks_133 : decode cX7_talks 133 = .ok (.iload 8, 2) := by decide +kernel
theorem dX7_talks_135 : decode cX7_talks 135 = .ok (.iload 7, 2) := by decide +kernel
theorem dX7_talks_137 : decode cX7_talks 137 = .ok (.invokevirtual 221, 3) := by decide +kernel
theorem dX7_talks_140 : decode cX7_talks 140 = .ok (.iload 7, 2) := by decide +kernel
theorem dX7_talks_142 : decode cX7_talks 142 = .ok (.ireturn, 1) := by decide +kernel
theorem dX7_talks_143 : decode cX7_talks 143 = .ok (.iinc 8 1, 3) := by decide +kernel
theorem dX7_talks_146 : decode cX7_talks 146 = .ok (.goto (-45), 3) := by decide +kernel
theorem dX7_talks_149 : decode cX7_talks 149 = .ok (.iload 6, 2) := by decide +kernel
theorem dX7_talks_151 : decode cX7_talks 151 = .ok (.aload_n 0, 1) := by decide +kernel
theorem dX7_talks_152 : decode cX7_talks 152 = .ok (.getfield 23, 3) := by decide +kernel
theorem dX7_talks_155 : decode cX7_talks 155 = .ok (.getfield 123, 3) := by decide +kernel
theorem dX7_talks_158 : decode cX7_talks 158 = .ok (.imul, 1) := by decide +kernel
theorem dX7_talks_159 : decode cX7_talks 159 = .ok (.istore 6, 2) := by decide +kernel
theorem dX7_talks_161 : decode cX7_talks 161 = .ok (.iinc 7 1, 3) := by decide +kernel
theorem dX7_talks_164 : decode cX7_talks 164 = .ok (.goto (-72), 3) := by decide +kernel
theorem dX7_talks_167 : decode cX7_talks 167 = .ok (.bipush (-9), 2) := by decide +kernel
theorem dX7_talks_169 : decode cX7_talks 169 = .ok (.ireturn, 1) := by decide +kernel
theorem dX7_sets_0 : decode cX7_sets 0 = .ok (.aload_n 0, 1) := by decide +kernel
theorem dX7_sets_1 : decode cX7_sets 1 = .ok (.iload_n 1, 1) := by decide +kernel
theorem dX7_sets_2 : decode cX7_sets 2 = .ok (.iload_n 2, 1) := by decide +kernel
theorem dX7_sets_3 : decode cX7_sets 3 = .ok (.invokevirtual 225, 3) := by decide +kernel
theorem dX7_sets_6 : decode cX7_sets 6 = .ok (.istore_n 3, 1) := by decide +kernel
theorem dX7_sets_7 : decode cX7_sets 7 = .ok (.iload_n 3, 1) := by decide +kernel
theorem dX7_sets_8 : decode cX7_sets 8 = .ok (.ifCond .eq 5, 3) := by decide +kernel
theorem dX7_sets_11 : decode cX7_sets 11 = .ok (.iload_n 3, 1) := by decide +kernel
theorem dX7_sets_12 : decode cX7_sets 12 = .ok (.ireturn, 1) := by decide +kernel
theorem dX7_sets_13 : decode cX7_sets 13 = .ok (.aload_n 0, 1) := by decide +kernel
theorem dX7_sets_14 : decode cX7_sets 14 = .ok (.iload_n 1, 1) := by decide +kernel
theorem dX7_sets_15 : decode cX7_sets 15 = .ok (.invokevirtual 228, 3) := by decide +kernel
theorem dX7_sets_18 : decode cX7_sets 18 = .ok (.aload_n 0, 1) := by decide +kernel
theorem dX7_sets_19 : decode cX7_sets 19 = .ok (.aload_n 0, 1) := by decide +kernel
theorem dX7_sets_20 : decode cX7_sets 20 = .ok (.iconst 0, 1) := by decide +kernel
theorem dX7_sets_21 : decode cX7_sets 21 = .ok (.iload_n 2, 1) := by decide +kernel
theorem dX7_sets_22 : decode cX7_sets 22 = .ok (.invokevirtual 232, 3) := by decide +kernel
theorem dX7_sets_25 : decode cX7_sets 25 = .ok (.i2l, 1) := by decide +kernel
theorem dX7_sets_26 : decode cX7_sets 26 = .ok (.lconst 1, 1) := by decide +kernel
theorem dX7_sets_27 : decode cX7_sets 27 = .ok (.invokevirtual 235, 3) := by decide +kernel
theorem dX7_sets_30 : decode cX7_sets 30 = .ok (.aload_n 0, 1) := by decide +kernel
theorem dX7_sets_31 : decode cX7_sets 31 = .ok (.aload_n 0, 1) := by decide +kernel
theorem dX7_sets_32 : decode cX7_sets 32 = .ok (.iload_n 2, 1) := by decide +kernel
theorem dX7_sets_33 : decode cX7_sets 33 = .ok (.invokevirtual 239, 3) := by decide +kernel
theorem dX7_sets_36 : decode cX7_sets 36 = .ok (.putfield 82, 3) := by decide +kernel
theorem dX7_sets_39 : decode cX7_sets 39 = .ok (.iconst 1, 1) := by decide +kernel
theorem dX7_sets_40 : decode cX7_sets 40 = .ok (.ireturn, 1) := by decide +kernel
theorem dX7_sure_0 : decode cX7_sure 0 = .ok (.aload_n 0, 1) := by decide +kernel
theorem dX7_sure_1 : decode cX7_sure 1 = .ok (.iload_n 1, 1) := by decide +kernel
theorem dX7_sure_2 : decode cX7_sure 2 = .ok (.iload_n 2, 1) := by decide +kernel
theorem dX7_sure_3 : decode cX7_sure 3 = .ok (.invokevirtual 225, 3) := by decide +kernel
theorem dX7_sure_6 : decode cX7_sure 6 = .ok (.istore_n 3, 1) := by decide +kernel
theorem dX7_sure_7 : decode cX7_sure 7 = .ok (.iload_n 3, 1) := by decide +kernel
theorem dX7_sure_8 : decode cX7_sure 8 = .ok (.ifCond .eq 5, 3) := by decide +kernel
theorem dX7_sure_11 : decode cX7_sure 11 = .ok (.iload_n 3, 1) := by decide +kernel
theorem dX7_sure_12 : decode cX7_sure 12 = .ok (.ireturn, 1) := by decide +kernel
theorem dX7_sure_13 : decode cX7_sure 13 = .ok (.aload_n 0, 1) := by decide +kernel
theorem dX7_sure_14 : decode cX7_sure 14 = .ok (.iload_n 1, 1) := by decide +kernel
theorem dX7_sure_15 : decode cX7_sure 15 = .ok (.invokevirtual 228, 3) := by decide +kernel
theorem dX7_sure_18 : decode cX7_sure 18 = .ok (.aload_n 0, 1) := by decide +kernel
theorem dX7_sure_19 : decode cX7_sure 19 = .ok (.iconst 0, 1) := by decide +kernel
theorem dX7_sure_20 : decode cX7_sure 20 = .ok (.iload_n 2, 1) := by decide +kernel
theorem dX7_sure_21 : decode cX7_sure 21 = .ok (.invokevirtual 232, 3) := by decide +kernel
theorem dX7_sure_24 : decode cX7_sure 24 = .ok (.istore 4, 2) := by decide +kernel
theorem dX7_sure_26 : decode cX7_sure 26 = .ok (.iload 4, 2) := by decide +kernel
theorem dX7_sure_28 : decode cX7_sure 28 = .ok (.ifCond .ne 9, 3) := by decide +kernel
theorem dX7_sure_31 : decode cX7_sure 31 = .ok (.aload_n 0, 1) := by decide +kernel
theorem dX7_sure_32 : decode cX7_sure 32 = .ok (.iconst 4, 1) := by decide +kernel
theorem dX7_sure_33 : decode cX7_sure 33 = .ok (.invokevirtual 93, 3) := by decide +kernel
theorem dX7_sure_36 : decode cX7_sure 36 = .ok (.ireturn, 1) := by decide +kernel
theorem dX7_sure_37 : decode cX7_sure 37 = .ok (.iconst 0, 1) := by decide +kernel
theorem dX7_sure_38 : decode cX7_sure 38 = .ok (.istore 5, 2) := by decide +kernel
theorem dX7_sure_40 : decode cX7_sure 40 = .ok (.iconst 0, 1) := by decide +kernel
theorem dX7_sure_41 : decode cX7_sure 41 = .ok (.istore 6, 2) := by decide +kernel
theorem dX7_sure_43 : decode cX7_sure 43 = .ok (.iconst 0, 1) := by decide +kernel
theorem dX7_sure_44 : decode cX7_sure 44 = .ok (.istore 7, 2) := by decide +kernel
theorem dX7_sure_46 : decode cX7_sure 46 = .ok (.iload 7, 2) := by decide +kernel
theorem dX7_sure_48 : decode cX7_sure 48 = .ok (.aload_n 0, 1) := by decide +kernel
theorem dX7_sure_49 : decode cX7_sure 49 = .ok (.getfield 23, 3) := by decide +kernel
theorem dX7_sure_52 : decode cX7_sure 52 = .ok (.getfield 123, 3) := by decide +kernel
theorem dX7_sure_55 : decode cX7_sure 55 = .ok (.if_icmp .ge 50, 3) := by decide +kernel
theorem dX7_sure_58 : decode cX7_sure 58 = .ok (.aload_n 0, 1) := by decide +kernel
theorem dX7_sure_59 : decode cX7_sure 59 = .ok (.iconst 1, 1) := by decide +kernel
theorem dX7_sure_60 : decode cX7_sure 60 = .ok (.iload 7, 2) := by decide +kernel
theorem dX7_sure_62 : decode cX7_sure 62 = .ok (.ishl, 1) := by decide +kernel
theorem dX7_sure_63 : decode cX7_sure 63 = .ok (.iload_n 2, 1) := by decide +kernel
theorem dX7_sure_64 : decode cX7_sure 64 = .ok (.invokevirtual 232, 3) := by decide +kernel
theorem dX7_sure_67 : decode cX7_sure 67 = .ok (.istore 8, 2) := by decide +kernel
theorem dX7_sure_69 : decode cX7_sure 69 = .ok (.iload 8, 2) := by decide +kernel
theorem dX7_sure_71 : decode cX7_sure 71 = .ok (.iload 4, 2) := by decide +kernel
theorem dX7_sure_73 : decode cX7_sure 73 = .ok (.if_icmp .ne 12, 3) := by decide +kernel
theorem dX7_sure_76 : decode cX7_sure 76 = .ok (.iload 5, 2) := by decide +kernel
theorem dX7_sure_78 : decode cX7_sure 78 = .ok (.iconst 1, 1) := by decide +kernel
theorem dX7_sure_79 : decode cX7_sure 79 = .ok (.iload 7, 2) := by decide +kernel
theorem dX7_sure_81 : decode cX7_sure 81 = .ok (.ishl, 1) := by decide +kernel
theorem dX7_sure_82 : decode cX7_sure 82 = .ok (.ior, 1) := by decide +kernel
theorem dX7_sure_83 : decode cX7_sure 83 = .ok (.istore 5, 2) := by decide +kernel
theorem dX7_sure_85 : decode cX7_sure 85 = .ok (.iload 8, 2) := by decide +kernel
theorem dX7_sure_87 : decode cX7_sure 87 = .ok (.ifCond .ne 12, 3) := by decide +kernel
theorem dX7_sure_90 : decode cX7_sure 90 = .ok (.iload 6, 2) := by decide +kernel
theorem dX7_sure_92 : decode cX7_sure 92 = .ok (.iconst 1, 1) := by decide +kernel
theorem dX7_sure_93 : decode cX7_sure 93 = .ok (.iload 7, 2) := by decide +kernel
theorem dX7_sure_95 : decode cX7_sure 95 = .ok (.ishl, 1) := by decide +kernel
theorem dX7_sure_96 : decode cX7_sure 96 = .ok (.ior, 1) := by decide +kernel
theorem dX7_sure_97 : decode cX7_sure 97 = .ok (.istore 6, 2) := by decide +kernel
theorem dX7_sure_99 : decode cX7_sure 99 = .ok (.iinc 7 1, 3) := by decide +kernel
theorem dX7_sure_102 : decode cX7_sure 102 = .ok (.goto (-56), 3) := by decide +kernel
theorem dX7_sure_105 : decode cX7_sure 105 = .ok (.aload_n 0, 1) := by decide +kernel
theorem dX7_sure_106 : decode cX7_sure 106 = .ok (.iload 6, 2) := by decide +kernel
theorem dX7_sure_108 : decode cX7_sure 108 = .ok (.putfield 82, 3) := by decide +kernel
theorem dX7_sure_111 : decode cX7_sure 111 = .ok (.iload 5, 2) := by decide +kernel
theorem dX7_sure_113 : decode cX7_sure 113 = .ok (.ireturn, 1) := by decide +kernel
theorem dX7_ask_0 : decode cX7_ask 0 = .ok (.aload_n 0, 1) := by decide +kernel
theorem dX7_ask_1 : decode cX7_ask 1 = .ok (.iload_n 1, 1) := by decide +kernel
theorem dX7_ask_2 : decode cX7_ask 2 = .ok (.iload_n 2, 1) := by decide +kernel
theorem dX7_ask_3 : decode cX7_ask 3 = .ok (.invokevirtual 225, 3) := by decide +kernel
theorem dX7_ask_6 : decode cX7_ask 6 = .ok (.istore_n 3, 1) := by decide +kernel
theorem dX7_ask_7 : decode cX7_ask 7 = .ok (.iload_n 3, 1) := by decide +kernel
theorem dX7_ask_8 : decode cX7_ask 8 = .ok (.ifCond .eq 5, 3) := by decide +kernel
theorem dX7_ask_11 : decode cX7_ask 11 = .ok (.iload_n 3, 1) := by decide +kernel
theorem dX7_ask_12 : decode cX7_ask 12 = .ok (.ireturn, 1) := by decide +kernel
theorem dX7_ask_13 : decode cX7_ask 13 = .ok (.aload_n 0, 1) := by decide +kernel
theorem dX7_ask_14 : decode cX7_ask 14 = .ok (.iload_n 1, 1) := by decide +kernel
theorem dX7_ask_15 : decode cX7_ask 15 = .ok (.invokevirtual 228, 3) := by decide +kernel
theorem dX7_ask_18 : decode cX7_ask 18 = .ok (.aload_n 0, 1) := by decide +kernel
theorem dX7_ask_19 : decode cX7_ask 19 = .ok (.iconst 0, 1) := by decide +kernel
theorem dX7_ask_20 : decode cX7_ask 20 = .ok (.iload_n 2, 1) := by decide +kernel
theorem dX7_ask_21 : decode cX7_ask 21 = .ok (.invokevirtual 232, 3) := by decide +kernel
theorem dX7_ask_24 : decode cX7_ask 24 = .ok (.istore 4, 2) := by decide +kernel
theorem dX7_ask_26 : decode cX7_ask 26 = .ok (.iload 4, 2) := by decide +kernel
theorem dX7_ask_28 : decode cX7_ask 28 = .ok (.ifCond .ne 9, 3) := by decide +kernel
theorem dX7_ask_31 : decode cX7_ask 31 = .ok (.aload_n 0, 1) := by decide +kernel
theorem dX7_ask_32 : decode cX7_ask 32 = .ok (.iconst 4, 1) := by decide +kernel
theorem dX7_ask_33 : decode cX7_ask 33 = .ok (.invokevirtual 93, 3) := by decide +kernel
theorem dX7_ask_36 : decode cX7_ask 36 = .ok (.ireturn, 1) := by decide +kernel
theorem dX7_ask_37 : decode cX7_ask 37 = .ok (.iconst 0, 1) := by decide +kernel
theorem dX7_ask_38 : decode cX7_ask 38 = .ok (.istore 5, 2) := by decide +kernel
theorem dX7_ask_40 : decode cX7_ask 40 = .ok (.iload 4, 2) := by decide +kernel
theorem dX7_ask_42 : decode cX7_ask 42 = .ok (.iconst 1, 1) := by decide +kernel
theorem dX7_ask_43 : decode cX7_ask 43 = .ok (.iadd, 1) := by decide +kernel
theorem dX7_ask_44 : decode cX7_ask 44 = .ok (.istore 6, 2) := by decide +kernel
theorem dX7_ask_46 : decode cX7_ask 46 = .ok (.iconst 0, 1) := by decide +kernel
theorem dX7_ask_47 : decode cX7_ask 47 = .ok (.istore 7, 2) := by decide +kernel
theorem dX7_ask_49 : decode cX7_ask 49 = .ok (.iload 7, 2) := by decide +kernel
theorem dX7_ask_51 : decode cX7_ask 51 = .ok (.aload_n 0, 1) := by decide +kernel
theorem dX7_ask_52 : decode cX7_ask 52 = .ok (.getfield 23, 3) := by decide +kernel
theorem dX7_ask_55 : decode cX7_ask 55 = .ok (.getfield 123, 3) := by decide +kernel
theorem dX7_ask_58 : decode cX7_ask 58 = .ok (.if_icmp .ge 47, 3) := by decide +kernel
theorem dX7_ask_61 : decode cX7_ask 61 = .ok (.aload_n 0, 1) := by decide +kernel
theorem dX7_ask_62 : decode cX7_ask 62 = .ok (.iconst 1, 1) := by decide +kernel
theorem dX7_ask_63 : decode cX7_ask 63 = .ok (.iload 7, 2) := by decide +kernel
theorem dX7_ask_65 : decode cX7_ask 65 = .ok (.ishl, 1) := by decide +kernel
theorem dX7_ask_66 : decode cX7_ask 66 = .ok (.iload_n 2, 1) := by decide +kernel
theorem dX7_ask_67 : decode cX7_ask 67 = .ok (.invokevirtual 232, 3) := by decide +kernel
theorem dX7_ask_70 : decode cX7_ask 70 = .ok (.istore 8, 2) := by decide +kernel
theorem dX7_ask_72 : decode cX7_ask 72 = .ok (.iload 8, 2) := by decide +kernel
theorem dX7_ask_74 : decode cX7_ask 74 = .ok (.iload 4, 2) := by decide +kernel
theorem dX7_ask_76 : decode cX7_ask 76 = .ok (.iload 8, 2) := by decide +kernel
theorem dX7_ask_78 : decode cX7_ask 78 = .ok (.isub, 1) := by decide +kernel
theorem dX7_ask_79 : decode cX7_ask 79 = .ok (.invokestatic 242, 3) := by decide +kernel
theorem dX7_ask_82 : decode cX7_ask 82 = .ok (.istore 9, 2) := by decide +kernel
theorem dX7_ask_84 : decode cX7_ask 84 = .ok (.iload 9, 2) := by decide +kernel
theorem dX7_ask_86 : decode cX7_ask 86 = .ok (.iload 6, 2) := by decide +kernel
theorem dX7_ask_88 : decode cX7_ask 88 = .ok (.if_icmp .ge 11, 3) := by decide +kernel
theorem dX7_ask_91 : decode cX7_ask 91 = .ok (.iload 9, 2) := by decide +kernel
theorem dX7_ask_93 : decode cX7_ask 93 = .ok (.istore 6, 2) := by decide +kernel
theorem dX7_ask_95 : decode cX7_ask 95 = .ok (.iload 7, 2) := by decide +kernel
theorem dX7_ask_97 : decode cX7_ask 97 = .ok (.istore 5, 2) := by decide +kernel
theorem dX7_ask_99 : decode cX7_ask 99 = .ok (.iinc 7 1, 3) := by decide +kernel
theorem dX7_ask_102 : decode cX7_ask 102 = .ok (.goto (-53), 3) := by decide +kernel
theorem dX7_ask_105 : decode cX7_ask 105 = .ok (.aload_n 0, 1) := by decide +kernel
theorem dX7_ask_106 : decode cX7_ask 106 = .ok (.iload 6, 2) := by decide +kernel
theorem dX7_ask_108 : decode cX7_ask 108 = .ok (.putfield 82, 3) := by decide +kernel
theorem dX7_ask_111 : decode cX7_ask 111 = .ok (.iload 5, 2) := by decide +kernel
theorem dX7_ask_113 : decode cX7_ask 113 = .ok (.ireturn, 1) := by decide +kernel
theorem dX7_who_0 : decode cX7_who 0 = .ok (.aload_n 0, 1) := by decide +kernel
theorem dX7_who_1 : decode cX7_who 1 = .ok (.getfield 13, 3) := by decide +kernel
theorem dX7_who_4 : decode cX7_who 4 = .ok (.iload_n 1, 1) := by decide +kernel
theorem dX7_who_5 : decode cX7_who 5 = .ok (.invokestatic 64, 3) := by decide +kernel
theorem dX7_who_8 : decode cX7_who 8 = .ok (.astore_n 2, 1) := by decide +kernel
theorem dX7_who_9 : decode cX7_who 9 = .ok (.aload_n 2, 1) := by decide +kernel
theorem dX7_who_10 : decode cX7_who 10 = .ok (.ifnonnull 5, 3) := by decide +kernel
theorem dX7_who_13 : decode cX7_who 13 = .ok (.iconst (-1), 1) := by decide +kernel
theorem dX7_who_14 : decode cX7_who 14 = .ok (.ireturn, 1) := by decide +kernel
theorem dX7_who_15 : decode cX7_who 15 = .ok (.aload_n 0, 1) := by decide +kernel
theorem dX7_who_16 : decode cX7_who 16 = .ok (.aload_n 2, 1) := by decide +kernel
theorem dX7_who_17 : decode cX7_who 17 = .ok (.invokevirtual 247, 3) := by decide +kernel
theorem dX7_who_20 : decode cX7_who 20 = .ok (.istore_n 3, 1) := by decide +kernel
theorem dX7_who_21 : decode cX7_who 21 = .ok (.iload_n 3, 1) := by decide +kernel
theorem dX7_who_22 : decode cX7_who 22 = .ok (.ifCond .eq 5, 3) := by decide +kernel
theorem dX7_who_25 : decode cX7_who 25 = .ok (.iload_n 3, 1) := by decide +kernel
theorem dX7_who_26 : decode cX7_who 26 = .ok (.ireturn, 1) := by decide +kernel
theorem dX7_who_27 : decode cX7_who 27 = .ok (.iconst 0, 1) := by decide +kernel
theorem dX7_who_28 : decode cX7_who 28 = .ok (.istore 4, 2) := by decide +kernel
theorem dX7_who_30 : decode cX7_who 30 = .ok (.iconst 0, 1) := by decide +kernel
theorem dX7_who_31 : decode cX7_who 31 = .ok (.istore 5, 2) := by decide +kernel
theorem dX7_who_33 : decode cX7_who 33 = .ok (.iload 5, 2) := by decide +kernel
theorem dX7_who_35 : decode cX7_who 35 = .ok (.aload_n 0, 1) := by decide +kernel
theorem dX7_who_36 : decode cX7_who 36 = .ok (.getfield 23, 3) := by decide +kernel
theorem dX7_who_39 : decode cX7_who 39 = .ok (.getfield 123, 3) := by decide +kernel
theorem dX7_who_42 : decode cX7_who 42 = .ok (.if_icmp .ge 35, 3) := by decide +kernel
theorem dX7_who_45 : decode cX7_who 45 = .ok (.aload_n 2, 1) := by decide +kernel
theorem dX7_who_46 : decode cX7_who 46 = .ok (.aload_n 0, 1) := by decide +kernel
theorem dX7_who_47 : decode cX7_who 47 = .ok (.getfield 23, 3) := by decide +kernel
theorem dX7_who_50 : decode cX7_who 50 = .ok (.getfield 140, 3) := by decide +kernel
theorem dX7_who_53 : decode cX7_who 53 = .ok (.iload 5, 2) := by decide +kernel
theorem dX7_who_55 : decode cX7_who 55 = .ok (.iaload, 1) := by decide +kernel
theorem dX7_who_56 : decode cX7_who 56 = .ok (.invokestatic 250, 3) := by decide +kernel
end
section
theorem dX7_who_59 : decode cX7_who 59 = .ok (.ifCond .eq 12, 3) := by decide +kernel
theorem dX7_who_62 : decode cX7_who 62 = .ok (.iload 4, 2) := by decide +kernel
theorem dX7_who_64 : decode cX7_who 64 = .ok (.iconst 1, 1) := by decide +kernel
theorem dX7_who_65 : decode cX7_who 65 = .ok (.iload 5, 2) := by decide +kernel
theorem dX7_who_67 : decode cX7_who 67 = .ok (.ishl, 1) := by decide +kernel
theorem dX7_who_68 : decode cX7_who 68 = .ok (.ior, 1) := by decide +kernel
theorem dX7_who_69 : decode cX7_who 69 = .ok (.istore 4, 2) := by decide +kernel
theorem dX7_who_71 : decode cX7_who 71 = .ok (.iinc 5 1, 3) := by decide +kernel
theorem dX7_who_74 : decode cX7_who 74 = .ok (.goto (-41), 3) := by decide +kernel
theorem dX7_who_77 : decode cX7_who 77 = .ok (.iload 4, 2) := by decide +kernel
theorem dX7_who_79 : decode cX7_who 79 = .ok (.ireturn, 1) := by decide +kernel
theorem dX7_kinds_0 : decode cX7_kinds 0 = .ok (.aload_n 0, 1) := by decide +kernel
theorem dX7_kinds_1 : decode cX7_kinds 1 = .ok (.getfield 13, 3) := by decide +kernel
theorem dX7_kinds_4 : decode cX7_kinds 4 = .ok (.iload_n 1, 1) := by decide +kernel
theorem dX7_kinds_5 : decode cX7_kinds 5 = .ok (.invokestatic 64, 3) := by decide +kernel
theorem dX7_kinds_8 : decode cX7_kinds 8 = .ok (.astore_n 2, 1) := by decide +kernel
theorem dX7_kinds_9 : decode cX7_kinds 9 = .ok (.aload_n 2, 1) := by decide +kernel
theorem dX7_kinds_10 : decode cX7_kinds 10 = .ok (.ifnonnull 5, 3) := by decide +kernel
theorem dX7_kinds_13 : decode cX7_kinds 13 = .ok (.iconst (-1), 1) := by decide +kernel
theorem dX7_kinds_14 : decode cX7_kinds 14 = .ok (.ireturn, 1) := by decide +kernel
theorem dX7_kinds_15 : decode cX7_kinds 15 = .ok (.aload_n 0, 1) := by decide +kernel
theorem dX7_kinds_16 : decode cX7_kinds 16 = .ok (.aload_n 2, 1) := by decide +kernel
theorem dX7_kinds_17 : decode cX7_kinds 17 = .ok (.invokevirtual 247, 3) := by decide +kernel
theorem dX7_kinds_20 : decode cX7_kinds 20 = .ok (.istore_n 3, 1) := by decide +kernel
theorem dX7_kinds_21 : decode cX7_kinds 21 = .ok (.iload_n 3, 1) := by decide +kernel
theorem dX7_kinds_22 : decode cX7_kinds 22 = .ok (.ifCond .eq 7, 3) := by decide +kernel
theorem dX7_kinds_25 : decode cX7_kinds 25 = .ok (.iload_n 3, 1) := by decide +kernel
theorem dX7_kinds_26 : decode cX7_kinds 26 = .ok (.goto 7, 3) := by decide +kernel
theorem dX7_kinds_29 : decode cX7_kinds 29 = .ok (.aload_n 2, 1) := by decide +kernel
theorem dX7_kinds_30 : decode cX7_kinds 30 = .ok (.invokestatic 256, 3) := by decide +kernel
theorem dX7_kinds_33 : decode cX7_kinds 33 = .ok (.ireturn, 1) := by decide +kernel
theorem dX7_test_0 : decode cX7_test 0 = .ok (.aload_n 0, 1) := by decide +kernel
theorem dX7_test_1 : decode cX7_test 1 = .ok (.getfield 13, 3) := by decide +kernel
theorem dX7_test_4 : decode cX7_test 4 = .ok (.iload_n 1, 1) := by decide +kernel
theorem dX7_test_5 : decode cX7_test 5 = .ok (.invokestatic 64, 3) := by decide +kernel
theorem dX7_test_8 : decode cX7_test 8 = .ok (.astore_n 2, 1) := by decide +kernel
theorem dX7_test_9 : decode cX7_test 9 = .ok (.aload_n 2, 1) := by decide +kernel
theorem dX7_test_10 : decode cX7_test 10 = .ok (.ifnonnull 5, 3) := by decide +kernel
theorem dX7_test_13 : decode cX7_test 13 = .ok (.iconst (-1), 1) := by decide +kernel
theorem dX7_test_14 : decode cX7_test 14 = .ok (.ireturn, 1) := by decide +kernel
theorem dX7_test_15 : decode cX7_test 15 = .ok (.aload_n 0, 1) := by decide +kernel
theorem dX7_test_16 : decode cX7_test 16 = .ok (.aload_n 2, 1) := by decide +kernel
theorem dX7_test_17 : decode cX7_test 17 = .ok (.invokevirtual 247, 3) := by decide +kernel
theorem dX7_test_20 : decode cX7_test 20 = .ok (.istore_n 3, 1) := by decide +kernel
theorem dX7_test_21 : decode cX7_test 21 = .ok (.iload_n 3, 1) := by decide +kernel
theorem dX7_test_22 : decode cX7_test 22 = .ok (.ifCond .eq 5, 3) := by decide +kernel
theorem dX7_test_25 : decode cX7_test 25 = .ok (.iload_n 3, 1) := by decide +kernel
theorem dX7_test_26 : decode cX7_test 26 = .ok (.ireturn, 1) := by decide +kernel
theorem dX7_test_27 : decode cX7_test 27 = .ok (.aload_n 2, 1) := by decide +kernel
theorem dX7_test_28 : decode cX7_test 28 = .ok (.invokestatic 256, 3) := by decide +kernel
theorem dX7_test_31 : decode cX7_test 31 = .ok (.istore 4, 2) := by decide +kernel
theorem dX7_test_33 : decode cX7_test 33 = .ok (.iload 4, 2) := by decide +kernel
theorem dX7_test_35 : decode cX7_test 35 = .ok (.ifCond .ne 6, 3) := by decide +kernel
theorem dX7_test_38 : decode cX7_test 38 = .ok (.bipush (-9), 2) := by decide +kernel
theorem dX7_test_40 : decode cX7_test 40 = .ok (.ireturn, 1) := by decide +kernel
theorem dX7_test_41 : decode cX7_test 41 = .ok (.iconst 0, 1) := by decide +kernel
theorem dX7_test_42 : decode cX7_test 42 = .ok (.istore 5, 2) := by decide +kernel
theorem dX7_test_44 : decode cX7_test 44 = .ok (.bipush 7, 2) := by decide +kernel
theorem dX7_test_46 : decode cX7_test 46 = .ok (.istore 6, 2) := by decide +kernel
theorem dX7_test_48 : decode cX7_test 48 = .ok (.iconst 0, 1) := by decide +kernel
theorem dX7_test_49 : decode cX7_test 49 = .ok (.istore 7, 2) := by decide +kernel
theorem dX7_test_51 : decode cX7_test 51 = .ok (.iload 7, 2) := by decide +kernel
theorem dX7_test_53 : decode cX7_test 53 = .ok (.bipush 99, 2) := by decide +kernel
theorem dX7_test_55 : decode cX7_test 55 = .ok (.if_icmp .gt 33, 3) := by decide +kernel
theorem dX7_test_58 : decode cX7_test 58 = .ok (.iload 4, 2) := by decide +kernel
theorem dX7_test_60 : decode cX7_test 60 = .ok (.iload 7, 2) := by decide +kernel
theorem dX7_test_62 : decode cX7_test 62 = .ok (.invokestatic 259, 3) := by decide +kernel
theorem dX7_test_65 : decode cX7_test 65 = .ok (.istore 8, 2) := by decide +kernel
theorem dX7_test_67 : decode cX7_test 67 = .ok (.iload 8, 2) := by decide +kernel
theorem dX7_test_69 : decode cX7_test 69 = .ok (.iload 6, 2) := by decide +kernel
theorem dX7_test_71 : decode cX7_test 71 = .ok (.if_icmp .ge 11, 3) := by decide +kernel
theorem dX7_test_74 : decode cX7_test 74 = .ok (.iload 8, 2) := by decide +kernel
theorem dX7_test_76 : decode cX7_test 76 = .ok (.istore 6, 2) := by decide +kernel
theorem dX7_test_78 : decode cX7_test 78 = .ok (.iload 7, 2) := by decide +kernel
theorem dX7_test_80 : decode cX7_test 80 = .ok (.istore 5, 2) := by decide +kernel
theorem dX7_test_82 : decode cX7_test 82 = .ok (.iinc 7 1, 3) := by decide +kernel
theorem dX7_test_85 : decode cX7_test 85 = .ok (.goto (-34), 3) := by decide +kernel
theorem dX7_test_88 : decode cX7_test 88 = .ok (.aload_n 0, 1) := by decide +kernel
theorem dX7_test_89 : decode cX7_test 89 = .ok (.iload 6, 2) := by decide +kernel
theorem dX7_test_91 : decode cX7_test 91 = .ok (.putfield 82, 3) := by decide +kernel
theorem dX7_test_94 : decode cX7_test 94 = .ok (.iload 5, 2) := by decide +kernel
theorem dX7_test_96 : decode cX7_test 96 = .ok (.ireturn, 1) := by decide +kernel
theorem dX7_leaks_0 : decode cX7_leaks 0 = .ok (.aload_n 0, 1) := by decide +kernel
theorem dX7_leaks_1 : decode cX7_leaks 1 = .ok (.getfield 13, 3) := by decide +kernel
theorem dX7_leaks_4 : decode cX7_leaks 4 = .ok (.iload_n 1, 1) := by decide +kernel
theorem dX7_leaks_5 : decode cX7_leaks 5 = .ok (.invokestatic 64, 3) := by decide +kernel
theorem dX7_leaks_8 : decode cX7_leaks 8 = .ok (.astore_n 2, 1) := by decide +kernel
theorem dX7_leaks_9 : decode cX7_leaks 9 = .ok (.aload_n 2, 1) := by decide +kernel
theorem dX7_leaks_10 : decode cX7_leaks 10 = .ok (.ifnonnull 5, 3) := by decide +kernel
theorem dX7_leaks_13 : decode cX7_leaks 13 = .ok (.iconst (-1), 1) := by decide +kernel
theorem dX7_leaks_14 : decode cX7_leaks 14 = .ok (.ireturn, 1) := by decide +kernel
theorem dX7_leaks_15 : decode cX7_leaks 15 = .ok (.aload_n 2, 1) := by decide +kernel
theorem dX7_leaks_16 : decode cX7_leaks 16 = .ok (.invokevirtual 89, 3) := by decide +kernel
theorem dX7_leaks_19 : decode cX7_leaks 19 = .ok (.ifCond .ne 9, 3) := by decide +kernel
theorem dX7_leaks_22 : decode cX7_leaks 22 = .ok (.aload_n 0, 1) := by decide +kernel
theorem dX7_leaks_23 : decode cX7_leaks 23 = .ok (.iconst 1, 1) := by decide +kernel
theorem dX7_leaks_24 : decode cX7_leaks 24 = .ok (.invokevirtual 93, 3) := by decide +kernel
theorem dX7_leaks_27 : decode cX7_leaks 27 = .ok (.ireturn, 1) := by decide +kernel
theorem dX7_leaks_28 : decode cX7_leaks 28 = .ok (.aload_n 2, 1) := by decide +kernel
theorem dX7_leaks_29 : decode cX7_leaks 29 = .ok (.getfield 96, 3) := by decide +kernel
theorem dX7_leaks_32 : decode cX7_leaks 32 = .ok (.ifCond .ne 9, 3) := by decide +kernel
theorem dX7_leaks_35 : decode cX7_leaks 35 = .ok (.aload_n 0, 1) := by decide +kernel
theorem dX7_leaks_36 : decode cX7_leaks 36 = .ok (.iconst 5, 1) := by decide +kernel
theorem dX7_leaks_37 : decode cX7_leaks 37 = .ok (.invokevirtual 93, 3) := by decide +kernel
theorem dX7_leaks_40 : decode cX7_leaks 40 = .ok (.ireturn, 1) := by decide +kernel
theorem dX7_leaks_41 : decode cX7_leaks 41 = .ok (.aload_n 2, 1) := by decide +kernel
theorem dX7_leaks_42 : decode cX7_leaks 42 = .ok (.iconst 0, 1) := by decide +kernel
theorem dX7_leaks_43 : decode cX7_leaks 43 = .ok (.sipush 999, 3) := by decide +kernel
theorem dX7_leaks_46 : decode cX7_leaks 46 = .ok (.invokevirtual 262, 3) := by decide +kernel
theorem dX7_leaks_49 : decode cX7_leaks 49 = .ok (.ifCond .ne 9, 3) := by decide +kernel
theorem dX7_leaks_52 : decode cX7_leaks 52 = .ok (.aload_n 0, 1) := by decide +kernel
theorem dX7_leaks_53 : decode cX7_leaks 53 = .ok (.iconst 3, 1) := by decide +kernel
theorem dX7_leaks_54 : decode cX7_leaks 54 = .ok (.invokevirtual 93, 3) := by decide +kernel
theorem dX7_leaks_57 : decode cX7_leaks 57 = .ok (.ireturn, 1) := by decide +kernel
theorem dX7_leaks_58 : decode cX7_leaks 58 = .ok (.iconst 0, 1) := by decide +kernel
theorem dX7_leaks_59 : decode cX7_leaks 59 = .ok (.istore_n 3, 1) := by decide +kernel
theorem dX7_leaks_60 : decode cX7_leaks 60 = .ok (.iconst 0, 1) := by decide +kernel
theorem dX7_leaks_61 : decode cX7_leaks 61 = .ok (.istore 4, 2) := by decide +kernel
theorem dX7_leaks_63 : decode cX7_leaks 63 = .ok (.iload 4, 2) := by decide +kernel
theorem dX7_leaks_65 : decode cX7_leaks 65 = .ok (.bipush 9, 2) := by decide +kernel
theorem dX7_leaks_67 : decode cX7_leaks 67 = .ok (.if_icmp .gt 25, 3) := by decide +kernel
theorem dX7_leaks_70 : decode cX7_leaks 70 = .ok (.aload_n 2, 1) := by decide +kernel
theorem dX7_leaks_71 : decode cX7_leaks 71 = .ok (.iload 4, 2) := by decide +kernel
theorem dX7_leaks_73 : decode cX7_leaks 73 = .ok (.invokestatic 265, 3) := by decide +kernel
theorem dX7_leaks_76 : decode cX7_leaks 76 = .ok (.ifCond .eq 10, 3) := by decide +kernel
theorem dX7_leaks_79 : decode cX7_leaks 79 = .ok (.iload_n 3, 1) := by decide +kernel
theorem dX7_leaks_80 : decode cX7_leaks 80 = .ok (.iconst 1, 1) := by decide +kernel
theorem dX7_leaks_81 : decode cX7_leaks 81 = .ok (.iload 4, 2) := by decide +kernel
theorem dX7_leaks_83 : decode cX7_leaks 83 = .ok (.ishl, 1) := by decide +kernel
theorem dX7_leaks_84 : decode cX7_leaks 84 = .ok (.ior, 1) := by decide +kernel
theorem dX7_leaks_85 : decode cX7_leaks 85 = .ok (.istore_n 3, 1) := by decide +kernel
theorem dX7_leaks_86 : decode cX7_leaks 86 = .ok (.iinc 4 1, 3) := by decide +kernel
theorem dX7_leaks_89 : decode cX7_leaks 89 = .ok (.goto (-26), 3) := by decide +kernel
theorem dX7_leaks_92 : decode cX7_leaks 92 = .ok (.iload_n 3, 1) := by decide +kernel
theorem dX7_leaks_93 : decode cX7_leaks 93 = .ok (.ireturn, 1) := by decide +kernel
theorem dX7_evening_0 : decode cX7_evening 0 = .ok (.iload_n 1, 1) := by decide +kernel
theorem dX7_evening_1 : decode cX7_evening 1 = .ok (.invokestatic 167, 3) := by decide +kernel
theorem dX7_evening_4 : decode cX7_evening 4 = .ok (.ifCond .eq 12, 3) := by decide +kernel
theorem dX7_evening_7 : decode cX7_evening 7 = .ok (.iload_n 2, 1) := by decide +kernel
theorem dX7_evening_8 : decode cX7_evening 8 = .ok (.iconst 0, 1) := by decide +kernel
theorem dX7_evening_9 : decode cX7_evening 9 = .ok (.iconst 2, 1) := by decide +kernel
theorem dX7_evening_10 : decode cX7_evening 10 = .ok (.invokestatic 130, 3) := by decide +kernel
theorem dX7_evening_13 : decode cX7_evening 13 = .ok (.ifCond .ne 5, 3) := by decide +kernel
theorem dX7_evening_16 : decode cX7_evening 16 = .ok (.iconst (-1), 1) := by decide +kernel
theorem dX7_evening_17 : decode cX7_evening 17 = .ok (.ireturn, 1) := by decide +kernel
theorem dX7_evening_18 : decode cX7_evening 18 = .ok (.aload_n 0, 1) := by decide +kernel
theorem dX7_evening_19 : decode cX7_evening 19 = .ok (.getfield 23, 3) := by decide +kernel
theorem dX7_evening_22 : decode cX7_evening 22 = .ok (.getfield 123, 3) := by decide +kernel
theorem dX7_evening_25 : decode cX7_evening 25 = .ok (.ifCond .ne 6, 3) := by decide +kernel
theorem dX7_evening_28 : decode cX7_evening 28 = .ok (.bipush (-4), 2) := by decide +kernel
theorem dX7_evening_30 : decode cX7_evening 30 = .ok (.ireturn, 1) := by decide +kernel
theorem dX7_evening_31 : decode cX7_evening 31 = .ok (.aload_n 0, 1) := by decide +kernel
theorem dX7_evening_32 : decode cX7_evening 32 = .ok (.getfield 45, 3) := by decide +kernel
theorem dX7_evening_35 : decode cX7_evening 35 = .ok (.aload_n 0, 1) := by decide +kernel
theorem dX7_evening_36 : decode cX7_evening 36 = .ok (.getfield 23, 3) := by decide +kernel
theorem dX7_evening_39 : decode cX7_evening 39 = .ok (.iload_n 1, 1) := by decide +kernel
theorem dX7_evening_40 : decode cX7_evening 40 = .ok (.iload_n 2, 1) := by decide +kernel
theorem dX7_evening_41 : decode cX7_evening 41 = .ok (.invokevirtual 268, 3) := by decide +kernel
theorem dX7_evening_44 : decode cX7_evening 44 = .ok (.ireturn, 1) := by decide +kernel
theorem dX7_odds_0 : decode cX7_odds 0 = .ok (.iload_n 1, 1) := by decide +kernel
theorem dX7_odds_1 : decode cX7_odds 1 = .ok (.iconst 0, 1) := by decide +kernel
theorem dX7_odds_2 : decode cX7_odds 2 = .ok (.sipush 7992, 3) := by decide +kernel
theorem dX7_odds_5 : decode cX7_odds 5 = .ok (.invokestatic 130, 3) := by decide +kernel
theorem dX7_odds_8 : decode cX7_odds 8 = .ok (.ifCond .eq 11, 3) := by decide +kernel
theorem dX7_odds_11 : decode cX7_odds 11 = .ok (.iload_n 2, 1) := by decide +kernel
theorem dX7_odds_12 : decode cX7_odds 12 = .ok (.iload_n 3, 1) := by decide +kernel
theorem dX7_odds_13 : decode cX7_odds 13 = .ok (.invokestatic 272, 3) := by decide +kernel
theorem dX7_odds_16 : decode cX7_odds 16 = .ok (.ifCond .ne 5, 3) := by decide +kernel
theorem dX7_odds_19 : decode cX7_odds 19 = .ok (.iconst (-1), 1) := by decide +kernel
theorem dX7_odds_20 : decode cX7_odds 20 = .ok (.ireturn, 1) := by decide +kernel
theorem dX7_odds_21 : decode cX7_odds 21 = .ok (.aload_n 0, 1) := by decide +kernel
theorem dX7_odds_22 : decode cX7_odds 22 = .ok (.getfield 23, 3) := by decide +kernel
theorem dX7_odds_25 : decode cX7_odds 25 = .ok (.getfield 123, 3) := by decide +kernel
theorem dX7_odds_28 : decode cX7_odds 28 = .ok (.ifCond .ne 6, 3) := by decide +kernel
theorem dX7_odds_31 : decode cX7_odds 31 = .ok (.bipush (-4), 2) := by decide +kernel
theorem dX7_odds_33 : decode cX7_odds 33 = .ok (.ireturn, 1) := by decide +kernel
theorem dX7_odds_34 : decode cX7_odds 34 = .ok (.iconst 0, 1) := by decide +kernel
theorem dX7_odds_35 : decode cX7_odds 35 = .ok (.istore 4, 2) := by decide +kernel
theorem dX7_odds_37 : decode cX7_odds 37 = .ok (.iload 4, 2) := by decide +kernel
theorem dX7_odds_39 : decode cX7_odds 39 = .ok (.iload_n 2, 1) := by decide +kernel
theorem dX7_odds_40 : decode cX7_odds 40 = .ok (.if_icmp .gt 34, 3) := by decide +kernel
theorem dX7_odds_43 : decode cX7_odds 43 = .ok (.aload_n 0, 1) := by decide +kernel
theorem dX7_odds_44 : decode cX7_odds 44 = .ok (.getfield 53, 3) := by decide +kernel
theorem dX7_odds_47 : decode cX7_odds 47 = .ok (.iload 4, 2) := by decide +kernel
theorem dX7_odds_49 : decode cX7_odds 49 = .ok (.aload_n 0, 1) := by decide +kernel
theorem dX7_odds_50 : decode cX7_odds 50 = .ok (.getfield 23, 3) := by decide +kernel
theorem dX7_odds_53 : decode cX7_odds 53 = .ok (.iload 4, 2) := by decide +kernel
theorem dX7_odds_55 : decode cX7_odds 55 = .ok (.invokevirtual 275, 3) := by decide +kernel
theorem dX7_odds_58 : decode cX7_odds 58 = .ok (.iload_n 1, 1) := by decide +kernel
theorem dX7_odds_59 : decode cX7_odds 59 = .ok (.if_icmp .lt 7, 3) := by decide +kernel
theorem dX7_odds_62 : decode cX7_odds 62 = .ok (.lconst 1, 1) := by decide +kernel
theorem dX7_odds_63 : decode cX7_odds 63 = .ok (.goto 4, 3) := by decide +kernel
theorem dX7_odds_66 : decode cX7_odds 66 = .ok (.lconst 0, 1) := by decide +kernel
theorem dX7_odds_67 : decode cX7_odds 67 = .ok (.lastore, 1) := by decide +kernel
theorem dX7_odds_68 : decode cX7_odds 68 = .ok (.iinc 4 1, 3) := by decide +kernel
theorem dX7_odds_71 : decode cX7_odds 71 = .ok (.goto (-34), 3) := by decide +kernel
theorem dX7_odds_74 : decode cX7_odds 74 = .ok (.aload_n 0, 1) := by decide +kernel
theorem dX7_odds_75 : decode cX7_odds 75 = .ok (.iload_n 2, 1) := by decide +kernel
theorem dX7_odds_76 : decode cX7_odds 76 = .ok (.iload_n 3, 1) := by decide +kernel
theorem dX7_odds_77 : decode cX7_odds 77 = .ok (.invokevirtual 278, 3) := by decide +kernel
theorem dX7_odds_80 : decode cX7_odds 80 = .ok (.iconst 1, 1) := by decide +kernel
theorem dX7_odds_81 : decode cX7_odds 81 = .ok (.ireturn, 1) := by decide +kernel
theorem dX7_mid_0 : decode cX7_mid 0 = .ok (.iload_n 1, 1) := by decide +kernel
theorem dX7_mid_1 : decode cX7_mid 1 = .ok (.iload_n 2, 1) := by decide +kernel
theorem dX7_mid_2 : decode cX7_mid 2 = .ok (.invokestatic 272, 3) := by decide +kernel
theorem dX7_mid_5 : decode cX7_mid 5 = .ok (.ifCond .ne 5, 3) := by decide +kernel
theorem dX7_mid_8 : decode cX7_mid 8 = .ok (.iconst (-1), 1) := by decide +kernel
theorem dX7_mid_9 : decode cX7_mid 9 = .ok (.ireturn, 1) := by decide +kernel
theorem dX7_mid_10 : decode cX7_mid 10 = .ok (.aload_n 0, 1) := by decide +kernel
theorem dX7_mid_11 : decode cX7_mid 11 = .ok (.getfield 23, 3) := by decide +kernel
theorem dX7_mid_14 : decode cX7_mid 14 = .ok (.getfield 123, 3) := by decide +kernel
theorem dX7_mid_17 : decode cX7_mid 17 = .ok (.ifCond .ne 6, 3) := by decide +kernel
theorem dX7_mid_20 : decode cX7_mid 20 = .ok (.bipush (-4), 2) := by decide +kernel
theorem dX7_mid_22 : decode cX7_mid 22 = .ok (.ireturn, 1) := by decide +kernel
theorem dX7_mid_23 : decode cX7_mid 23 = .ok (.iconst 0, 1) := by decide +kernel
theorem dX7_mid_24 : decode cX7_mid 24 = .ok (.istore_n 3, 1) := by decide +kernel
theorem dX7_mid_25 : decode cX7_mid 25 = .ok (.iload_n 3, 1) := by decide +kernel
theorem dX7_mid_26 : decode cX7_mid 26 = .ok (.iload_n 1, 1) := by decide +kernel
theorem dX7_mid_27 : decode cX7_mid 27 = .ok (.if_icmp .gt 24, 3) := by decide +kernel
theorem dX7_mid_30 : decode cX7_mid 30 = .ok (.aload_n 0, 1) := by decide +kernel
theorem dX7_mid_31 : decode cX7_mid 31 = .ok (.getfield 53, 3) := by decide +kernel
theorem dX7_mid_34 : decode cX7_mid 34 = .ok (.iload_n 3, 1) := by decide +kernel
theorem dX7_mid_35 : decode cX7_mid 35 = .ok (.aload_n 0, 1) := by decide +kernel
theorem dX7_mid_36 : decode cX7_mid 36 = .ok (.getfield 23, 3) := by decide +kernel
theorem dX7_mid_39 : decode cX7_mid 39 = .ok (.iload_n 3, 1) := by decide +kernel
theorem dX7_mid_40 : decode cX7_mid 40 = .ok (.invokevirtual 275, 3) := by decide +kernel
theorem dX7_mid_43 : decode cX7_mid 43 = .ok (.i2l, 1) := by decide +kernel
theorem dX7_mid_44 : decode cX7_mid 44 = .ok (.lastore, 1) := by decide +kernel
theorem dX7_mid_45 : decode cX7_mid 45 = .ok (.iinc 3 1, 3) := by decide +kernel
theorem dX7_mid_48 : decode cX7_mid 48 = .ok (.goto (-23), 3) := by decide +kernel
theorem dX7_mid_51 : decode cX7_mid 51 = .ok (.aload_n 0, 1) := by decide +kernel
theorem dX7_mid_52 : decode cX7_mid 52 = .ok (.iload_n 1, 1) := by decide +kernel
theorem dX7_mid_53 : decode cX7_mid 53 = .ok (.iload_n 2, 1) := by decide +kernel
theorem dX7_mid_54 : decode cX7_mid 54 = .ok (.invokevirtual 278, 3) := by decide +kernel
theorem dX7_mid_57 : decode cX7_mid 57 = .ok (.iconst 1, 1) := by decide +kernel
theorem dX7_mid_58 : decode cX7_mid 58 = .ok (.ireturn, 1) := by decide +kernel
theorem dX7_lots_0 : decode cX7_lots 0 = .ok (.iload_n 1, 1) := by decide +kernel
theorem dX7_lots_1 : decode cX7_lots 1 = .ok (.iconst 1, 1) := by decide +kernel
theorem dX7_lots_2 : decode cX7_lots 2 = .ok (.bipush 20, 2) := by decide +kernel
theorem dX7_lots_4 : decode cX7_lots 4 = .ok (.invokestatic 130, 3) := by decide +kernel
theorem dX7_lots_7 : decode cX7_lots 7 = .ok (.ifCond .eq 14, 3) := by decide +kernel
theorem dX7_lots_10 : decode cX7_lots 10 = .ok (.iload_n 2, 1) := by decide +kernel
theorem dX7_lots_11 : decode cX7_lots 11 = .ok (.iconst 1, 1) := by decide +kernel
theorem dX7_lots_12 : decode cX7_lots 12 = .ok (.ldc_w 281, 3) := by decide +kernel
theorem dX7_lots_15 : decode cX7_lots 15 = .ok (.invokestatic 130, 3) := by decide +kernel
theorem dX7_lots_18 : decode cX7_lots 18 = .ok (.ifCond .ne 5, 3) := by decide +kernel
theorem dX7_lots_21 : decode cX7_lots 21 = .ok (.iconst (-1), 1) := by decide +kernel
theorem dX7_lots_22 : decode cX7_lots 22 = .ok (.ireturn, 1) := by decide +kernel
theorem dX7_lots_23 : decode cX7_lots 23 = .ok (.aload_n 0, 1) := by decide +kernel
theorem dX7_lots_24 : decode cX7_lots 24 = .ok (.getfield 23, 3) := by decide +kernel
theorem dX7_lots_27 : decode cX7_lots 27 = .ok (.getfield 123, 3) := by decide +kernel
theorem dX7_lots_30 : decode cX7_lots 30 = .ok (.ifCond .ne 6, 3) := by decide +kernel
theorem dX7_lots_33 : decode cX7_lots 33 = .ok (.bipush (-4), 2) := by decide +kernel
theorem dX7_lots_35 : decode cX7_lots 35 = .ok (.ireturn, 1) := by decide +kernel
theorem dX7_lots_36 : decode cX7_lots 36 = .ok (.aload_n 0, 1) := by decide +kernel
theorem dX7_lots_37 : decode cX7_lots 37 = .ok (.getfield 30, 3) := by decide +kernel
theorem dX7_lots_40 : decode cX7_lots 40 = .ok (.getfield 34, 3) := by decide +kernel
theorem dX7_lots_43 : decode cX7_lots 43 = .ok (.iload_n 1, 1) := by decide +kernel
theorem dX7_lots_44 : decode cX7_lots 44 = .ok (.iadd, 1) := by decide +kernel
theorem dX7_lots_45 : decode cX7_lots 45 = .ok (.bipush 40, 2) := by decide +kernel
theorem dX7_lots_47 : decode cX7_lots 47 = .ok (.if_icmp .le 6, 3) := by decide +kernel
theorem dX7_lots_50 : decode cX7_lots 50 = .ok (.bipush (-2), 2) := by decide +kernel
theorem dX7_lots_52 : decode cX7_lots 52 = .ok (.ireturn, 1) := by decide +kernel
theorem dX7_lots_53 : decode cX7_lots 53 = .ok (.iload_n 2, 1) := by decide +kernel
theorem dX7_lots_54 : decode cX7_lots 54 = .ok (.istore_n 3, 1) := by decide +kernel
theorem dX7_lots_55 : decode cX7_lots 55 = .ok (.iconst 0, 1) := by decide +kernel
theorem dX7_lots_56 : decode cX7_lots 56 = .ok (.istore 4, 2) := by decide +kernel
theorem dX7_lots_58 : decode cX7_lots 58 = .ok (.iload 4, 2) := by decide +kernel
theorem dX7_lots_60 : decode cX7_lots 60 = .ok (.iload_n 1, 1) := by decide +kernel
theorem dX7_lots_61 : decode cX7_lots 61 = .ok (.if_icmp .ge 26, 3) := by decide +kernel
theorem dX7_lots_64 : decode cX7_lots 64 = .ok (.iload_n 3, 1) := by decide +kernel
theorem dX7_lots_65 : decode cX7_lots 65 = .ok (.i2l, 1) := by decide +kernel
theorem dX7_lots_66 : decode cX7_lots 66 = .ok (.ldc2_w 282, 3) := by decide +kernel
theorem dX7_lots_69 : decode cX7_lots 69 = .ok (.lmul, 1) := by decide +kernel
theorem dX7_lots_70 : decode cX7_lots 70 = .ok (.ldc2_w 284, 3) := by decide +kernel
theorem dX7_lots_73 : decode cX7_lots 73 = .ok (.lrem, 1) := by decide +kernel
theorem dX7_lots_74 : decode cX7_lots 74 = .ok (.l2i, 1) := by decide +kernel
theorem dX7_lots_75 : decode cX7_lots 75 = .ok (.istore_n 3, 1) := by decide +kernel
theorem dX7_lots_76 : decode cX7_lots 76 = .ok (.aload_n 0, 1) := by decide +kernel
theorem dX7_lots_77 : decode cX7_lots 77 = .ok (.iload_n 3, 1) := by decide +kernel
theorem dX7_lots_78 : decode cX7_lots 78 = .ok (.invokevirtual 286, 3) := by decide +kernel
theorem dX7_lots_81 : decode cX7_lots 81 = .ok (.iinc 4 1, 3) := by decide +kernel
theorem dX7_lots_84 : decode cX7_lots 84 = .ok (.goto (-26), 3) := by decide +kernel
theorem dX7_lots_87 : decode cX7_lots 87 = .ok (.aload_n 0, 1) := by decide +kernel
theorem dX7_lots_88 : decode cX7_lots 88 = .ok (.getfield 23, 3) := by decide +kernel
theorem dX7_lots_91 : decode cX7_lots 91 = .ok (.invokevirtual 177, 3) := by decide +kernel
theorem dX7_lots_94 : decode cX7_lots 94 = .ok (.ireturn, 1) := by decide +kernel
theorem dX7_asked_0 : decode cX7_asked 0 = .ok (.aload_n 0, 1) := by decide +kernel
theorem dX7_asked_1 : decode cX7_asked 1 = .ok (.getfield 82, 3) := by decide +kernel
theorem dX7_asked_4 : decode cX7_asked 4 = .ok (.ireturn, 1) := by decide +kernel
theorem dX7_upper_0 : decode cX7_upper 0 = .ok (.aload_n 0, 1) := by decide +kernel
theorem dX7_upper_1 : decode cX7_upper 1 = .ok (.getfield 289, 3) := by decide +kernel
theorem dX7_upper_4 : decode cX7_upper 4 = .ok (.lreturn, 1) := by decide +kernel
theorem dX7_lower_0 : decode cX7_lower 0 = .ok (.aload_n 0, 1) := by decide +kernel
theorem dX7_lower_1 : decode cX7_lower 1 = .ok (.getfield 60, 3) := by decide +kernel
theorem dX7_lower_4 : decode cX7_lower 4 = .ok (.lreturn, 1) := by decide +kernel
theorem dX7_count_0 : decode cX7_count 0 = .ok (.iload_n 1, 1) := by decide +kernel
theorem dX7_count_1 : decode cX7_count 1 = .ok (.tableswitch 170 0 12 #[67, 75, 83, 91, 99, 107, 115, 123, 131, 140, 149, 157, 165], 67) := by decide +kernel
theorem dX7_count_68 : decode cX7_count 68 = .ok (.aload_n 0, 1) := by decide +kernel
theorem dX7_count_69 : decode cX7_count 69 = .ok (.getfield 23, 3) := by decide +kernel
theorem dX7_count_72 : decode cX7_count 72 = .ok (.getfield 123, 3) := by decide +kernel
theorem dX7_count_75 : decode cX7_count 75 = .ok (.ireturn, 1) := by decide +kernel
theorem dX7_count_76 : decode cX7_count 76 = .ok (.aload_n 0, 1) := by decide +kernel
theorem dX7_count_77 : decode cX7_count 77 = .ok (.getfield 23, 3) := by decide +kernel
theorem dX7_count_80 : decode cX7_count 80 = .ok (.getfield 204, 3) := by decide +kernel
theorem dX7_count_83 : decode cX7_count 83 = .ok (.ireturn, 1) := by decide +kernel
theorem dX7_count_84 : decode cX7_count 84 = .ok (.aload_n 0, 1) := by decide +kernel
theorem dX7_count_85 : decode cX7_count 85 = .ok (.getfield 23, 3) := by decide +kernel
theorem dX7_count_88 : decode cX7_count 88 = .ok (.getfield 292, 3) := by decide +kernel
theorem dX7_count_91 : decode cX7_count 91 = .ok (.ireturn, 1) := by decide +kernel
theorem dX7_count_92 : decode cX7_count 92 = .ok (.aload_n 0, 1) := by decide +kernel
theorem dX7_count_93 : decode cX7_count 93 = .ok (.getfield 30, 3) := by decide +kernel
theorem dX7_count_96 : decode cX7_count 96 = .ok (.getfield 34, 3) := by decide +kernel
theorem dX7_count_99 : decode cX7_count 99 = .ok (.ireturn, 1) := by decide +kernel
theorem dX7_count_100 : decode cX7_count 100 = .ok (.aload_n 0, 1) := by decide +kernel
theorem dX7_count_101 : decode cX7_count 101 = .ok (.getfield 23, 3) := by decide +kernel
theorem dX7_count_104 : decode cX7_count 104 = .ok (.invokevirtual 177, 3) := by decide +kernel
theorem dX7_count_107 : decode cX7_count 107 = .ok (.ireturn, 1) := by decide +kernel
theorem dX7_count_108 : decode cX7_count 108 = .ok (.aload_n 0, 1) := by decide +kernel
theorem dX7_count_109 : decode cX7_count 109 = .ok (.getfield 23, 3) := by decide +kernel
theorem dX7_count_112 : decode cX7_count 112 = .ok (.getfield 295, 3) := by decide +kernel
theorem dX7_count_115 : decode cX7_count 115 = .ok (.ireturn, 1) := by decide +kernel
theorem dX7_count_116 : decode cX7_count 116 = .ok (.aload_n 0, 1) := by decide +kernel
theorem dX7_count_117 : decode cX7_count 117 = .ok (.getfield 23, 3) := by decide +kernel
theorem dX7_count_120 : decode cX7_count 120 = .ok (.getfield 298, 3) := by decide +kernel
theorem dX7_count_123 : decode cX7_count 123 = .ok (.ireturn, 1) := by decide +kernel
theorem dX7_count_124 : decode cX7_count 124 = .ok (.aload_n 0, 1) := by decide +kernel
theorem dX7_count_125 : decode cX7_count 125 = .ok (.getfield 23, 3) := by decide +kernel
theorem dX7_count_128 : decode cX7_count 128 = .ok (.getfield 201, 3) := by decide +kernel
theorem dX7_count_131 : decode cX7_count 131 = .ok (.ireturn, 1) := by decide +kernel
theorem dX7_count_132 : decode cX7_count 132 = .ok (.aload_n 0, 1) := by decide +kernel
theorem dX7_count_133 : decode cX7_count 133 = .ok (.getfield 23, 3) := by decide +kernel
theorem dX7_count_136 : decode cX7_count 136 = .ok (.iconst 1, 1) := by decide +kernel
theorem dX7_count_137 : decode cX7_count 137 = .ok (.invokevirtual 301, 3) := by decide +kernel
theorem dX7_count_140 : decode cX7_count 140 = .ok (.ireturn, 1) := by decide +kernel
theorem dX7_count_141 : decode cX7_count 141 = .ok (.aload_n 0, 1) := by decide +kernel
theorem dX7_count_142 : decode cX7_count 142 = .ok (.getfield 23, 3) := by decide +kernel
theorem dX7_count_145 : decode cX7_count 145 = .ok (.iconst 2, 1) := by decide +kernel
theorem dX7_count_146 : decode cX7_count 146 = .ok (.invokevirtual 301, 3) := by decide +kernel
theorem dX7_count_149 : decode cX7_count 149 = .ok (.ireturn, 1) := by decide +kernel
theorem dX7_count_150 : decode cX7_count 150 = .ok (.aload_n 0, 1) := by decide +kernel
theorem dX7_count_151 : decode cX7_count 151 = .ok (.getfield 13, 3) := by decide +kernel
theorem dX7_count_154 : decode cX7_count 154 = .ok (.invokestatic 304, 3) := by decide +kernel
theorem dX7_count_157 : decode cX7_count 157 = .ok (.ireturn, 1) := by decide +kernel
theorem dX7_count_158 : decode cX7_count 158 = .ok (.aload_n 0, 1) := by decide +kernel
theorem dX7_count_159 : decode cX7_count 159 = .ok (.getfield 17, 3) := by decide +kernel
theorem dX7_count_162 : decode cX7_count 162 = .ok (.invokestatic 304, 3) := by decide +kernel
theorem dX7_count_165 : decode cX7_count 165 = .ok (.ireturn, 1) := by decide +kernel
theorem dX7_count_166 : decode cX7_count 166 = .ok (.aload_n 0, 1) := by decide +kernel
theorem dX7_count_167 : decode cX7_count 167 = .ok (.invokevirtual 308, 3) := by decide +kernel
theorem dX7_count_170 : decode cX7_count 170 = .ok (.ireturn, 1) := by decide +kernel
theorem dX7_count_171 : decode cX7_count 171 = .ok (.iconst (-1), 1) := by decide +kernel
theorem dX7_count_172 : decode cX7_count 172 = .ok (.ireturn, 1) := by decide +kernel
theorem dX7_finding_0 : decode cX7_finding 0 = .ok (.aload_n 0, 1) := by decide +kernel
theorem dX7_finding_1 : decode cX7_finding 1 = .ok (.getfield 311, 3) := by decide +kernel
theorem dX7_finding_4 : decode cX7_finding 4 = .ok (.ireturn, 1) := by decide +kernel
theorem dX7_findings_0 : decode cX7_findings 0 = .ok (.iload_n 1, 1) := by decide +kernel
theorem dX7_findings_1 : decode cX7_findings 1 = .ok (.iconst 1, 1) := by decide +kernel
theorem dX7_findings_2 : decode cX7_findings 2 = .ok (.iconst 5, 1) := by decide +kernel
theorem dX7_findings_3 : decode cX7_findings 3 = .ok (.invokestatic 130, 3) := by decide +kernel
theorem dX7_findings_6 : decode cX7_findings 6 = .ok (.ifCond .eq 12, 3) := by decide +kernel
theorem dX7_findings_9 : decode cX7_findings 9 = .ok (.aload_n 0, 1) := by decide +kernel
theorem dX7_findings_10 : decode cX7_findings 10 = .ok (.getfield 57, 3) := by decide +kernel
theorem dX7_findings_13 : decode cX7_findings 13 = .ok (.iload_n 1, 1) := by decide +kernel
theorem dX7_findings_14 : decode cX7_findings 14 = .ok (.iaload, 1) := by decide +kernel
theorem dX7_findings_15 : decode cX7_findings 15 = .ok (.goto 4, 3) := by decide +kernel
theorem dX7_findings_18 : decode cX7_findings 18 = .ok (.iconst (-1), 1) := by decide +kernel
theorem dX7_findings_19 : decode cX7_findings 19 = .ok (.ireturn, 1) := by decide +kernel
theorem dX7_digest_0 : decode cX7_digest 0 = .ok (.ldc2_w 314, 3) := by decide +kernel
theorem dX7_digest_3 : decode cX7_digest 3 = .ok (.lstore_n 1, 1) := by decide +kernel
theorem dX7_digest_4 : decode cX7_digest 4 = .ok (.iconst 0, 1) := by decide +kernel
theorem dX7_digest_5 : decode cX7_digest 5 = .ok (.istore_n 3, 1) := by decide +kernel
theorem dX7_digest_6 : decode cX7_digest 6 = .ok (.iload_n 3, 1) := by decide +kernel
theorem dX7_digest_7 : decode cX7_digest 7 = .ok (.bipush 13, 2) := by decide +kernel
theorem dX7_digest_9 : decode cX7_digest 9 = .ok (.if_icmp .ge 22, 3) := by decide +kernel
theorem dX7_digest_12 : decode cX7_digest 12 = .ok (.ldc2_w 316, 3) := by decide +kernel
theorem dX7_digest_15 : decode cX7_digest 15 = .ok (.lload_n 1, 1) := by decide +kernel
theorem dX7_digest_16 : decode cX7_digest 16 = .ok (.lmul, 1) := by decide +kernel
theorem dX7_digest_17 : decode cX7_digest 17 = .ok (.aload_n 0, 1) := by decide +kernel
theorem dX7_digest_18 : decode cX7_digest 18 = .ok (.iload_n 3, 1) := by decide +kernel
theorem dX7_digest_19 : decode cX7_digest 19 = .ok (.invokevirtual 318, 3) := by decide +kernel
theorem dX7_digest_22 : decode cX7_digest 22 = .ok (.i2l, 1) := by decide +kernel
theorem dX7_digest_23 : decode cX7_digest 23 = .ok (.ladd, 1) := by decide +kernel
theorem dX7_digest_24 : decode cX7_digest 24 = .ok (.lstore_n 1, 1) := by decide +kernel
theorem dX7_digest_25 : decode cX7_digest 25 = .ok (.iinc 3 1, 3) := by decide +kernel
theorem dX7_digest_28 : decode cX7_digest 28 = .ok (.goto (-22), 3) := by decide +kernel
theorem dX7_digest_31 : decode cX7_digest 31 = .ok (.iconst 0, 1) := by decide +kernel
theorem dX7_digest_32 : decode cX7_digest 32 = .ok (.istore_n 3, 1) := by decide +kernel
theorem dX7_digest_33 : decode cX7_digest 33 = .ok (.iload_n 3, 1) := by decide +kernel
theorem dX7_digest_34 : decode cX7_digest 34 = .ok (.aload_n 0, 1) := by decide +kernel
theorem dX7_digest_35 : decode cX7_digest 35 = .ok (.getfield 23, 3) := by decide +kernel
theorem dX7_digest_38 : decode cX7_digest 38 = .ok (.getfield 204, 3) := by decide +kernel
theorem dX7_digest_41 : decode cX7_digest 41 = .ok (.if_icmp .ge 26, 3) := by decide +kernel
theorem dX7_digest_44 : decode cX7_digest 44 = .ok (.ldc2_w 316, 3) := by decide +kernel
theorem dX7_digest_47 : decode cX7_digest 47 = .ok (.lload_n 1, 1) := by decide +kernel
theorem dX7_digest_48 : decode cX7_digest 48 = .ok (.lmul, 1) := by decide +kernel
theorem dX7_digest_49 : decode cX7_digest 49 = .ok (.aload_n 0, 1) := by decide +kernel
theorem dX7_digest_50 : decode cX7_digest 50 = .ok (.getfield 23, 3) := by decide +kernel
theorem dX7_digest_53 : decode cX7_digest 53 = .ok (.getfield 164, 3) := by decide +kernel
theorem dX7_digest_56 : decode cX7_digest 56 = .ok (.iload_n 3, 1) := by decide +kernel
theorem dX7_digest_57 : decode cX7_digest 57 = .ok (.iaload, 1) := by decide +kernel
theorem dX7_digest_58 : decode cX7_digest 58 = .ok (.i2l, 1) := by decide +kernel
theorem dX7_digest_59 : decode cX7_digest 59 = .ok (.ladd, 1) := by decide +kernel
theorem dX7_digest_60 : decode cX7_digest 60 = .ok (.lstore_n 1, 1) := by decide +kernel
theorem dX7_digest_61 : decode cX7_digest 61 = .ok (.iinc 3 1, 3) := by decide +kernel
theorem dX7_digest_64 : decode cX7_digest 64 = .ok (.goto (-31), 3) := by decide +kernel
theorem dX7_digest_67 : decode cX7_digest 67 = .ok (.iconst 0, 1) := by decide +kernel
theorem dX7_digest_68 : decode cX7_digest 68 = .ok (.istore_n 3, 1) := by decide +kernel
theorem dX7_digest_69 : decode cX7_digest 69 = .ok (.iload_n 3, 1) := by decide +kernel
theorem dX7_digest_70 : decode cX7_digest 70 = .ok (.aload_n 0, 1) := by decide +kernel
theorem dX7_digest_71 : decode cX7_digest 71 = .ok (.getfield 23, 3) := by decide +kernel
theorem dX7_digest_74 : decode cX7_digest 74 = .ok (.getfield 123, 3) := by decide +kernel
theorem dX7_digest_77 : decode cX7_digest 77 = .ok (.if_icmp .ge 39, 3) := by decide +kernel
theorem dX7_digest_80 : decode cX7_digest 80 = .ok (.iconst 0, 1) := by decide +kernel
theorem dX7_digest_81 : decode cX7_digest 81 = .ok (.istore 4, 2) := by decide +kernel
theorem dX7_digest_83 : decode cX7_digest 83 = .ok (.iload 4, 2) := by decide +kernel
theorem dX7_digest_85 : decode cX7_digest 85 = .ok (.iconst 4, 1) := by decide +kernel
theorem dX7_digest_86 : decode cX7_digest 86 = .ok (.if_icmp .ge 24, 3) := by decide +kernel
theorem dX7_digest_89 : decode cX7_digest 89 = .ok (.ldc2_w 316, 3) := by decide +kernel
theorem dX7_digest_92 : decode cX7_digest 92 = .ok (.lload_n 1, 1) := by decide +kernel
theorem dX7_digest_93 : decode cX7_digest 93 = .ok (.lmul, 1) := by decide +kernel
theorem dX7_digest_94 : decode cX7_digest 94 = .ok (.aload_n 0, 1) := by decide +kernel
theorem dX7_digest_95 : decode cX7_digest 95 = .ok (.iload_n 3, 1) := by decide +kernel
theorem dX7_digest_96 : decode cX7_digest 96 = .ok (.iload 4, 2) := by decide +kernel
theorem dX7_digest_98 : decode cX7_digest 98 = .ok (.invokevirtual 134, 3) := by decide +kernel
theorem dX7_digest_101 : decode cX7_digest 101 = .ok (.i2l, 1) := by decide +kernel
theorem dX7_digest_102 : decode cX7_digest 102 = .ok (.ladd, 1) := by decide +kernel
theorem dX7_digest_103 : decode cX7_digest 103 = .ok (.lstore_n 1, 1) := by decide +kernel
theorem dX7_digest_104 : decode cX7_digest 104 = .ok (.iinc 4 1, 3) := by decide +kernel
theorem dX7_digest_107 : decode cX7_digest 107 = .ok (.goto (-24), 3) := by decide +kernel
theorem dX7_digest_110 : decode cX7_digest 110 = .ok (.iinc 3 1, 3) := by decide +kernel
theorem dX7_digest_113 : decode cX7_digest 113 = .ok (.goto (-44), 3) := by decide +kernel
theorem dX7_digest_116 : decode cX7_digest 116 = .ok (.iconst 0, 1) := by decide +kernel
theorem dX7_digest_117 : decode cX7_digest 117 = .ok (.istore_n 3, 1) := by decide +kernel
theorem dX7_digest_118 : decode cX7_digest 118 = .ok (.iload_n 3, 1) := by decide +kernel
theorem dX7_digest_119 : decode cX7_digest 119 = .ok (.aload_n 0, 1) := by decide +kernel
theorem dX7_digest_120 : decode cX7_digest 120 = .ok (.getfield 38, 3) := by decide +kernel
theorem dX7_digest_123 : decode cX7_digest 123 = .ok (.arraylength, 1) := by decide +kernel
theorem dX7_digest_124 : decode cX7_digest 124 = .ok (.if_icmp .ge 26, 3) := by decide +kernel
theorem dX7_digest_127 : decode cX7_digest 127 = .ok (.ldc2_w 316, 3) := by decide +kernel
theorem dX7_digest_130 : decode cX7_digest 130 = .ok (.lload_n 1, 1) := by decide +kernel
theorem dX7_digest_131 : decode cX7_digest 131 = .ok (.lmul, 1) := by decide +kernel
theorem dX7_digest_132 : decode cX7_digest 132 = .ok (.aload_n 0, 1) := by decide +kernel
theorem dX7_digest_133 : decode cX7_digest 133 = .ok (.getfield 38, 3) := by decide +kernel
theorem dX7_digest_136 : decode cX7_digest 136 = .ok (.iload_n 3, 1) := by decide +kernel
theorem dX7_digest_137 : decode cX7_digest 137 = .ok (.aaload, 1) := by decide +kernel
theorem dX7_digest_138 : decode cX7_digest 138 = .ok (.getfield 34, 3) := by decide +kernel
theorem dX7_digest_141 : decode cX7_digest 141 = .ok (.i2l, 1) := by decide +kernel
theorem dX7_digest_142 : decode cX7_digest 142 = .ok (.ladd, 1) := by decide +kernel
theorem dX7_digest_143 : decode cX7_digest 143 = .ok (.lstore_n 1, 1) := by decide +kernel
theorem dX7_digest_144 : decode cX7_digest 144 = .ok (.iinc 3 1, 3) := by decide +kernel
theorem dX7_digest_147 : decode cX7_digest 147 = .ok (.goto (-29), 3) := by decide +kernel
theorem dX7_digest_150 : decode cX7_digest 150 = .ok (.aload_n 0, 1) := by decide +kernel
theorem dX7_digest_151 : decode cX7_digest 151 = .ok (.getfield 17, 3) := by decide +kernel
theorem dX7_digest_154 : decode cX7_digest 154 = .ok (.aload_n 0, 1) := by decide +kernel
theorem dX7_digest_155 : decode cX7_digest 155 = .ok (.getfield 13, 3) := by decide +kernel
theorem dX7_digest_158 : decode cX7_digest 158 = .ok (.lload_n 1, 1) := by decide +kernel
theorem dX7_digest_159 : decode cX7_digest 159 = .ok (.invokestatic 321, 3) := by decide +kernel
theorem dX7_digest_162 : decode cX7_digest 162 = .ok (.invokestatic 321, 3) := by decide +kernel
theorem dX7_digest_165 : decode cX7_digest 165 = .ok (.lreturn, 1) := by decide +kernel
theorem dX7_found_0 : decode cX7_found 0 = .ok (.aload_n 0, 1) := by decide +kernel
theorem dX7_found_1 : decode cX7_found 1 = .ok (.iload_n 1, 1) := by decide +kernel
theorem dX7_found_2 : decode cX7_found 2 = .ok (.putfield 311, 3) := by decide +kernel
theorem dX7_found_5 : decode cX7_found 5 = .ok (.aload_n 0, 1) := by decide +kernel
theorem dX7_found_6 : decode cX7_found 6 = .ok (.getfield 57, 3) := by decide +kernel
theorem dX7_found_9 : decode cX7_found 9 = .ok (.iload_n 1, 1) := by decide +kernel
theorem dX7_found_10 : decode cX7_found 10 = .ok (.dup2, 1) := by decide +kernel
theorem dX7_found_11 : decode cX7_found 11 = .ok (.iaload, 1) := by decide +kernel
theorem dX7_found_12 : decode cX7_found 12 = .ok (.iconst 1, 1) := by decide +kernel
theorem dX7_found_13 : decode cX7_found 13 = .ok (.iadd, 1) := by decide +kernel
theorem dX7_found_14 : decode cX7_found 14 = .ok (.iastore, 1) := by decide +kernel
theorem dX7_found_15 : decode cX7_found 15 = .ok (.bipush (-3), 2) := by decide +kernel
theorem dX7_found_17 : decode cX7_found 17 = .ok (.ireturn, 1) := by decide +kernel
theorem dX7_refusedPlace_0 : decode cX7_refusedPlace 0 = .ok (.aload_n 1, 1) := by decide +kernel
theorem dX7_refusedPlace_1 : decode cX7_refusedPlace 1 = .ok (.invokevirtual 89, 3) := by decide +kernel
theorem dX7_refusedPlace_4 : decode cX7_refusedPlace 4 = .ok (.ifCond .ne 9, 3) := by decide +kernel
theorem dX7_refusedPlace_7 : decode cX7_refusedPlace 7 = .ok (.aload_n 0, 1) := by decide +kernel
theorem dX7_refusedPlace_8 : decode cX7_refusedPlace 8 = .ok (.iconst 1, 1) := by decide +kernel
theorem dX7_refusedPlace_9 : decode cX7_refusedPlace 9 = .ok (.invokevirtual 93, 3) := by decide +kernel
theorem dX7_refusedPlace_12 : decode cX7_refusedPlace 12 = .ok (.ireturn, 1) := by decide +kernel
theorem dX7_refusedPlace_13 : decode cX7_refusedPlace 13 = .ok (.aload_n 1, 1) := by decide +kernel
theorem dX7_refusedPlace_14 : decode cX7_refusedPlace 14 = .ok (.iload_n 2, 1) := by decide +kernel
theorem dX7_refusedPlace_15 : decode cX7_refusedPlace 15 = .ok (.invokevirtual 325, 3) := by decide +kernel
theorem dX7_refusedPlace_18 : decode cX7_refusedPlace 18 = .ok (.ifCond .eq 7, 3) := by decide +kernel
theorem dX7_refusedPlace_21 : decode cX7_refusedPlace 21 = .ok (.iconst 0, 1) := by decide +kernel
theorem dX7_refusedPlace_22 : decode cX7_refusedPlace 22 = .ok (.goto 8, 3) := by decide +kernel
theorem dX7_refusedPlace_25 : decode cX7_refusedPlace 25 = .ok (.aload_n 0, 1) := by decide +kernel
theorem dX7_refusedPlace_26 : decode cX7_refusedPlace 26 = .ok (.iconst 2, 1) := by decide +kernel
theorem dX7_refusedPlace_27 : decode cX7_refusedPlace 27 = .ok (.invokevirtual 93, 3) := by decide +kernel
theorem dX7_refusedPlace_30 : decode cX7_refusedPlace 30 = .ok (.ireturn, 1) := by decide +kernel
theorem dX7_refusedNotes_0 : decode cX7_refusedNotes 0 = .ok (.aload_n 1, 1) := by decide +kernel
theorem dX7_refusedNotes_1 : decode cX7_refusedNotes 1 = .ok (.invokevirtual 89, 3) := by decide +kernel
theorem dX7_refusedNotes_4 : decode cX7_refusedNotes 4 = .ok (.ifCond .ne 9, 3) := by decide +kernel
theorem dX7_refusedNotes_7 : decode cX7_refusedNotes 7 = .ok (.aload_n 0, 1) := by decide +kernel
theorem dX7_refusedNotes_8 : decode cX7_refusedNotes 8 = .ok (.iconst 1, 1) := by decide +kernel
theorem dX7_refusedNotes_9 : decode cX7_refusedNotes 9 = .ok (.invokevirtual 93, 3) := by decide +kernel
theorem dX7_refusedNotes_12 : decode cX7_refusedNotes 12 = .ok (.ireturn, 1) := by decide +kernel
theorem dX7_refusedNotes_13 : decode cX7_refusedNotes 13 = .ok (.aload_n 1, 1) := by decide +kernel
theorem dX7_refusedNotes_14 : decode cX7_refusedNotes 14 = .ok (.getfield 96, 3) := by decide +kernel
theorem dX7_refusedNotes_17 : decode cX7_refusedNotes 17 = .ok (.iconst 2, 1) := by decide +kernel
theorem dX7_refusedNotes_18 : decode cX7_refusedNotes 18 = .ok (.irem, 1) := by decide +kernel
theorem dX7_refusedNotes_19 : decode cX7_refusedNotes 19 = .ok (.ifCond .ne 12, 3) := by decide +kernel
theorem dX7_refusedNotes_22 : decode cX7_refusedNotes 22 = .ok (.aload_n 1, 1) := by decide +kernel
theorem dX7_refusedNotes_23 : decode cX7_refusedNotes 23 = .ok (.getfield 96, 3) := by decide +kernel
theorem dX7_refusedNotes_26 : decode cX7_refusedNotes 26 = .ok (.bipush 16, 2) := by decide +kernel
theorem dX7_refusedNotes_28 : decode cX7_refusedNotes 28 = .ok (.if_icmp .le 9, 3) := by decide +kernel
theorem dX7_refusedNotes_31 : decode cX7_refusedNotes 31 = .ok (.aload_n 0, 1) := by decide +kernel
theorem dX7_refusedNotes_32 : decode cX7_refusedNotes 32 = .ok (.iconst 5, 1) := by decide +kernel
theorem dX7_refusedNotes_33 : decode cX7_refusedNotes 33 = .ok (.invokevirtual 93, 3) := by decide +kernel
theorem dX7_refusedNotes_36 : decode cX7_refusedNotes 36 = .ok (.ireturn, 1) := by decide +kernel
theorem dX7_refusedNotes_37 : decode cX7_refusedNotes 37 = .ok (.aload_n 1, 1) := by decide +kernel
theorem dX7_refusedNotes_38 : decode cX7_refusedNotes 38 = .ok (.iconst 0, 1) := by decide +kernel
theorem dX7_refusedNotes_39 : decode cX7_refusedNotes 39 = .ok (.bipush 99, 2) := by decide +kernel
theorem dX7_refusedNotes_41 : decode cX7_refusedNotes 41 = .ok (.invokevirtual 262, 3) := by decide +kernel
theorem dX7_refusedNotes_44 : decode cX7_refusedNotes 44 = .ok (.ifCond .eq 7, 3) := by decide +kernel
theorem dX7_refusedNotes_47 : decode cX7_refusedNotes 47 = .ok (.iconst 0, 1) := by decide +kernel
theorem dX7_refusedNotes_48 : decode cX7_refusedNotes 48 = .ok (.goto 8, 3) := by decide +kernel
theorem dX7_refusedNotes_51 : decode cX7_refusedNotes 51 = .ok (.aload_n 0, 1) := by decide +kernel
theorem dX7_refusedNotes_52 : decode cX7_refusedNotes 52 = .ok (.iconst 3, 1) := by decide +kernel
theorem dX7_refusedNotes_53 : decode cX7_refusedNotes 53 = .ok (.invokevirtual 93, 3) := by decide +kernel
theorem dX7_refusedNotes_56 : decode cX7_refusedNotes 56 = .ok (.ireturn, 1) := by decide +kernel
theorem dX7_refusedSets_0 : decode cX7_refusedSets 0 = .ok (.iload_n 1, 1) := by decide +kernel
theorem dX7_refusedSets_1 : decode cX7_refusedSets 1 = .ok (.invokestatic 167, 3) := by decide +kernel
theorem dX7_refusedSets_4 : decode cX7_refusedSets 4 = .ok (.ifCond .eq 14, 3) := by decide +kernel
theorem dX7_refusedSets_7 : decode cX7_refusedSets 7 = .ok (.iload_n 2, 1) := by decide +kernel
theorem dX7_refusedSets_8 : decode cX7_refusedSets 8 = .ok (.iconst 0, 1) := by decide +kernel
theorem dX7_refusedSets_9 : decode cX7_refusedSets 9 = .ok (.sipush 594, 3) := by decide +kernel
theorem dX7_refusedSets_12 : decode cX7_refusedSets 12 = .ok (.invokestatic 130, 3) := by decide +kernel
theorem dX7_refusedSets_15 : decode cX7_refusedSets 15 = .ok (.ifCond .ne 5, 3) := by decide +kernel
theorem dX7_refusedSets_18 : decode cX7_refusedSets 18 = .ok (.iconst (-1), 1) := by decide +kernel
theorem dX7_refusedSets_19 : decode cX7_refusedSets 19 = .ok (.ireturn, 1) := by decide +kernel
theorem dX7_refusedSets_20 : decode cX7_refusedSets 20 = .ok (.aload_n 0, 1) := by decide +kernel
theorem dX7_refusedSets_21 : decode cX7_refusedSets 21 = .ok (.getfield 23, 3) := by decide +kernel
theorem dX7_refusedSets_24 : decode cX7_refusedSets 24 = .ok (.getfield 123, 3) := by decide +kernel
theorem dX7_refusedSets_27 : decode cX7_refusedSets 27 = .ok (.ifCond .ne 8, 3) := by decide +kernel
theorem dX7_refusedSets_30 : decode cX7_refusedSets 30 = .ok (.bipush (-4), 2) := by decide +kernel
theorem dX7_refusedSets_32 : decode cX7_refusedSets 32 = .ok (.goto 4, 3) := by decide +kernel
theorem dX7_refusedSets_35 : decode cX7_refusedSets 35 = .ok (.iconst 0, 1) := by decide +kernel
theorem dX7_refusedSets_36 : decode cX7_refusedSets 36 = .ok (.ireturn, 1) := by decide +kernel
theorem dX7_within_0 : decode cX7_within 0 = .ok (.iload_n 0, 1) := by decide +kernel
theorem dX7_within_1 : decode cX7_within 1 = .ok (.iload_n 1, 1) := by decide +kernel
theorem dX7_within_2 : decode cX7_within 2 = .ok (.if_icmp .lt 12, 3) := by decide +kernel
theorem dX7_within_5 : decode cX7_within 5 = .ok (.iload_n 0, 1) := by decide +kernel
theorem dX7_within_6 : decode cX7_within 6 = .ok (.iload_n 2, 1) := by decide +kernel
theorem dX7_within_7 : decode cX7_within 7 = .ok (.if_icmp .gt 7, 3) := by decide +kernel
theorem dX7_within_10 : decode cX7_within 10 = .ok (.iconst 1, 1) := by decide +kernel
theorem dX7_within_11 : decode cX7_within 11 = .ok (.goto 4, 3) := by decide +kernel
theorem dX7_within_14 : decode cX7_within 14 = .ok (.iconst 0, 1) := by decide +kernel
theorem dX7_within_15 : decode cX7_within 15 = .ok (.ireturn, 1) := by decide +kernel
theorem dX7_isMeaning_0 : decode cX7_isMeaning 0 = .ok (.iload_n 0, 1) := by decide +kernel
theorem dX7_isMeaning_1 : decode cX7_isMeaning 1 = .ok (.iconst 0, 1) := by decide +kernel
theorem dX7_isMeaning_2 : decode cX7_isMeaning 2 = .ok (.bipush 99, 2) := by decide +kernel
theorem dX7_isMeaning_4 : decode cX7_isMeaning 4 = .ok (.invokestatic 130, 3) := by decide +kernel
theorem dX7_isMeaning_7 : decode cX7_isMeaning 7 = .ok (.ireturn, 1) := by decide +kernel
theorem dX7_areChances_0 : decode cX7_areChances 0 = .ok (.iload_n 0, 1) := by decide +kernel
theorem dX7_areChances_1 : decode cX7_areChances 1 = .ok (.iconst 0, 1) := by decide +kernel
theorem dX7_areChances_2 : decode cX7_areChances 2 = .ok (.bipush 6, 2) := by decide +kernel
theorem dX7_areChances_4 : decode cX7_areChances 4 = .ok (.invokestatic 130, 3) := by decide +kernel
theorem dX7_areChances_7 : decode cX7_areChances 7 = .ok (.ifCond .eq 17, 3) := by decide +kernel
theorem dX7_areChances_10 : decode cX7_areChances 10 = .ok (.iload_n 1, 1) := by decide +kernel
theorem dX7_areChances_11 : decode cX7_areChances 11 = .ok (.iconst 0, 1) := by decide +kernel
theorem dX7_areChances_12 : decode cX7_areChances 12 = .ok (.bipush 12, 2) := by decide +kernel
theorem dX7_areChances_14 : decode cX7_areChances 14 = .ok (.invokestatic 130, 3) := by decide +kernel
theorem dX7_areChances_17 : decode cX7_areChances 17 = .ok (.ifCond .eq 7, 3) := by decide +kernel
theorem dX7_areChances_20 : decode cX7_areChances 20 = .ok (.iconst 1, 1) := by decide +kernel
theorem dX7_areChances_21 : decode cX7_areChances 21 = .ok (.goto 4, 3) := by decide +kernel
theorem dX7_areChances_24 : decode cX7_areChances 24 = .ok (.iconst 0, 1) := by decide +kernel
theorem dX7_areChances_25 : decode cX7_areChances 25 = .ok (.ireturn, 1) := by decide +kernel
theorem dX7_shelf_0 : decode cX7_shelf 0 = .ok (.iload_n 0, 1) := by decide +kernel
theorem dX7_shelf_1 : decode cX7_shelf 1 = .ok (.anewarray 77, 3) := by decide +kernel
theorem dX7_shelf_4 : decode cX7_shelf 4 = .ok (.astore_n 2, 1) := by decide +kernel
theorem dX7_shelf_5 : decode cX7_shelf 5 = .ok (.iconst 0, 1) := by decide +kernel
theorem dX7_shelf_6 : decode cX7_shelf 6 = .ok (.istore_n 3, 1) := by decide +kernel
theorem dX7_shelf_7 : decode cX7_shelf 7 = .ok (.iload_n 3, 1) := by decide +kernel
theorem dX7_shelf_8 : decode cX7_shelf 8 = .ok (.aload_n 2, 1) := by decide +kernel
theorem dX7_shelf_9 : decode cX7_shelf 9 = .ok (.arraylength, 1) := by decide +kernel
theorem dX7_shelf_10 : decode cX7_shelf 10 = .ok (.if_icmp .ge 20, 3) := by decide +kernel
theorem dX7_shelf_13 : decode cX7_shelf 13 = .ok (.aload_n 2, 1) := by decide +kernel
theorem dX7_shelf_14 : decode cX7_shelf 14 = .ok (.iload_n 3, 1) := by decide +kernel
theorem dX7_shelf_15 : decode cX7_shelf 15 = .ok (.new 77, 3) := by decide +kernel
theorem dX7_shelf_18 : decode cX7_shelf 18 = .ok (.dup, 1) := by decide +kernel
theorem dX7_shelf_19 : decode cX7_shelf 19 = .ok (.iload_n 1, 1) := by decide +kernel
theorem dX7_shelf_20 : decode cX7_shelf 20 = .ok (.invokespecial 328, 3) := by decide +kernel
theorem dX7_shelf_23 : decode cX7_shelf 23 = .ok (.aastore, 1) := by decide +kernel
theorem dX7_shelf_24 : decode cX7_shelf 24 = .ok (.iinc 3 1, 3) := by decide +kernel
theorem dX7_shelf_27 : decode cX7_shelf 27 = .ok (.goto (-20), 3) := by decide +kernel
theorem dX7_shelf_30 : decode cX7_shelf 30 = .ok (.aload_n 2, 1) := by decide +kernel
theorem dX7_shelf_31 : decode cX7_shelf 31 = .ok (.areturn, 1) := by decide +kernel
theorem dX7_lookUp_0 : decode cX7_lookUp 0 = .ok (.iload_n 1, 1) := by decide +kernel
theorem dX7_lookUp_1 : decode cX7_lookUp 1 = .ok (.ifCond .lt 15, 3) := by decide +kernel
theorem dX7_lookUp_4 : decode cX7_lookUp 4 = .ok (.iload_n 1, 1) := by decide +kernel
theorem dX7_lookUp_5 : decode cX7_lookUp 5 = .ok (.aload_n 0, 1) := by decide +kernel
theorem dX7_lookUp_6 : decode cX7_lookUp 6 = .ok (.arraylength, 1) := by decide +kernel
theorem dX7_lookUp_7 : decode cX7_lookUp 7 = .ok (.if_icmp .ge 9, 3) := by decide +kernel
theorem dX7_lookUp_10 : decode cX7_lookUp 10 = .ok (.aload_n 0, 1) := by decide +kernel
theorem dX7_lookUp_11 : decode cX7_lookUp 11 = .ok (.iload_n 1, 1) := by decide +kernel
theorem dX7_lookUp_12 : decode cX7_lookUp 12 = .ok (.aaload, 1) := by decide +kernel
theorem dX7_lookUp_13 : decode cX7_lookUp 13 = .ok (.goto 4, 3) := by decide +kernel
theorem dX7_lookUp_16 : decode cX7_lookUp 16 = .ok (.aconst_null, 1) := by decide +kernel
theorem dX7_lookUp_17 : decode cX7_lookUp 17 = .ok (.areturn, 1) := by decide +kernel
theorem dX7_renewed_0 : decode cX7_renewed 0 = .ok (.aload_n 1, 1) := by decide +kernel
theorem dX7_renewed_1 : decode cX7_renewed 1 = .ok (.ifnull 8, 3) := by decide +kernel
theorem dX7_renewed_4 : decode cX7_renewed 4 = .ok (.iload_n 2, 1) := by decide +kernel
theorem dX7_renewed_5 : decode cX7_renewed 5 = .ok (.iload_n 3, 1) := by decide +kernel
theorem dX7_renewed_6 : decode cX7_renewed 6 = .ok (.if_icmp .le 5, 3) := by decide +kernel
theorem dX7_renewed_9 : decode cX7_renewed 9 = .ok (.iconst (-1), 1) := by decide +kernel
theorem dX7_renewed_10 : decode cX7_renewed 10 = .ok (.ireturn, 1) := by decide +kernel
theorem dX7_renewed_11 : decode cX7_renewed 11 = .ok (.iload_n 2, 1) := by decide +kernel
theorem dX7_renewed_12 : decode cX7_renewed 12 = .ok (.ifCond .ge 9, 3) := by decide +kernel
theorem dX7_renewed_15 : decode cX7_renewed 15 = .ok (.aload_n 0, 1) := by decide +kernel
theorem dX7_renewed_16 : decode cX7_renewed 16 = .ok (.iconst 5, 1) := by decide +kernel
theorem dX7_renewed_17 : decode cX7_renewed 17 = .ok (.invokevirtual 93, 3) := by decide +kernel
theorem dX7_renewed_20 : decode cX7_renewed 20 = .ok (.ireturn, 1) := by decide +kernel
theorem dX7_renewed_21 : decode cX7_renewed 21 = .ok (.aload_n 1, 1) := by decide +kernel
theorem dX7_renewed_22 : decode cX7_renewed 22 = .ok (.iload_n 2, 1) := by decide +kernel
theorem dX7_renewed_23 : decode cX7_renewed 23 = .ok (.iload 4, 2) := by decide +kernel
theorem dX7_renewed_25 : decode cX7_renewed 25 = .ok (.invokevirtual 330, 3) := by decide +kernel
theorem dX7_renewed_28 : decode cX7_renewed 28 = .ok (.iload_n 2, 1) := by decide +kernel
theorem dX7_renewed_29 : decode cX7_renewed 29 = .ok (.ireturn, 1) := by decide +kernel
theorem dX7_thereOn_0 : decode cX7_thereOn 0 = .ok (.iconst 0, 1) := by decide +kernel
theorem dX7_thereOn_1 : decode cX7_thereOn 1 = .ok (.istore_n 1, 1) := by decide +kernel
theorem dX7_thereOn_2 : decode cX7_thereOn 2 = .ok (.iconst 0, 1) := by decide +kernel
theorem dX7_thereOn_3 : decode cX7_thereOn 3 = .ok (.istore_n 2, 1) := by decide +kernel
theorem dX7_thereOn_4 : decode cX7_thereOn 4 = .ok (.iload_n 2, 1) := by decide +kernel
theorem dX7_thereOn_5 : decode cX7_thereOn 5 = .ok (.aload_n 0, 1) := by decide +kernel
theorem dX7_thereOn_6 : decode cX7_thereOn 6 = .ok (.arraylength, 1) := by decide +kernel
theorem dX7_thereOn_7 : decode cX7_thereOn 7 = .ok (.if_icmp .ge 26, 3) := by decide +kernel
theorem dX7_thereOn_10 : decode cX7_thereOn 10 = .ok (.iload_n 1, 1) := by decide +kernel
theorem dX7_thereOn_11 : decode cX7_thereOn 11 = .ok (.aload_n 0, 1) := by decide +kernel
theorem dX7_thereOn_12 : decode cX7_thereOn 12 = .ok (.iload_n 2, 1) := by decide +kernel
theorem dX7_thereOn_13 : decode cX7_thereOn 13 = .ok (.aaload, 1) := by decide +kernel
theorem dX7_thereOn_14 : decode cX7_thereOn 14 = .ok (.invokevirtual 89, 3) := by decide +kernel
theorem dX7_thereOn_17 : decode cX7_thereOn 17 = .ok (.ifCond .eq 7, 3) := by decide +kernel
theorem dX7_thereOn_20 : decode cX7_thereOn 20 = .ok (.iconst 1, 1) := by decide +kernel
theorem dX7_thereOn_21 : decode cX7_thereOn 21 = .ok (.goto 4, 3) := by decide +kernel
theorem dX7_thereOn_24 : decode cX7_thereOn 24 = .ok (.iconst 0, 1) := by decide +kernel
theorem dX7_thereOn_25 : decode cX7_thereOn 25 = .ok (.iadd, 1) := by decide +kernel
theorem dX7_thereOn_26 : decode cX7_thereOn 26 = .ok (.istore_n 1, 1) := by decide +kernel
theorem dX7_thereOn_27 : decode cX7_thereOn 27 = .ok (.iinc 2 1, 3) := by decide +kernel
theorem dX7_thereOn_30 : decode cX7_thereOn 30 = .ok (.goto (-26), 3) := by decide +kernel
theorem dX7_thereOn_33 : decode cX7_thereOn 33 = .ok (.iload_n 1, 1) := by decide +kernel
theorem dX7_thereOn_34 : decode cX7_thereOn 34 = .ok (.ireturn, 1) := by decide +kernel
theorem dX7_digestOf_0 : decode cX7_digestOf 0 = .ok (.lload_n 1, 1) := by decide +kernel
theorem dX7_digestOf_1 : decode cX7_digestOf 1 = .ok (.lstore_n 3, 1) := by decide +kernel
theorem dX7_digestOf_2 : decode cX7_digestOf 2 = .ok (.iconst 0, 1) := by decide +kernel
theorem dX7_digestOf_3 : decode cX7_digestOf 3 = .ok (.istore 5, 2) := by decide +kernel
theorem dX7_digestOf_5 : decode cX7_digestOf 5 = .ok (.iload 5, 2) := by decide +kernel
theorem dX7_digestOf_7 : decode cX7_digestOf 7 = .ok (.aload_n 0, 1) := by decide +kernel
theorem dX7_digestOf_8 : decode cX7_digestOf 8 = .ok (.arraylength, 1) := by decide +kernel
theorem dX7_digestOf_9 : decode cX7_digestOf 9 = .ok (.if_icmp .ge 62, 3) := by decide +kernel
theorem dX7_digestOf_12 : decode cX7_digestOf 12 = .ok (.ldc2_w 316, 3) := by decide +kernel
theorem dX7_digestOf_15 : decode cX7_digestOf 15 = .ok (.lload_n 3, 1) := by decide +kernel
theorem dX7_digestOf_16 : decode cX7_digestOf 16 = .ok (.lmul, 1) := by decide +kernel
theorem dX7_digestOf_17 : decode cX7_digestOf 17 = .ok (.aload_n 0, 1) := by decide +kernel
theorem dX7_digestOf_18 : decode cX7_digestOf 18 = .ok (.iload 5, 2) := by decide +kernel
theorem dX7_digestOf_20 : decode cX7_digestOf 20 = .ok (.aaload, 1) := by decide +kernel
theorem dX7_digestOf_21 : decode cX7_digestOf 21 = .ok (.getfield 96, 3) := by decide +kernel
theorem dX7_digestOf_24 : decode cX7_digestOf 24 = .ok (.i2l, 1) := by decide +kernel
theorem dX7_digestOf_25 : decode cX7_digestOf 25 = .ok (.ladd, 1) := by decide +kernel
theorem dX7_digestOf_26 : decode cX7_digestOf 26 = .ok (.lstore_n 3, 1) := by decide +kernel
theorem dX7_digestOf_27 : decode cX7_digestOf 27 = .ok (.iconst 0, 1) := by decide +kernel
theorem dX7_digestOf_28 : decode cX7_digestOf 28 = .ok (.istore 6, 2) := by decide +kernel
theorem dX7_digestOf_30 : decode cX7_digestOf 30 = .ok (.iload 6, 2) := by decide +kernel
theorem dX7_digestOf_32 : decode cX7_digestOf 32 = .ok (.aload_n 0, 1) := by decide +kernel
theorem dX7_digestOf_33 : decode cX7_digestOf 33 = .ok (.iload 5, 2) := by decide +kernel
theorem dX7_digestOf_35 : decode cX7_digestOf 35 = .ok (.aaload, 1) := by decide +kernel
theorem dX7_digestOf_36 : decode cX7_digestOf 36 = .ok (.getfield 96, 3) := by decide +kernel
theorem dX7_digestOf_39 : decode cX7_digestOf 39 = .ok (.if_icmp .ge 26, 3) := by decide +kernel
theorem dX7_digestOf_42 : decode cX7_digestOf 42 = .ok (.ldc2_w 316, 3) := by decide +kernel
theorem dX7_digestOf_45 : decode cX7_digestOf 45 = .ok (.lload_n 3, 1) := by decide +kernel
theorem dX7_digestOf_46 : decode cX7_digestOf 46 = .ok (.lmul, 1) := by decide +kernel
theorem dX7_digestOf_47 : decode cX7_digestOf 47 = .ok (.aload_n 0, 1) := by decide +kernel
theorem dX7_digestOf_48 : decode cX7_digestOf 48 = .ok (.iload 5, 2) := by decide +kernel
theorem dX7_digestOf_50 : decode cX7_digestOf 50 = .ok (.aaload, 1) := by decide +kernel
theorem dX7_digestOf_51 : decode cX7_digestOf 51 = .ok (.iload 6, 2) := by decide +kernel
theorem dX7_digestOf_53 : decode cX7_digestOf 53 = .ok (.invokevirtual 76, 3) := by decide +kernel
theorem dX7_digestOf_56 : decode cX7_digestOf 56 = .ok (.i2l, 1) := by decide +kernel
theorem dX7_digestOf_57 : decode cX7_digestOf 57 = .ok (.ladd, 1) := by decide +kernel
theorem dX7_digestOf_58 : decode cX7_digestOf 58 = .ok (.lstore_n 3, 1) := by decide +kernel
theorem dX7_digestOf_59 : decode cX7_digestOf 59 = .ok (.iinc 6 1, 3) := by decide +kernel
theorem dX7_digestOf_62 : decode cX7_digestOf 62 = .ok (.goto (-32), 3) := by decide +kernel
theorem dX7_digestOf_65 : decode cX7_digestOf 65 = .ok (.iinc 5 1, 3) := by decide +kernel
theorem dX7_digestOf_68 : decode cX7_digestOf 68 = .ok (.goto (-63), 3) := by decide +kernel
theorem dX7_digestOf_71 : decode cX7_digestOf 71 = .ok (.lload_n 3, 1) := by decide +kernel
theorem dX7_digestOf_72 : decode cX7_digestOf 72 = .ok (.lreturn, 1) := by decide +kernel
theorem dX7_memberFact_0 : decode cX7_memberFact 0 = .ok (.iload_n 2, 1) := by decide +kernel
theorem dX7_memberFact_1 : decode cX7_memberFact 1 = .ok (.tableswitch 65 0 2 #[27, 37, 47], 27) := by decide +kernel
theorem dX7_memberFact_28 : decode cX7_memberFact 28 = .ok (.aload_n 0, 1) := by decide +kernel
theorem dX7_memberFact_29 : decode cX7_memberFact 29 = .ok (.getfield 23, 3) := by decide +kernel
theorem dX7_memberFact_32 : decode cX7_memberFact 32 = .ok (.getfield 140, 3) := by decide +kernel
theorem dX7_memberFact_35 : decode cX7_memberFact 35 = .ok (.iload_n 1, 1) := by decide +kernel
theorem dX7_memberFact_36 : decode cX7_memberFact 36 = .ok (.iaload, 1) := by decide +kernel
theorem dX7_memberFact_37 : decode cX7_memberFact 37 = .ok (.ireturn, 1) := by decide +kernel
theorem dX7_memberFact_38 : decode cX7_memberFact 38 = .ok (.aload_n 0, 1) := by decide +kernel
theorem dX7_memberFact_39 : decode cX7_memberFact 39 = .ok (.getfield 23, 3) := by decide +kernel
theorem dX7_memberFact_42 : decode cX7_memberFact 42 = .ok (.getfield 333, 3) := by decide +kernel
theorem dX7_memberFact_45 : decode cX7_memberFact 45 = .ok (.iload_n 1, 1) := by decide +kernel
theorem dX7_memberFact_46 : decode cX7_memberFact 46 = .ok (.iaload, 1) := by decide +kernel
theorem dX7_memberFact_47 : decode cX7_memberFact 47 = .ok (.ireturn, 1) := by decide +kernel
theorem dX7_memberFact_48 : decode cX7_memberFact 48 = .ok (.aload_n 0, 1) := by decide +kernel
theorem dX7_memberFact_49 : decode cX7_memberFact 49 = .ok (.getfield 23, 3) := by decide +kernel
theorem dX7_memberFact_52 : decode cX7_memberFact 52 = .ok (.getfield 164, 3) := by decide +kernel
theorem dX7_memberFact_55 : decode cX7_memberFact 55 = .ok (.aload_n 0, 1) := by decide +kernel
theorem dX7_memberFact_56 : decode cX7_memberFact 56 = .ok (.getfield 23, 3) := by decide +kernel
theorem dX7_memberFact_59 : decode cX7_memberFact 59 = .ok (.getfield 333, 3) := by decide +kernel
theorem dX7_memberFact_62 : decode cX7_memberFact 62 = .ok (.iload_n 1, 1) := by decide +kernel
theorem dX7_memberFact_63 : decode cX7_memberFact 63 = .ok (.iaload, 1) := by decide +kernel
theorem dX7_memberFact_64 : decode cX7_memberFact 64 = .ok (.iaload, 1) := by decide +kernel
theorem dX7_memberFact_65 : decode cX7_memberFact 65 = .ok (.ireturn, 1) := by decide +kernel
theorem dX7_memberFact_66 : decode cX7_memberFact 66 = .ok (.aload_n 0, 1) := by decide +kernel
theorem dX7_memberFact_67 : decode cX7_memberFact 67 = .ok (.getfield 23, 3) := by decide +kernel
theorem dX7_memberFact_70 : decode cX7_memberFact 70 = .ok (.getfield 336, 3) := by decide +kernel
theorem dX7_memberFact_73 : decode cX7_memberFact 73 = .ok (.iload_n 1, 1) := by decide +kernel
theorem dX7_memberFact_74 : decode cX7_memberFact 74 = .ok (.iaload, 1) := by decide +kernel
theorem dX7_memberFact_75 : decode cX7_memberFact 75 = .ok (.ireturn, 1) := by decide +kernel
theorem dX7_keptClubs_0 : decode cX7_keptClubs 0 = .ok (.iconst 0, 1) := by decide +kernel
theorem dX7_keptClubs_1 : decode cX7_keptClubs 1 = .ok (.istore_n 1, 1) := by decide +kernel
theorem dX7_keptClubs_2 : decode cX7_keptClubs 2 = .ok (.iconst 0, 1) := by decide +kernel
theorem dX7_keptClubs_3 : decode cX7_keptClubs 3 = .ok (.istore_n 2, 1) := by decide +kernel
theorem dX7_keptClubs_4 : decode cX7_keptClubs 4 = .ok (.iload_n 2, 1) := by decide +kernel
theorem dX7_keptClubs_5 : decode cX7_keptClubs 5 = .ok (.aload_n 0, 1) := by decide +kernel
theorem dX7_keptClubs_6 : decode cX7_keptClubs 6 = .ok (.getfield 38, 3) := by decide +kernel
theorem dX7_keptClubs_9 : decode cX7_keptClubs 9 = .ok (.arraylength, 1) := by decide +kernel
theorem dX7_keptClubs_10 : decode cX7_keptClubs 10 = .ok (.if_icmp .ge 30, 3) := by decide +kernel
theorem dX7_keptClubs_13 : decode cX7_keptClubs 13 = .ok (.iload_n 1, 1) := by decide +kernel
theorem dX7_keptClubs_14 : decode cX7_keptClubs 14 = .ok (.aload_n 0, 1) := by decide +kernel
theorem dX7_keptClubs_15 : decode cX7_keptClubs 15 = .ok (.getfield 38, 3) := by decide +kernel
theorem dX7_keptClubs_18 : decode cX7_keptClubs 18 = .ok (.iload_n 2, 1) := by decide +kernel
theorem dX7_keptClubs_19 : decode cX7_keptClubs 19 = .ok (.aaload, 1) := by decide +kernel
theorem dX7_keptClubs_20 : decode cX7_keptClubs 20 = .ok (.getfield 34, 3) := by decide +kernel
theorem dX7_keptClubs_23 : decode cX7_keptClubs 23 = .ok (.iconst (-1), 1) := by decide +kernel
theorem dX7_keptClubs_24 : decode cX7_keptClubs 24 = .ok (.if_icmp .ne 7, 3) := by decide +kernel
theorem dX7_keptClubs_27 : decode cX7_keptClubs 27 = .ok (.iconst 0, 1) := by decide +kernel
theorem dX7_keptClubs_28 : decode cX7_keptClubs 28 = .ok (.goto 4, 3) := by decide +kernel
theorem dX7_keptClubs_31 : decode cX7_keptClubs 31 = .ok (.iconst 1, 1) := by decide +kernel
theorem dX7_keptClubs_32 : decode cX7_keptClubs 32 = .ok (.iadd, 1) := by decide +kernel
theorem dX7_keptClubs_33 : decode cX7_keptClubs 33 = .ok (.istore_n 1, 1) := by decide +kernel
theorem dX7_keptClubs_34 : decode cX7_keptClubs 34 = .ok (.iinc 2 1, 3) := by decide +kernel
theorem dX7_keptClubs_37 : decode cX7_keptClubs 37 = .ok (.goto (-33), 3) := by decide +kernel
theorem dX7_keptClubs_40 : decode cX7_keptClubs 40 = .ok (.iload_n 1, 1) := by decide +kernel
theorem dX7_keptClubs_41 : decode cX7_keptClubs 41 = .ok (.ireturn, 1) := by decide +kernel
theorem dX7_perform_0 : decode cX7_perform 0 = .ok (.aload_n 0, 1) := by decide +kernel
theorem dX7_perform_1 : decode cX7_perform 1 = .ok (.getfield 30, 3) := by decide +kernel
theorem dX7_perform_4 : decode cX7_perform 4 = .ok (.iload_n 1, 1) := by decide +kernel
theorem dX7_perform_5 : decode cX7_perform 5 = .ok (.iload_n 2, 1) := by decide +kernel
theorem dX7_perform_6 : decode cX7_perform 6 = .ok (.iload_n 3, 1) := by decide +kernel
theorem dX7_perform_7 : decode cX7_perform 7 = .ok (.invokevirtual 339, 3) := by decide +kernel
theorem dX7_perform_10 : decode cX7_perform 10 = .ok (.aload_n 0, 1) := by decide +kernel
theorem dX7_perform_11 : decode cX7_perform 11 = .ok (.iload_n 1, 1) := by decide +kernel
theorem dX7_perform_12 : decode cX7_perform 12 = .ok (.iload_n 2, 1) := by decide +kernel
theorem dX7_perform_13 : decode cX7_perform 13 = .ok (.iload_n 3, 1) := by decide +kernel
theorem dX7_perform_14 : decode cX7_perform 14 = .ok (.invokevirtual 342, 3) := by decide +kernel
theorem dX7_perform_17 : decode cX7_perform 17 = .ok (.ireturn, 1) := by decide +kernel
theorem dX7_enact_0 : decode cX7_enact 0 = .ok (.iload_n 1, 1) := by decide +kernel
theorem dX7_enact_1 : decode cX7_enact 1 = .ok (.tableswitch 54 0 2 #[27, 37, 45], 27) := by decide +kernel
theorem dX7_enact_28 : decode cX7_enact 28 = .ok (.aload_n 0, 1) := by decide +kernel
theorem dX7_enact_29 : decode cX7_enact 29 = .ok (.getfield 23, 3) := by decide +kernel
theorem dX7_enact_32 : decode cX7_enact 32 = .ok (.iload_n 2, 1) := by decide +kernel
theorem dX7_enact_33 : decode cX7_enact 33 = .ok (.iload_n 3, 1) := by decide +kernel
theorem dX7_enact_34 : decode cX7_enact 34 = .ok (.invokevirtual 345, 3) := by decide +kernel
theorem dX7_enact_37 : decode cX7_enact 37 = .ok (.ireturn, 1) := by decide +kernel
theorem dX7_enact_38 : decode cX7_enact 38 = .ok (.aload_n 0, 1) := by decide +kernel
theorem dX7_enact_39 : decode cX7_enact 39 = .ok (.getfield 23, 3) := by decide +kernel
theorem dX7_enact_42 : decode cX7_enact 42 = .ok (.invokevirtual 348, 3) := by decide +kernel
theorem dX7_enact_45 : decode cX7_enact 45 = .ok (.ireturn, 1) := by decide +kernel
theorem dX7_enact_46 : decode cX7_enact 46 = .ok (.aload_n 0, 1) := by decide +kernel
theorem dX7_enact_47 : decode cX7_enact 47 = .ok (.getfield 23, 3) := by decide +kernel
theorem dX7_enact_50 : decode cX7_enact 50 = .ok (.iload_n 2, 1) := by decide +kernel
theorem dX7_enact_51 : decode cX7_enact 51 = .ok (.invokevirtual 351, 3) := by decide +kernel
theorem dX7_enact_54 : decode cX7_enact 54 = .ok (.ireturn, 1) := by decide +kernel
theorem dX7_enact_55 : decode cX7_enact 55 = .ok (.aload_n 0, 1) := by decide +kernel
theorem dX7_enact_56 : decode cX7_enact 56 = .ok (.getfield 23, 3) := by decide +kernel
theorem dX7_enact_59 : decode cX7_enact 59 = .ok (.invokevirtual 354, 3) := by decide +kernel
theorem dX7_enact_62 : decode cX7_enact 62 = .ok (.ireturn, 1) := by decide +kernel
theorem dX7_relive_0 : decode cX7_relive 0 = .ok (.aload_n 0, 1) := by decide +kernel
theorem dX7_relive_1 : decode cX7_relive 1 = .ok (.getfield 23, 3) := by decide +kernel
theorem dX7_relive_4 : decode cX7_relive 4 = .ok (.invokevirtual 120, 3) := by decide +kernel
theorem dX7_relive_7 : decode cX7_relive 7 = .ok (.iconst 0, 1) := by decide +kernel
theorem dX7_relive_8 : decode cX7_relive 8 = .ok (.istore_n 1, 1) := by decide +kernel
theorem dX7_relive_9 : decode cX7_relive 9 = .ok (.iload_n 1, 1) := by decide +kernel
theorem dX7_relive_10 : decode cX7_relive 10 = .ok (.aload_n 0, 1) := by decide +kernel
theorem dX7_relive_11 : decode cX7_relive 11 = .ok (.getfield 30, 3) := by decide +kernel
theorem dX7_relive_14 : decode cX7_relive 14 = .ok (.getfield 34, 3) := by decide +kernel
theorem dX7_relive_17 : decode cX7_relive 17 = .ok (.if_icmp .ge 38, 3) := by decide +kernel
theorem dX7_relive_20 : decode cX7_relive 20 = .ok (.aload_n 0, 1) := by decide +kernel
theorem dX7_relive_21 : decode cX7_relive 21 = .ok (.aload_n 0, 1) := by decide +kernel
theorem dX7_relive_22 : decode cX7_relive 22 = .ok (.getfield 30, 3) := by decide +kernel
theorem dX7_relive_25 : decode cX7_relive 25 = .ok (.iload_n 1, 1) := by decide +kernel
theorem dX7_relive_26 : decode cX7_relive 26 = .ok (.invokevirtual 357, 3) := by decide +kernel
theorem dX7_relive_29 : decode cX7_relive 29 = .ok (.aload_n 0, 1) := by decide +kernel
theorem dX7_relive_30 : decode cX7_relive 30 = .ok (.getfield 30, 3) := by decide +kernel
theorem dX7_relive_33 : decode cX7_relive 33 = .ok (.iload_n 1, 1) := by decide +kernel
theorem dX7_relive_34 : decode cX7_relive 34 = .ok (.invokevirtual 360, 3) := by decide +kernel
theorem dX7_relive_37 : decode cX7_relive 37 = .ok (.aload_n 0, 1) := by decide +kernel
theorem dX7_relive_38 : decode cX7_relive 38 = .ok (.getfield 30, 3) := by decide +kernel
theorem dX7_relive_41 : decode cX7_relive 41 = .ok (.iload_n 1, 1) := by decide +kernel
theorem dX7_relive_42 : decode cX7_relive 42 = .ok (.invokevirtual 363, 3) := by decide +kernel
theorem dX7_relive_45 : decode cX7_relive 45 = .ok (.invokevirtual 342, 3) := by decide +kernel
theorem dX7_relive_48 : decode cX7_relive 48 = .ok (.pop, 1) := by decide +kernel
theorem dX7_relive_49 : decode cX7_relive 49 = .ok (.iinc 1 1, 3) := by decide +kernel
theorem dX7_relive_52 : decode cX7_relive 52 = .ok (.goto (-43), 3) := by decide +kernel
theorem dX7_relive_55 : decode cX7_relive 55 = .ok (.return_, 1) := by decide +kernel
theorem dX7_performLot_0 : decode cX7_performLot 0 = .ok (.iload_n 1, 1) := by decide +kernel
theorem dX7_performLot_1 : decode cX7_performLot 1 = .ok (.bipush 8, 2) := by decide +kernel
theorem dX7_performLot_3 : decode cX7_performLot 3 = .ok (.idiv, 1) := by decide +kernel
theorem dX7_performLot_4 : decode cX7_performLot 4 = .ok (.bipush 8, 2) := by decide +kernel
theorem dX7_performLot_6 : decode cX7_performLot 6 = .ok (.irem, 1) := by decide +kernel
theorem dX7_performLot_7 : decode cX7_performLot 7 = .ok (.tableswitch 68 0 2 #[25, 36, 57], 25) := by decide +kernel
theorem dX7_performLot_32 : decode cX7_performLot 32 = .ok (.aload_n 0, 1) := by decide +kernel
theorem dX7_performLot_33 : decode cX7_performLot 33 = .ok (.iconst 1, 1) := by decide +kernel
theorem dX7_performLot_34 : decode cX7_performLot 34 = .ok (.iconst 0, 1) := by decide +kernel
theorem dX7_performLot_35 : decode cX7_performLot 35 = .ok (.iconst 0, 1) := by decide +kernel
theorem dX7_performLot_36 : decode cX7_performLot 36 = .ok (.invokevirtual 173, 3) := by decide +kernel
theorem dX7_performLot_39 : decode cX7_performLot 39 = .ok (.pop, 1) := by decide +kernel
theorem dX7_performLot_40 : decode cX7_performLot 40 = .ok (.goto 59, 3) := by decide +kernel
theorem dX7_performLot_43 : decode cX7_performLot 43 = .ok (.aload_n 0, 1) := by decide +kernel
theorem dX7_performLot_44 : decode cX7_performLot 44 = .ok (.iconst 2, 1) := by decide +kernel
theorem dX7_performLot_45 : decode cX7_performLot 45 = .ok (.iload_n 1, 1) := by decide +kernel
theorem dX7_performLot_46 : decode cX7_performLot 46 = .ok (.aload_n 0, 1) := by decide +kernel
theorem dX7_performLot_47 : decode cX7_performLot 47 = .ok (.getfield 23, 3) := by decide +kernel
theorem dX7_performLot_50 : decode cX7_performLot 50 = .ok (.getfield 204, 3) := by decide +kernel
theorem dX7_performLot_53 : decode cX7_performLot 53 = .ok (.invokestatic 366, 3) := by decide +kernel
theorem dX7_performLot_56 : decode cX7_performLot 56 = .ok (.iconst 0, 1) := by decide +kernel
theorem dX7_performLot_57 : decode cX7_performLot 57 = .ok (.invokevirtual 173, 3) := by decide +kernel
theorem dX7_performLot_60 : decode cX7_performLot 60 = .ok (.pop, 1) := by decide +kernel
theorem dX7_performLot_61 : decode cX7_performLot 61 = .ok (.goto 38, 3) := by decide +kernel
theorem dX7_performLot_64 : decode cX7_performLot 64 = .ok (.aload_n 0, 1) := by decide +kernel
theorem dX7_performLot_65 : decode cX7_performLot 65 = .ok (.iconst 3, 1) := by decide +kernel
theorem dX7_performLot_66 : decode cX7_performLot 66 = .ok (.iconst 0, 1) := by decide +kernel
theorem dX7_performLot_67 : decode cX7_performLot 67 = .ok (.iconst 0, 1) := by decide +kernel
theorem dX7_performLot_68 : decode cX7_performLot 68 = .ok (.invokevirtual 173, 3) := by decide +kernel
theorem dX7_performLot_71 : decode cX7_performLot 71 = .ok (.pop, 1) := by decide +kernel
theorem dX7_performLot_72 : decode cX7_performLot 72 = .ok (.goto 27, 3) := by decide +kernel
theorem dX7_performLot_75 : decode cX7_performLot 75 = .ok (.aload_n 0, 1) := by decide +kernel
theorem dX7_performLot_76 : decode cX7_performLot 76 = .ok (.iconst 0, 1) := by decide +kernel
theorem dX7_performLot_77 : decode cX7_performLot 77 = .ok (.iload_n 1, 1) := by decide +kernel
theorem dX7_performLot_78 : decode cX7_performLot 78 = .ok (.aload_n 0, 1) := by decide +kernel
theorem dX7_performLot_79 : decode cX7_performLot 79 = .ok (.getfield 23, 3) := by decide +kernel
theorem dX7_performLot_82 : decode cX7_performLot 82 = .ok (.getfield 123, 3) := by decide +kernel
theorem dX7_performLot_85 : decode cX7_performLot 85 = .ok (.invokestatic 366, 3) := by decide +kernel
theorem dX7_performLot_88 : decode cX7_performLot 88 = .ok (.iload_n 1, 1) := by decide +kernel
theorem dX7_performLot_89 : decode cX7_performLot 89 = .ok (.bipush 64, 2) := by decide +kernel
theorem dX7_performLot_91 : decode cX7_performLot 91 = .ok (.idiv, 1) := by decide +kernel
theorem dX7_performLot_92 : decode cX7_performLot 92 = .ok (.bipush 100, 2) := by decide +kernel
theorem dX7_performLot_94 : decode cX7_performLot 94 = .ok (.irem, 1) := by decide +kernel
theorem dX7_performLot_95 : decode cX7_performLot 95 = .ok (.invokevirtual 173, 3) := by decide +kernel
theorem dX7_performLot_98 : decode cX7_performLot 98 = .ok (.pop, 1) := by decide +kernel
theorem dX7_performLot_99 : decode cX7_performLot 99 = .ok (.return_, 1) := by decide +kernel
theorem dX7_remainder_0 : decode cX7_remainder 0 = .ok (.iload_n 1, 1) := by decide +kernel
theorem dX7_remainder_1 : decode cX7_remainder 1 = .ok (.ifCond .le 9, 3) := by decide +kernel
theorem dX7_remainder_4 : decode cX7_remainder 4 = .ok (.iload_n 0, 1) := by decide +kernel
theorem dX7_remainder_5 : decode cX7_remainder 5 = .ok (.iload_n 1, 1) := by decide +kernel
theorem dX7_remainder_6 : decode cX7_remainder 6 = .ok (.irem, 1) := by decide +kernel
theorem dX7_remainder_7 : decode cX7_remainder 7 = .ok (.goto 4, 3) := by decide +kernel
theorem dX7_remainder_10 : decode cX7_remainder 10 = .ok (.iconst 0, 1) := by decide +kernel
theorem dX7_remainder_11 : decode cX7_remainder 11 = .ok (.ireturn, 1) := by decide +kernel
theorem dX7_lineBreath_0 : decode cX7_lineBreath 0 = .ok (.iconst 0, 1) := by decide +kernel
theorem dX7_lineBreath_1 : decode cX7_lineBreath 1 = .ok (.istore_n 3, 1) := by decide +kernel
theorem dX7_lineBreath_2 : decode cX7_lineBreath 2 = .ok (.iload_n 1, 1) := by decide +kernel
theorem dX7_lineBreath_3 : decode cX7_lineBreath 3 = .ok (.istore 4, 2) := by decide +kernel
theorem dX7_lineBreath_5 : decode cX7_lineBreath 5 = .ok (.iconst 0, 1) := by decide +kernel
theorem dX7_lineBreath_6 : decode cX7_lineBreath 6 = .ok (.istore 5, 2) := by decide +kernel
theorem dX7_lineBreath_8 : decode cX7_lineBreath 8 = .ok (.iload 5, 2) := by decide +kernel
theorem dX7_lineBreath_10 : decode cX7_lineBreath 10 = .ok (.iload_n 2, 1) := by decide +kernel
theorem dX7_lineBreath_11 : decode cX7_lineBreath 11 = .ok (.if_icmp .ge 49, 3) := by decide +kernel
theorem dX7_lineBreath_14 : decode cX7_lineBreath 14 = .ok (.aload_n 0, 1) := by decide +kernel
theorem dX7_lineBreath_15 : decode cX7_lineBreath 15 = .ok (.getfield 23, 3) := by decide +kernel
theorem dX7_lineBreath_18 : decode cX7_lineBreath 18 = .ok (.getfield 123, 3) := by decide +kernel
theorem dX7_lineBreath_21 : decode cX7_lineBreath 21 = .ok (.ifCond .le 39, 3) := by decide +kernel
theorem dX7_lineBreath_24 : decode cX7_lineBreath 24 = .ok (.iload_n 3, 1) := by decide +kernel
theorem dX7_lineBreath_25 : decode cX7_lineBreath 25 = .ok (.aload_n 0, 1) := by decide +kernel
theorem dX7_lineBreath_26 : decode cX7_lineBreath 26 = .ok (.getfield 49, 3) := by decide +kernel
theorem dX7_lineBreath_29 : decode cX7_lineBreath 29 = .ok (.iload 4, 2) := by decide +kernel
theorem dX7_lineBreath_31 : decode cX7_lineBreath 31 = .ok (.aload_n 0, 1) := by decide +kernel
theorem dX7_lineBreath_32 : decode cX7_lineBreath 32 = .ok (.getfield 23, 3) := by decide +kernel
theorem dX7_lineBreath_35 : decode cX7_lineBreath 35 = .ok (.getfield 123, 3) := by decide +kernel
theorem dX7_lineBreath_38 : decode cX7_lineBreath 38 = .ok (.irem, 1) := by decide +kernel
theorem dX7_lineBreath_39 : decode cX7_lineBreath 39 = .ok (.iaload, 1) := by decide +kernel
theorem dX7_lineBreath_40 : decode cX7_lineBreath 40 = .ok (.iadd, 1) := by decide +kernel
theorem dX7_lineBreath_41 : decode cX7_lineBreath 41 = .ok (.istore_n 3, 1) := by decide +kernel
theorem dX7_lineBreath_42 : decode cX7_lineBreath 42 = .ok (.iload 4, 2) := by decide +kernel
theorem dX7_lineBreath_44 : decode cX7_lineBreath 44 = .ok (.aload_n 0, 1) := by decide +kernel
theorem dX7_lineBreath_45 : decode cX7_lineBreath 45 = .ok (.getfield 23, 3) := by decide +kernel
theorem dX7_lineBreath_48 : decode cX7_lineBreath 48 = .ok (.getfield 123, 3) := by decide +kernel
theorem dX7_lineBreath_51 : decode cX7_lineBreath 51 = .ok (.idiv, 1) := by decide +kernel
theorem dX7_lineBreath_52 : decode cX7_lineBreath 52 = .ok (.istore 4, 2) := by decide +kernel
theorem dX7_lineBreath_54 : decode cX7_lineBreath 54 = .ok (.iinc 5 1, 3) := by decide +kernel
theorem dX7_lineBreath_57 : decode cX7_lineBreath 57 = .ok (.goto (-49), 3) := by decide +kernel
theorem dX7_lineBreath_60 : decode cX7_lineBreath 60 = .ok (.iload_n 3, 1) := by decide +kernel
theorem dX7_lineBreath_61 : decode cX7_lineBreath 61 = .ok (.ireturn, 1) := by decide +kernel
theorem dX7_writeLine_0 : decode cX7_writeLine 0 = .ok (.aload_n 1, 1) := by decide +kernel
theorem dX7_writeLine_1 : decode cX7_writeLine 1 = .ok (.iload_n 3, 1) := by decide +kernel
theorem dX7_writeLine_2 : decode cX7_writeLine 2 = .ok (.iconst 0, 1) := by decide +kernel
theorem dX7_writeLine_3 : decode cX7_writeLine 3 = .ok (.invokevirtual 330, 3) := by decide +kernel
theorem dX7_writeLine_6 : decode cX7_writeLine 6 = .ok (.iload_n 2, 1) := by decide +kernel
theorem dX7_writeLine_7 : decode cX7_writeLine 7 = .ok (.istore 4, 2) := by decide +kernel
theorem dX7_writeLine_9 : decode cX7_writeLine 9 = .ok (.iload_n 3, 1) := by decide +kernel
theorem dX7_writeLine_10 : decode cX7_writeLine 10 = .ok (.iconst 1, 1) := by decide +kernel
theorem dX7_writeLine_11 : decode cX7_writeLine 11 = .ok (.isub, 1) := by decide +kernel
theorem dX7_writeLine_12 : decode cX7_writeLine 12 = .ok (.istore 5, 2) := by decide +kernel
theorem dX7_writeLine_14 : decode cX7_writeLine 14 = .ok (.iload 5, 2) := by decide +kernel
theorem dX7_writeLine_16 : decode cX7_writeLine 16 = .ok (.ifCond .lt 47, 3) := by decide +kernel
theorem dX7_writeLine_19 : decode cX7_writeLine 19 = .ok (.aload_n 0, 1) := by decide +kernel
theorem dX7_writeLine_20 : decode cX7_writeLine 20 = .ok (.getfield 23, 3) := by decide +kernel
theorem dX7_writeLine_23 : decode cX7_writeLine 23 = .ok (.getfield 123, 3) := by decide +kernel
theorem dX7_writeLine_26 : decode cX7_writeLine 26 = .ok (.ifCond .le 37, 3) := by decide +kernel
theorem dX7_writeLine_29 : decode cX7_writeLine 29 = .ok (.aload_n 1, 1) := by decide +kernel
theorem dX7_writeLine_30 : decode cX7_writeLine 30 = .ok (.iload 5, 2) := by decide +kernel
theorem dX7_writeLine_32 : decode cX7_writeLine 32 = .ok (.iload 4, 2) := by decide +kernel
theorem dX7_writeLine_34 : decode cX7_writeLine 34 = .ok (.aload_n 0, 1) := by decide +kernel
theorem dX7_writeLine_35 : decode cX7_writeLine 35 = .ok (.getfield 23, 3) := by decide +kernel
theorem dX7_writeLine_38 : decode cX7_writeLine 38 = .ok (.getfield 123, 3) := by decide +kernel
theorem dX7_writeLine_41 : decode cX7_writeLine 41 = .ok (.irem, 1) := by decide +kernel
theorem dX7_writeLine_42 : decode cX7_writeLine 42 = .ok (.invokevirtual 85, 3) := by decide +kernel
theorem dX7_writeLine_45 : decode cX7_writeLine 45 = .ok (.iload 4, 2) := by decide +kernel
theorem dX7_writeLine_47 : decode cX7_writeLine 47 = .ok (.aload_n 0, 1) := by decide +kernel
theorem dX7_writeLine_48 : decode cX7_writeLine 48 = .ok (.getfield 23, 3) := by decide +kernel
theorem dX7_writeLine_51 : decode cX7_writeLine 51 = .ok (.getfield 123, 3) := by decide +kernel
theorem dX7_writeLine_54 : decode cX7_writeLine 54 = .ok (.idiv, 1) := by decide +kernel
theorem dX7_writeLine_55 : decode cX7_writeLine 55 = .ok (.istore 4, 2) := by decide +kernel
theorem dX7_writeLine_57 : decode cX7_writeLine 57 = .ok (.iinc 5 (-1), 3) := by decide +kernel
theorem dX7_writeLine_60 : decode cX7_writeLine 60 = .ok (.goto (-46), 3) := by decide +kernel
theorem dX7_writeLine_63 : decode cX7_writeLine 63 = .ok (.return_, 1) := by decide +kernel
theorem dX7_weighBreaths_0 : decode cX7_weighBreaths 0 = .ok (.iconst 0, 1) := by decide +kernel
theorem dX7_weighBreaths_1 : decode cX7_weighBreaths 1 = .ok (.istore_n 2, 1) := by decide +kernel
theorem dX7_weighBreaths_2 : decode cX7_weighBreaths 2 = .ok (.iload_n 2, 1) := by decide +kernel
theorem dX7_weighBreaths_3 : decode cX7_weighBreaths 3 = .ok (.aload_n 0, 1) := by decide +kernel
theorem dX7_weighBreaths_4 : decode cX7_weighBreaths 4 = .ok (.getfield 23, 3) := by decide +kernel
theorem dX7_weighBreaths_7 : decode cX7_weighBreaths 7 = .ok (.getfield 123, 3) := by decide +kernel
theorem dX7_weighBreaths_10 : decode cX7_weighBreaths 10 = .ok (.if_icmp .ge 28, 3) := by decide +kernel
theorem dX7_weighBreaths_13 : decode cX7_weighBreaths 13 = .ok (.aload_n 0, 1) := by decide +kernel
theorem dX7_weighBreaths_14 : decode cX7_weighBreaths 14 = .ok (.getfield 49, 3) := by decide +kernel
theorem dX7_weighBreaths_17 : decode cX7_weighBreaths 17 = .ok (.iload_n 2, 1) := by decide +kernel
theorem dX7_weighBreaths_18 : decode cX7_weighBreaths 18 = .ok (.aload_n 0, 1) := by decide +kernel
theorem dX7_weighBreaths_19 : decode cX7_weighBreaths 19 = .ok (.getfield 23, 3) := by decide +kernel
theorem dX7_weighBreaths_22 : decode cX7_weighBreaths 22 = .ok (.getfield 140, 3) := by decide +kernel
theorem dX7_weighBreaths_25 : decode cX7_weighBreaths 25 = .ok (.iload_n 2, 1) := by decide +kernel
theorem dX7_weighBreaths_26 : decode cX7_weighBreaths 26 = .ok (.iaload, 1) := by decide +kernel
theorem dX7_weighBreaths_27 : decode cX7_weighBreaths 27 = .ok (.iload_n 1, 1) := by decide +kernel
theorem dX7_weighBreaths_28 : decode cX7_weighBreaths 28 = .ok (.invokestatic 188, 3) := by decide +kernel
theorem dX7_weighBreaths_31 : decode cX7_weighBreaths 31 = .ok (.iastore, 1) := by decide +kernel
theorem dX7_weighBreaths_32 : decode cX7_weighBreaths 32 = .ok (.iinc 2 1, 3) := by decide +kernel
theorem dX7_weighBreaths_35 : decode cX7_weighBreaths 35 = .ok (.goto (-33), 3) := by decide +kernel
theorem dX7_weighBreaths_38 : decode cX7_weighBreaths 38 = .ok (.return_, 1) := by decide +kernel
theorem dX7_setBreath_0 : decode cX7_setBreath 0 = .ok (.iconst 0, 1) := by decide +kernel
theorem dX7_setBreath_1 : decode cX7_setBreath 1 = .ok (.istore_n 2, 1) := by decide +kernel
theorem dX7_setBreath_2 : decode cX7_setBreath 2 = .ok (.iconst 0, 1) := by decide +kernel
theorem dX7_setBreath_3 : decode cX7_setBreath 3 = .ok (.istore_n 3, 1) := by decide +kernel
theorem dX7_setBreath_4 : decode cX7_setBreath 4 = .ok (.iload_n 3, 1) := by decide +kernel
theorem dX7_setBreath_5 : decode cX7_setBreath 5 = .ok (.aload_n 0, 1) := by decide +kernel
theorem dX7_setBreath_6 : decode cX7_setBreath 6 = .ok (.getfield 23, 3) := by decide +kernel
theorem dX7_setBreath_9 : decode cX7_setBreath 9 = .ok (.getfield 123, 3) := by decide +kernel
theorem dX7_setBreath_12 : decode cX7_setBreath 12 = .ok (.if_icmp .ge 24, 3) := by decide +kernel
theorem dX7_setBreath_15 : decode cX7_setBreath 15 = .ok (.iload_n 2, 1) := by decide +kernel
theorem dX7_setBreath_16 : decode cX7_setBreath 16 = .ok (.iload_n 1, 1) := by decide +kernel
theorem dX7_setBreath_17 : decode cX7_setBreath 17 = .ok (.iload_n 3, 1) := by decide +kernel
theorem dX7_setBreath_18 : decode cX7_setBreath 18 = .ok (.ishr, 1) := by decide +kernel
theorem dX7_setBreath_19 : decode cX7_setBreath 19 = .ok (.iconst 1, 1) := by decide +kernel
theorem dX7_setBreath_20 : decode cX7_setBreath 20 = .ok (.iand, 1) := by decide +kernel
theorem dX7_setBreath_21 : decode cX7_setBreath 21 = .ok (.aload_n 0, 1) := by decide +kernel
theorem dX7_setBreath_22 : decode cX7_setBreath 22 = .ok (.getfield 49, 3) := by decide +kernel
theorem dX7_setBreath_25 : decode cX7_setBreath 25 = .ok (.iload_n 3, 1) := by decide +kernel
theorem dX7_setBreath_26 : decode cX7_setBreath 26 = .ok (.iaload, 1) := by decide +kernel
theorem dX7_setBreath_27 : decode cX7_setBreath 27 = .ok (.imul, 1) := by decide +kernel
theorem dX7_setBreath_28 : decode cX7_setBreath 28 = .ok (.iadd, 1) := by decide +kernel
theorem dX7_setBreath_29 : decode cX7_setBreath 29 = .ok (.istore_n 2, 1) := by decide +kernel
theorem dX7_setBreath_30 : decode cX7_setBreath 30 = .ok (.iinc 3 1, 3) := by decide +kernel
theorem dX7_setBreath_33 : decode cX7_setBreath 33 = .ok (.goto (-29), 3) := by decide +kernel
theorem dX7_setBreath_36 : decode cX7_setBreath 36 = .ok (.iload_n 2, 1) := by decide +kernel
theorem dX7_setBreath_37 : decode cX7_setBreath 37 = .ok (.ireturn, 1) := by decide +kernel
theorem dX7_setsWith_0 : decode cX7_setsWith 0 = .ok (.iconst 0, 1) := by decide +kernel
theorem dX7_setsWith_1 : decode cX7_setsWith 1 = .ok (.istore_n 3, 1) := by decide +kernel
theorem dX7_setsWith_2 : decode cX7_setsWith 2 = .ok (.iconst 0, 1) := by decide +kernel
theorem dX7_setsWith_3 : decode cX7_setsWith 3 = .ok (.istore 4, 2) := by decide +kernel
theorem dX7_setsWith_5 : decode cX7_setsWith 5 = .ok (.iload 4, 2) := by decide +kernel
theorem dX7_setsWith_7 : decode cX7_setsWith 7 = .ok (.iconst 1, 1) := by decide +kernel
theorem dX7_setsWith_8 : decode cX7_setsWith 8 = .ok (.aload_n 0, 1) := by decide +kernel
theorem dX7_setsWith_9 : decode cX7_setsWith 9 = .ok (.getfield 23, 3) := by decide +kernel
theorem dX7_setsWith_12 : decode cX7_setsWith 12 = .ok (.getfield 123, 3) := by decide +kernel
theorem dX7_setsWith_15 : decode cX7_setsWith 15 = .ok (.ishl, 1) := by decide +kernel
theorem dX7_setsWith_16 : decode cX7_setsWith 16 = .ok (.if_icmp .ge 30, 3) := by decide +kernel
theorem dX7_setsWith_19 : decode cX7_setsWith 19 = .ok (.iload 4, 2) := by decide +kernel
theorem dX7_setsWith_21 : decode cX7_setsWith 21 = .ok (.iload_n 1, 1) := by decide +kernel
theorem dX7_setsWith_22 : decode cX7_setsWith 22 = .ok (.iand, 1) := by decide +kernel
theorem dX7_setsWith_23 : decode cX7_setsWith 23 = .ok (.iload_n 1, 1) := by decide +kernel
theorem dX7_setsWith_24 : decode cX7_setsWith 24 = .ok (.if_icmp .ne 16, 3) := by decide +kernel
theorem dX7_setsWith_27 : decode cX7_setsWith 27 = .ok (.aload_n 0, 1) := by decide +kernel
theorem dX7_setsWith_28 : decode cX7_setsWith 28 = .ok (.iload 4, 2) := by decide +kernel
theorem dX7_setsWith_30 : decode cX7_setsWith 30 = .ok (.invokevirtual 369, 3) := by decide +kernel
theorem dX7_setsWith_33 : decode cX7_setsWith 33 = .ok (.iload_n 2, 1) := by decide +kernel
theorem dX7_setsWith_34 : decode cX7_setsWith 34 = .ok (.if_icmp .ne 6, 3) := by decide +kernel
theorem dX7_setsWith_37 : decode cX7_setsWith 37 = .ok (.iinc 3 1, 3) := by decide +kernel
theorem dX7_setsWith_40 : decode cX7_setsWith 40 = .ok (.iinc 4 1, 3) := by decide +kernel
theorem dX7_setsWith_43 : decode cX7_setsWith 43 = .ok (.goto (-38), 3) := by decide +kernel
theorem dX7_setsWith_46 : decode cX7_setsWith 46 = .ok (.iload_n 3, 1) := by decide +kernel
theorem dX7_setsWith_47 : decode cX7_setsWith 47 = .ok (.ireturn, 1) := by decide +kernel
theorem dX7_firstSet_0 : decode cX7_firstSet 0 = .ok (.iconst 0, 1) := by decide +kernel
theorem dX7_firstSet_1 : decode cX7_firstSet 1 = .ok (.istore_n 2, 1) := by decide +kernel
theorem dX7_firstSet_2 : decode cX7_firstSet 2 = .ok (.iload_n 2, 1) := by decide +kernel
theorem dX7_firstSet_3 : decode cX7_firstSet 3 = .ok (.iconst 1, 1) := by decide +kernel
theorem dX7_firstSet_4 : decode cX7_firstSet 4 = .ok (.aload_n 0, 1) := by decide +kernel
theorem dX7_firstSet_5 : decode cX7_firstSet 5 = .ok (.getfield 23, 3) := by decide +kernel
theorem dX7_firstSet_8 : decode cX7_firstSet 8 = .ok (.getfield 123, 3) := by decide +kernel
theorem dX7_firstSet_11 : decode cX7_firstSet 11 = .ok (.ishl, 1) := by decide +kernel
theorem dX7_firstSet_12 : decode cX7_firstSet 12 = .ok (.if_icmp .ge 20, 3) := by decide +kernel
theorem dX7_firstSet_15 : decode cX7_firstSet 15 = .ok (.aload_n 0, 1) := by decide +kernel
theorem dX7_firstSet_16 : decode cX7_firstSet 16 = .ok (.iload_n 2, 1) := by decide +kernel
theorem dX7_firstSet_17 : decode cX7_firstSet 17 = .ok (.invokevirtual 369, 3) := by decide +kernel
theorem dX7_firstSet_20 : decode cX7_firstSet 20 = .ok (.iload_n 1, 1) := by decide +kernel
theorem dX7_firstSet_21 : decode cX7_firstSet 21 = .ok (.if_icmp .ne 5, 3) := by decide +kernel
theorem dX7_firstSet_24 : decode cX7_firstSet 24 = .ok (.iload_n 2, 1) := by decide +kernel
theorem dX7_firstSet_25 : decode cX7_firstSet 25 = .ok (.ireturn, 1) := by decide +kernel
theorem dX7_firstSet_26 : decode cX7_firstSet 26 = .ok (.iinc 2 1, 3) := by decide +kernel
theorem dX7_firstSet_29 : decode cX7_firstSet 29 = .ok (.goto (-27), 3) := by decide +kernel
theorem dX7_firstSet_32 : decode cX7_firstSet 32 = .ok (.bipush (-9), 2) := by decide +kernel
theorem dX7_firstSet_34 : decode cX7_firstSet 34 = .ok (.ireturn, 1) := by decide +kernel
theorem dX7_tellWorth_0 : decode cX7_tellWorth 0 = .ok (.aload_n 0, 1) := by decide +kernel
theorem dX7_tellWorth_1 : decode cX7_tellWorth 1 = .ok (.getfield 53, 3) := by decide +kernel
theorem dX7_tellWorth_4 : decode cX7_tellWorth 4 = .ok (.iload_n 1, 1) := by decide +kernel
theorem dX7_tellWorth_5 : decode cX7_tellWorth 5 = .ok (.laload, 1) := by decide +kernel
theorem dX7_tellWorth_6 : decode cX7_tellWorth 6 = .ok (.lstore_n 3, 1) := by decide +kernel
theorem dX7_tellWorth_7 : decode cX7_tellWorth 7 = .ok (.lconst 1, 1) := by decide +kernel
theorem dX7_tellWorth_8 : decode cX7_tellWorth 8 = .ok (.lstore 5, 2) := by decide +kernel
theorem dX7_tellWorth_10 : decode cX7_tellWorth 10 = .ok (.iload_n 1, 1) := by decide +kernel
theorem dX7_tellWorth_11 : decode cX7_tellWorth 11 = .ok (.iconst 1, 1) := by decide +kernel
theorem dX7_tellWorth_12 : decode cX7_tellWorth 12 = .ok (.isub, 1) := by decide +kernel
theorem dX7_tellWorth_13 : decode cX7_tellWorth 13 = .ok (.istore 7, 2) := by decide +kernel
theorem dX7_tellWorth_15 : decode cX7_tellWorth 15 = .ok (.iload 7, 2) := by decide +kernel
theorem dX7_tellWorth_17 : decode cX7_tellWorth 17 = .ok (.ifCond .lt 39, 3) := by decide +kernel
theorem dX7_tellWorth_20 : decode cX7_tellWorth 20 = .ok (.iload_n 2, 1) := by decide +kernel
theorem dX7_tellWorth_21 : decode cX7_tellWorth 21 = .ok (.i2l, 1) := by decide +kernel
theorem dX7_tellWorth_22 : decode cX7_tellWorth 22 = .ok (.aload_n 0, 1) := by decide +kernel
theorem dX7_tellWorth_23 : decode cX7_tellWorth 23 = .ok (.getfield 53, 3) := by decide +kernel
theorem dX7_tellWorth_26 : decode cX7_tellWorth 26 = .ok (.iload 7, 2) := by decide +kernel
theorem dX7_tellWorth_28 : decode cX7_tellWorth 28 = .ok (.laload, 1) := by decide +kernel
theorem dX7_tellWorth_29 : decode cX7_tellWorth 29 = .ok (.lmul, 1) := by decide +kernel
theorem dX7_tellWorth_30 : decode cX7_tellWorth 30 = .ok (.lload 5, 2) := by decide +kernel
theorem dX7_tellWorth_32 : decode cX7_tellWorth 32 = .ok (.lmul, 1) := by decide +kernel
theorem dX7_tellWorth_33 : decode cX7_tellWorth 33 = .ok (.bipush 12, 2) := by decide +kernel
theorem dX7_tellWorth_35 : decode cX7_tellWorth 35 = .ok (.iload_n 2, 1) := by decide +kernel
theorem dX7_tellWorth_36 : decode cX7_tellWorth 36 = .ok (.isub, 1) := by decide +kernel
theorem dX7_tellWorth_37 : decode cX7_tellWorth 37 = .ok (.i2l, 1) := by decide +kernel
theorem dX7_tellWorth_38 : decode cX7_tellWorth 38 = .ok (.lload_n 3, 1) := by decide +kernel
theorem dX7_tellWorth_39 : decode cX7_tellWorth 39 = .ok (.lmul, 1) := by decide +kernel
theorem dX7_tellWorth_40 : decode cX7_tellWorth 40 = .ok (.ladd, 1) := by decide +kernel
theorem dX7_tellWorth_41 : decode cX7_tellWorth 41 = .ok (.lstore_n 3, 1) := by decide +kernel
theorem dX7_tellWorth_42 : decode cX7_tellWorth 42 = .ok (.lload 5, 2) := by decide +kernel
theorem dX7_tellWorth_44 : decode cX7_tellWorth 44 = .ok (.ldc2_w 372, 3) := by decide +kernel
theorem dX7_tellWorth_47 : decode cX7_tellWorth 47 = .ok (.lmul, 1) := by decide +kernel
theorem dX7_tellWorth_48 : decode cX7_tellWorth 48 = .ok (.lstore 5, 2) := by decide +kernel
theorem dX7_tellWorth_50 : decode cX7_tellWorth 50 = .ok (.iinc 7 (-1), 3) := by decide +kernel
theorem dX7_tellWorth_53 : decode cX7_tellWorth 53 = .ok (.goto (-38), 3) := by decide +kernel
theorem dX7_tellWorth_56 : decode cX7_tellWorth 56 = .ok (.aload_n 0, 1) := by decide +kernel
theorem dX7_tellWorth_57 : decode cX7_tellWorth 57 = .ok (.lload_n 3, 1) := by decide +kernel
theorem dX7_tellWorth_58 : decode cX7_tellWorth 58 = .ok (.lload 5, 2) := by decide +kernel
theorem dX7_tellWorth_60 : decode cX7_tellWorth 60 = .ok (.invokevirtual 235, 3) := by decide +kernel
theorem dX7_tellWorth_63 : decode cX7_tellWorth 63 = .ok (.return_, 1) := by decide +kernel
theorem dX7_tell_0 : decode cX7_tell 0 = .ok (.lload_n 1, 1) := by decide +kernel
theorem dX7_tell_1 : decode cX7_tell 1 = .ok (.lload_n 3, 1) := by decide +kernel
theorem dX7_tell_2 : decode cX7_tell 2 = .ok (.invokestatic 374, 3) := by decide +kernel
theorem dX7_tell_5 : decode cX7_tell 5 = .ok (.lstore 5, 2) := by decide +kernel
theorem dX7_tell_7 : decode cX7_tell 7 = .ok (.lload 5, 2) := by decide +kernel
theorem dX7_tell_9 : decode cX7_tell 9 = .ok (.lconst 0, 1) := by decide +kernel
theorem dX7_tell_10 : decode cX7_tell 10 = .ok (.lcmp, 1) := by decide +kernel
theorem dX7_tell_11 : decode cX7_tell 11 = .ok (.ifCond .le 19, 3) := by decide +kernel
theorem dX7_tell_14 : decode cX7_tell 14 = .ok (.aload_n 0, 1) := by decide +kernel
theorem dX7_tell_15 : decode cX7_tell 15 = .ok (.lload_n 1, 1) := by decide +kernel
theorem dX7_tell_16 : decode cX7_tell 16 = .ok (.lload 5, 2) := by decide +kernel
theorem dX7_tell_18 : decode cX7_tell 18 = .ok (.ldiv, 1) := by decide +kernel
theorem dX7_tell_19 : decode cX7_tell 19 = .ok (.putfield 289, 3) := by decide +kernel
theorem dX7_tell_22 : decode cX7_tell 22 = .ok (.aload_n 0, 1) := by decide +kernel
theorem dX7_tell_23 : decode cX7_tell 23 = .ok (.lload_n 3, 1) := by decide +kernel
theorem dX7_tell_24 : decode cX7_tell 24 = .ok (.lload 5, 2) := by decide +kernel
theorem dX7_tell_26 : decode cX7_tell 26 = .ok (.ldiv, 1) := by decide +kernel
theorem dX7_tell_27 : decode cX7_tell 27 = .ok (.putfield 60, 3) := by decide +kernel
theorem dX7_tell_30 : decode cX7_tell 30 = .ok (.return_, 1) := by decide +kernel
theorem dX7_commonDivisor_0 : decode cX7_commonDivisor 0 = .ok (.lload_n 0, 1) := by decide +kernel
theorem dX7_commonDivisor_1 : decode cX7_commonDivisor 1 = .ok (.lstore 4, 2) := by decide +kernel
theorem dX7_commonDivisor_3 : decode cX7_commonDivisor 3 = .ok (.lload_n 2, 1) := by decide +kernel
theorem dX7_commonDivisor_4 : decode cX7_commonDivisor 4 = .ok (.lstore 6, 2) := by decide +kernel
theorem dX7_commonDivisor_6 : decode cX7_commonDivisor 6 = .ok (.iconst 0, 1) := by decide +kernel
theorem dX7_commonDivisor_7 : decode cX7_commonDivisor 7 = .ok (.istore 8, 2) := by decide +kernel
theorem dX7_commonDivisor_9 : decode cX7_commonDivisor 9 = .ok (.iload 8, 2) := by decide +kernel
theorem dX7_commonDivisor_11 : decode cX7_commonDivisor 11 = .ok (.sipush 200, 3) := by decide +kernel
theorem dX7_commonDivisor_14 : decode cX7_commonDivisor 14 = .ok (.if_icmp .ge 31, 3) := by decide +kernel
theorem dX7_commonDivisor_17 : decode cX7_commonDivisor 17 = .ok (.lload 6, 2) := by decide +kernel
theorem dX7_commonDivisor_19 : decode cX7_commonDivisor 19 = .ok (.lconst 0, 1) := by decide +kernel
theorem dX7_commonDivisor_20 : decode cX7_commonDivisor 20 = .ok (.lcmp, 1) := by decide +kernel
theorem dX7_commonDivisor_21 : decode cX7_commonDivisor 21 = .ok (.ifCond .eq 24, 3) := by decide +kernel
theorem dX7_commonDivisor_24 : decode cX7_commonDivisor 24 = .ok (.lload 4, 2) := by decide +kernel
theorem dX7_commonDivisor_26 : decode cX7_commonDivisor 26 = .ok (.lload 6, 2) := by decide +kernel
theorem dX7_commonDivisor_28 : decode cX7_commonDivisor 28 = .ok (.lrem, 1) := by decide +kernel
theorem dX7_commonDivisor_29 : decode cX7_commonDivisor 29 = .ok (.lstore 9, 2) := by decide +kernel
theorem dX7_commonDivisor_31 : decode cX7_commonDivisor 31 = .ok (.lload 6, 2) := by decide +kernel
theorem dX7_commonDivisor_33 : decode cX7_commonDivisor 33 = .ok (.lstore 4, 2) := by decide +kernel
theorem dX7_commonDivisor_35 : decode cX7_commonDivisor 35 = .ok (.lload 9, 2) := by decide +kernel
theorem dX7_commonDivisor_37 : decode cX7_commonDivisor 37 = .ok (.lstore 6, 2) := by decide +kernel
theorem dX7_commonDivisor_39 : decode cX7_commonDivisor 39 = .ok (.iinc 8 1, 3) := by decide +kernel
theorem dX7_commonDivisor_42 : decode cX7_commonDivisor 42 = .ok (.goto (-33), 3) := by decide +kernel
theorem dX7_commonDivisor_45 : decode cX7_commonDivisor 45 = .ok (.lload 4, 2) := by decide +kernel
theorem dX7_commonDivisor_47 : decode cX7_commonDivisor 47 = .ok (.lreturn, 1) := by decide +kernel
end
section
theorem dX8_init_0 : decode cX8_init 0 = .ok (.aload_n 0, 1) := by decide +kernel
theorem dX8_init_1 : decode cX8_init 1 = .ok (.invokespecial 1, 3) := by decide +kernel
theorem dX8_init_4 : decode cX8_init 4 = .ok (.aload_n 0, 1) := by decide +kernel
theorem dX8_init_5 : decode cX8_init 5 = .ok (.bipush 6, 2) := by decide +kernel
theorem dX8_init_7 : decode cX8_init 7 = .ok (.newarray .int, 2) := by decide +kernel
theorem dX8_init_9 : decode cX8_init 9 = .ok (.putfield 7, 3) := by decide +kernel
theorem dX8_init_12 : decode cX8_init 12 = .ok (.aload_n 0, 1) := by decide +kernel
theorem dX8_init_13 : decode cX8_init 13 = .ok (.sipush 240, 3) := by decide +kernel
theorem dX8_init_16 : decode cX8_init 16 = .ok (.newarray .int, 2) := by decide +kernel
theorem dX8_init_18 : decode cX8_init 18 = .ok (.putfield 13, 3) := by decide +kernel
theorem dX8_init_21 : decode cX8_init 21 = .ok (.aload_n 0, 1) := by decide +kernel
theorem dX8_init_22 : decode cX8_init 22 = .ok (.iconst 4, 1) := by decide +kernel
theorem dX8_init_23 : decode cX8_init 23 = .ok (.newarray .int, 2) := by decide +kernel
theorem dX8_init_25 : decode cX8_init 25 = .ok (.putfield 16, 3) := by decide +kernel
theorem dX8_init_28 : decode cX8_init 28 = .ok (.aload_n 0, 1) := by decide +kernel
theorem dX8_init_29 : decode cX8_init 29 = .ok (.sipush 240, 3) := by decide +kernel
theorem dX8_init_32 : decode cX8_init 32 = .ok (.newarray .int, 2) := by decide +kernel
theorem dX8_init_34 : decode cX8_init 34 = .ok (.putfield 19, 3) := by decide +kernel
theorem dX8_init_37 : decode cX8_init 37 = .ok (.aload_n 0, 1) := by decide +kernel
theorem dX8_init_38 : decode cX8_init 38 = .ok (.bipush 6, 2) := by decide +kernel
theorem dX8_init_40 : decode cX8_init 40 = .ok (.newarray .int, 2) := by decide +kernel
theorem dX8_init_42 : decode cX8_init 42 = .ok (.putfield 22, 3) := by decide +kernel
theorem dX8_init_45 : decode cX8_init 45 = .ok (.aload_n 0, 1) := by decide +kernel
theorem dX8_init_46 : decode cX8_init 46 = .ok (.lconst 1, 1) := by decide +kernel
theorem dX8_init_47 : decode cX8_init 47 = .ok (.putfield 25, 3) := by decide +kernel
theorem dX8_init_50 : decode cX8_init 50 = .ok (.aload_n 0, 1) := by decide +kernel
theorem dX8_init_51 : decode cX8_init 51 = .ok (.bipush 12, 2) := by decide +kernel
theorem dX8_init_53 : decode cX8_init 53 = .ok (.newarray .int, 2) := by decide +kernel
theorem dX8_init_55 : decode cX8_init 55 = .ok (.putfield 29, 3) := by decide +kernel
theorem dX8_init_58 : decode cX8_init 58 = .ok (.aload_n 0, 1) := by decide +kernel
theorem dX8_init_59 : decode cX8_init 59 = .ok (.bipush 6, 2) := by decide +kernel
theorem dX8_init_61 : decode cX8_init 61 = .ok (.newarray .int, 2) := by decide +kernel
theorem dX8_init_63 : decode cX8_init 63 = .ok (.putfield 32, 3) := by decide +kernel
theorem dX8_init_66 : decode cX8_init 66 = .ok (.aload_n 0, 1) := by decide +kernel
theorem dX8_init_67 : decode cX8_init 67 = .ok (.bipush 6, 2) := by decide +kernel
theorem dX8_init_69 : decode cX8_init 69 = .ok (.newarray .int, 2) := by decide +kernel
theorem dX8_init_71 : decode cX8_init 71 = .ok (.putfield 35, 3) := by decide +kernel
theorem dX8_init_74 : decode cX8_init 74 = .ok (.aload_n 0, 1) := by decide +kernel
theorem dX8_init_75 : decode cX8_init 75 = .ok (.bipush 17, 2) := by decide +kernel
theorem dX8_init_77 : decode cX8_init 77 = .ok (.newarray .int, 2) := by decide +kernel
theorem dX8_init_79 : decode cX8_init 79 = .ok (.putfield 38, 3) := by decide +kernel
theorem dX8_init_82 : decode cX8_init 82 = .ok (.aload_n 0, 1) := by decide +kernel
theorem dX8_init_83 : decode cX8_init 83 = .ok (.bipush 17, 2) := by decide +kernel
theorem dX8_init_85 : decode cX8_init 85 = .ok (.newarray .int, 2) := by decide +kernel
theorem dX8_init_87 : decode cX8_init 87 = .ok (.putfield 41, 3) := by decide +kernel
theorem dX8_init_90 : decode cX8_init 90 = .ok (.aload_n 0, 1) := by decide +kernel
theorem dX8_init_91 : decode cX8_init 91 = .ok (.sipush 680, 3) := by decide +kernel
theorem dX8_init_94 : decode cX8_init 94 = .ok (.newarray .int, 2) := by decide +kernel
theorem dX8_init_96 : decode cX8_init 96 = .ok (.putfield 44, 3) := by decide +kernel
theorem dX8_init_99 : decode cX8_init 99 = .ok (.aload_n 0, 1) := by decide +kernel
theorem dX8_init_100 : decode cX8_init 100 = .ok (.bipush 51, 2) := by decide +kernel
theorem dX8_init_102 : decode cX8_init 102 = .ok (.newarray .int, 2) := by decide +kernel
theorem dX8_init_104 : decode cX8_init 104 = .ok (.putfield 47, 3) := by decide +kernel
theorem dX8_init_107 : decode cX8_init 107 = .ok (.aload_n 0, 1) := by decide +kernel
theorem dX8_init_108 : decode cX8_init 108 = .ok (.sipush 2040, 3) := by decide +kernel
theorem dX8_init_111 : decode cX8_init 111 = .ok (.newarray .int, 2) := by decide +kernel
theorem dX8_init_113 : decode cX8_init 113 = .ok (.putfield 50, 3) := by decide +kernel
theorem dX8_init_116 : decode cX8_init 116 = .ok (.aload_n 0, 1) := by decide +kernel
theorem dX8_init_117 : decode cX8_init 117 = .ok (.iconst 3, 1) := by decide +kernel
theorem dX8_init_118 : decode cX8_init 118 = .ok (.newarray .int, 2) := by decide +kernel
theorem dX8_init_120 : decode cX8_init 120 = .ok (.putfield 53, 3) := by decide +kernel
theorem dX8_init_123 : decode cX8_init 123 = .ok (.iconst 0, 1) := by decide +kernel
theorem dX8_init_124 : decode cX8_init 124 = .ok (.istore_n 1, 1) := by decide +kernel
theorem dX8_init_125 : decode cX8_init 125 = .ok (.iload_n 1, 1) := by decide +kernel
theorem dX8_init_126 : decode cX8_init 126 = .ok (.bipush 6, 2) := by decide +kernel
theorem dX8_init_128 : decode cX8_init 128 = .ok (.if_icmp .ge 16, 3) := by decide +kernel
theorem dX8_init_131 : decode cX8_init 131 = .ok (.aload_n 0, 1) := by decide +kernel
theorem dX8_init_132 : decode cX8_init 132 = .ok (.getfield 7, 3) := by decide +kernel
theorem dX8_init_135 : decode cX8_init 135 = .ok (.iload_n 1, 1) := by decide +kernel
theorem dX8_init_136 : decode cX8_init 136 = .ok (.iconst (-1), 1) := by decide +kernel
theorem dX8_init_137 : decode cX8_init 137 = .ok (.iastore, 1) := by decide +kernel
theorem dX8_init_138 : decode cX8_init 138 = .ok (.iinc 1 1, 3) := by decide +kernel
theorem dX8_init_141 : decode cX8_init 141 = .ok (.goto (-16), 3) := by decide +kernel
theorem dX8_init_144 : decode cX8_init 144 = .ok (.iconst 0, 1) := by decide +kernel
theorem dX8_init_145 : decode cX8_init 145 = .ok (.istore_n 1, 1) := by decide +kernel
theorem dX8_init_146 : decode cX8_init 146 = .ok (.iload_n 1, 1) := by decide +kernel
theorem dX8_init_147 : decode cX8_init 147 = .ok (.iconst 4, 1) := by decide +kernel
theorem dX8_init_148 : decode cX8_init 148 = .ok (.if_icmp .ge 16, 3) := by decide +kernel
theorem dX8_init_151 : decode cX8_init 151 = .ok (.aload_n 0, 1) := by decide +kernel
theorem dX8_init_152 : decode cX8_init 152 = .ok (.getfield 16, 3) := by decide +kernel
theorem dX8_init_155 : decode cX8_init 155 = .ok (.iload_n 1, 1) := by decide +kernel
theorem dX8_init_156 : decode cX8_init 156 = .ok (.iconst (-1), 1) := by decide +kernel
theorem dX8_init_157 : decode cX8_init 157 = .ok (.iastore, 1) := by decide +kernel
theorem dX8_init_158 : decode cX8_init 158 = .ok (.iinc 1 1, 3) := by decide +kernel
theorem dX8_init_161 : decode cX8_init 161 = .ok (.goto (-15), 3) := by decide +kernel
theorem dX8_init_164 : decode cX8_init 164 = .ok (.iconst 0, 1) := by decide +kernel
theorem dX8_init_165 : decode cX8_init 165 = .ok (.istore_n 1, 1) := by decide +kernel
theorem dX8_init_166 : decode cX8_init 166 = .ok (.iload_n 1, 1) := by decide +kernel
theorem dX8_init_167 : decode cX8_init 167 = .ok (.iconst 3, 1) := by decide +kernel
theorem dX8_init_168 : decode cX8_init 168 = .ok (.if_icmp .ge 16, 3) := by decide +kernel
theorem dX8_init_171 : decode cX8_init 171 = .ok (.aload_n 0, 1) := by decide +kernel
theorem dX8_init_172 : decode cX8_init 172 = .ok (.getfield 53, 3) := by decide +kernel
theorem dX8_init_175 : decode cX8_init 175 = .ok (.iload_n 1, 1) := by decide +kernel
theorem dX8_init_176 : decode cX8_init 176 = .ok (.iconst (-1), 1) := by decide +kernel
theorem dX8_init_177 : decode cX8_init 177 = .ok (.iastore, 1) := by decide +kernel
theorem dX8_init_178 : decode cX8_init 178 = .ok (.iinc 1 1, 3) := by decide +kernel
theorem dX8_init_181 : decode cX8_init 181 = .ok (.goto (-15), 3) := by decide +kernel
theorem dX8_init_184 : decode cX8_init 184 = .ok (.return_, 1) := by decide +kernel
theorem dX8_in_0 : decode cX8_in 0 = .ok (.iload_n 0, 1) := by decide +kernel
theorem dX8_in_1 : decode cX8_in 1 = .ok (.iload_n 1, 1) := by decide +kernel
theorem dX8_in_2 : decode cX8_in 2 = .ok (.if_icmp .lt 12, 3) := by decide +kernel
theorem dX8_in_5 : decode cX8_in 5 = .ok (.iload_n 0, 1) := by decide +kernel
theorem dX8_in_6 : decode cX8_in 6 = .ok (.iload_n 2, 1) := by decide +kernel
theorem dX8_in_7 : decode cX8_in 7 = .ok (.if_icmp .gt 7, 3) := by decide +kernel
theorem dX8_in_10 : decode cX8_in 10 = .ok (.iconst 1, 1) := by decide +kernel
theorem dX8_in_11 : decode cX8_in 11 = .ok (.goto 4, 3) := by decide +kernel
theorem dX8_in_14 : decode cX8_in 14 = .ok (.iconst 0, 1) := by decide +kernel
theorem dX8_in_15 : decode cX8_in 15 = .ok (.ireturn, 1) := by decide +kernel
theorem dX8_has_0 : decode cX8_has 0 = .ok (.iload_n 0, 1) := by decide +kernel
theorem dX8_has_1 : decode cX8_has 1 = .ok (.iload_n 1, 1) := by decide +kernel
theorem dX8_has_2 : decode cX8_has 2 = .ok (.ishr, 1) := by decide +kernel
theorem dX8_has_3 : decode cX8_has 3 = .ok (.iconst 1, 1) := by decide +kernel
theorem dX8_has_4 : decode cX8_has 4 = .ok (.iand, 1) := by decide +kernel
theorem dX8_has_5 : decode cX8_has 5 = .ok (.iconst 1, 1) := by decide +kernel
theorem dX8_has_6 : decode cX8_has 6 = .ok (.if_icmp .ne 7, 3) := by decide +kernel
theorem dX8_has_9 : decode cX8_has 9 = .ok (.iconst 1, 1) := by decide +kernel
theorem dX8_has_10 : decode cX8_has 10 = .ok (.goto 4, 3) := by decide +kernel
theorem dX8_has_13 : decode cX8_has 13 = .ok (.iconst 0, 1) := by decide +kernel
theorem dX8_has_14 : decode cX8_has 14 = .ok (.ireturn, 1) := by decide +kernel
theorem dX8_bits_0 : decode cX8_bits 0 = .ok (.iconst 0, 1) := by decide +kernel
theorem dX8_bits_1 : decode cX8_bits 1 = .ok (.istore_n 1, 1) := by decide +kernel
theorem dX8_bits_2 : decode cX8_bits 2 = .ok (.iconst 0, 1) := by decide +kernel
theorem dX8_bits_3 : decode cX8_bits 3 = .ok (.istore_n 2, 1) := by decide +kernel
theorem dX8_bits_4 : decode cX8_bits 4 = .ok (.iload_n 2, 1) := by decide +kernel
theorem dX8_bits_5 : decode cX8_bits 5 = .ok (.bipush 10, 2) := by decide +kernel
theorem dX8_bits_7 : decode cX8_bits 7 = .ok (.if_icmp .ge 17, 3) := by decide +kernel
theorem dX8_bits_10 : decode cX8_bits 10 = .ok (.iload_n 1, 1) := by decide +kernel
theorem dX8_bits_11 : decode cX8_bits 11 = .ok (.iload_n 0, 1) := by decide +kernel
theorem dX8_bits_12 : decode cX8_bits 12 = .ok (.iload_n 2, 1) := by decide +kernel
theorem dX8_bits_13 : decode cX8_bits 13 = .ok (.ishr, 1) := by decide +kernel
theorem dX8_bits_14 : decode cX8_bits 14 = .ok (.iconst 1, 1) := by decide +kernel
theorem dX8_bits_15 : decode cX8_bits 15 = .ok (.iand, 1) := by decide +kernel
theorem dX8_bits_16 : decode cX8_bits 16 = .ok (.iadd, 1) := by decide +kernel
theorem dX8_bits_17 : decode cX8_bits 17 = .ok (.istore_n 1, 1) := by decide +kernel
theorem dX8_bits_18 : decode cX8_bits 18 = .ok (.iinc 2 1, 3) := by decide +kernel
theorem dX8_bits_21 : decode cX8_bits 21 = .ok (.goto (-17), 3) := by decide +kernel
theorem dX8_bits_24 : decode cX8_bits 24 = .ok (.iload_n 1, 1) := by decide +kernel
theorem dX8_bits_25 : decode cX8_bits 25 = .ok (.ireturn, 1) := by decide +kernel
theorem dX8_finds_0 : decode cX8_finds 0 = .ok (.aload_n 0, 1) := by decide +kernel
theorem dX8_finds_1 : decode cX8_finds 1 = .ok (.iload_n 1, 1) := by decide +kernel
theorem dX8_finds_2 : decode cX8_finds 2 = .ok (.putfield 56, 3) := by decide +kernel
theorem dX8_finds_5 : decode cX8_finds 5 = .ok (.aload_n 0, 1) := by decide +kernel
theorem dX8_finds_6 : decode cX8_finds 6 = .ok (.getfield 22, 3) := by decide +kernel
theorem dX8_finds_9 : decode cX8_finds 9 = .ok (.iload_n 1, 1) := by decide +kernel
theorem dX8_finds_10 : decode cX8_finds 10 = .ok (.dup2, 1) := by decide +kernel
theorem dX8_finds_11 : decode cX8_finds 11 = .ok (.iaload, 1) := by decide +kernel
theorem dX8_finds_12 : decode cX8_finds 12 = .ok (.iconst 1, 1) := by decide +kernel
theorem dX8_finds_13 : decode cX8_finds 13 = .ok (.iadd, 1) := by decide +kernel
theorem dX8_finds_14 : decode cX8_finds 14 = .ok (.iastore, 1) := by decide +kernel
theorem dX8_finds_15 : decode cX8_finds 15 = .ok (.bipush (-3), 2) := by decide +kernel
theorem dX8_finds_17 : decode cX8_finds 17 = .ok (.ireturn, 1) := by decide +kernel
theorem dX8_tells_0 : decode cX8_tells 0 = .ok (.aload_n 0, 1) := by decide +kernel
theorem dX8_tells_1 : decode cX8_tells 1 = .ok (.iload_n 1, 1) := by decide +kernel
theorem dX8_tells_2 : decode cX8_tells 2 = .ok (.putfield 60, 3) := by decide +kernel
theorem dX8_tells_5 : decode cX8_tells 5 = .ok (.iconst 1, 1) := by decide +kernel
theorem dX8_tells_6 : decode cX8_tells 6 = .ok (.ireturn, 1) := by decide +kernel
theorem dX8_bring_0 : decode cX8_bring 0 = .ok (.iconst 0, 1) := by decide +kernel
theorem dX8_bring_1 : decode cX8_bring 1 = .ok (.istore 5, 2) := by decide +kernel
theorem dX8_bring_3 : decode cX8_bring 3 = .ok (.iload 5, 2) := by decide +kernel
theorem dX8_bring_5 : decode cX8_bring 5 = .ok (.iload 4, 2) := by decide +kernel
theorem dX8_bring_7 : decode cX8_bring 7 = .ok (.if_icmp .ge 21, 3) := by decide +kernel
theorem dX8_bring_10 : decode cX8_bring 10 = .ok (.aload_n 2, 1) := by decide +kernel
theorem dX8_bring_11 : decode cX8_bring 11 = .ok (.iload_n 3, 1) := by decide +kernel
theorem dX8_bring_12 : decode cX8_bring 12 = .ok (.iload 5, 2) := by decide +kernel
theorem dX8_bring_14 : decode cX8_bring 14 = .ok (.iadd, 1) := by decide +kernel
theorem dX8_bring_15 : decode cX8_bring 15 = .ok (.aload_n 0, 1) := by decide +kernel
theorem dX8_bring_16 : decode cX8_bring 16 = .ok (.iload_n 1, 1) := by decide +kernel
theorem dX8_bring_17 : decode cX8_bring 17 = .ok (.iload 5, 2) := by decide +kernel
theorem dX8_bring_19 : decode cX8_bring 19 = .ok (.iadd, 1) := by decide +kernel
theorem dX8_bring_20 : decode cX8_bring 20 = .ok (.iaload, 1) := by decide +kernel
theorem dX8_bring_21 : decode cX8_bring 21 = .ok (.iastore, 1) := by decide +kernel
theorem dX8_bring_22 : decode cX8_bring 22 = .ok (.iinc 5 1, 3) := by decide +kernel
theorem dX8_bring_25 : decode cX8_bring 25 = .ok (.goto (-22), 3) := by decide +kernel
theorem dX8_bring_28 : decode cX8_bring 28 = .ok (.return_, 1) := by decide +kernel
theorem dX8_isOne_0 : decode cX8_isOne 0 = .ok (.iload_n 1, 1) := by decide +kernel
theorem dX8_isOne_1 : decode cX8_isOne 1 = .ok (.iconst 0, 1) := by decide +kernel
theorem dX8_isOne_2 : decode cX8_isOne 2 = .ok (.aload_n 0, 1) := by decide +kernel
theorem dX8_isOne_3 : decode cX8_isOne 3 = .ok (.getfield 63, 3) := by decide +kernel
theorem dX8_isOne_6 : decode cX8_isOne 6 = .ok (.iconst 1, 1) := by decide +kernel
theorem dX8_isOne_7 : decode cX8_isOne 7 = .ok (.isub, 1) := by decide +kernel
theorem dX8_isOne_8 : decode cX8_isOne 8 = .ok (.invokestatic 66, 3) := by decide +kernel
theorem dX8_isOne_11 : decode cX8_isOne 11 = .ok (.ireturn, 1) := by decide +kernel
theorem dX8_isCell_0 : decode cX8_isCell 0 = .ok (.iload_n 1, 1) := by decide +kernel
theorem dX8_isCell_1 : decode cX8_isCell 1 = .ok (.iconst 0, 1) := by decide +kernel
theorem dX8_isCell_2 : decode cX8_isCell 2 = .ok (.aload_n 0, 1) := by decide +kernel
theorem dX8_isCell_3 : decode cX8_isCell 3 = .ok (.getfield 70, 3) := by decide +kernel
theorem dX8_isCell_6 : decode cX8_isCell 6 = .ok (.iconst 1, 1) := by decide +kernel
theorem dX8_isCell_7 : decode cX8_isCell 7 = .ok (.isub, 1) := by decide +kernel
theorem dX8_isCell_8 : decode cX8_isCell 8 = .ok (.invokestatic 66, 3) := by decide +kernel
theorem dX8_isCell_11 : decode cX8_isCell 11 = .ok (.ireturn, 1) := by decide +kernel
theorem dX8_row_0 : decode cX8_row 0 = .ok (.iload_n 1, 1) := by decide +kernel
theorem dX8_row_1 : decode cX8_row 1 = .ok (.iconst 0, 1) := by decide +kernel
theorem dX8_row_2 : decode cX8_row 2 = .ok (.iconst 5, 1) := by decide +kernel
theorem dX8_row_3 : decode cX8_row 3 = .ok (.invokestatic 66, 3) := by decide +kernel
theorem dX8_row_6 : decode cX8_row 6 = .ok (.ifCond .eq 9, 3) := by decide +kernel
theorem dX8_row_9 : decode cX8_row 9 = .ok (.iload_n 2, 1) := by decide +kernel
theorem dX8_row_10 : decode cX8_row 10 = .ok (.bipush 40, 2) := by decide +kernel
theorem dX8_row_12 : decode cX8_row 12 = .ok (.if_icmp .le 5, 3) := by decide +kernel
theorem dX8_row_15 : decode cX8_row 15 = .ok (.iconst (-1), 1) := by decide +kernel
theorem dX8_row_16 : decode cX8_row 16 = .ok (.ireturn, 1) := by decide +kernel
theorem dX8_row_17 : decode cX8_row 17 = .ok (.iload_n 2, 1) := by decide +kernel
theorem dX8_row_18 : decode cX8_row 18 = .ok (.ifCond .ge 9, 3) := by decide +kernel
theorem dX8_row_21 : decode cX8_row 21 = .ok (.aload_n 0, 1) := by decide +kernel
theorem dX8_row_22 : decode cX8_row 22 = .ok (.iconst 5, 1) := by decide +kernel
theorem dX8_row_23 : decode cX8_row 23 = .ok (.invokevirtual 73, 3) := by decide +kernel
theorem dX8_row_26 : decode cX8_row 26 = .ok (.ireturn, 1) := by decide +kernel
theorem dX8_row_27 : decode cX8_row 27 = .ok (.aload_n 0, 1) := by decide +kernel
theorem dX8_row_28 : decode cX8_row 28 = .ok (.getfield 7, 3) := by decide +kernel
theorem dX8_row_31 : decode cX8_row 31 = .ok (.iload_n 1, 1) := by decide +kernel
theorem dX8_row_32 : decode cX8_row 32 = .ok (.iload_n 2, 1) := by decide +kernel
theorem dX8_row_33 : decode cX8_row 33 = .ok (.iastore, 1) := by decide +kernel
theorem dX8_row_34 : decode cX8_row 34 = .ok (.iconst 0, 1) := by decide +kernel
theorem dX8_row_35 : decode cX8_row 35 = .ok (.istore_n 3, 1) := by decide +kernel
theorem dX8_row_36 : decode cX8_row 36 = .ok (.iload_n 3, 1) := by decide +kernel
theorem dX8_row_37 : decode cX8_row 37 = .ok (.bipush 40, 2) := by decide +kernel
theorem dX8_row_39 : decode cX8_row 39 = .ok (.if_icmp .ge 21, 3) := by decide +kernel
theorem dX8_row_42 : decode cX8_row 42 = .ok (.aload_n 0, 1) := by decide +kernel
theorem dX8_row_43 : decode cX8_row 43 = .ok (.getfield 13, 3) := by decide +kernel
theorem dX8_row_46 : decode cX8_row 46 = .ok (.bipush 40, 2) := by decide +kernel
theorem dX8_row_48 : decode cX8_row 48 = .ok (.iload_n 1, 1) := by decide +kernel
theorem dX8_row_49 : decode cX8_row 49 = .ok (.imul, 1) := by decide +kernel
theorem dX8_row_50 : decode cX8_row 50 = .ok (.iload_n 3, 1) := by decide +kernel
theorem dX8_row_51 : decode cX8_row 51 = .ok (.iadd, 1) := by decide +kernel
theorem dX8_row_52 : decode cX8_row 52 = .ok (.iconst 0, 1) := by decide +kernel
theorem dX8_row_53 : decode cX8_row 53 = .ok (.iastore, 1) := by decide +kernel
theorem dX8_row_54 : decode cX8_row 54 = .ok (.iinc 3 1, 3) := by decide +kernel
theorem dX8_row_57 : decode cX8_row 57 = .ok (.goto (-21), 3) := by decide +kernel
theorem dX8_row_60 : decode cX8_row 60 = .ok (.iload_n 2, 1) := by decide +kernel
theorem dX8_row_61 : decode cX8_row 61 = .ok (.ireturn, 1) := by decide +kernel
theorem dX8_wrongAt_0 : decode cX8_wrongAt 0 = .ok (.iload_n 1, 1) := by decide +kernel
theorem dX8_wrongAt_1 : decode cX8_wrongAt 1 = .ok (.iconst 0, 1) := by decide +kernel
theorem dX8_wrongAt_2 : decode cX8_wrongAt 2 = .ok (.iconst 5, 1) := by decide +kernel
theorem dX8_wrongAt_3 : decode cX8_wrongAt 3 = .ok (.invokestatic 66, 3) := by decide +kernel
theorem dX8_wrongAt_6 : decode cX8_wrongAt 6 = .ok (.ifCond .ne 5, 3) := by decide +kernel
theorem dX8_wrongAt_9 : decode cX8_wrongAt 9 = .ok (.iconst (-1), 1) := by decide +kernel
theorem dX8_wrongAt_10 : decode cX8_wrongAt 10 = .ok (.ireturn, 1) := by decide +kernel
theorem dX8_wrongAt_11 : decode cX8_wrongAt 11 = .ok (.aload_n 0, 1) := by decide +kernel
theorem dX8_wrongAt_12 : decode cX8_wrongAt 12 = .ok (.getfield 7, 3) := by decide +kernel
theorem dX8_wrongAt_15 : decode cX8_wrongAt 15 = .ok (.iload_n 1, 1) := by decide +kernel
theorem dX8_wrongAt_16 : decode cX8_wrongAt 16 = .ok (.iaload, 1) := by decide +kernel
theorem dX8_wrongAt_17 : decode cX8_wrongAt 17 = .ok (.ifCond .ge 9, 3) := by decide +kernel
theorem dX8_wrongAt_20 : decode cX8_wrongAt 20 = .ok (.aload_n 0, 1) := by decide +kernel
theorem dX8_wrongAt_21 : decode cX8_wrongAt 21 = .ok (.iconst 1, 1) := by decide +kernel
theorem dX8_wrongAt_22 : decode cX8_wrongAt 22 = .ok (.invokevirtual 73, 3) := by decide +kernel
theorem dX8_wrongAt_25 : decode cX8_wrongAt 25 = .ok (.ireturn, 1) := by decide +kernel
theorem dX8_wrongAt_26 : decode cX8_wrongAt 26 = .ok (.iload_n 2, 1) := by decide +kernel
theorem dX8_wrongAt_27 : decode cX8_wrongAt 27 = .ok (.iconst 0, 1) := by decide +kernel
theorem dX8_wrongAt_28 : decode cX8_wrongAt 28 = .ok (.aload_n 0, 1) := by decide +kernel
theorem dX8_wrongAt_29 : decode cX8_wrongAt 29 = .ok (.getfield 7, 3) := by decide +kernel
theorem dX8_wrongAt_32 : decode cX8_wrongAt 32 = .ok (.iload_n 1, 1) := by decide +kernel
theorem dX8_wrongAt_33 : decode cX8_wrongAt 33 = .ok (.iaload, 1) := by decide +kernel
theorem dX8_wrongAt_34 : decode cX8_wrongAt 34 = .ok (.iconst 1, 1) := by decide +kernel
theorem dX8_wrongAt_35 : decode cX8_wrongAt 35 = .ok (.isub, 1) := by decide +kernel
theorem dX8_wrongAt_36 : decode cX8_wrongAt 36 = .ok (.invokestatic 66, 3) := by decide +kernel
theorem dX8_wrongAt_39 : decode cX8_wrongAt 39 = .ok (.ifCond .eq 7, 3) := by decide +kernel
theorem dX8_wrongAt_42 : decode cX8_wrongAt 42 = .ok (.iconst 0, 1) := by decide +kernel
theorem dX8_wrongAt_43 : decode cX8_wrongAt 43 = .ok (.goto 8, 3) := by decide +kernel
theorem dX8_wrongAt_46 : decode cX8_wrongAt 46 = .ok (.aload_n 0, 1) := by decide +kernel
theorem dX8_wrongAt_47 : decode cX8_wrongAt 47 = .ok (.iconst 2, 1) := by decide +kernel
theorem dX8_wrongAt_48 : decode cX8_wrongAt 48 = .ok (.invokevirtual 73, 3) := by decide +kernel
theorem dX8_wrongAt_51 : decode cX8_wrongAt 51 = .ok (.ireturn, 1) := by decide +kernel
theorem dX8_lay_0 : decode cX8_lay 0 = .ok (.aload_n 0, 1) := by decide +kernel
theorem dX8_lay_1 : decode cX8_lay 1 = .ok (.iload_n 1, 1) := by decide +kernel
theorem dX8_lay_2 : decode cX8_lay 2 = .ok (.iload_n 2, 1) := by decide +kernel
theorem dX8_lay_3 : decode cX8_lay 3 = .ok (.invokevirtual 77, 3) := by decide +kernel
theorem dX8_lay_6 : decode cX8_lay 6 = .ok (.istore 4, 2) := by decide +kernel
theorem dX8_lay_8 : decode cX8_lay 8 = .ok (.iload 4, 2) := by decide +kernel
theorem dX8_lay_10 : decode cX8_lay 10 = .ok (.ifCond .eq 6, 3) := by decide +kernel
theorem dX8_lay_13 : decode cX8_lay 13 = .ok (.iload 4, 2) := by decide +kernel
theorem dX8_lay_15 : decode cX8_lay 15 = .ok (.ireturn, 1) := by decide +kernel
theorem dX8_lay_16 : decode cX8_lay 16 = .ok (.aload_n 0, 1) := by decide +kernel
theorem dX8_lay_17 : decode cX8_lay 17 = .ok (.getfield 13, 3) := by decide +kernel
theorem dX8_lay_20 : decode cX8_lay 20 = .ok (.bipush 40, 2) := by decide +kernel
theorem dX8_lay_22 : decode cX8_lay 22 = .ok (.iload_n 1, 1) := by decide +kernel
theorem dX8_lay_23 : decode cX8_lay 23 = .ok (.imul, 1) := by decide +kernel
theorem dX8_lay_24 : decode cX8_lay 24 = .ok (.iload_n 2, 1) := by decide +kernel
theorem dX8_lay_25 : decode cX8_lay 25 = .ok (.iadd, 1) := by decide +kernel
theorem dX8_lay_26 : decode cX8_lay 26 = .ok (.iaload, 1) := by decide +kernel
theorem dX8_lay_27 : decode cX8_lay 27 = .ok (.istore 5, 2) := by decide +kernel
theorem dX8_lay_29 : decode cX8_lay 29 = .ok (.aload_n 0, 1) := by decide +kernel
theorem dX8_lay_30 : decode cX8_lay 30 = .ok (.getfield 13, 3) := by decide +kernel
theorem dX8_lay_33 : decode cX8_lay 33 = .ok (.bipush 40, 2) := by decide +kernel
theorem dX8_lay_35 : decode cX8_lay 35 = .ok (.iload_n 1, 1) := by decide +kernel
theorem dX8_lay_36 : decode cX8_lay 36 = .ok (.imul, 1) := by decide +kernel
theorem dX8_lay_37 : decode cX8_lay 37 = .ok (.iload_n 2, 1) := by decide +kernel
theorem dX8_lay_38 : decode cX8_lay 38 = .ok (.iadd, 1) := by decide +kernel
theorem dX8_lay_39 : decode cX8_lay 39 = .ok (.iload_n 3, 1) := by decide +kernel
theorem dX8_lay_40 : decode cX8_lay 40 = .ok (.iastore, 1) := by decide +kernel
theorem dX8_lay_41 : decode cX8_lay 41 = .ok (.aload_n 0, 1) := by decide +kernel
theorem dX8_lay_42 : decode cX8_lay 42 = .ok (.iload 5, 2) := by decide +kernel
theorem dX8_lay_44 : decode cX8_lay 44 = .ok (.invokevirtual 81, 3) := by decide +kernel
theorem dX8_lay_47 : decode cX8_lay 47 = .ok (.ireturn, 1) := by decide +kernel
theorem dX8_at_0 : decode cX8_at 0 = .ok (.aload_n 0, 1) := by decide +kernel
theorem dX8_at_1 : decode cX8_at 1 = .ok (.iload_n 1, 1) := by decide +kernel
theorem dX8_at_2 : decode cX8_at 2 = .ok (.iload_n 2, 1) := by decide +kernel
theorem dX8_at_3 : decode cX8_at 3 = .ok (.invokevirtual 77, 3) := by decide +kernel
theorem dX8_at_6 : decode cX8_at 6 = .ok (.istore_n 3, 1) := by decide +kernel
theorem dX8_at_7 : decode cX8_at 7 = .ok (.iload_n 3, 1) := by decide +kernel
theorem dX8_at_8 : decode cX8_at 8 = .ok (.ifCond .eq 7, 3) := by decide +kernel
theorem dX8_at_11 : decode cX8_at 11 = .ok (.iload_n 3, 1) := by decide +kernel
theorem dX8_at_12 : decode cX8_at 12 = .ok (.goto 18, 3) := by decide +kernel
theorem dX8_at_15 : decode cX8_at 15 = .ok (.aload_n 0, 1) := by decide +kernel
theorem dX8_at_16 : decode cX8_at 16 = .ok (.aload_n 0, 1) := by decide +kernel
theorem dX8_at_17 : decode cX8_at 17 = .ok (.getfield 13, 3) := by decide +kernel
theorem dX8_at_20 : decode cX8_at 20 = .ok (.bipush 40, 2) := by decide +kernel
theorem dX8_at_22 : decode cX8_at 22 = .ok (.iload_n 1, 1) := by decide +kernel
theorem dX8_at_23 : decode cX8_at 23 = .ok (.imul, 1) := by decide +kernel
theorem dX8_at_24 : decode cX8_at 24 = .ok (.iload_n 2, 1) := by decide +kernel
theorem dX8_at_25 : decode cX8_at 25 = .ok (.iadd, 1) := by decide +kernel
theorem dX8_at_26 : decode cX8_at 26 = .ok (.iaload, 1) := by decide +kernel
theorem dX8_at_27 : decode cX8_at 27 = .ok (.invokevirtual 81, 3) := by decide +kernel
theorem dX8_at_30 : decode cX8_at 30 = .ok (.ireturn, 1) := by decide +kernel
theorem dX8_tear_0 : decode cX8_tear 0 = .ok (.iload_n 1, 1) := by decide +kernel
theorem dX8_tear_1 : decode cX8_tear 1 = .ok (.iconst 0, 1) := by decide +kernel
theorem dX8_tear_2 : decode cX8_tear 2 = .ok (.iconst 5, 1) := by decide +kernel
theorem dX8_tear_3 : decode cX8_tear 3 = .ok (.invokestatic 66, 3) := by decide +kernel
theorem dX8_tear_6 : decode cX8_tear 6 = .ok (.ifCond .ne 5, 3) := by decide +kernel
theorem dX8_tear_9 : decode cX8_tear 9 = .ok (.iconst (-1), 1) := by decide +kernel
theorem dX8_tear_10 : decode cX8_tear 10 = .ok (.ireturn, 1) := by decide +kernel
theorem dX8_tear_11 : decode cX8_tear 11 = .ok (.aload_n 0, 1) := by decide +kernel
theorem dX8_tear_12 : decode cX8_tear 12 = .ok (.getfield 7, 3) := by decide +kernel
theorem dX8_tear_15 : decode cX8_tear 15 = .ok (.iload_n 1, 1) := by decide +kernel
theorem dX8_tear_16 : decode cX8_tear 16 = .ok (.iaload, 1) := by decide +kernel
theorem dX8_tear_17 : decode cX8_tear 17 = .ok (.ifCond .ge 9, 3) := by decide +kernel
theorem dX8_tear_20 : decode cX8_tear 20 = .ok (.aload_n 0, 1) := by decide +kernel
theorem dX8_tear_21 : decode cX8_tear 21 = .ok (.iconst 1, 1) := by decide +kernel
theorem dX8_tear_22 : decode cX8_tear 22 = .ok (.invokevirtual 73, 3) := by decide +kernel
theorem dX8_tear_25 : decode cX8_tear 25 = .ok (.ireturn, 1) := by decide +kernel
theorem dX8_tear_26 : decode cX8_tear 26 = .ok (.aload_n 0, 1) := by decide +kernel
theorem dX8_tear_27 : decode cX8_tear 27 = .ok (.getfield 7, 3) := by decide +kernel
theorem dX8_tear_30 : decode cX8_tear 30 = .ok (.iload_n 1, 1) := by decide +kernel
theorem dX8_tear_31 : decode cX8_tear 31 = .ok (.iconst (-1), 1) := by decide +kernel
theorem dX8_tear_32 : decode cX8_tear 32 = .ok (.iastore, 1) := by decide +kernel
theorem dX8_tear_33 : decode cX8_tear 33 = .ok (.iconst 1, 1) := by decide +kernel
theorem dX8_tear_34 : decode cX8_tear 34 = .ok (.ireturn, 1) := by decide +kernel
theorem dX8_isPart_0 : decode cX8_isPart 0 = .ok (.iload_n 0, 1) := by decide +kernel
theorem dX8_isPart_1 : decode cX8_isPart 1 = .ok (.ifCond .lt 19, 3) := by decide +kernel
theorem dX8_isPart_4 : decode cX8_isPart 4 = .ok (.iload_n 1, 1) := by decide +kernel
theorem dX8_isPart_5 : decode cX8_isPart 5 = .ok (.iload_n 2, 1) := by decide +kernel
theorem dX8_isPart_6 : decode cX8_isPart 6 = .ok (.if_icmp .gt 14, 3) := by decide +kernel
theorem dX8_isPart_9 : decode cX8_isPart 9 = .ok (.iload_n 0, 1) := by decide +kernel
theorem dX8_isPart_10 : decode cX8_isPart 10 = .ok (.iload_n 2, 1) := by decide +kernel
theorem dX8_isPart_11 : decode cX8_isPart 11 = .ok (.iload_n 1, 1) := by decide +kernel
theorem dX8_isPart_12 : decode cX8_isPart 12 = .ok (.isub, 1) := by decide +kernel
theorem dX8_isPart_13 : decode cX8_isPart 13 = .ok (.if_icmp .gt 7, 3) := by decide +kernel
theorem dX8_isPart_16 : decode cX8_isPart 16 = .ok (.iconst 1, 1) := by decide +kernel
theorem dX8_isPart_17 : decode cX8_isPart 17 = .ok (.goto 4, 3) := by decide +kernel
theorem dX8_isPart_20 : decode cX8_isPart 20 = .ok (.iconst 0, 1) := by decide +kernel
theorem dX8_isPart_21 : decode cX8_isPart 21 = .ok (.ireturn, 1) := by decide +kernel
theorem dX8_copy_0 : decode cX8_copy 0 = .ok (.iload_n 1, 1) := by decide +kernel
theorem dX8_copy_1 : decode cX8_copy 1 = .ok (.iconst 0, 1) := by decide +kernel
theorem dX8_copy_2 : decode cX8_copy 2 = .ok (.iconst 5, 1) := by decide +kernel
theorem dX8_copy_3 : decode cX8_copy 3 = .ok (.invokestatic 66, 3) := by decide +kernel
theorem dX8_copy_6 : decode cX8_copy 6 = .ok (.ifCond .eq 12, 3) := by decide +kernel
theorem dX8_copy_9 : decode cX8_copy 9 = .ok (.iload_n 3, 1) := by decide +kernel
theorem dX8_copy_10 : decode cX8_copy 10 = .ok (.iconst 0, 1) := by decide +kernel
theorem dX8_copy_11 : decode cX8_copy 11 = .ok (.iconst 5, 1) := by decide +kernel
theorem dX8_copy_12 : decode cX8_copy 12 = .ok (.invokestatic 66, 3) := by decide +kernel
theorem dX8_copy_15 : decode cX8_copy 15 = .ok (.ifCond .ne 5, 3) := by decide +kernel
theorem dX8_copy_18 : decode cX8_copy 18 = .ok (.iconst (-1), 1) := by decide +kernel
theorem dX8_copy_19 : decode cX8_copy 19 = .ok (.ireturn, 1) := by decide +kernel
theorem dX8_copy_20 : decode cX8_copy 20 = .ok (.iload 5, 2) := by decide +kernel
theorem dX8_copy_22 : decode cX8_copy 22 = .ok (.ifCond .ge 9, 3) := by decide +kernel
theorem dX8_copy_25 : decode cX8_copy 25 = .ok (.aload_n 0, 1) := by decide +kernel
theorem dX8_copy_26 : decode cX8_copy 26 = .ok (.iconst 5, 1) := by decide +kernel
theorem dX8_copy_27 : decode cX8_copy 27 = .ok (.invokevirtual 73, 3) := by decide +kernel
theorem dX8_copy_30 : decode cX8_copy 30 = .ok (.ireturn, 1) := by decide +kernel
theorem dX8_copy_31 : decode cX8_copy 31 = .ok (.aload_n 0, 1) := by decide +kernel
theorem dX8_copy_32 : decode cX8_copy 32 = .ok (.getfield 7, 3) := by decide +kernel
theorem dX8_copy_35 : decode cX8_copy 35 = .ok (.iload_n 1, 1) := by decide +kernel
theorem dX8_copy_36 : decode cX8_copy 36 = .ok (.iaload, 1) := by decide +kernel
theorem dX8_copy_37 : decode cX8_copy 37 = .ok (.ifCond .lt 12, 3) := by decide +kernel
theorem dX8_copy_40 : decode cX8_copy 40 = .ok (.aload_n 0, 1) := by decide +kernel
theorem dX8_copy_41 : decode cX8_copy 41 = .ok (.getfield 7, 3) := by decide +kernel
theorem dX8_copy_44 : decode cX8_copy 44 = .ok (.iload_n 3, 1) := by decide +kernel
theorem dX8_copy_45 : decode cX8_copy 45 = .ok (.iaload, 1) := by decide +kernel
theorem dX8_copy_46 : decode cX8_copy 46 = .ok (.ifCond .ge 9, 3) := by decide +kernel
theorem dX8_copy_49 : decode cX8_copy 49 = .ok (.aload_n 0, 1) := by decide +kernel
theorem dX8_copy_50 : decode cX8_copy 50 = .ok (.iconst 1, 1) := by decide +kernel
theorem dX8_copy_51 : decode cX8_copy 51 = .ok (.invokevirtual 73, 3) := by decide +kernel
theorem dX8_copy_54 : decode cX8_copy 54 = .ok (.ireturn, 1) := by decide +kernel
theorem dX8_copy_55 : decode cX8_copy 55 = .ok (.iload_n 2, 1) := by decide +kernel
theorem dX8_copy_56 : decode cX8_copy 56 = .ok (.iload 5, 2) := by decide +kernel
theorem dX8_copy_58 : decode cX8_copy 58 = .ok (.aload_n 0, 1) := by decide +kernel
theorem dX8_copy_59 : decode cX8_copy 59 = .ok (.getfield 7, 3) := by decide +kernel
theorem dX8_copy_62 : decode cX8_copy 62 = .ok (.iload_n 1, 1) := by decide +kernel
theorem dX8_copy_63 : decode cX8_copy 63 = .ok (.iaload, 1) := by decide +kernel
theorem dX8_copy_64 : decode cX8_copy 64 = .ok (.invokestatic 84, 3) := by decide +kernel
theorem dX8_copy_67 : decode cX8_copy 67 = .ok (.ifCond .eq 19, 3) := by decide +kernel
theorem dX8_copy_70 : decode cX8_copy 70 = .ok (.iload 4, 2) := by decide +kernel
theorem dX8_copy_72 : decode cX8_copy 72 = .ok (.iload 5, 2) := by decide +kernel
theorem dX8_copy_74 : decode cX8_copy 74 = .ok (.aload_n 0, 1) := by decide +kernel
theorem dX8_copy_75 : decode cX8_copy 75 = .ok (.getfield 7, 3) := by decide +kernel
theorem dX8_copy_78 : decode cX8_copy 78 = .ok (.iload_n 3, 1) := by decide +kernel
theorem dX8_copy_79 : decode cX8_copy 79 = .ok (.iaload, 1) := by decide +kernel
theorem dX8_copy_80 : decode cX8_copy 80 = .ok (.invokestatic 84, 3) := by decide +kernel
theorem dX8_copy_83 : decode cX8_copy 83 = .ok (.ifCond .ne 9, 3) := by decide +kernel
theorem dX8_copy_86 : decode cX8_copy 86 = .ok (.aload_n 0, 1) := by decide +kernel
theorem dX8_copy_87 : decode cX8_copy 87 = .ok (.iconst 2, 1) := by decide +kernel
theorem dX8_copy_88 : decode cX8_copy 88 = .ok (.invokevirtual 73, 3) := by decide +kernel
theorem dX8_copy_91 : decode cX8_copy 91 = .ok (.ireturn, 1) := by decide +kernel
theorem dX8_copy_92 : decode cX8_copy 92 = .ok (.iload_n 1, 1) := by decide +kernel
theorem dX8_copy_93 : decode cX8_copy 93 = .ok (.iload_n 3, 1) := by decide +kernel
theorem dX8_copy_94 : decode cX8_copy 94 = .ok (.if_icmp .ne 13, 3) := by decide +kernel
theorem dX8_copy_97 : decode cX8_copy 97 = .ok (.iload 4, 2) := by decide +kernel
theorem dX8_copy_99 : decode cX8_copy 99 = .ok (.iload_n 2, 1) := by decide +kernel
theorem dX8_copy_100 : decode cX8_copy 100 = .ok (.if_icmp .le 7, 3) := by decide +kernel
theorem dX8_copy_103 : decode cX8_copy 103 = .ok (.iconst 1, 1) := by decide +kernel
theorem dX8_copy_104 : decode cX8_copy 104 = .ok (.goto 4, 3) := by decide +kernel
theorem dX8_copy_107 : decode cX8_copy 107 = .ok (.iconst 0, 1) := by decide +kernel
theorem dX8_copy_108 : decode cX8_copy 108 = .ok (.istore 6, 2) := by decide +kernel
theorem dX8_copy_110 : decode cX8_copy 110 = .ok (.iconst 0, 1) := by decide +kernel
theorem dX8_copy_111 : decode cX8_copy 111 = .ok (.istore 7, 2) := by decide +kernel
theorem dX8_copy_113 : decode cX8_copy 113 = .ok (.iload 7, 2) := by decide +kernel
theorem dX8_copy_115 : decode cX8_copy 115 = .ok (.iload 5, 2) := by decide +kernel
theorem dX8_copy_117 : decode cX8_copy 117 = .ok (.if_icmp .ge 57, 3) := by decide +kernel
theorem dX8_copy_120 : decode cX8_copy 120 = .ok (.iload 6, 2) := by decide +kernel
theorem dX8_copy_122 : decode cX8_copy 122 = .ok (.ifCond .eq 13, 3) := by decide +kernel
theorem dX8_copy_125 : decode cX8_copy 125 = .ok (.iload 5, 2) := by decide +kernel
theorem dX8_copy_127 : decode cX8_copy 127 = .ok (.iconst 1, 1) := by decide +kernel
theorem dX8_copy_128 : decode cX8_copy 128 = .ok (.isub, 1) := by decide +kernel
theorem dX8_copy_129 : decode cX8_copy 129 = .ok (.iload 7, 2) := by decide +kernel
theorem dX8_copy_131 : decode cX8_copy 131 = .ok (.isub, 1) := by decide +kernel
theorem dX8_copy_132 : decode cX8_copy 132 = .ok (.goto 5, 3) := by decide +kernel
theorem dX8_copy_135 : decode cX8_copy 135 = .ok (.iload 7, 2) := by decide +kernel
theorem dX8_copy_137 : decode cX8_copy 137 = .ok (.istore 8, 2) := by decide +kernel
theorem dX8_copy_139 : decode cX8_copy 139 = .ok (.aload_n 0, 1) := by decide +kernel
theorem dX8_copy_140 : decode cX8_copy 140 = .ok (.getfield 13, 3) := by decide +kernel
theorem dX8_copy_143 : decode cX8_copy 143 = .ok (.bipush 40, 2) := by decide +kernel
theorem dX8_copy_145 : decode cX8_copy 145 = .ok (.iload_n 3, 1) := by decide +kernel
theorem dX8_copy_146 : decode cX8_copy 146 = .ok (.imul, 1) := by decide +kernel
theorem dX8_copy_147 : decode cX8_copy 147 = .ok (.iload 4, 2) := by decide +kernel
theorem dX8_copy_149 : decode cX8_copy 149 = .ok (.iadd, 1) := by decide +kernel
theorem dX8_copy_150 : decode cX8_copy 150 = .ok (.iload 8, 2) := by decide +kernel
theorem dX8_copy_152 : decode cX8_copy 152 = .ok (.iadd, 1) := by decide +kernel
theorem dX8_copy_153 : decode cX8_copy 153 = .ok (.aload_n 0, 1) := by decide +kernel
theorem dX8_copy_154 : decode cX8_copy 154 = .ok (.getfield 13, 3) := by decide +kernel
theorem dX8_copy_157 : decode cX8_copy 157 = .ok (.bipush 40, 2) := by decide +kernel
theorem dX8_copy_159 : decode cX8_copy 159 = .ok (.iload_n 1, 1) := by decide +kernel
theorem dX8_copy_160 : decode cX8_copy 160 = .ok (.imul, 1) := by decide +kernel
theorem dX8_copy_161 : decode cX8_copy 161 = .ok (.iload_n 2, 1) := by decide +kernel
theorem dX8_copy_162 : decode cX8_copy 162 = .ok (.iadd, 1) := by decide +kernel
theorem dX8_copy_163 : decode cX8_copy 163 = .ok (.iload 8, 2) := by decide +kernel
theorem dX8_copy_165 : decode cX8_copy 165 = .ok (.iadd, 1) := by decide +kernel
theorem dX8_copy_166 : decode cX8_copy 166 = .ok (.iaload, 1) := by decide +kernel
theorem dX8_copy_167 : decode cX8_copy 167 = .ok (.iastore, 1) := by decide +kernel
theorem dX8_copy_168 : decode cX8_copy 168 = .ok (.iinc 7 1, 3) := by decide +kernel
theorem dX8_copy_171 : decode cX8_copy 171 = .ok (.goto (-58), 3) := by decide +kernel
theorem dX8_copy_174 : decode cX8_copy 174 = .ok (.iconst 1, 1) := by decide +kernel
theorem dX8_copy_175 : decode cX8_copy 175 = .ok (.ireturn, 1) := by decide +kernel
theorem dX8_mean_0 : decode cX8_mean 0 = .ok (.iload_n 1, 1) := by decide +kernel
theorem dX8_mean_1 : decode cX8_mean 1 = .ok (.iconst 0, 1) := by decide +kernel
theorem dX8_mean_2 : decode cX8_mean 2 = .ok (.iconst 5, 1) := by decide +kernel
theorem dX8_mean_3 : decode cX8_mean 3 = .ok (.invokestatic 66, 3) := by decide +kernel
theorem dX8_mean_6 : decode cX8_mean 6 = .ok (.ifCond .ne 5, 3) := by decide +kernel
theorem dX8_mean_9 : decode cX8_mean 9 = .ok (.iconst (-1), 1) := by decide +kernel
theorem dX8_mean_10 : decode cX8_mean 10 = .ok (.ireturn, 1) := by decide +kernel
theorem dX8_mean_11 : decode cX8_mean 11 = .ok (.aload_n 0, 1) := by decide +kernel
theorem dX8_mean_12 : decode cX8_mean 12 = .ok (.getfield 7, 3) := by decide +kernel
theorem dX8_mean_15 : decode cX8_mean 15 = .ok (.iload_n 1, 1) := by decide +kernel
theorem dX8_mean_16 : decode cX8_mean 16 = .ok (.iaload, 1) := by decide +kernel
theorem dX8_mean_17 : decode cX8_mean 17 = .ok (.ifCond .ge 9, 3) := by decide +kernel
theorem dX8_mean_20 : decode cX8_mean 20 = .ok (.aload_n 0, 1) := by decide +kernel
theorem dX8_mean_21 : decode cX8_mean 21 = .ok (.iconst 1, 1) := by decide +kernel
theorem dX8_mean_22 : decode cX8_mean 22 = .ok (.invokevirtual 73, 3) := by decide +kernel
theorem dX8_mean_25 : decode cX8_mean 25 = .ok (.ireturn, 1) := by decide +kernel
theorem dX8_mean_26 : decode cX8_mean 26 = .ok (.aload_n 0, 1) := by decide +kernel
theorem dX8_mean_27 : decode cX8_mean 27 = .ok (.getfield 7, 3) := by decide +kernel
theorem dX8_mean_30 : decode cX8_mean 30 = .ok (.iload_n 1, 1) := by decide +kernel
theorem dX8_mean_31 : decode cX8_mean 31 = .ok (.iaload, 1) := by decide +kernel
theorem dX8_mean_32 : decode cX8_mean 32 = .ok (.ifCond .ne 9, 3) := by decide +kernel
theorem dX8_mean_35 : decode cX8_mean 35 = .ok (.aload_n 0, 1) := by decide +kernel
theorem dX8_mean_36 : decode cX8_mean 36 = .ok (.iconst 4, 1) := by decide +kernel
theorem dX8_mean_37 : decode cX8_mean 37 = .ok (.invokevirtual 73, 3) := by decide +kernel
theorem dX8_mean_40 : decode cX8_mean 40 = .ok (.ireturn, 1) := by decide +kernel
theorem dX8_mean_41 : decode cX8_mean 41 = .ok (.lconst 0, 1) := by decide +kernel
theorem dX8_mean_42 : decode cX8_mean 42 = .ok (.lstore_n 2, 1) := by decide +kernel
theorem dX8_mean_43 : decode cX8_mean 43 = .ok (.iconst 0, 1) := by decide +kernel
theorem dX8_mean_44 : decode cX8_mean 44 = .ok (.istore 4, 2) := by decide +kernel
theorem dX8_mean_46 : decode cX8_mean 46 = .ok (.iload 4, 2) := by decide +kernel
theorem dX8_mean_48 : decode cX8_mean 48 = .ok (.aload_n 0, 1) := by decide +kernel
theorem dX8_mean_49 : decode cX8_mean 49 = .ok (.getfield 7, 3) := by decide +kernel
theorem dX8_mean_52 : decode cX8_mean 52 = .ok (.iload_n 1, 1) := by decide +kernel
theorem dX8_mean_53 : decode cX8_mean 53 = .ok (.iaload, 1) := by decide +kernel
theorem dX8_mean_54 : decode cX8_mean 54 = .ok (.if_icmp .ge 25, 3) := by decide +kernel
theorem dX8_mean_57 : decode cX8_mean 57 = .ok (.lload_n 2, 1) := by decide +kernel
theorem dX8_mean_58 : decode cX8_mean 58 = .ok (.aload_n 0, 1) := by decide +kernel
theorem dX8_mean_59 : decode cX8_mean 59 = .ok (.getfield 13, 3) := by decide +kernel
theorem dX8_mean_62 : decode cX8_mean 62 = .ok (.bipush 40, 2) := by decide +kernel
theorem dX8_mean_64 : decode cX8_mean 64 = .ok (.iload_n 1, 1) := by decide +kernel
theorem dX8_mean_65 : decode cX8_mean 65 = .ok (.imul, 1) := by decide +kernel
theorem dX8_mean_66 : decode cX8_mean 66 = .ok (.iload 4, 2) := by decide +kernel
theorem dX8_mean_68 : decode cX8_mean 68 = .ok (.iadd, 1) := by decide +kernel
theorem dX8_mean_69 : decode cX8_mean 69 = .ok (.iaload, 1) := by decide +kernel
theorem dX8_mean_70 : decode cX8_mean 70 = .ok (.i2l, 1) := by decide +kernel
theorem dX8_mean_71 : decode cX8_mean 71 = .ok (.ladd, 1) := by decide +kernel
theorem dX8_mean_72 : decode cX8_mean 72 = .ok (.lstore_n 2, 1) := by decide +kernel
theorem dX8_mean_73 : decode cX8_mean 73 = .ok (.iinc 4 1, 3) := by decide +kernel
theorem dX8_mean_76 : decode cX8_mean 76 = .ok (.goto (-30), 3) := by decide +kernel
theorem dX8_mean_79 : decode cX8_mean 79 = .ok (.aload_n 0, 1) := by decide +kernel
theorem dX8_mean_80 : decode cX8_mean 80 = .ok (.lload_n 2, 1) := by decide +kernel
theorem dX8_mean_81 : decode cX8_mean 81 = .ok (.aload_n 0, 1) := by decide +kernel
theorem dX8_mean_82 : decode cX8_mean 82 = .ok (.getfield 7, 3) := by decide +kernel
theorem dX8_mean_85 : decode cX8_mean 85 = .ok (.iload_n 1, 1) := by decide +kernel
theorem dX8_mean_86 : decode cX8_mean 86 = .ok (.iaload, 1) := by decide +kernel
theorem dX8_mean_87 : decode cX8_mean 87 = .ok (.i2l, 1) := by decide +kernel
theorem dX8_mean_88 : decode cX8_mean 88 = .ok (.ldiv, 1) := by decide +kernel
theorem dX8_mean_89 : decode cX8_mean 89 = .ok (.l2i, 1) := by decide +kernel
theorem dX8_mean_90 : decode cX8_mean 90 = .ok (.invokevirtual 81, 3) := by decide +kernel
theorem dX8_mean_93 : decode cX8_mean 93 = .ok (.ireturn, 1) := by decide +kernel
theorem dX8_text_0 : decode cX8_text 0 = .ok (.iload_n 1, 1) := by decide +kernel
theorem dX8_text_1 : decode cX8_text 1 = .ok (.iconst 0, 1) := by decide +kernel
theorem dX8_text_2 : decode cX8_text 2 = .ok (.iconst 3, 1) := by decide +kernel
theorem dX8_text_3 : decode cX8_text 3 = .ok (.invokestatic 66, 3) := by decide +kernel
theorem dX8_text_6 : decode cX8_text 6 = .ok (.ifCond .eq 9, 3) := by decide +kernel
theorem dX8_text_9 : decode cX8_text 9 = .ok (.iload_n 2, 1) := by decide +kernel
theorem dX8_text_10 : decode cX8_text 10 = .ok (.bipush 60, 2) := by decide +kernel
theorem dX8_text_12 : decode cX8_text 12 = .ok (.if_icmp .le 5, 3) := by decide +kernel
theorem dX8_text_15 : decode cX8_text 15 = .ok (.iconst (-1), 1) := by decide +kernel
theorem dX8_text_16 : decode cX8_text 16 = .ok (.ireturn, 1) := by decide +kernel
theorem dX8_text_17 : decode cX8_text 17 = .ok (.iload_n 2, 1) := by decide +kernel
theorem dX8_text_18 : decode cX8_text 18 = .ok (.ifCond .ge 9, 3) := by decide +kernel
theorem dX8_text_21 : decode cX8_text 21 = .ok (.aload_n 0, 1) := by decide +kernel
theorem dX8_text_22 : decode cX8_text 22 = .ok (.iconst 5, 1) := by decide +kernel
theorem dX8_text_23 : decode cX8_text 23 = .ok (.invokevirtual 73, 3) := by decide +kernel
theorem dX8_text_26 : decode cX8_text 26 = .ok (.ireturn, 1) := by decide +kernel
theorem dX8_text_27 : decode cX8_text 27 = .ok (.aload_n 0, 1) := by decide +kernel
theorem dX8_text_28 : decode cX8_text 28 = .ok (.getfield 16, 3) := by decide +kernel
theorem dX8_text_31 : decode cX8_text 31 = .ok (.iload_n 1, 1) := by decide +kernel
theorem dX8_text_32 : decode cX8_text 32 = .ok (.iload_n 2, 1) := by decide +kernel
theorem dX8_text_33 : decode cX8_text 33 = .ok (.iastore, 1) := by decide +kernel
theorem dX8_text_34 : decode cX8_text 34 = .ok (.iconst 0, 1) := by decide +kernel
theorem dX8_text_35 : decode cX8_text 35 = .ok (.istore_n 3, 1) := by decide +kernel
theorem dX8_text_36 : decode cX8_text 36 = .ok (.iload_n 3, 1) := by decide +kernel
theorem dX8_text_37 : decode cX8_text 37 = .ok (.bipush 60, 2) := by decide +kernel
theorem dX8_text_39 : decode cX8_text 39 = .ok (.if_icmp .ge 22, 3) := by decide +kernel
theorem dX8_text_42 : decode cX8_text 42 = .ok (.aload_n 0, 1) := by decide +kernel
theorem dX8_text_43 : decode cX8_text 43 = .ok (.getfield 19, 3) := by decide +kernel
theorem dX8_text_46 : decode cX8_text 46 = .ok (.bipush 60, 2) := by decide +kernel
theorem dX8_text_48 : decode cX8_text 48 = .ok (.iload_n 1, 1) := by decide +kernel
theorem dX8_text_49 : decode cX8_text 49 = .ok (.imul, 1) := by decide +kernel
theorem dX8_text_50 : decode cX8_text 50 = .ok (.iload_n 3, 1) := by decide +kernel
theorem dX8_text_51 : decode cX8_text 51 = .ok (.iadd, 1) := by decide +kernel
theorem dX8_text_52 : decode cX8_text 52 = .ok (.bipush 32, 2) := by decide +kernel
theorem dX8_text_54 : decode cX8_text 54 = .ok (.iastore, 1) := by decide +kernel
theorem dX8_text_55 : decode cX8_text 55 = .ok (.iinc 3 1, 3) := by decide +kernel
theorem dX8_text_58 : decode cX8_text 58 = .ok (.goto (-22), 3) := by decide +kernel
theorem dX8_text_61 : decode cX8_text 61 = .ok (.iload_n 2, 1) := by decide +kernel
theorem dX8_text_62 : decode cX8_text 62 = .ok (.ireturn, 1) := by decide +kernel
theorem dX8_put_0 : decode cX8_put 0 = .ok (.iload_n 1, 1) := by decide +kernel
theorem dX8_put_1 : decode cX8_put 1 = .ok (.iconst 0, 1) := by decide +kernel
theorem dX8_put_2 : decode cX8_put 2 = .ok (.iconst 3, 1) := by decide +kernel
theorem dX8_put_3 : decode cX8_put 3 = .ok (.invokestatic 66, 3) := by decide +kernel
theorem dX8_put_6 : decode cX8_put 6 = .ok (.ifCond .ne 5, 3) := by decide +kernel
theorem dX8_put_9 : decode cX8_put 9 = .ok (.iconst (-1), 1) := by decide +kernel
theorem dX8_put_10 : decode cX8_put 10 = .ok (.ireturn, 1) := by decide +kernel
theorem dX8_put_11 : decode cX8_put 11 = .ok (.aload_n 0, 1) := by decide +kernel
theorem dX8_put_12 : decode cX8_put 12 = .ok (.getfield 16, 3) := by decide +kernel
theorem dX8_put_15 : decode cX8_put 15 = .ok (.iload_n 1, 1) := by decide +kernel
theorem dX8_put_16 : decode cX8_put 16 = .ok (.iaload, 1) := by decide +kernel
theorem dX8_put_17 : decode cX8_put 17 = .ok (.ifCond .ge 9, 3) := by decide +kernel
theorem dX8_put_20 : decode cX8_put 20 = .ok (.aload_n 0, 1) := by decide +kernel
theorem dX8_put_21 : decode cX8_put 21 = .ok (.iconst 1, 1) := by decide +kernel
theorem dX8_put_22 : decode cX8_put 22 = .ok (.invokevirtual 73, 3) := by decide +kernel
theorem dX8_put_25 : decode cX8_put 25 = .ok (.ireturn, 1) := by decide +kernel
theorem dX8_put_26 : decode cX8_put 26 = .ok (.iload_n 2, 1) := by decide +kernel
theorem dX8_put_27 : decode cX8_put 27 = .ok (.iconst 0, 1) := by decide +kernel
theorem dX8_put_28 : decode cX8_put 28 = .ok (.aload_n 0, 1) := by decide +kernel
theorem dX8_put_29 : decode cX8_put 29 = .ok (.getfield 16, 3) := by decide +kernel
theorem dX8_put_32 : decode cX8_put 32 = .ok (.iload_n 1, 1) := by decide +kernel
theorem dX8_put_33 : decode cX8_put 33 = .ok (.iaload, 1) := by decide +kernel
theorem dX8_put_34 : decode cX8_put 34 = .ok (.iconst 1, 1) := by decide +kernel
theorem dX8_put_35 : decode cX8_put 35 = .ok (.isub, 1) := by decide +kernel
theorem dX8_put_36 : decode cX8_put 36 = .ok (.invokestatic 66, 3) := by decide +kernel
theorem dX8_put_39 : decode cX8_put 39 = .ok (.ifCond .ne 9, 3) := by decide +kernel
theorem dX8_put_42 : decode cX8_put 42 = .ok (.aload_n 0, 1) := by decide +kernel
theorem dX8_put_43 : decode cX8_put 43 = .ok (.iconst 2, 1) := by decide +kernel
theorem dX8_put_44 : decode cX8_put 44 = .ok (.invokevirtual 73, 3) := by decide +kernel
theorem dX8_put_47 : decode cX8_put 47 = .ok (.ireturn, 1) := by decide +kernel
theorem dX8_put_48 : decode cX8_put 48 = .ok (.aload_n 0, 1) := by decide +kernel
theorem dX8_put_49 : decode cX8_put 49 = .ok (.getfield 19, 3) := by decide +kernel
theorem dX8_put_52 : decode cX8_put 52 = .ok (.bipush 60, 2) := by decide +kernel
theorem dX8_put_54 : decode cX8_put 54 = .ok (.iload_n 1, 1) := by decide +kernel
theorem dX8_put_55 : decode cX8_put 55 = .ok (.imul, 1) := by decide +kernel
theorem dX8_put_56 : decode cX8_put 56 = .ok (.iload_n 2, 1) := by decide +kernel
theorem dX8_put_57 : decode cX8_put 57 = .ok (.iadd, 1) := by decide +kernel
theorem dX8_put_58 : decode cX8_put 58 = .ok (.iaload, 1) := by decide +kernel
theorem dX8_put_59 : decode cX8_put 59 = .ok (.istore 4, 2) := by decide +kernel
theorem dX8_put_61 : decode cX8_put 61 = .ok (.aload_n 0, 1) := by decide +kernel
theorem dX8_put_62 : decode cX8_put 62 = .ok (.getfield 19, 3) := by decide +kernel
theorem dX8_put_65 : decode cX8_put 65 = .ok (.bipush 60, 2) := by decide +kernel
theorem dX8_put_67 : decode cX8_put 67 = .ok (.iload_n 1, 1) := by decide +kernel
theorem dX8_put_68 : decode cX8_put 68 = .ok (.imul, 1) := by decide +kernel
theorem dX8_put_69 : decode cX8_put 69 = .ok (.iload_n 2, 1) := by decide +kernel
theorem dX8_put_70 : decode cX8_put 70 = .ok (.iadd, 1) := by decide +kernel
theorem dX8_put_71 : decode cX8_put 71 = .ok (.iload_n 3, 1) := by decide +kernel
theorem dX8_put_72 : decode cX8_put 72 = .ok (.i2b, 1) := by decide +kernel
theorem dX8_put_73 : decode cX8_put 73 = .ok (.iastore, 1) := by decide +kernel
theorem dX8_put_74 : decode cX8_put 74 = .ok (.iload 4, 2) := by decide +kernel
theorem dX8_put_76 : decode cX8_put 76 = .ok (.sipush 1000, 3) := by decide +kernel
theorem dX8_put_79 : decode cX8_put 79 = .ok (.iadd, 1) := by decide +kernel
theorem dX8_put_80 : decode cX8_put 80 = .ok (.ireturn, 1) := by decide +kernel
theorem dX8_letterAt_0 : decode cX8_letterAt 0 = .ok (.iload_n 1, 1) := by decide +kernel
theorem dX8_letterAt_1 : decode cX8_letterAt 1 = .ok (.aload_n 0, 1) := by decide +kernel
theorem dX8_letterAt_2 : decode cX8_letterAt 2 = .ok (.getfield 87, 3) := by decide +kernel
theorem dX8_letterAt_5 : decode cX8_letterAt 5 = .ok (.if_icmp .ge 17, 3) := by decide +kernel
theorem dX8_letterAt_8 : decode cX8_letterAt 8 = .ok (.aload_n 0, 1) := by decide +kernel
theorem dX8_letterAt_9 : decode cX8_letterAt 9 = .ok (.getfield 19, 3) := by decide +kernel
theorem dX8_letterAt_12 : decode cX8_letterAt 12 = .ok (.aload_n 0, 1) := by decide +kernel
theorem dX8_letterAt_13 : decode cX8_letterAt 13 = .ok (.getfield 90, 3) := by decide +kernel
theorem dX8_letterAt_16 : decode cX8_letterAt 16 = .ok (.iload_n 1, 1) := by decide +kernel
theorem dX8_letterAt_17 : decode cX8_letterAt 17 = .ok (.iadd, 1) := by decide +kernel
theorem dX8_letterAt_18 : decode cX8_letterAt 18 = .ok (.iaload, 1) := by decide +kernel
theorem dX8_letterAt_19 : decode cX8_letterAt 19 = .ok (.goto 6, 3) := by decide +kernel
theorem dX8_letterAt_22 : decode cX8_letterAt 22 = .ok (.sipush (-1000), 3) := by decide +kernel
theorem dX8_letterAt_25 : decode cX8_letterAt 25 = .ok (.ireturn, 1) := by decide +kernel
theorem dX8_figure_0 : decode cX8_figure 0 = .ok (.aload_n 0, 1) := by decide +kernel
theorem dX8_figure_1 : decode cX8_figure 1 = .ok (.aload_n 0, 1) := by decide +kernel
theorem dX8_figure_2 : decode cX8_figure 2 = .ok (.getfield 93, 3) := by decide +kernel
theorem dX8_figure_5 : decode cX8_figure 5 = .ok (.invokevirtual 96, 3) := by decide +kernel
theorem dX8_figure_8 : decode cX8_figure 8 = .ok (.bipush 48, 2) := by decide +kernel
theorem dX8_figure_10 : decode cX8_figure 10 = .ok (.isub, 1) := by decide +kernel
theorem dX8_figure_11 : decode cX8_figure 11 = .ok (.istore_n 3, 1) := by decide +kernel
theorem dX8_figure_12 : decode cX8_figure 12 = .ok (.iload_n 3, 1) := by decide +kernel
theorem dX8_figure_13 : decode cX8_figure 13 = .ok (.iload_n 1, 1) := by decide +kernel
theorem dX8_figure_14 : decode cX8_figure 14 = .ok (.iload_n 2, 1) := by decide +kernel
theorem dX8_figure_15 : decode cX8_figure 15 = .ok (.invokestatic 66, 3) := by decide +kernel
theorem dX8_figure_18 : decode cX8_figure 18 = .ok (.ifCond .ne 5, 3) := by decide +kernel
theorem dX8_figure_21 : decode cX8_figure 21 = .ok (.iconst (-1), 1) := by decide +kernel
theorem dX8_figure_22 : decode cX8_figure 22 = .ok (.ireturn, 1) := by decide +kernel
theorem dX8_figure_23 : decode cX8_figure 23 = .ok (.aload_n 0, 1) := by decide +kernel
theorem dX8_figure_24 : decode cX8_figure 24 = .ok (.dup, 1) := by decide +kernel
theorem dX8_figure_25 : decode cX8_figure 25 = .ok (.getfield 93, 3) := by decide +kernel
theorem dX8_figure_28 : decode cX8_figure 28 = .ok (.iconst 1, 1) := by decide +kernel
theorem dX8_figure_29 : decode cX8_figure 29 = .ok (.iadd, 1) := by decide +kernel
theorem dX8_figure_30 : decode cX8_figure 30 = .ok (.putfield 93, 3) := by decide +kernel
theorem dX8_figure_33 : decode cX8_figure 33 = .ok (.iload_n 3, 1) := by decide +kernel
theorem dX8_figure_34 : decode cX8_figure 34 = .ok (.ireturn, 1) := by decide +kernel
theorem dX8_skip_0 : decode cX8_skip 0 = .ok (.aload_n 0, 1) := by decide +kernel
theorem dX8_skip_1 : decode cX8_skip 1 = .ok (.aload_n 0, 1) := by decide +kernel
theorem dX8_skip_2 : decode cX8_skip 2 = .ok (.getfield 93, 3) := by decide +kernel
theorem dX8_skip_5 : decode cX8_skip 5 = .ok (.invokevirtual 96, 3) := by decide +kernel
theorem dX8_skip_8 : decode cX8_skip 8 = .ok (.bipush 32, 2) := by decide +kernel
theorem dX8_skip_10 : decode cX8_skip 10 = .ok (.if_icmp .ne 16, 3) := by decide +kernel
theorem dX8_skip_13 : decode cX8_skip 13 = .ok (.aload_n 0, 1) := by decide +kernel
theorem dX8_skip_14 : decode cX8_skip 14 = .ok (.dup, 1) := by decide +kernel
theorem dX8_skip_15 : decode cX8_skip 15 = .ok (.getfield 93, 3) := by decide +kernel
theorem dX8_skip_18 : decode cX8_skip 18 = .ok (.iconst 1, 1) := by decide +kernel
theorem dX8_skip_19 : decode cX8_skip 19 = .ok (.iadd, 1) := by decide +kernel
theorem dX8_skip_20 : decode cX8_skip 20 = .ok (.putfield 93, 3) := by decide +kernel
theorem dX8_skip_23 : decode cX8_skip 23 = .ok (.goto (-23), 3) := by decide +kernel
theorem dX8_skip_26 : decode cX8_skip 26 = .ok (.return_, 1) := by decide +kernel
theorem dX8_sortBy_0 : decode cX8_sortBy 0 = .ok (.iload_n 0, 1) := by decide +kernel
theorem dX8_sortBy_1 : decode cX8_sortBy 1 = .ok (.bipush 109, 2) := by decide +kernel
theorem dX8_sortBy_3 : decode cX8_sortBy 3 = .ok (.if_icmp .ne 7, 3) := by decide +kernel
theorem dX8_sortBy_6 : decode cX8_sortBy 6 = .ok (.iconst 0, 1) := by decide +kernel
theorem dX8_sortBy_7 : decode cX8_sortBy 7 = .ok (.goto 54, 3) := by decide +kernel
theorem dX8_sortBy_10 : decode cX8_sortBy 10 = .ok (.iload_n 0, 1) := by decide +kernel
theorem dX8_sortBy_11 : decode cX8_sortBy 11 = .ok (.bipush 98, 2) := by decide +kernel
theorem dX8_sortBy_13 : decode cX8_sortBy 13 = .ok (.if_icmp .ne 7, 3) := by decide +kernel
theorem dX8_sortBy_16 : decode cX8_sortBy 16 = .ok (.iconst 1, 1) := by decide +kernel
theorem dX8_sortBy_17 : decode cX8_sortBy 17 = .ok (.goto 44, 3) := by decide +kernel
theorem dX8_sortBy_20 : decode cX8_sortBy 20 = .ok (.iload_n 0, 1) := by decide +kernel
theorem dX8_sortBy_21 : decode cX8_sortBy 21 = .ok (.bipush 121, 2) := by decide +kernel
theorem dX8_sortBy_23 : decode cX8_sortBy 23 = .ok (.if_icmp .ne 7, 3) := by decide +kernel
theorem dX8_sortBy_26 : decode cX8_sortBy 26 = .ok (.iconst 2, 1) := by decide +kernel
theorem dX8_sortBy_27 : decode cX8_sortBy 27 = .ok (.goto 34, 3) := by decide +kernel
theorem dX8_sortBy_30 : decode cX8_sortBy 30 = .ok (.iload_n 0, 1) := by decide +kernel
theorem dX8_sortBy_31 : decode cX8_sortBy 31 = .ok (.bipush 102, 2) := by decide +kernel
theorem dX8_sortBy_33 : decode cX8_sortBy 33 = .ok (.if_icmp .ne 7, 3) := by decide +kernel
theorem dX8_sortBy_36 : decode cX8_sortBy 36 = .ok (.iconst 3, 1) := by decide +kernel
theorem dX8_sortBy_37 : decode cX8_sortBy 37 = .ok (.goto 24, 3) := by decide +kernel
theorem dX8_sortBy_40 : decode cX8_sortBy 40 = .ok (.iload_n 0, 1) := by decide +kernel
theorem dX8_sortBy_41 : decode cX8_sortBy 41 = .ok (.bipush 97, 2) := by decide +kernel
theorem dX8_sortBy_43 : decode cX8_sortBy 43 = .ok (.if_icmp .ne 7, 3) := by decide +kernel
theorem dX8_sortBy_46 : decode cX8_sortBy 46 = .ok (.iconst 4, 1) := by decide +kernel
theorem dX8_sortBy_47 : decode cX8_sortBy 47 = .ok (.goto 14, 3) := by decide +kernel
theorem dX8_sortBy_50 : decode cX8_sortBy 50 = .ok (.iload_n 0, 1) := by decide +kernel
theorem dX8_sortBy_51 : decode cX8_sortBy 51 = .ok (.bipush 118, 2) := by decide +kernel
theorem dX8_sortBy_53 : decode cX8_sortBy 53 = .ok (.if_icmp .ne 7, 3) := by decide +kernel
theorem dX8_sortBy_56 : decode cX8_sortBy 56 = .ok (.iconst 5, 1) := by decide +kernel
theorem dX8_sortBy_57 : decode cX8_sortBy 57 = .ok (.goto 4, 3) := by decide +kernel
theorem dX8_sortBy_60 : decode cX8_sortBy 60 = .ok (.iconst (-1), 1) := by decide +kernel
theorem dX8_sortBy_61 : decode cX8_sortBy 61 = .ok (.ireturn, 1) := by decide +kernel
theorem dX8_isCeiling_0 : decode cX8_isCeiling 0 = .ok (.aload_n 0, 1) := by decide +kernel
theorem dX8_isCeiling_1 : decode cX8_isCeiling 1 = .ok (.aload_n 0, 1) := by decide +kernel
theorem dX8_isCeiling_2 : decode cX8_isCeiling 2 = .ok (.getfield 93, 3) := by decide +kernel
theorem dX8_isCeiling_5 : decode cX8_isCeiling 5 = .ok (.invokevirtual 96, 3) := by decide +kernel
theorem dX8_isCeiling_8 : decode cX8_isCeiling 8 = .ok (.bipush 112, 2) := by decide +kernel
theorem dX8_isCeiling_10 : decode cX8_isCeiling 10 = .ok (.if_icmp .eq 5, 3) := by decide +kernel
theorem dX8_isCeiling_13 : decode cX8_isCeiling 13 = .ok (.iconst 0, 1) := by decide +kernel
theorem dX8_isCeiling_14 : decode cX8_isCeiling 14 = .ok (.ireturn, 1) := by decide +kernel
theorem dX8_isCeiling_15 : decode cX8_isCeiling 15 = .ok (.aload_n 0, 1) := by decide +kernel
theorem dX8_isCeiling_16 : decode cX8_isCeiling 16 = .ok (.dup, 1) := by decide +kernel
theorem dX8_isCeiling_17 : decode cX8_isCeiling 17 = .ok (.getfield 93, 3) := by decide +kernel
theorem dX8_isCeiling_20 : decode cX8_isCeiling 20 = .ok (.iconst 1, 1) := by decide +kernel
theorem dX8_isCeiling_21 : decode cX8_isCeiling 21 = .ok (.iadd, 1) := by decide +kernel
theorem dX8_isCeiling_22 : decode cX8_isCeiling 22 = .ok (.putfield 93, 3) := by decide +kernel
theorem dX8_isCeiling_25 : decode cX8_isCeiling 25 = .ok (.aload_n 0, 1) := by decide +kernel
theorem dX8_isCeiling_26 : decode cX8_isCeiling 26 = .ok (.aload_n 0, 1) := by decide +kernel
theorem dX8_isCeiling_27 : decode cX8_isCeiling 27 = .ok (.iconst 0, 1) := by decide +kernel
theorem dX8_isCeiling_28 : decode cX8_isCeiling 28 = .ok (.bipush 9, 2) := by decide +kernel
theorem dX8_isCeiling_30 : decode cX8_isCeiling 30 = .ok (.invokevirtual 99, 3) := by decide +kernel
theorem dX8_isCeiling_33 : decode cX8_isCeiling 33 = .ok (.putfield 102, 3) := by decide +kernel
theorem dX8_isCeiling_36 : decode cX8_isCeiling 36 = .ok (.aload_n 0, 1) := by decide +kernel
theorem dX8_isCeiling_37 : decode cX8_isCeiling 37 = .ok (.getfield 102, 3) := by decide +kernel
theorem dX8_isCeiling_40 : decode cX8_isCeiling 40 = .ok (.ifCond .ge 5, 3) := by decide +kernel
theorem dX8_isCeiling_43 : decode cX8_isCeiling 43 = .ok (.iconst 0, 1) := by decide +kernel
theorem dX8_isCeiling_44 : decode cX8_isCeiling 44 = .ok (.ireturn, 1) := by decide +kernel
theorem dX8_isCeiling_45 : decode cX8_isCeiling 45 = .ok (.aload_n 0, 1) := by decide +kernel
theorem dX8_isCeiling_46 : decode cX8_isCeiling 46 = .ok (.aload_n 0, 1) := by decide +kernel
theorem dX8_isCeiling_47 : decode cX8_isCeiling 47 = .ok (.iconst 3, 1) := by decide +kernel
theorem dX8_isCeiling_48 : decode cX8_isCeiling 48 = .ok (.bipush 8, 2) := by decide +kernel
theorem dX8_isCeiling_50 : decode cX8_isCeiling 50 = .ok (.invokevirtual 99, 3) := by decide +kernel
theorem dX8_isCeiling_53 : decode cX8_isCeiling 53 = .ok (.putfield 105, 3) := by decide +kernel
theorem dX8_isCeiling_56 : decode cX8_isCeiling 56 = .ok (.aload_n 0, 1) := by decide +kernel
theorem dX8_isCeiling_57 : decode cX8_isCeiling 57 = .ok (.getfield 105, 3) := by decide +kernel
theorem dX8_isCeiling_60 : decode cX8_isCeiling 60 = .ok (.ifCond .le 7, 3) := by decide +kernel
theorem dX8_isCeiling_63 : decode cX8_isCeiling 63 = .ok (.iconst 1, 1) := by decide +kernel
theorem dX8_isCeiling_64 : decode cX8_isCeiling 64 = .ok (.goto 4, 3) := by decide +kernel
theorem dX8_isCeiling_67 : decode cX8_isCeiling 67 = .ok (.iconst 0, 1) := by decide +kernel
theorem dX8_isCeiling_68 : decode cX8_isCeiling 68 = .ok (.ireturn, 1) := by decide +kernel
theorem dX8_isMemberItem_0 : decode cX8_isMemberItem 0 = .ok (.aload_n 0, 1) := by decide +kernel
theorem dX8_isMemberItem_1 : decode cX8_isMemberItem 1 = .ok (.aload_n 0, 1) := by decide +kernel
theorem dX8_isMemberItem_2 : decode cX8_isMemberItem 2 = .ok (.getfield 93, 3) := by decide +kernel
theorem dX8_isMemberItem_5 : decode cX8_isMemberItem 5 = .ok (.invokevirtual 96, 3) := by decide +kernel
theorem dX8_isMemberItem_8 : decode cX8_isMemberItem 8 = .ok (.invokestatic 108, 3) := by decide +kernel
theorem dX8_isMemberItem_11 : decode cX8_isMemberItem 11 = .ok (.istore_n 1, 1) := by decide +kernel
theorem dX8_isMemberItem_12 : decode cX8_isMemberItem 12 = .ok (.iload_n 1, 1) := by decide +kernel
theorem dX8_isMemberItem_13 : decode cX8_isMemberItem 13 = .ok (.ifCond .lt 12, 3) := by decide +kernel
theorem dX8_isMemberItem_16 : decode cX8_isMemberItem 16 = .ok (.aload_n 0, 1) := by decide +kernel
theorem dX8_isMemberItem_17 : decode cX8_isMemberItem 17 = .ok (.getfield 111, 3) := by decide +kernel
theorem dX8_isMemberItem_20 : decode cX8_isMemberItem 20 = .ok (.bipush 6, 2) := by decide +kernel
theorem dX8_isMemberItem_22 : decode cX8_isMemberItem 22 = .ok (.if_icmp .ne 5, 3) := by decide +kernel
theorem dX8_isMemberItem_25 : decode cX8_isMemberItem 25 = .ok (.iconst 0, 1) := by decide +kernel
theorem dX8_isMemberItem_26 : decode cX8_isMemberItem 26 = .ok (.ireturn, 1) := by decide +kernel
theorem dX8_isMemberItem_27 : decode cX8_isMemberItem 27 = .ok (.aload_n 0, 1) := by decide +kernel
theorem dX8_isMemberItem_28 : decode cX8_isMemberItem 28 = .ok (.dup, 1) := by decide +kernel
theorem dX8_isMemberItem_29 : decode cX8_isMemberItem 29 = .ok (.getfield 93, 3) := by decide +kernel
theorem dX8_isMemberItem_32 : decode cX8_isMemberItem 32 = .ok (.iconst 1, 1) := by decide +kernel
theorem dX8_isMemberItem_33 : decode cX8_isMemberItem 33 = .ok (.iadd, 1) := by decide +kernel
theorem dX8_isMemberItem_34 : decode cX8_isMemberItem 34 = .ok (.putfield 93, 3) := by decide +kernel
theorem dX8_isMemberItem_37 : decode cX8_isMemberItem 37 = .ok (.aload_n 0, 1) := by decide +kernel
theorem dX8_isMemberItem_38 : decode cX8_isMemberItem 38 = .ok (.iconst 0, 1) := by decide +kernel
theorem dX8_isMemberItem_39 : decode cX8_isMemberItem 39 = .ok (.aload_n 0, 1) := by decide +kernel
theorem dX8_isMemberItem_40 : decode cX8_isMemberItem 40 = .ok (.getfield 105, 3) := by decide +kernel
theorem dX8_isMemberItem_43 : decode cX8_isMemberItem 43 = .ok (.iconst 1, 1) := by decide +kernel
theorem dX8_isMemberItem_44 : decode cX8_isMemberItem 44 = .ok (.isub, 1) := by decide +kernel
theorem dX8_isMemberItem_45 : decode cX8_isMemberItem 45 = .ok (.invokevirtual 99, 3) := by decide +kernel
theorem dX8_isMemberItem_48 : decode cX8_isMemberItem 48 = .ok (.istore_n 2, 1) := by decide +kernel
theorem dX8_isMemberItem_49 : decode cX8_isMemberItem 49 = .ok (.iload_n 2, 1) := by decide +kernel
theorem dX8_isMemberItem_50 : decode cX8_isMemberItem 50 = .ok (.ifCond .ge 5, 3) := by decide +kernel
theorem dX8_isMemberItem_53 : decode cX8_isMemberItem 53 = .ok (.iconst 0, 1) := by decide +kernel
theorem dX8_isMemberItem_54 : decode cX8_isMemberItem 54 = .ok (.ireturn, 1) := by decide +kernel
theorem dX8_isMemberItem_55 : decode cX8_isMemberItem 55 = .ok (.aload_n 0, 1) := by decide +kernel
theorem dX8_isMemberItem_56 : decode cX8_isMemberItem 56 = .ok (.getfield 29, 3) := by decide +kernel
theorem dX8_isMemberItem_59 : decode cX8_isMemberItem 59 = .ok (.iconst 2, 1) := by decide +kernel
theorem dX8_isMemberItem_60 : decode cX8_isMemberItem 60 = .ok (.aload_n 0, 1) := by decide +kernel
theorem dX8_isMemberItem_61 : decode cX8_isMemberItem 61 = .ok (.getfield 111, 3) := by decide +kernel
theorem dX8_isMemberItem_64 : decode cX8_isMemberItem 64 = .ok (.imul, 1) := by decide +kernel
theorem dX8_isMemberItem_65 : decode cX8_isMemberItem 65 = .ok (.iload_n 1, 1) := by decide +kernel
theorem dX8_isMemberItem_66 : decode cX8_isMemberItem 66 = .ok (.iastore, 1) := by decide +kernel
theorem dX8_isMemberItem_67 : decode cX8_isMemberItem 67 = .ok (.aload_n 0, 1) := by decide +kernel
theorem dX8_isMemberItem_68 : decode cX8_isMemberItem 68 = .ok (.getfield 29, 3) := by decide +kernel
theorem dX8_isMemberItem_71 : decode cX8_isMemberItem 71 = .ok (.iconst 2, 1) := by decide +kernel
theorem dX8_isMemberItem_72 : decode cX8_isMemberItem 72 = .ok (.aload_n 0, 1) := by decide +kernel
theorem dX8_isMemberItem_73 : decode cX8_isMemberItem 73 = .ok (.getfield 111, 3) := by decide +kernel
theorem dX8_isMemberItem_76 : decode cX8_isMemberItem 76 = .ok (.imul, 1) := by decide +kernel
theorem dX8_isMemberItem_77 : decode cX8_isMemberItem 77 = .ok (.iconst 1, 1) := by decide +kernel
theorem dX8_isMemberItem_78 : decode cX8_isMemberItem 78 = .ok (.iadd, 1) := by decide +kernel
theorem dX8_isMemberItem_79 : decode cX8_isMemberItem 79 = .ok (.iload_n 2, 1) := by decide +kernel
theorem dX8_isMemberItem_80 : decode cX8_isMemberItem 80 = .ok (.iastore, 1) := by decide +kernel
theorem dX8_isMemberItem_81 : decode cX8_isMemberItem 81 = .ok (.aload_n 0, 1) := by decide +kernel
theorem dX8_isMemberItem_82 : decode cX8_isMemberItem 82 = .ok (.dup, 1) := by decide +kernel
theorem dX8_isMemberItem_83 : decode cX8_isMemberItem 83 = .ok (.getfield 111, 3) := by decide +kernel
theorem dX8_isMemberItem_86 : decode cX8_isMemberItem 86 = .ok (.iconst 1, 1) := by decide +kernel
theorem dX8_isMemberItem_87 : decode cX8_isMemberItem 87 = .ok (.iadd, 1) := by decide +kernel
theorem dX8_isMemberItem_88 : decode cX8_isMemberItem 88 = .ok (.putfield 111, 3) := by decide +kernel
theorem dX8_isMemberItem_91 : decode cX8_isMemberItem 91 = .ok (.iconst 1, 1) := by decide +kernel
theorem dX8_isMemberItem_92 : decode cX8_isMemberItem 92 = .ok (.ireturn, 1) := by decide +kernel
theorem dX8_read_0 : decode cX8_read 0 = .ok (.aload_n 0, 1) := by decide +kernel
theorem dX8_read_1 : decode cX8_read 1 = .ok (.bipush 60, 2) := by decide +kernel
theorem dX8_read_3 : decode cX8_read 3 = .ok (.iload_n 1, 1) := by decide +kernel
theorem dX8_read_4 : decode cX8_read 4 = .ok (.imul, 1) := by decide +kernel
theorem dX8_read_5 : decode cX8_read 5 = .ok (.putfield 90, 3) := by decide +kernel
theorem dX8_read_8 : decode cX8_read 8 = .ok (.aload_n 0, 1) := by decide +kernel
theorem dX8_read_9 : decode cX8_read 9 = .ok (.aload_n 0, 1) := by decide +kernel
theorem dX8_read_10 : decode cX8_read 10 = .ok (.getfield 16, 3) := by decide +kernel
theorem dX8_read_13 : decode cX8_read 13 = .ok (.iload_n 1, 1) := by decide +kernel
theorem dX8_read_14 : decode cX8_read 14 = .ok (.iaload, 1) := by decide +kernel
theorem dX8_read_15 : decode cX8_read 15 = .ok (.putfield 87, 3) := by decide +kernel
theorem dX8_read_18 : decode cX8_read 18 = .ok (.aload_n 0, 1) := by decide +kernel
theorem dX8_read_19 : decode cX8_read 19 = .ok (.iconst 0, 1) := by decide +kernel
theorem dX8_read_20 : decode cX8_read 20 = .ok (.putfield 93, 3) := by decide +kernel
theorem dX8_read_23 : decode cX8_read 23 = .ok (.aload_n 0, 1) := by decide +kernel
theorem dX8_read_24 : decode cX8_read 24 = .ok (.iconst 0, 1) := by decide +kernel
theorem dX8_read_25 : decode cX8_read 25 = .ok (.putfield 111, 3) := by decide +kernel
theorem dX8_read_28 : decode cX8_read 28 = .ok (.aload_n 0, 1) := by decide +kernel
theorem dX8_read_29 : decode cX8_read 29 = .ok (.invokevirtual 114, 3) := by decide +kernel
theorem dX8_read_32 : decode cX8_read 32 = .ok (.aload_n 0, 1) := by decide +kernel
theorem dX8_read_33 : decode cX8_read 33 = .ok (.invokevirtual 117, 3) := by decide +kernel
theorem dX8_read_36 : decode cX8_read 36 = .ok (.ifCond .ne 8, 3) := by decide +kernel
theorem dX8_read_39 : decode cX8_read 39 = .ok (.aload_n 0, 1) := by decide +kernel
theorem dX8_read_40 : decode cX8_read 40 = .ok (.getfield 93, 3) := by decide +kernel
theorem dX8_read_43 : decode cX8_read 43 = .ok (.ireturn, 1) := by decide +kernel
theorem dX8_read_44 : decode cX8_read 44 = .ok (.aload_n 0, 1) := by decide +kernel
theorem dX8_read_45 : decode cX8_read 45 = .ok (.invokevirtual 114, 3) := by decide +kernel
theorem dX8_read_48 : decode cX8_read 48 = .ok (.aload_n 0, 1) := by decide +kernel
theorem dX8_read_49 : decode cX8_read 49 = .ok (.getfield 93, 3) := by decide +kernel
theorem dX8_read_52 : decode cX8_read 52 = .ok (.aload_n 0, 1) := by decide +kernel
theorem dX8_read_53 : decode cX8_read 53 = .ok (.getfield 87, 3) := by decide +kernel
theorem dX8_read_56 : decode cX8_read 56 = .ok (.if_icmp .ge 22, 3) := by decide +kernel
theorem dX8_read_59 : decode cX8_read 59 = .ok (.aload_n 0, 1) := by decide +kernel
theorem dX8_read_60 : decode cX8_read 60 = .ok (.invokevirtual 121, 3) := by decide +kernel
theorem dX8_read_63 : decode cX8_read 63 = .ok (.ifCond .ne 8, 3) := by decide +kernel
theorem dX8_read_66 : decode cX8_read 66 = .ok (.aload_n 0, 1) := by decide +kernel
theorem dX8_read_67 : decode cX8_read 67 = .ok (.getfield 93, 3) := by decide +kernel
theorem dX8_read_70 : decode cX8_read 70 = .ok (.ireturn, 1) := by decide +kernel
theorem dX8_read_71 : decode cX8_read 71 = .ok (.aload_n 0, 1) := by decide +kernel
theorem dX8_read_72 : decode cX8_read 72 = .ok (.invokevirtual 114, 3) := by decide +kernel
theorem dX8_read_75 : decode cX8_read 75 = .ok (.goto (-27), 3) := by decide +kernel
theorem dX8_read_78 : decode cX8_read 78 = .ok (.aload_n 0, 1) := by decide +kernel
theorem dX8_read_79 : decode cX8_read 79 = .ok (.getfield 111, 3) := by decide +kernel
theorem dX8_read_82 : decode cX8_read 82 = .ok (.ifCond .ne 10, 3) := by decide +kernel
theorem dX8_read_85 : decode cX8_read 85 = .ok (.aload_n 0, 1) := by decide +kernel
theorem dX8_read_86 : decode cX8_read 86 = .ok (.getfield 87, 3) := by decide +kernel
theorem dX8_read_89 : decode cX8_read 89 = .ok (.goto 5, 3) := by decide +kernel
theorem dX8_read_92 : decode cX8_read 92 = .ok (.bipush (-9), 2) := by decide +kernel
theorem dX8_read_94 : decode cX8_read 94 = .ok (.ireturn, 1) := by decide +kernel
theorem dX8_fault_0 : decode cX8_fault 0 = .ok (.iload_n 1, 1) := by decide +kernel
theorem dX8_fault_1 : decode cX8_fault 1 = .ok (.iconst 0, 1) := by decide +kernel
theorem dX8_fault_2 : decode cX8_fault 2 = .ok (.iconst 3, 1) := by decide +kernel
theorem dX8_fault_3 : decode cX8_fault 3 = .ok (.invokestatic 66, 3) := by decide +kernel
theorem dX8_fault_6 : decode cX8_fault 6 = .ok (.ifCond .ne 5, 3) := by decide +kernel
theorem dX8_fault_9 : decode cX8_fault 9 = .ok (.iconst (-1), 1) := by decide +kernel
theorem dX8_fault_10 : decode cX8_fault 10 = .ok (.ireturn, 1) := by decide +kernel
theorem dX8_fault_11 : decode cX8_fault 11 = .ok (.aload_n 0, 1) := by decide +kernel
theorem dX8_fault_12 : decode cX8_fault 12 = .ok (.getfield 16, 3) := by decide +kernel
theorem dX8_fault_15 : decode cX8_fault 15 = .ok (.iload_n 1, 1) := by decide +kernel
theorem dX8_fault_16 : decode cX8_fault 16 = .ok (.iaload, 1) := by decide +kernel
theorem dX8_fault_17 : decode cX8_fault 17 = .ok (.ifCond .ge 11, 3) := by decide +kernel
theorem dX8_fault_20 : decode cX8_fault 20 = .ok (.aload_n 0, 1) := by decide +kernel
theorem dX8_fault_21 : decode cX8_fault 21 = .ok (.iconst 1, 1) := by decide +kernel
theorem dX8_fault_22 : decode cX8_fault 22 = .ok (.invokevirtual 73, 3) := by decide +kernel
theorem dX8_fault_25 : decode cX8_fault 25 = .ok (.goto 8, 3) := by decide +kernel
theorem dX8_fault_28 : decode cX8_fault 28 = .ok (.aload_n 0, 1) := by decide +kernel
theorem dX8_fault_29 : decode cX8_fault 29 = .ok (.iload_n 1, 1) := by decide +kernel
theorem dX8_fault_30 : decode cX8_fault 30 = .ok (.invokevirtual 124, 3) := by decide +kernel
theorem dX8_fault_33 : decode cX8_fault 33 = .ok (.ireturn, 1) := by decide +kernel
theorem dX8_club_0 : decode cX8_club 0 = .ok (.iload_n 1, 1) := by decide +kernel
theorem dX8_club_1 : decode cX8_club 1 = .ok (.iconst 0, 1) := by decide +kernel
theorem dX8_club_2 : decode cX8_club 2 = .ok (.iconst 3, 1) := by decide +kernel
theorem dX8_club_3 : decode cX8_club 3 = .ok (.invokestatic 66, 3) := by decide +kernel
theorem dX8_club_6 : decode cX8_club 6 = .ok (.ifCond .ne 5, 3) := by decide +kernel
theorem dX8_club_9 : decode cX8_club 9 = .ok (.iconst (-1), 1) := by decide +kernel
theorem dX8_club_10 : decode cX8_club 10 = .ok (.ireturn, 1) := by decide +kernel
theorem dX8_club_11 : decode cX8_club 11 = .ok (.aload_n 0, 1) := by decide +kernel
theorem dX8_club_12 : decode cX8_club 12 = .ok (.getfield 16, 3) := by decide +kernel
theorem dX8_club_15 : decode cX8_club 15 = .ok (.iload_n 1, 1) := by decide +kernel
theorem dX8_club_16 : decode cX8_club 16 = .ok (.iaload, 1) := by decide +kernel
theorem dX8_club_17 : decode cX8_club 17 = .ok (.ifCond .ge 9, 3) := by decide +kernel
theorem dX8_club_20 : decode cX8_club 20 = .ok (.aload_n 0, 1) := by decide +kernel
theorem dX8_club_21 : decode cX8_club 21 = .ok (.iconst 1, 1) := by decide +kernel
theorem dX8_club_22 : decode cX8_club 22 = .ok (.invokevirtual 73, 3) := by decide +kernel
theorem dX8_club_25 : decode cX8_club 25 = .ok (.ireturn, 1) := by decide +kernel
theorem dX8_club_26 : decode cX8_club 26 = .ok (.aload_n 0, 1) := by decide +kernel
theorem dX8_club_27 : decode cX8_club 27 = .ok (.iload_n 1, 1) := by decide +kernel
theorem dX8_club_28 : decode cX8_club 28 = .ok (.invokevirtual 124, 3) := by decide +kernel
theorem dX8_club_31 : decode cX8_club 31 = .ok (.bipush (-9), 2) := by decide +kernel
theorem dX8_club_33 : decode cX8_club 33 = .ok (.if_icmp .eq 6, 3) := by decide +kernel
theorem dX8_club_36 : decode cX8_club 36 = .ok (.bipush (-4), 2) := by decide +kernel
theorem dX8_club_38 : decode cX8_club 38 = .ok (.ireturn, 1) := by decide +kernel
theorem dX8_club_39 : decode cX8_club 39 = .ok (.iconst 0, 1) := by decide +kernel
theorem dX8_club_40 : decode cX8_club 40 = .ok (.istore_n 2, 1) := by decide +kernel
theorem dX8_club_41 : decode cX8_club 41 = .ok (.iload_n 2, 1) := by decide +kernel
theorem dX8_club_42 : decode cX8_club 42 = .ok (.bipush 17, 2) := by decide +kernel
theorem dX8_club_44 : decode cX8_club 44 = .ok (.if_icmp .ge 16, 3) := by decide +kernel
theorem dX8_club_47 : decode cX8_club 47 = .ok (.aload_n 0, 1) := by decide +kernel
theorem dX8_club_48 : decode cX8_club 48 = .ok (.getfield 38, 3) := by decide +kernel
theorem dX8_club_51 : decode cX8_club 51 = .ok (.iload_n 2, 1) := by decide +kernel
theorem dX8_club_52 : decode cX8_club 52 = .ok (.iconst 0, 1) := by decide +kernel
theorem dX8_club_53 : decode cX8_club 53 = .ok (.iastore, 1) := by decide +kernel
theorem dX8_club_54 : decode cX8_club 54 = .ok (.iinc 2 1, 3) := by decide +kernel
theorem dX8_club_57 : decode cX8_club 57 = .ok (.goto (-16), 3) := by decide +kernel
theorem dX8_club_60 : decode cX8_club 60 = .ok (.aload_n 0, 1) := by decide +kernel
theorem dX8_club_61 : decode cX8_club 61 = .ok (.aload_n 0, 1) := by decide +kernel
theorem dX8_club_62 : decode cX8_club 62 = .ok (.getfield 102, 3) := by decide +kernel
theorem dX8_club_65 : decode cX8_club 65 = .ok (.putfield 127, 3) := by decide +kernel
theorem dX8_club_68 : decode cX8_club 68 = .ok (.aload_n 0, 1) := by decide +kernel
theorem dX8_club_69 : decode cX8_club 69 = .ok (.aload_n 0, 1) := by decide +kernel
theorem dX8_club_70 : decode cX8_club 70 = .ok (.getfield 105, 3) := by decide +kernel
theorem dX8_club_73 : decode cX8_club 73 = .ok (.putfield 70, 3) := by decide +kernel
theorem dX8_club_76 : decode cX8_club 76 = .ok (.aload_n 0, 1) := by decide +kernel
theorem dX8_club_77 : decode cX8_club 77 = .ok (.aload_n 0, 1) := by decide +kernel
theorem dX8_club_78 : decode cX8_club 78 = .ok (.getfield 111, 3) := by decide +kernel
theorem dX8_club_81 : decode cX8_club 81 = .ok (.putfield 63, 3) := by decide +kernel
theorem dX8_club_84 : decode cX8_club 84 = .ok (.iconst 0, 1) := by decide +kernel
theorem dX8_club_85 : decode cX8_club 85 = .ok (.istore_n 2, 1) := by decide +kernel
theorem dX8_club_86 : decode cX8_club 86 = .ok (.iload_n 2, 1) := by decide +kernel
theorem dX8_club_87 : decode cX8_club 87 = .ok (.aload_n 0, 1) := by decide +kernel
theorem dX8_club_88 : decode cX8_club 88 = .ok (.getfield 63, 3) := by decide +kernel
theorem dX8_club_91 : decode cX8_club 91 = .ok (.if_icmp .ge 39, 3) := by decide +kernel
theorem dX8_club_94 : decode cX8_club 94 = .ok (.aload_n 0, 1) := by decide +kernel
theorem dX8_club_95 : decode cX8_club 95 = .ok (.getfield 32, 3) := by decide +kernel
theorem dX8_club_98 : decode cX8_club 98 = .ok (.iload_n 2, 1) := by decide +kernel
theorem dX8_club_99 : decode cX8_club 99 = .ok (.aload_n 0, 1) := by decide +kernel
theorem dX8_club_100 : decode cX8_club 100 = .ok (.getfield 29, 3) := by decide +kernel
theorem dX8_club_103 : decode cX8_club 103 = .ok (.iconst 2, 1) := by decide +kernel
theorem dX8_club_104 : decode cX8_club 104 = .ok (.iload_n 2, 1) := by decide +kernel
theorem dX8_club_105 : decode cX8_club 105 = .ok (.imul, 1) := by decide +kernel
theorem dX8_club_106 : decode cX8_club 106 = .ok (.iaload, 1) := by decide +kernel
theorem dX8_club_107 : decode cX8_club 107 = .ok (.iastore, 1) := by decide +kernel
theorem dX8_club_108 : decode cX8_club 108 = .ok (.aload_n 0, 1) := by decide +kernel
theorem dX8_club_109 : decode cX8_club 109 = .ok (.getfield 35, 3) := by decide +kernel
theorem dX8_club_112 : decode cX8_club 112 = .ok (.iload_n 2, 1) := by decide +kernel
theorem dX8_club_113 : decode cX8_club 113 = .ok (.aload_n 0, 1) := by decide +kernel
theorem dX8_club_114 : decode cX8_club 114 = .ok (.getfield 29, 3) := by decide +kernel
theorem dX8_club_117 : decode cX8_club 117 = .ok (.iconst 2, 1) := by decide +kernel
theorem dX8_club_118 : decode cX8_club 118 = .ok (.iload_n 2, 1) := by decide +kernel
theorem dX8_club_119 : decode cX8_club 119 = .ok (.imul, 1) := by decide +kernel
theorem dX8_club_120 : decode cX8_club 120 = .ok (.iconst 1, 1) := by decide +kernel
theorem dX8_club_121 : decode cX8_club 121 = .ok (.iadd, 1) := by decide +kernel
theorem dX8_club_122 : decode cX8_club 122 = .ok (.iaload, 1) := by decide +kernel
theorem dX8_club_123 : decode cX8_club 123 = .ok (.iastore, 1) := by decide +kernel
theorem dX8_club_124 : decode cX8_club 124 = .ok (.iinc 2 1, 3) := by decide +kernel
theorem dX8_club_127 : decode cX8_club 127 = .ok (.goto (-41), 3) := by decide +kernel
theorem dX8_club_130 : decode cX8_club 130 = .ok (.aload_n 0, 1) := by decide +kernel
theorem dX8_club_131 : decode cX8_club 131 = .ok (.iconst 0, 1) := by decide +kernel
theorem dX8_club_132 : decode cX8_club 132 = .ok (.putfield 130, 3) := by decide +kernel
theorem dX8_club_135 : decode cX8_club 135 = .ok (.iconst 0, 1) := by decide +kernel
theorem dX8_club_136 : decode cX8_club 136 = .ok (.istore_n 2, 1) := by decide +kernel
theorem dX8_club_137 : decode cX8_club 137 = .ok (.iload_n 2, 1) := by decide +kernel
theorem dX8_club_138 : decode cX8_club 138 = .ok (.iconst 3, 1) := by decide +kernel
theorem dX8_club_139 : decode cX8_club 139 = .ok (.if_icmp .ge 16, 3) := by decide +kernel
theorem dX8_club_142 : decode cX8_club 142 = .ok (.aload_n 0, 1) := by decide +kernel
theorem dX8_club_143 : decode cX8_club 143 = .ok (.getfield 53, 3) := by decide +kernel
theorem dX8_club_146 : decode cX8_club 146 = .ok (.iload_n 2, 1) := by decide +kernel
theorem dX8_club_147 : decode cX8_club 147 = .ok (.iconst (-1), 1) := by decide +kernel
theorem dX8_club_148 : decode cX8_club 148 = .ok (.iastore, 1) := by decide +kernel
theorem dX8_club_149 : decode cX8_club 149 = .ok (.iinc 2 1, 3) := by decide +kernel
theorem dX8_club_152 : decode cX8_club 152 = .ok (.goto (-15), 3) := by decide +kernel
theorem dX8_club_155 : decode cX8_club 155 = .ok (.aload_n 0, 1) := by decide +kernel
theorem dX8_club_156 : decode cX8_club 156 = .ok (.getfield 63, 3) := by decide +kernel
theorem dX8_club_159 : decode cX8_club 159 = .ok (.ireturn, 1) := by decide +kernel
theorem dX8_memberTells_0 : decode cX8_memberTells 0 = .ok (.iload_n 2, 1) := by decide +kernel
theorem dX8_memberTells_1 : decode cX8_memberTells 1 = .ok (.ifCond .ne 12, 3) := by decide +kernel
theorem dX8_memberTells_4 : decode cX8_memberTells 4 = .ok (.aload_n 0, 1) := by decide +kernel
theorem dX8_memberTells_5 : decode cX8_memberTells 5 = .ok (.getfield 32, 3) := by decide +kernel
theorem dX8_memberTells_8 : decode cX8_memberTells 8 = .ok (.iload_n 1, 1) := by decide +kernel
theorem dX8_memberTells_9 : decode cX8_memberTells 9 = .ok (.iaload, 1) := by decide +kernel
theorem dX8_memberTells_10 : decode cX8_memberTells 10 = .ok (.goto 45, 3) := by decide +kernel
theorem dX8_memberTells_13 : decode cX8_memberTells 13 = .ok (.iload_n 2, 1) := by decide +kernel
theorem dX8_memberTells_14 : decode cX8_memberTells 14 = .ok (.iconst 1, 1) := by decide +kernel
theorem dX8_memberTells_15 : decode cX8_memberTells 15 = .ok (.if_icmp .ne 12, 3) := by decide +kernel
theorem dX8_memberTells_18 : decode cX8_memberTells 18 = .ok (.aload_n 0, 1) := by decide +kernel
theorem dX8_memberTells_19 : decode cX8_memberTells 19 = .ok (.getfield 35, 3) := by decide +kernel
theorem dX8_memberTells_22 : decode cX8_memberTells 22 = .ok (.iload_n 1, 1) := by decide +kernel
theorem dX8_memberTells_23 : decode cX8_memberTells 23 = .ok (.iaload, 1) := by decide +kernel
theorem dX8_memberTells_24 : decode cX8_memberTells 24 = .ok (.goto 31, 3) := by decide +kernel
theorem dX8_memberTells_27 : decode cX8_memberTells 27 = .ok (.iload_n 2, 1) := by decide +kernel
theorem dX8_memberTells_28 : decode cX8_memberTells 28 = .ok (.iconst 2, 1) := by decide +kernel
theorem dX8_memberTells_29 : decode cX8_memberTells 29 = .ok (.if_icmp .ne 17, 3) := by decide +kernel
theorem dX8_memberTells_32 : decode cX8_memberTells 32 = .ok (.aload_n 0, 1) := by decide +kernel
theorem dX8_memberTells_33 : decode cX8_memberTells 33 = .ok (.getfield 38, 3) := by decide +kernel
theorem dX8_memberTells_36 : decode cX8_memberTells 36 = .ok (.aload_n 0, 1) := by decide +kernel
theorem dX8_memberTells_37 : decode cX8_memberTells 37 = .ok (.getfield 35, 3) := by decide +kernel
theorem dX8_memberTells_40 : decode cX8_memberTells 40 = .ok (.iload_n 1, 1) := by decide +kernel
theorem dX8_memberTells_41 : decode cX8_memberTells 41 = .ok (.iaload, 1) := by decide +kernel
theorem dX8_memberTells_42 : decode cX8_memberTells 42 = .ok (.iaload, 1) := by decide +kernel
theorem dX8_memberTells_43 : decode cX8_memberTells 43 = .ok (.goto 12, 3) := by decide +kernel
theorem dX8_memberTells_46 : decode cX8_memberTells 46 = .ok (.aload_n 0, 1) := by decide +kernel
theorem dX8_memberTells_47 : decode cX8_memberTells 47 = .ok (.getfield 38, 3) := by decide +kernel
theorem dX8_memberTells_50 : decode cX8_memberTells 50 = .ok (.bipush 11, 2) := by decide +kernel
theorem dX8_memberTells_52 : decode cX8_memberTells 52 = .ok (.iload_n 1, 1) := by decide +kernel
theorem dX8_memberTells_53 : decode cX8_memberTells 53 = .ok (.iadd, 1) := by decide +kernel
theorem dX8_memberTells_54 : decode cX8_memberTells 54 = .ok (.iaload, 1) := by decide +kernel
theorem dX8_memberTells_55 : decode cX8_memberTells 55 = .ok (.ireturn, 1) := by decide +kernel
theorem dX8_member_0 : decode cX8_member 0 = .ok (.aload_n 0, 1) := by decide +kernel
theorem dX8_member_1 : decode cX8_member 1 = .ok (.iload_n 1, 1) := by decide +kernel
theorem dX8_member_2 : decode cX8_member 2 = .ok (.invokevirtual 133, 3) := by decide +kernel
theorem dX8_member_5 : decode cX8_member 5 = .ok (.ifCond .eq 25, 3) := by decide +kernel
theorem dX8_member_8 : decode cX8_member 8 = .ok (.iload_n 2, 1) := by decide +kernel
theorem dX8_member_9 : decode cX8_member 9 = .ok (.iconst 0, 1) := by decide +kernel
theorem dX8_member_10 : decode cX8_member 10 = .ok (.iconst 3, 1) := by decide +kernel
theorem dX8_member_11 : decode cX8_member 11 = .ok (.invokestatic 66, 3) := by decide +kernel
theorem dX8_member_14 : decode cX8_member 14 = .ok (.ifCond .eq 16, 3) := by decide +kernel
theorem dX8_member_17 : decode cX8_member 17 = .ok (.aload_n 0, 1) := by decide +kernel
theorem dX8_member_18 : decode cX8_member 18 = .ok (.aload_n 0, 1) := by decide +kernel
theorem dX8_member_19 : decode cX8_member 19 = .ok (.iload_n 1, 1) := by decide +kernel
theorem dX8_member_20 : decode cX8_member 20 = .ok (.iload_n 2, 1) := by decide +kernel
theorem dX8_member_21 : decode cX8_member 21 = .ok (.invokevirtual 137, 3) := by decide +kernel
theorem dX8_member_24 : decode cX8_member 24 = .ok (.invokevirtual 81, 3) := by decide +kernel
theorem dX8_member_27 : decode cX8_member 27 = .ok (.goto 4, 3) := by decide +kernel
theorem dX8_member_30 : decode cX8_member 30 = .ok (.iconst (-1), 1) := by decide +kernel
theorem dX8_member_31 : decode cX8_member 31 = .ok (.ireturn, 1) := by decide +kernel
theorem dX8_is_0 : decode cX8_is 0 = .ok (.iload_n 0, 1) := by decide +kernel
theorem dX8_is_1 : decode cX8_is 1 = .ok (.iload_n 1, 1) := by decide +kernel
theorem dX8_is_2 : decode cX8_is 2 = .ok (.if_icmp .eq 27, 3) := by decide +kernel
theorem dX8_is_5 : decode cX8_is 5 = .ok (.iload_n 1, 1) := by decide +kernel
theorem dX8_is_6 : decode cX8_is 6 = .ok (.ifCond .eq 23, 3) := by decide +kernel
theorem dX8_is_9 : decode cX8_is 9 = .ok (.iload_n 0, 1) := by decide +kernel
theorem dX8_is_10 : decode cX8_is 10 = .ok (.iconst 4, 1) := by decide +kernel
theorem dX8_is_11 : decode cX8_is 11 = .ok (.if_icmp .ne 8, 3) := by decide +kernel
theorem dX8_is_14 : decode cX8_is 14 = .ok (.iload_n 1, 1) := by decide +kernel
theorem dX8_is_15 : decode cX8_is 15 = .ok (.iconst 1, 1) := by decide +kernel
theorem dX8_is_16 : decode cX8_is 16 = .ok (.if_icmp .eq 13, 3) := by decide +kernel
theorem dX8_is_19 : decode cX8_is 19 = .ok (.iload_n 0, 1) := by decide +kernel
theorem dX8_is_20 : decode cX8_is 20 = .ok (.iconst 5, 1) := by decide +kernel
theorem dX8_is_21 : decode cX8_is 21 = .ok (.if_icmp .ne 12, 3) := by decide +kernel
theorem dX8_is_24 : decode cX8_is 24 = .ok (.iload_n 1, 1) := by decide +kernel
theorem dX8_is_25 : decode cX8_is 25 = .ok (.iconst 2, 1) := by decide +kernel
theorem dX8_is_26 : decode cX8_is 26 = .ok (.if_icmp .ne 7, 3) := by decide +kernel
theorem dX8_is_29 : decode cX8_is 29 = .ok (.iconst 1, 1) := by decide +kernel
theorem dX8_is_30 : decode cX8_is 30 = .ok (.goto 4, 3) := by decide +kernel
theorem dX8_is_33 : decode cX8_is 33 = .ok (.iconst 0, 1) := by decide +kernel
theorem dX8_is_34 : decode cX8_is 34 = .ok (.ireturn, 1) := by decide +kernel
theorem dX8_saysBy_0 : decode cX8_saysBy 0 = .ok (.iload_n 0, 1) := by decide +kernel
theorem dX8_saysBy_1 : decode cX8_saysBy 1 = .ok (.tableswitch 61 2 5 #[31, 43, 45, 38], 31) := by decide +kernel
theorem dX8_saysBy_32 : decode cX8_saysBy 32 = .ok (.iload_n 1, 1) := by decide +kernel
theorem dX8_saysBy_33 : decode cX8_saysBy 33 = .ok (.iload_n 1, 1) := by decide +kernel
theorem dX8_saysBy_34 : decode cX8_saysBy 34 = .ok (.bipush 10, 2) := by decide +kernel
theorem dX8_saysBy_36 : decode cX8_saysBy 36 = .ok (.irem, 1) := by decide +kernel
theorem dX8_saysBy_37 : decode cX8_saysBy 37 = .ok (.isub, 1) := by decide +kernel
theorem dX8_saysBy_38 : decode cX8_saysBy 38 = .ok (.ireturn, 1) := by decide +kernel
theorem dX8_saysBy_39 : decode cX8_saysBy 39 = .ok (.iload_n 1, 1) := by decide +kernel
theorem dX8_saysBy_40 : decode cX8_saysBy 40 = .ok (.bipush 10, 2) := by decide +kernel
theorem dX8_saysBy_42 : decode cX8_saysBy 42 = .ok (.irem, 1) := by decide +kernel
theorem dX8_saysBy_43 : decode cX8_saysBy 43 = .ok (.ireturn, 1) := by decide +kernel
theorem dX8_saysBy_44 : decode cX8_saysBy 44 = .ok (.iload_n 1, 1) := by decide +kernel
theorem dX8_saysBy_45 : decode cX8_saysBy 45 = .ok (.ireturn, 1) := by decide +kernel
theorem dX8_saysBy_46 : decode cX8_saysBy 46 = .ok (.iload_n 1, 1) := by decide +kernel
theorem dX8_saysBy_47 : decode cX8_saysBy 47 = .ok (.iconst 2, 1) := by decide +kernel
theorem dX8_saysBy_48 : decode cX8_saysBy 48 = .ok (.idiv, 1) := by decide +kernel
theorem dX8_saysBy_49 : decode cX8_saysBy 49 = .ok (.ifCond .le 11, 3) := by decide +kernel
theorem dX8_saysBy_52 : decode cX8_saysBy 52 = .ok (.iload_n 1, 1) := by decide +kernel
theorem dX8_saysBy_53 : decode cX8_saysBy 53 = .ok (.iconst 2, 1) := by decide +kernel
theorem dX8_saysBy_54 : decode cX8_saysBy 54 = .ok (.idiv, 1) := by decide +kernel
theorem dX8_saysBy_55 : decode cX8_saysBy 55 = .ok (.iconst 1, 1) := by decide +kernel
theorem dX8_saysBy_56 : decode cX8_saysBy 56 = .ok (.isub, 1) := by decide +kernel
theorem dX8_saysBy_57 : decode cX8_saysBy 57 = .ok (.goto 4, 3) := by decide +kernel
theorem dX8_saysBy_60 : decode cX8_saysBy 60 = .ok (.iconst 0, 1) := by decide +kernel
theorem dX8_saysBy_61 : decode cX8_saysBy 61 = .ok (.ireturn, 1) := by decide +kernel
theorem dX8_saysBy_62 : decode cX8_saysBy 62 = .ok (.iload_n 1, 1) := by decide +kernel
theorem dX8_saysBy_63 : decode cX8_saysBy 63 = .ok (.iconst 2, 1) := by decide +kernel
theorem dX8_saysBy_64 : decode cX8_saysBy 64 = .ok (.idiv, 1) := by decide +kernel
theorem dX8_saysBy_65 : decode cX8_saysBy 65 = .ok (.ireturn, 1) := by decide +kernel
theorem dX8_breath_0 : decode cX8_breath 0 = .ok (.iload_n 2, 1) := by decide +kernel
theorem dX8_breath_1 : decode cX8_breath 1 = .ok (.aload_n 0, 1) := by decide +kernel
theorem dX8_breath_2 : decode cX8_breath 2 = .ok (.getfield 32, 3) := by decide +kernel
theorem dX8_breath_5 : decode cX8_breath 5 = .ok (.iload_n 1, 1) := by decide +kernel
theorem dX8_breath_6 : decode cX8_breath 6 = .ok (.iaload, 1) := by decide +kernel
theorem dX8_breath_7 : decode cX8_breath 7 = .ok (.iload_n 2, 1) := by decide +kernel
theorem dX8_breath_8 : decode cX8_breath 8 = .ok (.invokestatic 140, 3) := by decide +kernel
theorem dX8_breath_11 : decode cX8_breath 11 = .ok (.isub, 1) := by decide +kernel
theorem dX8_breath_12 : decode cX8_breath 12 = .ok (.ireturn, 1) := by decide +kernel
theorem dX8_behind_0 : decode cX8_behind 0 = .ok (.iload_n 1, 1) := by decide +kernel
theorem dX8_behind_1 : decode cX8_behind 1 = .ok (.iconst 1, 1) := by decide +kernel
theorem dX8_behind_2 : decode cX8_behind 2 = .ok (.iadd, 1) := by decide +kernel
theorem dX8_behind_3 : decode cX8_behind 3 = .ok (.aload_n 0, 1) := by decide +kernel
theorem dX8_behind_4 : decode cX8_behind 4 = .ok (.getfield 70, 3) := by decide +kernel
theorem dX8_behind_7 : decode cX8_behind 7 = .ok (.irem, 1) := by decide +kernel
theorem dX8_behind_8 : decode cX8_behind 8 = .ok (.ireturn, 1) := by decide +kernel
theorem dX8_ahead_0 : decode cX8_ahead 0 = .ok (.iload_n 1, 1) := by decide +kernel
theorem dX8_ahead_1 : decode cX8_ahead 1 = .ok (.aload_n 0, 1) := by decide +kernel
theorem dX8_ahead_2 : decode cX8_ahead 2 = .ok (.getfield 70, 3) := by decide +kernel
theorem dX8_ahead_5 : decode cX8_ahead 5 = .ok (.iadd, 1) := by decide +kernel
theorem dX8_ahead_6 : decode cX8_ahead 6 = .ok (.iconst 1, 1) := by decide +kernel
theorem dX8_ahead_7 : decode cX8_ahead 7 = .ok (.isub, 1) := by decide +kernel
theorem dX8_ahead_8 : decode cX8_ahead 8 = .ok (.aload_n 0, 1) := by decide +kernel
theorem dX8_ahead_9 : decode cX8_ahead 9 = .ok (.getfield 70, 3) := by decide +kernel
theorem dX8_ahead_12 : decode cX8_ahead 12 = .ok (.irem, 1) := by decide +kernel
theorem dX8_ahead_13 : decode cX8_ahead 13 = .ok (.ireturn, 1) := by decide +kernel
theorem dX8_mark_0 : decode cX8_mark 0 = .ok (.aload_n 0, 1) := by decide +kernel
theorem dX8_mark_1 : decode cX8_mark 1 = .ok (.iload_n 1, 1) := by decide +kernel
theorem dX8_mark_2 : decode cX8_mark 2 = .ok (.invokevirtual 133, 3) := by decide +kernel
theorem dX8_mark_5 : decode cX8_mark 5 = .ok (.ifCond .eq 12, 3) := by decide +kernel
theorem dX8_mark_8 : decode cX8_mark 8 = .ok (.iload_n 2, 1) := by decide +kernel
theorem dX8_mark_9 : decode cX8_mark 9 = .ok (.iconst 1, 1) := by decide +kernel
theorem dX8_mark_10 : decode cX8_mark 10 = .ok (.iconst 5, 1) := by decide +kernel
theorem dX8_mark_11 : decode cX8_mark 11 = .ok (.invokestatic 66, 3) := by decide +kernel
theorem dX8_mark_14 : decode cX8_mark 14 = .ok (.ifCond .ne 5, 3) := by decide +kernel
theorem dX8_mark_17 : decode cX8_mark 17 = .ok (.iconst (-1), 1) := by decide +kernel
theorem dX8_mark_18 : decode cX8_mark 18 = .ok (.ireturn, 1) := by decide +kernel
theorem dX8_mark_19 : decode cX8_mark 19 = .ok (.aload_n 0, 1) := by decide +kernel
theorem dX8_mark_20 : decode cX8_mark 20 = .ok (.getfield 32, 3) := by decide +kernel
theorem dX8_mark_23 : decode cX8_mark 23 = .ok (.iload_n 1, 1) := by decide +kernel
theorem dX8_mark_24 : decode cX8_mark 24 = .ok (.iaload, 1) := by decide +kernel
theorem dX8_mark_25 : decode cX8_mark 25 = .ok (.iload_n 2, 1) := by decide +kernel
theorem dX8_mark_26 : decode cX8_mark 26 = .ok (.invokestatic 143, 3) := by decide +kernel
theorem dX8_mark_29 : decode cX8_mark 29 = .ok (.ifCond .ne 9, 3) := by decide +kernel
theorem dX8_mark_32 : decode cX8_mark 32 = .ok (.aload_n 0, 1) := by decide +kernel
theorem dX8_mark_33 : decode cX8_mark 33 = .ok (.iconst 3, 1) := by decide +kernel
theorem dX8_mark_34 : decode cX8_mark 34 = .ok (.invokevirtual 73, 3) := by decide +kernel
theorem dX8_mark_37 : decode cX8_mark 37 = .ok (.ireturn, 1) := by decide +kernel
theorem dX8_mark_38 : decode cX8_mark 38 = .ok (.iconst 0, 1) := by decide +kernel
theorem dX8_mark_39 : decode cX8_mark 39 = .ok (.istore_n 3, 1) := by decide +kernel
theorem dX8_mark_40 : decode cX8_mark 40 = .ok (.iload_n 2, 1) := by decide +kernel
theorem dX8_mark_41 : decode cX8_mark 41 = .ok (.tableswitch 179 1 3 #[27, 71, 135], 27) := by decide +kernel
theorem dX8_mark_68 : decode cX8_mark 68 = .ok (.aload_n 0, 1) := by decide +kernel
theorem dX8_mark_69 : decode cX8_mark 69 = .ok (.getfield 38, 3) := by decide +kernel
theorem dX8_mark_72 : decode cX8_mark 72 = .ok (.aload_n 0, 1) := by decide +kernel
theorem dX8_mark_73 : decode cX8_mark 73 = .ok (.getfield 35, 3) := by decide +kernel
theorem dX8_mark_76 : decode cX8_mark 76 = .ok (.iload_n 1, 1) := by decide +kernel
theorem dX8_mark_77 : decode cX8_mark 77 = .ok (.iaload, 1) := by decide +kernel
theorem dX8_mark_78 : decode cX8_mark 78 = .ok (.iaload, 1) := by decide +kernel
theorem dX8_mark_79 : decode cX8_mark 79 = .ok (.aload_n 0, 1) := by decide +kernel
theorem dX8_mark_80 : decode cX8_mark 80 = .ok (.getfield 38, 3) := by decide +kernel
theorem dX8_mark_83 : decode cX8_mark 83 = .ok (.aload_n 0, 1) := by decide +kernel
theorem dX8_mark_84 : decode cX8_mark 84 = .ok (.aload_n 0, 1) := by decide +kernel
theorem dX8_mark_85 : decode cX8_mark 85 = .ok (.getfield 35, 3) := by decide +kernel
theorem dX8_mark_88 : decode cX8_mark 88 = .ok (.iload_n 1, 1) := by decide +kernel
theorem dX8_mark_89 : decode cX8_mark 89 = .ok (.iaload, 1) := by decide +kernel
theorem dX8_mark_90 : decode cX8_mark 90 = .ok (.invokevirtual 147, 3) := by decide +kernel
theorem dX8_mark_93 : decode cX8_mark 93 = .ok (.iaload, 1) := by decide +kernel
theorem dX8_mark_94 : decode cX8_mark 94 = .ok (.iadd, 1) := by decide +kernel
theorem dX8_mark_95 : decode cX8_mark 95 = .ok (.aload_n 0, 1) := by decide +kernel
theorem dX8_mark_96 : decode cX8_mark 96 = .ok (.getfield 38, 3) := by decide +kernel
theorem dX8_mark_99 : decode cX8_mark 99 = .ok (.aload_n 0, 1) := by decide +kernel
theorem dX8_mark_100 : decode cX8_mark 100 = .ok (.aload_n 0, 1) := by decide +kernel
theorem dX8_mark_101 : decode cX8_mark 101 = .ok (.getfield 35, 3) := by decide +kernel
theorem dX8_mark_104 : decode cX8_mark 104 = .ok (.iload_n 1, 1) := by decide +kernel
theorem dX8_mark_105 : decode cX8_mark 105 = .ok (.iaload, 1) := by decide +kernel
theorem dX8_mark_106 : decode cX8_mark 106 = .ok (.invokevirtual 150, 3) := by decide +kernel
theorem dX8_mark_109 : decode cX8_mark 109 = .ok (.iaload, 1) := by decide +kernel
theorem dX8_mark_110 : decode cX8_mark 110 = .ok (.iadd, 1) := by decide +kernel
theorem dX8_mark_111 : decode cX8_mark 111 = .ok (.ireturn, 1) := by decide +kernel
theorem dX8_mark_112 : decode cX8_mark 112 = .ok (.iconst 0, 1) := by decide +kernel
theorem dX8_mark_113 : decode cX8_mark 113 = .ok (.istore 4, 2) := by decide +kernel
theorem dX8_mark_115 : decode cX8_mark 115 = .ok (.iload 4, 2) := by decide +kernel
theorem dX8_mark_117 : decode cX8_mark 117 = .ok (.aload_n 0, 1) := by decide +kernel
theorem dX8_mark_118 : decode cX8_mark 118 = .ok (.getfield 63, 3) := by decide +kernel
theorem dX8_mark_121 : decode cX8_mark 121 = .ok (.if_icmp .ge 53, 3) := by decide +kernel
theorem dX8_mark_124 : decode cX8_mark 124 = .ok (.iload_n 3, 1) := by decide +kernel
theorem dX8_mark_125 : decode cX8_mark 125 = .ok (.iload 4, 2) := by decide +kernel
theorem dX8_mark_127 : decode cX8_mark 127 = .ok (.iload_n 1, 1) := by decide +kernel
theorem dX8_mark_128 : decode cX8_mark 128 = .ok (.if_icmp .eq 37, 3) := by decide +kernel
theorem dX8_mark_131 : decode cX8_mark 131 = .ok (.aload_n 0, 1) := by decide +kernel
theorem dX8_mark_132 : decode cX8_mark 132 = .ok (.getfield 32, 3) := by decide +kernel
theorem dX8_mark_135 : decode cX8_mark 135 = .ok (.iload 4, 2) := by decide +kernel
theorem dX8_mark_137 : decode cX8_mark 137 = .ok (.iaload, 1) := by decide +kernel
theorem dX8_mark_138 : decode cX8_mark 138 = .ok (.iconst 2, 1) := by decide +kernel
theorem dX8_mark_139 : decode cX8_mark 139 = .ok (.invokestatic 143, 3) := by decide +kernel
theorem dX8_mark_142 : decode cX8_mark 142 = .ok (.ifCond .eq 23, 3) := by decide +kernel
theorem dX8_mark_145 : decode cX8_mark 145 = .ok (.aload_n 0, 1) := by decide +kernel
theorem dX8_mark_146 : decode cX8_mark 146 = .ok (.getfield 35, 3) := by decide +kernel
theorem dX8_mark_149 : decode cX8_mark 149 = .ok (.iload 4, 2) := by decide +kernel
theorem dX8_mark_151 : decode cX8_mark 151 = .ok (.iaload, 1) := by decide +kernel
theorem dX8_mark_152 : decode cX8_mark 152 = .ok (.aload_n 0, 1) := by decide +kernel
theorem dX8_mark_153 : decode cX8_mark 153 = .ok (.getfield 35, 3) := by decide +kernel
theorem dX8_mark_156 : decode cX8_mark 156 = .ok (.iload_n 1, 1) := by decide +kernel
theorem dX8_mark_157 : decode cX8_mark 157 = .ok (.iaload, 1) := by decide +kernel
theorem dX8_mark_158 : decode cX8_mark 158 = .ok (.if_icmp .ne 7, 3) := by decide +kernel
theorem dX8_mark_161 : decode cX8_mark 161 = .ok (.iconst 1, 1) := by decide +kernel
theorem dX8_mark_162 : decode cX8_mark 162 = .ok (.goto 4, 3) := by decide +kernel
theorem dX8_mark_165 : decode cX8_mark 165 = .ok (.iconst 0, 1) := by decide +kernel
theorem dX8_mark_166 : decode cX8_mark 166 = .ok (.iadd, 1) := by decide +kernel
theorem dX8_mark_167 : decode cX8_mark 167 = .ok (.istore_n 3, 1) := by decide +kernel
theorem dX8_mark_168 : decode cX8_mark 168 = .ok (.iinc 4 1, 3) := by decide +kernel
theorem dX8_mark_171 : decode cX8_mark 171 = .ok (.goto (-56), 3) := by decide +kernel
theorem dX8_mark_174 : decode cX8_mark 174 = .ok (.iload_n 3, 1) := by decide +kernel
theorem dX8_mark_175 : decode cX8_mark 175 = .ok (.ireturn, 1) := by decide +kernel
theorem dX8_mark_176 : decode cX8_mark 176 = .ok (.iconst 0, 1) := by decide +kernel
theorem dX8_mark_177 : decode cX8_mark 177 = .ok (.istore 4, 2) := by decide +kernel
theorem dX8_mark_179 : decode cX8_mark 179 = .ok (.iload 4, 2) := by decide +kernel
theorem dX8_mark_181 : decode cX8_mark 181 = .ok (.aload_n 0, 1) := by decide +kernel
theorem dX8_mark_182 : decode cX8_mark 182 = .ok (.getfield 63, 3) := by decide +kernel
theorem dX8_mark_185 : decode cX8_mark 185 = .ok (.if_icmp .ge 33, 3) := by decide +kernel
theorem dX8_mark_188 : decode cX8_mark 188 = .ok (.iload_n 3, 1) := by decide +kernel
theorem dX8_mark_189 : decode cX8_mark 189 = .ok (.iload 4, 2) := by decide +kernel
theorem dX8_mark_191 : decode cX8_mark 191 = .ok (.iload_n 1, 1) := by decide +kernel
theorem dX8_mark_192 : decode cX8_mark 192 = .ok (.if_icmp .eq 17, 3) := by decide +kernel
theorem dX8_mark_195 : decode cX8_mark 195 = .ok (.aload_n 0, 1) := by decide +kernel
theorem dX8_mark_196 : decode cX8_mark 196 = .ok (.iload 4, 2) := by decide +kernel
theorem dX8_mark_198 : decode cX8_mark 198 = .ok (.iconst 5, 1) := by decide +kernel
theorem dX8_mark_199 : decode cX8_mark 199 = .ok (.invokevirtual 153, 3) := by decide +kernel
theorem dX8_mark_202 : decode cX8_mark 202 = .ok (.ifCond .ne 7, 3) := by decide +kernel
theorem dX8_mark_205 : decode cX8_mark 205 = .ok (.iconst 1, 1) := by decide +kernel
theorem dX8_mark_206 : decode cX8_mark 206 = .ok (.goto 4, 3) := by decide +kernel
theorem dX8_mark_209 : decode cX8_mark 209 = .ok (.iconst 0, 1) := by decide +kernel
theorem dX8_mark_210 : decode cX8_mark 210 = .ok (.iadd, 1) := by decide +kernel
theorem dX8_mark_211 : decode cX8_mark 211 = .ok (.istore_n 3, 1) := by decide +kernel
theorem dX8_mark_212 : decode cX8_mark 212 = .ok (.iinc 4 1, 3) := by decide +kernel
theorem dX8_mark_215 : decode cX8_mark 215 = .ok (.goto (-36), 3) := by decide +kernel
theorem dX8_mark_218 : decode cX8_mark 218 = .ok (.iload_n 3, 1) := by decide +kernel
theorem dX8_mark_219 : decode cX8_mark 219 = .ok (.ireturn, 1) := by decide +kernel
theorem dX8_mark_220 : decode cX8_mark 220 = .ok (.iconst 0, 1) := by decide +kernel
theorem dX8_mark_221 : decode cX8_mark 221 = .ok (.istore 4, 2) := by decide +kernel
theorem dX8_mark_223 : decode cX8_mark 223 = .ok (.iload 4, 2) := by decide +kernel
theorem dX8_mark_225 : decode cX8_mark 225 = .ok (.bipush 100, 2) := by decide +kernel
theorem dX8_mark_227 : decode cX8_mark 227 = .ok (.if_icmp .ge 51, 3) := by decide +kernel
theorem dX8_mark_230 : decode cX8_mark 230 = .ok (.iload_n 3, 1) := by decide +kernel
end
section
theorem dX8_mark_231 : decode cX8_mark 231 = .ok (.aload_n 0, 1) := by decide +kernel
theorem dX8_mark_232 : decode cX8_mark 232 = .ok (.getfield 32, 3) := by decide +kernel
theorem dX8_mark_235 : decode cX8_mark 235 = .ok (.iload_n 1, 1) := by decide +kernel
theorem dX8_mark_236 : decode cX8_mark 236 = .ok (.iaload, 1) := by decide +kernel
theorem dX8_mark_237 : decode cX8_mark 237 = .ok (.iload 4, 2) := by decide +kernel
theorem dX8_mark_239 : decode cX8_mark 239 = .ok (.invokestatic 140, 3) := by decide +kernel
theorem dX8_mark_242 : decode cX8_mark 242 = .ok (.iload_n 2, 1) := by decide +kernel
theorem dX8_mark_243 : decode cX8_mark 243 = .ok (.iconst 4, 1) := by decide +kernel
theorem dX8_mark_244 : decode cX8_mark 244 = .ok (.if_icmp .ne 7, 3) := by decide +kernel
theorem dX8_mark_247 : decode cX8_mark 247 = .ok (.iconst 0, 1) := by decide +kernel
theorem dX8_mark_248 : decode cX8_mark 248 = .ok (.goto 14, 3) := by decide +kernel
theorem dX8_mark_251 : decode cX8_mark 251 = .ok (.aload_n 0, 1) := by decide +kernel
theorem dX8_mark_252 : decode cX8_mark 252 = .ok (.getfield 32, 3) := by decide +kernel
theorem dX8_mark_255 : decode cX8_mark 255 = .ok (.iload_n 1, 1) := by decide +kernel
theorem dX8_mark_256 : decode cX8_mark 256 = .ok (.iaload, 1) := by decide +kernel
theorem dX8_mark_257 : decode cX8_mark 257 = .ok (.bipush 7, 2) := by decide +kernel
theorem dX8_mark_259 : decode cX8_mark 259 = .ok (.invokestatic 140, 3) := by decide +kernel
theorem dX8_mark_262 : decode cX8_mark 262 = .ok (.if_icmp .ne 7, 3) := by decide +kernel
theorem dX8_mark_265 : decode cX8_mark 265 = .ok (.iconst 1, 1) := by decide +kernel
theorem dX8_mark_266 : decode cX8_mark 266 = .ok (.goto 4, 3) := by decide +kernel
theorem dX8_mark_269 : decode cX8_mark 269 = .ok (.iconst 0, 1) := by decide +kernel
theorem dX8_mark_270 : decode cX8_mark 270 = .ok (.iadd, 1) := by decide +kernel
theorem dX8_mark_271 : decode cX8_mark 271 = .ok (.istore_n 3, 1) := by decide +kernel
theorem dX8_mark_272 : decode cX8_mark 272 = .ok (.iinc 4 1, 3) := by decide +kernel
theorem dX8_mark_275 : decode cX8_mark 275 = .ok (.goto (-52), 3) := by decide +kernel
theorem dX8_mark_278 : decode cX8_mark 278 = .ok (.iload_n 3, 1) := by decide +kernel
theorem dX8_mark_279 : decode cX8_mark 279 = .ok (.ireturn, 1) := by decide +kernel
theorem dX8_smoke_0 : decode cX8_smoke 0 = .ok (.aload_n 0, 1) := by decide +kernel
theorem dX8_smoke_1 : decode cX8_smoke 1 = .ok (.iload_n 1, 1) := by decide +kernel
theorem dX8_smoke_2 : decode cX8_smoke 2 = .ok (.invokevirtual 156, 3) := by decide +kernel
theorem dX8_smoke_5 : decode cX8_smoke 5 = .ok (.ifCond .eq 12, 3) := by decide +kernel
theorem dX8_smoke_8 : decode cX8_smoke 8 = .ok (.aload_n 0, 1) := by decide +kernel
theorem dX8_smoke_9 : decode cX8_smoke 9 = .ok (.getfield 38, 3) := by decide +kernel
theorem dX8_smoke_12 : decode cX8_smoke 12 = .ok (.iload_n 1, 1) := by decide +kernel
theorem dX8_smoke_13 : decode cX8_smoke 13 = .ok (.iaload, 1) := by decide +kernel
theorem dX8_smoke_14 : decode cX8_smoke 14 = .ok (.goto 4, 3) := by decide +kernel
theorem dX8_smoke_17 : decode cX8_smoke 17 = .ok (.iconst (-1), 1) := by decide +kernel
theorem dX8_smoke_18 : decode cX8_smoke 18 = .ok (.ireturn, 1) := by decide +kernel
theorem dX8_allIn_0 : decode cX8_allIn 0 = .ok (.iconst 0, 1) := by decide +kernel
theorem dX8_allIn_1 : decode cX8_allIn 1 = .ok (.istore_n 2, 1) := by decide +kernel
theorem dX8_allIn_2 : decode cX8_allIn 2 = .ok (.iconst 0, 1) := by decide +kernel
theorem dX8_allIn_3 : decode cX8_allIn 3 = .ok (.istore_n 3, 1) := by decide +kernel
theorem dX8_allIn_4 : decode cX8_allIn 4 = .ok (.iload_n 3, 1) := by decide +kernel
theorem dX8_allIn_5 : decode cX8_allIn 5 = .ok (.aload_n 0, 1) := by decide +kernel
theorem dX8_allIn_6 : decode cX8_allIn 6 = .ok (.getfield 70, 3) := by decide +kernel
theorem dX8_allIn_9 : decode cX8_allIn 9 = .ok (.if_icmp .ge 15, 3) := by decide +kernel
theorem dX8_allIn_12 : decode cX8_allIn 12 = .ok (.iload_n 2, 1) := by decide +kernel
theorem dX8_allIn_13 : decode cX8_allIn 13 = .ok (.aload_n 1, 1) := by decide +kernel
theorem dX8_allIn_14 : decode cX8_allIn 14 = .ok (.iload_n 3, 1) := by decide +kernel
theorem dX8_allIn_15 : decode cX8_allIn 15 = .ok (.iaload, 1) := by decide +kernel
theorem dX8_allIn_16 : decode cX8_allIn 16 = .ok (.iadd, 1) := by decide +kernel
theorem dX8_allIn_17 : decode cX8_allIn 17 = .ok (.istore_n 2, 1) := by decide +kernel
theorem dX8_allIn_18 : decode cX8_allIn 18 = .ok (.iinc 3 1, 3) := by decide +kernel
theorem dX8_allIn_21 : decode cX8_allIn 21 = .ok (.goto (-17), 3) := by decide +kernel
theorem dX8_allIn_24 : decode cX8_allIn 24 = .ok (.iload_n 2, 1) := by decide +kernel
theorem dX8_allIn_25 : decode cX8_allIn 25 = .ok (.ireturn, 1) := by decide +kernel
theorem dX8_note_0 : decode cX8_note 0 = .ok (.aload_n 0, 1) := by decide +kernel
theorem dX8_note_1 : decode cX8_note 1 = .ok (.getfield 38, 3) := by decide +kernel
theorem dX8_note_4 : decode cX8_note 4 = .ok (.iconst 0, 1) := by decide +kernel
theorem dX8_note_5 : decode cX8_note 5 = .ok (.aload_n 0, 1) := by decide +kernel
theorem dX8_note_6 : decode cX8_note 6 = .ok (.getfield 44, 3) := by decide +kernel
theorem dX8_note_9 : decode cX8_note 9 = .ok (.bipush 17, 2) := by decide +kernel
theorem dX8_note_11 : decode cX8_note 11 = .ok (.aload_n 0, 1) := by decide +kernel
theorem dX8_note_12 : decode cX8_note 12 = .ok (.getfield 130, 3) := by decide +kernel
theorem dX8_note_15 : decode cX8_note 15 = .ok (.imul, 1) := by decide +kernel
theorem dX8_note_16 : decode cX8_note 16 = .ok (.bipush 17, 2) := by decide +kernel
theorem dX8_note_18 : decode cX8_note 18 = .ok (.invokestatic 159, 3) := by decide +kernel
theorem dX8_note_21 : decode cX8_note 21 = .ok (.aload_n 0, 1) := by decide +kernel
theorem dX8_note_22 : decode cX8_note 22 = .ok (.dup, 1) := by decide +kernel
theorem dX8_note_23 : decode cX8_note 23 = .ok (.getfield 130, 3) := by decide +kernel
theorem dX8_note_26 : decode cX8_note 26 = .ok (.iconst 1, 1) := by decide +kernel
theorem dX8_note_27 : decode cX8_note 27 = .ok (.iadd, 1) := by decide +kernel
theorem dX8_note_28 : decode cX8_note 28 = .ok (.putfield 130, 3) := by decide +kernel
theorem dX8_note_31 : decode cX8_note 31 = .ok (.return_, 1) := by decide +kernel
theorem dX8_comes_0 : decode cX8_comes 0 = .ok (.aload_n 0, 1) := by decide +kernel
theorem dX8_comes_1 : decode cX8_comes 1 = .ok (.iload_n 1, 1) := by decide +kernel
theorem dX8_comes_2 : decode cX8_comes 2 = .ok (.aload_n 0, 1) := by decide +kernel
theorem dX8_comes_3 : decode cX8_comes 3 = .ok (.iload_n 1, 1) := by decide +kernel
theorem dX8_comes_4 : decode cX8_comes 4 = .ok (.iaload, 1) := by decide +kernel
theorem dX8_comes_5 : decode cX8_comes 5 = .ok (.iload_n 2, 1) := by decide +kernel
theorem dX8_comes_6 : decode cX8_comes 6 = .ok (.iadd, 1) := by decide +kernel
theorem dX8_comes_7 : decode cX8_comes 7 = .ok (.sipush 999, 3) := by decide +kernel
theorem dX8_comes_10 : decode cX8_comes 10 = .ok (.if_icmp .le 9, 3) := by decide +kernel
theorem dX8_comes_13 : decode cX8_comes 13 = .ok (.sipush 999, 3) := by decide +kernel
theorem dX8_comes_16 : decode cX8_comes 16 = .ok (.goto 8, 3) := by decide +kernel
theorem dX8_comes_19 : decode cX8_comes 19 = .ok (.aload_n 0, 1) := by decide +kernel
theorem dX8_comes_20 : decode cX8_comes 20 = .ok (.iload_n 1, 1) := by decide +kernel
theorem dX8_comes_21 : decode cX8_comes 21 = .ok (.iaload, 1) := by decide +kernel
theorem dX8_comes_22 : decode cX8_comes 22 = .ok (.iload_n 2, 1) := by decide +kernel
theorem dX8_comes_23 : decode cX8_comes 23 = .ok (.iadd, 1) := by decide +kernel
theorem dX8_comes_24 : decode cX8_comes 24 = .ok (.iastore, 1) := by decide +kernel
theorem dX8_comes_25 : decode cX8_comes 25 = .ok (.return_, 1) := by decide +kernel
theorem dX8_talkIn_0 : decode cX8_talkIn 0 = .ok (.aload_n 0, 1) := by decide +kernel
theorem dX8_talkIn_1 : decode cX8_talkIn 1 = .ok (.iload_n 2, 1) := by decide +kernel
theorem dX8_talkIn_2 : decode cX8_talkIn 2 = .ok (.iload_n 3, 1) := by decide +kernel
theorem dX8_talkIn_3 : decode cX8_talkIn 3 = .ok (.invokevirtual 153, 3) := by decide +kernel
theorem dX8_talkIn_6 : decode cX8_talkIn 6 = .ok (.istore 4, 2) := by decide +kernel
theorem dX8_talkIn_8 : decode cX8_talkIn 8 = .ok (.aload_n 0, 1) := by decide +kernel
theorem dX8_talkIn_9 : decode cX8_talkIn 9 = .ok (.getfield 35, 3) := by decide +kernel
theorem dX8_talkIn_12 : decode cX8_talkIn 12 = .ok (.iload_n 2, 1) := by decide +kernel
theorem dX8_talkIn_13 : decode cX8_talkIn 13 = .ok (.iaload, 1) := by decide +kernel
theorem dX8_talkIn_14 : decode cX8_talkIn 14 = .ok (.istore 5, 2) := by decide +kernel
theorem dX8_talkIn_16 : decode cX8_talkIn 16 = .ok (.aload_n 1, 1) := by decide +kernel
theorem dX8_talkIn_17 : decode cX8_talkIn 17 = .ok (.bipush 10, 2) := by decide +kernel
theorem dX8_talkIn_19 : decode cX8_talkIn 19 = .ok (.dup2, 1) := by decide +kernel
theorem dX8_talkIn_20 : decode cX8_talkIn 20 = .ok (.iaload, 1) := by decide +kernel
theorem dX8_talkIn_21 : decode cX8_talkIn 21 = .ok (.iload_n 3, 1) := by decide +kernel
theorem dX8_talkIn_22 : decode cX8_talkIn 22 = .ok (.iload 4, 2) := by decide +kernel
theorem dX8_talkIn_24 : decode cX8_talkIn 24 = .ok (.isub, 1) := by decide +kernel
theorem dX8_talkIn_25 : decode cX8_talkIn 25 = .ok (.iadd, 1) := by decide +kernel
theorem dX8_talkIn_26 : decode cX8_talkIn 26 = .ok (.iastore, 1) := by decide +kernel
theorem dX8_talkIn_27 : decode cX8_talkIn 27 = .ok (.aload_n 1, 1) := by decide +kernel
theorem dX8_talkIn_28 : decode cX8_talkIn 28 = .ok (.bipush 11, 2) := by decide +kernel
theorem dX8_talkIn_30 : decode cX8_talkIn 30 = .ok (.iload_n 2, 1) := by decide +kernel
theorem dX8_talkIn_31 : decode cX8_talkIn 31 = .ok (.iadd, 1) := by decide +kernel
theorem dX8_talkIn_32 : decode cX8_talkIn 32 = .ok (.dup2, 1) := by decide +kernel
theorem dX8_talkIn_33 : decode cX8_talkIn 33 = .ok (.iaload, 1) := by decide +kernel
theorem dX8_talkIn_34 : decode cX8_talkIn 34 = .ok (.iconst 1, 1) := by decide +kernel
theorem dX8_talkIn_35 : decode cX8_talkIn 35 = .ok (.iadd, 1) := by decide +kernel
theorem dX8_talkIn_36 : decode cX8_talkIn 36 = .ok (.iastore, 1) := by decide +kernel
theorem dX8_talkIn_37 : decode cX8_talkIn 37 = .ok (.aload_n 0, 1) := by decide +kernel
theorem dX8_talkIn_38 : decode cX8_talkIn 38 = .ok (.getfield 32, 3) := by decide +kernel
theorem dX8_talkIn_41 : decode cX8_talkIn 41 = .ok (.iload_n 2, 1) := by decide +kernel
theorem dX8_talkIn_42 : decode cX8_talkIn 42 = .ok (.iaload, 1) := by decide +kernel
theorem dX8_talkIn_43 : decode cX8_talkIn 43 = .ok (.iconst 1, 1) := by decide +kernel
theorem dX8_talkIn_44 : decode cX8_talkIn 44 = .ok (.invokestatic 143, 3) := by decide +kernel
theorem dX8_talkIn_47 : decode cX8_talkIn 47 = .ok (.ifCond .eq 56, 3) := by decide +kernel
theorem dX8_talkIn_50 : decode cX8_talkIn 50 = .ok (.iload 4, 2) := by decide +kernel
theorem dX8_talkIn_52 : decode cX8_talkIn 52 = .ok (.iload 4, 2) := by decide +kernel
theorem dX8_talkIn_54 : decode cX8_talkIn 54 = .ok (.iconst 2, 1) := by decide +kernel
theorem dX8_talkIn_55 : decode cX8_talkIn 55 = .ok (.idiv, 1) := by decide +kernel
theorem dX8_talkIn_56 : decode cX8_talkIn 56 = .ok (.isub, 1) := by decide +kernel
theorem dX8_talkIn_57 : decode cX8_talkIn 57 = .ok (.istore 6, 2) := by decide +kernel
theorem dX8_talkIn_59 : decode cX8_talkIn 59 = .ok (.aload_n 1, 1) := by decide +kernel
theorem dX8_talkIn_60 : decode cX8_talkIn 60 = .ok (.iload 5, 2) := by decide +kernel
theorem dX8_talkIn_62 : decode cX8_talkIn 62 = .ok (.iload 4, 2) := by decide +kernel
theorem dX8_talkIn_64 : decode cX8_talkIn 64 = .ok (.iconst 2, 1) := by decide +kernel
theorem dX8_talkIn_65 : decode cX8_talkIn 65 = .ok (.idiv, 1) := by decide +kernel
theorem dX8_talkIn_66 : decode cX8_talkIn 66 = .ok (.invokestatic 163, 3) := by decide +kernel
theorem dX8_talkIn_69 : decode cX8_talkIn 69 = .ok (.aload_n 1, 1) := by decide +kernel
theorem dX8_talkIn_70 : decode cX8_talkIn 70 = .ok (.aload_n 0, 1) := by decide +kernel
theorem dX8_talkIn_71 : decode cX8_talkIn 71 = .ok (.iload 5, 2) := by decide +kernel
theorem dX8_talkIn_73 : decode cX8_talkIn 73 = .ok (.invokevirtual 147, 3) := by decide +kernel
theorem dX8_talkIn_76 : decode cX8_talkIn 76 = .ok (.iload 6, 2) := by decide +kernel
theorem dX8_talkIn_78 : decode cX8_talkIn 78 = .ok (.iconst 2, 1) := by decide +kernel
theorem dX8_talkIn_79 : decode cX8_talkIn 79 = .ok (.idiv, 1) := by decide +kernel
theorem dX8_talkIn_80 : decode cX8_talkIn 80 = .ok (.invokestatic 163, 3) := by decide +kernel
theorem dX8_talkIn_83 : decode cX8_talkIn 83 = .ok (.aload_n 1, 1) := by decide +kernel
theorem dX8_talkIn_84 : decode cX8_talkIn 84 = .ok (.aload_n 0, 1) := by decide +kernel
theorem dX8_talkIn_85 : decode cX8_talkIn 85 = .ok (.iload 5, 2) := by decide +kernel
theorem dX8_talkIn_87 : decode cX8_talkIn 87 = .ok (.invokevirtual 150, 3) := by decide +kernel
theorem dX8_talkIn_90 : decode cX8_talkIn 90 = .ok (.iload 6, 2) := by decide +kernel
theorem dX8_talkIn_92 : decode cX8_talkIn 92 = .ok (.iload 6, 2) := by decide +kernel
theorem dX8_talkIn_94 : decode cX8_talkIn 94 = .ok (.iconst 2, 1) := by decide +kernel
theorem dX8_talkIn_95 : decode cX8_talkIn 95 = .ok (.idiv, 1) := by decide +kernel
theorem dX8_talkIn_96 : decode cX8_talkIn 96 = .ok (.isub, 1) := by decide +kernel
theorem dX8_talkIn_97 : decode cX8_talkIn 97 = .ok (.invokestatic 163, 3) := by decide +kernel
theorem dX8_talkIn_100 : decode cX8_talkIn 100 = .ok (.goto 11, 3) := by decide +kernel
theorem dX8_talkIn_103 : decode cX8_talkIn 103 = .ok (.aload_n 1, 1) := by decide +kernel
theorem dX8_talkIn_104 : decode cX8_talkIn 104 = .ok (.iload 5, 2) := by decide +kernel
theorem dX8_talkIn_106 : decode cX8_talkIn 106 = .ok (.iload 4, 2) := by decide +kernel
theorem dX8_talkIn_108 : decode cX8_talkIn 108 = .ok (.invokestatic 163, 3) := by decide +kernel
theorem dX8_talkIn_111 : decode cX8_talkIn 111 = .ok (.return_, 1) := by decide +kernel
theorem dX8_hourIn_0 : decode cX8_hourIn 0 = .ok (.iconst 0, 1) := by decide +kernel
theorem dX8_hourIn_1 : decode cX8_hourIn 1 = .ok (.istore_n 2, 1) := by decide +kernel
theorem dX8_hourIn_2 : decode cX8_hourIn 2 = .ok (.iconst 0, 1) := by decide +kernel
theorem dX8_hourIn_3 : decode cX8_hourIn 3 = .ok (.istore_n 3, 1) := by decide +kernel
theorem dX8_hourIn_4 : decode cX8_hourIn 4 = .ok (.iload_n 3, 1) := by decide +kernel
theorem dX8_hourIn_5 : decode cX8_hourIn 5 = .ok (.aload_n 0, 1) := by decide +kernel
theorem dX8_hourIn_6 : decode cX8_hourIn 6 = .ok (.getfield 70, 3) := by decide +kernel
theorem dX8_hourIn_9 : decode cX8_hourIn 9 = .ok (.if_icmp .ge 44, 3) := by decide +kernel
theorem dX8_hourIn_12 : decode cX8_hourIn 12 = .ok (.aload_n 1, 1) := by decide +kernel
theorem dX8_hourIn_13 : decode cX8_hourIn 13 = .ok (.iload_n 3, 1) := by decide +kernel
theorem dX8_hourIn_14 : decode cX8_hourIn 14 = .ok (.iaload, 1) := by decide +kernel
theorem dX8_hourIn_15 : decode cX8_hourIn 15 = .ok (.aload_n 0, 1) := by decide +kernel
theorem dX8_hourIn_16 : decode cX8_hourIn 16 = .ok (.getfield 127, 3) := by decide +kernel
theorem dX8_hourIn_19 : decode cX8_hourIn 19 = .ok (.if_icmp .ge 9, 3) := by decide +kernel
theorem dX8_hourIn_22 : decode cX8_hourIn 22 = .ok (.aload_n 1, 1) := by decide +kernel
theorem dX8_hourIn_23 : decode cX8_hourIn 23 = .ok (.iload_n 3, 1) := by decide +kernel
theorem dX8_hourIn_24 : decode cX8_hourIn 24 = .ok (.iaload, 1) := by decide +kernel
theorem dX8_hourIn_25 : decode cX8_hourIn 25 = .ok (.goto 7, 3) := by decide +kernel
theorem dX8_hourIn_28 : decode cX8_hourIn 28 = .ok (.aload_n 0, 1) := by decide +kernel
theorem dX8_hourIn_29 : decode cX8_hourIn 29 = .ok (.getfield 127, 3) := by decide +kernel
theorem dX8_hourIn_32 : decode cX8_hourIn 32 = .ok (.istore 4, 2) := by decide +kernel
theorem dX8_hourIn_34 : decode cX8_hourIn 34 = .ok (.aload_n 1, 1) := by decide +kernel
theorem dX8_hourIn_35 : decode cX8_hourIn 35 = .ok (.iload_n 3, 1) := by decide +kernel
theorem dX8_hourIn_36 : decode cX8_hourIn 36 = .ok (.dup2, 1) := by decide +kernel
theorem dX8_hourIn_37 : decode cX8_hourIn 37 = .ok (.iaload, 1) := by decide +kernel
theorem dX8_hourIn_38 : decode cX8_hourIn 38 = .ok (.iload 4, 2) := by decide +kernel
theorem dX8_hourIn_40 : decode cX8_hourIn 40 = .ok (.isub, 1) := by decide +kernel
theorem dX8_hourIn_41 : decode cX8_hourIn 41 = .ok (.iastore, 1) := by decide +kernel
theorem dX8_hourIn_42 : decode cX8_hourIn 42 = .ok (.iload_n 2, 1) := by decide +kernel
theorem dX8_hourIn_43 : decode cX8_hourIn 43 = .ok (.iload 4, 2) := by decide +kernel
theorem dX8_hourIn_45 : decode cX8_hourIn 45 = .ok (.iadd, 1) := by decide +kernel
theorem dX8_hourIn_46 : decode cX8_hourIn 46 = .ok (.istore_n 2, 1) := by decide +kernel
theorem dX8_hourIn_47 : decode cX8_hourIn 47 = .ok (.iinc 3 1, 3) := by decide +kernel
theorem dX8_hourIn_50 : decode cX8_hourIn 50 = .ok (.goto (-46), 3) := by decide +kernel
theorem dX8_hourIn_53 : decode cX8_hourIn 53 = .ok (.aload_n 1, 1) := by decide +kernel
theorem dX8_hourIn_54 : decode cX8_hourIn 54 = .ok (.bipush 8, 2) := by decide +kernel
theorem dX8_hourIn_56 : decode cX8_hourIn 56 = .ok (.dup2, 1) := by decide +kernel
theorem dX8_hourIn_57 : decode cX8_hourIn 57 = .ok (.iaload, 1) := by decide +kernel
theorem dX8_hourIn_58 : decode cX8_hourIn 58 = .ok (.iconst 1, 1) := by decide +kernel
theorem dX8_hourIn_59 : decode cX8_hourIn 59 = .ok (.iadd, 1) := by decide +kernel
theorem dX8_hourIn_60 : decode cX8_hourIn 60 = .ok (.iastore, 1) := by decide +kernel
theorem dX8_hourIn_61 : decode cX8_hourIn 61 = .ok (.iload_n 2, 1) := by decide +kernel
theorem dX8_hourIn_62 : decode cX8_hourIn 62 = .ok (.ireturn, 1) := by decide +kernel
theorem dX8_thunderIn_0 : decode cX8_thunderIn 0 = .ok (.aload_n 1, 1) := by decide +kernel
theorem dX8_thunderIn_1 : decode cX8_thunderIn 1 = .ok (.bipush 9, 2) := by decide +kernel
theorem dX8_thunderIn_3 : decode cX8_thunderIn 3 = .ok (.dup2, 1) := by decide +kernel
theorem dX8_thunderIn_4 : decode cX8_thunderIn 4 = .ok (.iaload, 1) := by decide +kernel
theorem dX8_thunderIn_5 : decode cX8_thunderIn 5 = .ok (.aload_n 0, 1) := by decide +kernel
theorem dX8_thunderIn_6 : decode cX8_thunderIn 6 = .ok (.aload_n 1, 1) := by decide +kernel
theorem dX8_thunderIn_7 : decode cX8_thunderIn 7 = .ok (.invokevirtual 167, 3) := by decide +kernel
theorem dX8_thunderIn_10 : decode cX8_thunderIn 10 = .ok (.iadd, 1) := by decide +kernel
theorem dX8_thunderIn_11 : decode cX8_thunderIn 11 = .ok (.iastore, 1) := by decide +kernel
theorem dX8_thunderIn_12 : decode cX8_thunderIn 12 = .ok (.iconst 0, 1) := by decide +kernel
theorem dX8_thunderIn_13 : decode cX8_thunderIn 13 = .ok (.istore_n 2, 1) := by decide +kernel
theorem dX8_thunderIn_14 : decode cX8_thunderIn 14 = .ok (.iload_n 2, 1) := by decide +kernel
theorem dX8_thunderIn_15 : decode cX8_thunderIn 15 = .ok (.aload_n 0, 1) := by decide +kernel
theorem dX8_thunderIn_16 : decode cX8_thunderIn 16 = .ok (.getfield 70, 3) := by decide +kernel
theorem dX8_thunderIn_19 : decode cX8_thunderIn 19 = .ok (.if_icmp .ge 13, 3) := by decide +kernel
theorem dX8_thunderIn_22 : decode cX8_thunderIn 22 = .ok (.aload_n 1, 1) := by decide +kernel
theorem dX8_thunderIn_23 : decode cX8_thunderIn 23 = .ok (.iload_n 2, 1) := by decide +kernel
theorem dX8_thunderIn_24 : decode cX8_thunderIn 24 = .ok (.iconst 0, 1) := by decide +kernel
theorem dX8_thunderIn_25 : decode cX8_thunderIn 25 = .ok (.iastore, 1) := by decide +kernel
theorem dX8_thunderIn_26 : decode cX8_thunderIn 26 = .ok (.iinc 2 1, 3) := by decide +kernel
theorem dX8_thunderIn_29 : decode cX8_thunderIn 29 = .ok (.goto (-15), 3) := by decide +kernel
theorem dX8_thunderIn_32 : decode cX8_thunderIn 32 = .ok (.return_, 1) := by decide +kernel
theorem dX8_talk_0 : decode cX8_talk 0 = .ok (.aload_n 0, 1) := by decide +kernel
theorem dX8_talk_1 : decode cX8_talk 1 = .ok (.iload_n 1, 1) := by decide +kernel
theorem dX8_talk_2 : decode cX8_talk 2 = .ok (.invokevirtual 133, 3) := by decide +kernel
theorem dX8_talk_5 : decode cX8_talk 5 = .ok (.ifCond .eq 13, 3) := by decide +kernel
theorem dX8_talk_8 : decode cX8_talk 8 = .ok (.iload_n 2, 1) := by decide +kernel
theorem dX8_talk_9 : decode cX8_talk 9 = .ok (.iconst 0, 1) := by decide +kernel
theorem dX8_talk_10 : decode cX8_talk 10 = .ok (.bipush 99, 2) := by decide +kernel
theorem dX8_talk_12 : decode cX8_talk 12 = .ok (.invokestatic 66, 3) := by decide +kernel
theorem dX8_talk_15 : decode cX8_talk 15 = .ok (.ifCond .ne 5, 3) := by decide +kernel
theorem dX8_talk_18 : decode cX8_talk 18 = .ok (.iconst (-1), 1) := by decide +kernel
theorem dX8_talk_19 : decode cX8_talk 19 = .ok (.ireturn, 1) := by decide +kernel
theorem dX8_talk_20 : decode cX8_talk 20 = .ok (.aload_n 0, 1) := by decide +kernel
theorem dX8_talk_21 : decode cX8_talk 21 = .ok (.getfield 130, 3) := by decide +kernel
theorem dX8_talk_24 : decode cX8_talk 24 = .ok (.bipush 40, 2) := by decide +kernel
theorem dX8_talk_26 : decode cX8_talk 26 = .ok (.if_icmp .ne 6, 3) := by decide +kernel
theorem dX8_talk_29 : decode cX8_talk 29 = .ok (.bipush (-2), 2) := by decide +kernel
theorem dX8_talk_31 : decode cX8_talk 31 = .ok (.ireturn, 1) := by decide +kernel
theorem dX8_talk_32 : decode cX8_talk 32 = .ok (.aload_n 0, 1) := by decide +kernel
theorem dX8_talk_33 : decode cX8_talk 33 = .ok (.invokevirtual 171, 3) := by decide +kernel
theorem dX8_talk_36 : decode cX8_talk 36 = .ok (.aload_n 0, 1) := by decide +kernel
theorem dX8_talk_37 : decode cX8_talk 37 = .ok (.aload_n 0, 1) := by decide +kernel
theorem dX8_talk_38 : decode cX8_talk 38 = .ok (.getfield 38, 3) := by decide +kernel
theorem dX8_talk_41 : decode cX8_talk 41 = .ok (.iload_n 1, 1) := by decide +kernel
theorem dX8_talk_42 : decode cX8_talk 42 = .ok (.iload_n 2, 1) := by decide +kernel
theorem dX8_talk_43 : decode cX8_talk 43 = .ok (.invokevirtual 174, 3) := by decide +kernel
theorem dX8_talk_46 : decode cX8_talk 46 = .ok (.aload_n 0, 1) := by decide +kernel
theorem dX8_talk_47 : decode cX8_talk 47 = .ok (.getfield 32, 3) := by decide +kernel
theorem dX8_talk_50 : decode cX8_talk 50 = .ok (.iload_n 1, 1) := by decide +kernel
theorem dX8_talk_51 : decode cX8_talk 51 = .ok (.iaload, 1) := by decide +kernel
theorem dX8_talk_52 : decode cX8_talk 52 = .ok (.iload_n 2, 1) := by decide +kernel
theorem dX8_talk_53 : decode cX8_talk 53 = .ok (.invokestatic 140, 3) := by decide +kernel
theorem dX8_talk_56 : decode cX8_talk 56 = .ok (.ireturn, 1) := by decide +kernel
theorem dX8_hour_0 : decode cX8_hour 0 = .ok (.aload_n 0, 1) := by decide +kernel
theorem dX8_hour_1 : decode cX8_hour 1 = .ok (.getfield 63, 3) := by decide +kernel
theorem dX8_hour_4 : decode cX8_hour 4 = .ok (.ifCond .ne 6, 3) := by decide +kernel
theorem dX8_hour_7 : decode cX8_hour 7 = .ok (.bipush (-4), 2) := by decide +kernel
theorem dX8_hour_9 : decode cX8_hour 9 = .ok (.ireturn, 1) := by decide +kernel
theorem dX8_hour_10 : decode cX8_hour 10 = .ok (.aload_n 0, 1) := by decide +kernel
theorem dX8_hour_11 : decode cX8_hour 11 = .ok (.getfield 130, 3) := by decide +kernel
theorem dX8_hour_14 : decode cX8_hour 14 = .ok (.bipush 40, 2) := by decide +kernel
theorem dX8_hour_16 : decode cX8_hour 16 = .ok (.if_icmp .ne 6, 3) := by decide +kernel
theorem dX8_hour_19 : decode cX8_hour 19 = .ok (.bipush (-2), 2) := by decide +kernel
theorem dX8_hour_21 : decode cX8_hour 21 = .ok (.ireturn, 1) := by decide +kernel
theorem dX8_hour_22 : decode cX8_hour 22 = .ok (.aload_n 0, 1) := by decide +kernel
theorem dX8_hour_23 : decode cX8_hour 23 = .ok (.invokevirtual 171, 3) := by decide +kernel
theorem dX8_hour_26 : decode cX8_hour 26 = .ok (.aload_n 0, 1) := by decide +kernel
theorem dX8_hour_27 : decode cX8_hour 27 = .ok (.aload_n 0, 1) := by decide +kernel
theorem dX8_hour_28 : decode cX8_hour 28 = .ok (.getfield 38, 3) := by decide +kernel
theorem dX8_hour_31 : decode cX8_hour 31 = .ok (.invokevirtual 177, 3) := by decide +kernel
theorem dX8_hour_34 : decode cX8_hour 34 = .ok (.ireturn, 1) := by decide +kernel
theorem dX8_open_0 : decode cX8_open 0 = .ok (.aload_n 0, 1) := by decide +kernel
theorem dX8_open_1 : decode cX8_open 1 = .ok (.iload_n 1, 1) := by decide +kernel
theorem dX8_open_2 : decode cX8_open 2 = .ok (.invokevirtual 156, 3) := by decide +kernel
theorem dX8_open_5 : decode cX8_open 5 = .ok (.ifCond .ne 5, 3) := by decide +kernel
theorem dX8_open_8 : decode cX8_open 8 = .ok (.iconst (-1), 1) := by decide +kernel
theorem dX8_open_9 : decode cX8_open 9 = .ok (.ireturn, 1) := by decide +kernel
theorem dX8_open_10 : decode cX8_open 10 = .ok (.aload_n 0, 1) := by decide +kernel
theorem dX8_open_11 : decode cX8_open 11 = .ok (.getfield 38, 3) := by decide +kernel
theorem dX8_open_14 : decode cX8_open 14 = .ok (.iload_n 1, 1) := by decide +kernel
theorem dX8_open_15 : decode cX8_open 15 = .ok (.iaload, 1) := by decide +kernel
theorem dX8_open_16 : decode cX8_open 16 = .ok (.ifCond .ne 6, 3) := by decide +kernel
theorem dX8_open_19 : decode cX8_open 19 = .ok (.bipush (-4), 2) := by decide +kernel
theorem dX8_open_21 : decode cX8_open 21 = .ok (.ireturn, 1) := by decide +kernel
theorem dX8_open_22 : decode cX8_open 22 = .ok (.aload_n 0, 1) := by decide +kernel
theorem dX8_open_23 : decode cX8_open 23 = .ok (.getfield 130, 3) := by decide +kernel
theorem dX8_open_26 : decode cX8_open 26 = .ok (.bipush 40, 2) := by decide +kernel
theorem dX8_open_28 : decode cX8_open 28 = .ok (.if_icmp .ne 6, 3) := by decide +kernel
theorem dX8_open_31 : decode cX8_open 31 = .ok (.bipush (-2), 2) := by decide +kernel
theorem dX8_open_33 : decode cX8_open 33 = .ok (.ireturn, 1) := by decide +kernel
theorem dX8_open_34 : decode cX8_open 34 = .ok (.aload_n 0, 1) := by decide +kernel
theorem dX8_open_35 : decode cX8_open 35 = .ok (.invokevirtual 171, 3) := by decide +kernel
theorem dX8_open_38 : decode cX8_open 38 = .ok (.aload_n 0, 1) := by decide +kernel
theorem dX8_open_39 : decode cX8_open 39 = .ok (.getfield 38, 3) := by decide +kernel
theorem dX8_open_42 : decode cX8_open 42 = .ok (.iload_n 1, 1) := by decide +kernel
theorem dX8_open_43 : decode cX8_open 43 = .ok (.iaload, 1) := by decide +kernel
theorem dX8_open_44 : decode cX8_open 44 = .ok (.istore_n 2, 1) := by decide +kernel
theorem dX8_open_45 : decode cX8_open 45 = .ok (.aload_n 0, 1) := by decide +kernel
theorem dX8_open_46 : decode cX8_open 46 = .ok (.getfield 38, 3) := by decide +kernel
theorem dX8_open_49 : decode cX8_open 49 = .ok (.iload_n 1, 1) := by decide +kernel
theorem dX8_open_50 : decode cX8_open 50 = .ok (.iconst 0, 1) := by decide +kernel
theorem dX8_open_51 : decode cX8_open 51 = .ok (.iastore, 1) := by decide +kernel
theorem dX8_open_52 : decode cX8_open 52 = .ok (.iload_n 2, 1) := by decide +kernel
theorem dX8_open_53 : decode cX8_open 53 = .ok (.ireturn, 1) := by decide +kernel
theorem dX8_thunder_0 : decode cX8_thunder 0 = .ok (.aload_n 0, 1) := by decide +kernel
theorem dX8_thunder_1 : decode cX8_thunder 1 = .ok (.aload_n 0, 1) := by decide +kernel
theorem dX8_thunder_2 : decode cX8_thunder 2 = .ok (.getfield 38, 3) := by decide +kernel
theorem dX8_thunder_5 : decode cX8_thunder 5 = .ok (.invokevirtual 167, 3) := by decide +kernel
theorem dX8_thunder_8 : decode cX8_thunder 8 = .ok (.ifCond .ne 6, 3) := by decide +kernel
theorem dX8_thunder_11 : decode cX8_thunder 11 = .ok (.bipush (-4), 2) := by decide +kernel
theorem dX8_thunder_13 : decode cX8_thunder 13 = .ok (.ireturn, 1) := by decide +kernel
theorem dX8_thunder_14 : decode cX8_thunder 14 = .ok (.aload_n 0, 1) := by decide +kernel
theorem dX8_thunder_15 : decode cX8_thunder 15 = .ok (.getfield 130, 3) := by decide +kernel
theorem dX8_thunder_18 : decode cX8_thunder 18 = .ok (.bipush 40, 2) := by decide +kernel
theorem dX8_thunder_20 : decode cX8_thunder 20 = .ok (.if_icmp .ne 6, 3) := by decide +kernel
theorem dX8_thunder_23 : decode cX8_thunder 23 = .ok (.bipush (-2), 2) := by decide +kernel
theorem dX8_thunder_25 : decode cX8_thunder 25 = .ok (.ireturn, 1) := by decide +kernel
theorem dX8_thunder_26 : decode cX8_thunder 26 = .ok (.aload_n 0, 1) := by decide +kernel
theorem dX8_thunder_27 : decode cX8_thunder 27 = .ok (.invokevirtual 171, 3) := by decide +kernel
theorem dX8_thunder_30 : decode cX8_thunder 30 = .ok (.aload_n 0, 1) := by decide +kernel
theorem dX8_thunder_31 : decode cX8_thunder 31 = .ok (.aload_n 0, 1) := by decide +kernel
theorem dX8_thunder_32 : decode cX8_thunder 32 = .ok (.getfield 38, 3) := by decide +kernel
theorem dX8_thunder_35 : decode cX8_thunder 35 = .ok (.invokevirtual 180, 3) := by decide +kernel
theorem dX8_thunder_38 : decode cX8_thunder 38 = .ok (.aload_n 0, 1) := by decide +kernel
theorem dX8_thunder_39 : decode cX8_thunder 39 = .ok (.getfield 38, 3) := by decide +kernel
theorem dX8_thunder_42 : decode cX8_thunder 42 = .ok (.bipush 9, 2) := by decide +kernel
theorem dX8_thunder_44 : decode cX8_thunder 44 = .ok (.iaload, 1) := by decide +kernel
theorem dX8_thunder_45 : decode cX8_thunder 45 = .ok (.ireturn, 1) := by decide +kernel
theorem dX8_undo_0 : decode cX8_undo 0 = .ok (.iload_n 1, 1) := by decide +kernel
theorem dX8_undo_1 : decode cX8_undo 1 = .ok (.iconst 0, 1) := by decide +kernel
theorem dX8_undo_2 : decode cX8_undo 2 = .ok (.aload_n 0, 1) := by decide +kernel
theorem dX8_undo_3 : decode cX8_undo 3 = .ok (.getfield 130, 3) := by decide +kernel
theorem dX8_undo_6 : decode cX8_undo 6 = .ok (.invokestatic 66, 3) := by decide +kernel
theorem dX8_undo_9 : decode cX8_undo 9 = .ok (.ifCond .ne 5, 3) := by decide +kernel
theorem dX8_undo_12 : decode cX8_undo 12 = .ok (.iconst (-1), 1) := by decide +kernel
theorem dX8_undo_13 : decode cX8_undo 13 = .ok (.ireturn, 1) := by decide +kernel
theorem dX8_undo_14 : decode cX8_undo 14 = .ok (.aload_n 0, 1) := by decide +kernel
theorem dX8_undo_15 : decode cX8_undo 15 = .ok (.getfield 130, 3) := by decide +kernel
theorem dX8_undo_18 : decode cX8_undo 18 = .ok (.iload_n 1, 1) := by decide +kernel
theorem dX8_undo_19 : decode cX8_undo 19 = .ok (.isub, 1) := by decide +kernel
theorem dX8_undo_20 : decode cX8_undo 20 = .ok (.istore_n 2, 1) := by decide +kernel
theorem dX8_undo_21 : decode cX8_undo 21 = .ok (.iload_n 2, 1) := by decide +kernel
theorem dX8_undo_22 : decode cX8_undo 22 = .ok (.ifCond .le 21, 3) := by decide +kernel
theorem dX8_undo_25 : decode cX8_undo 25 = .ok (.aload_n 0, 1) := by decide +kernel
theorem dX8_undo_26 : decode cX8_undo 26 = .ok (.getfield 44, 3) := by decide +kernel
theorem dX8_undo_29 : decode cX8_undo 29 = .ok (.bipush 17, 2) := by decide +kernel
theorem dX8_undo_31 : decode cX8_undo 31 = .ok (.iload_n 1, 1) := by decide +kernel
theorem dX8_undo_32 : decode cX8_undo 32 = .ok (.imul, 1) := by decide +kernel
theorem dX8_undo_33 : decode cX8_undo 33 = .ok (.aload_n 0, 1) := by decide +kernel
theorem dX8_undo_34 : decode cX8_undo 34 = .ok (.getfield 38, 3) := by decide +kernel
theorem dX8_undo_37 : decode cX8_undo 37 = .ok (.iconst 0, 1) := by decide +kernel
theorem dX8_undo_38 : decode cX8_undo 38 = .ok (.bipush 17, 2) := by decide +kernel
theorem dX8_undo_40 : decode cX8_undo 40 = .ok (.invokestatic 159, 3) := by decide +kernel
theorem dX8_undo_43 : decode cX8_undo 43 = .ok (.aload_n 0, 1) := by decide +kernel
theorem dX8_undo_44 : decode cX8_undo 44 = .ok (.iload_n 1, 1) := by decide +kernel
theorem dX8_undo_45 : decode cX8_undo 45 = .ok (.putfield 130, 3) := by decide +kernel
theorem dX8_undo_48 : decode cX8_undo 48 = .ok (.iload_n 2, 1) := by decide +kernel
theorem dX8_undo_49 : decode cX8_undo 49 = .ok (.ireturn, 1) := by decide +kernel
theorem dX8_keep_0 : decode cX8_keep 0 = .ok (.iload_n 1, 1) := by decide +kernel
theorem dX8_keep_1 : decode cX8_keep 1 = .ok (.iconst 0, 1) := by decide +kernel
theorem dX8_keep_2 : decode cX8_keep 2 = .ok (.iconst 2, 1) := by decide +kernel
theorem dX8_keep_3 : decode cX8_keep 3 = .ok (.invokestatic 66, 3) := by decide +kernel
theorem dX8_keep_6 : decode cX8_keep 6 = .ok (.ifCond .ne 5, 3) := by decide +kernel
theorem dX8_keep_9 : decode cX8_keep 9 = .ok (.iconst (-1), 1) := by decide +kernel
theorem dX8_keep_10 : decode cX8_keep 10 = .ok (.ireturn, 1) := by decide +kernel
theorem dX8_keep_11 : decode cX8_keep 11 = .ok (.aload_n 0, 1) := by decide +kernel
theorem dX8_keep_12 : decode cX8_keep 12 = .ok (.getfield 63, 3) := by decide +kernel
theorem dX8_keep_15 : decode cX8_keep 15 = .ok (.ifCond .ne 6, 3) := by decide +kernel
theorem dX8_keep_18 : decode cX8_keep 18 = .ok (.bipush (-4), 2) := by decide +kernel
theorem dX8_keep_20 : decode cX8_keep 20 = .ok (.ireturn, 1) := by decide +kernel
theorem dX8_keep_21 : decode cX8_keep 21 = .ok (.aload_n 0, 1) := by decide +kernel
theorem dX8_keep_22 : decode cX8_keep 22 = .ok (.getfield 38, 3) := by decide +kernel
theorem dX8_keep_25 : decode cX8_keep 25 = .ok (.iconst 0, 1) := by decide +kernel
theorem dX8_keep_26 : decode cX8_keep 26 = .ok (.aload_n 0, 1) := by decide +kernel
theorem dX8_keep_27 : decode cX8_keep 27 = .ok (.getfield 47, 3) := by decide +kernel
theorem dX8_keep_30 : decode cX8_keep 30 = .ok (.bipush 17, 2) := by decide +kernel
theorem dX8_keep_32 : decode cX8_keep 32 = .ok (.iload_n 1, 1) := by decide +kernel
theorem dX8_keep_33 : decode cX8_keep 33 = .ok (.imul, 1) := by decide +kernel
theorem dX8_keep_34 : decode cX8_keep 34 = .ok (.bipush 17, 2) := by decide +kernel
theorem dX8_keep_36 : decode cX8_keep 36 = .ok (.invokestatic 159, 3) := by decide +kernel
theorem dX8_keep_39 : decode cX8_keep 39 = .ok (.aload_n 0, 1) := by decide +kernel
theorem dX8_keep_40 : decode cX8_keep 40 = .ok (.getfield 44, 3) := by decide +kernel
theorem dX8_keep_43 : decode cX8_keep 43 = .ok (.iconst 0, 1) := by decide +kernel
theorem dX8_keep_44 : decode cX8_keep 44 = .ok (.aload_n 0, 1) := by decide +kernel
theorem dX8_keep_45 : decode cX8_keep 45 = .ok (.getfield 50, 3) := by decide +kernel
theorem dX8_keep_48 : decode cX8_keep 48 = .ok (.sipush 680, 3) := by decide +kernel
theorem dX8_keep_51 : decode cX8_keep 51 = .ok (.iload_n 1, 1) := by decide +kernel
theorem dX8_keep_52 : decode cX8_keep 52 = .ok (.imul, 1) := by decide +kernel
theorem dX8_keep_53 : decode cX8_keep 53 = .ok (.sipush 680, 3) := by decide +kernel
theorem dX8_keep_56 : decode cX8_keep 56 = .ok (.invokestatic 159, 3) := by decide +kernel
theorem dX8_keep_59 : decode cX8_keep 59 = .ok (.aload_n 0, 1) := by decide +kernel
theorem dX8_keep_60 : decode cX8_keep 60 = .ok (.getfield 53, 3) := by decide +kernel
theorem dX8_keep_63 : decode cX8_keep 63 = .ok (.iload_n 1, 1) := by decide +kernel
theorem dX8_keep_64 : decode cX8_keep 64 = .ok (.aload_n 0, 1) := by decide +kernel
theorem dX8_keep_65 : decode cX8_keep 65 = .ok (.getfield 130, 3) := by decide +kernel
theorem dX8_keep_68 : decode cX8_keep 68 = .ok (.iastore, 1) := by decide +kernel
theorem dX8_keep_69 : decode cX8_keep 69 = .ok (.aload_n 0, 1) := by decide +kernel
theorem dX8_keep_70 : decode cX8_keep 70 = .ok (.getfield 130, 3) := by decide +kernel
theorem dX8_keep_73 : decode cX8_keep 73 = .ok (.ireturn, 1) := by decide +kernel
theorem dX8_on_0 : decode cX8_on 0 = .ok (.iload_n 1, 1) := by decide +kernel
theorem dX8_on_1 : decode cX8_on 1 = .ok (.iconst 0, 1) := by decide +kernel
theorem dX8_on_2 : decode cX8_on 2 = .ok (.iconst 2, 1) := by decide +kernel
theorem dX8_on_3 : decode cX8_on 3 = .ok (.invokestatic 66, 3) := by decide +kernel
theorem dX8_on_6 : decode cX8_on 6 = .ok (.ifCond .ne 5, 3) := by decide +kernel
theorem dX8_on_9 : decode cX8_on 9 = .ok (.iconst (-1), 1) := by decide +kernel
theorem dX8_on_10 : decode cX8_on 10 = .ok (.ireturn, 1) := by decide +kernel
theorem dX8_on_11 : decode cX8_on 11 = .ok (.aload_n 0, 1) := by decide +kernel
theorem dX8_on_12 : decode cX8_on 12 = .ok (.getfield 53, 3) := by decide +kernel
theorem dX8_on_15 : decode cX8_on 15 = .ok (.iload_n 1, 1) := by decide +kernel
theorem dX8_on_16 : decode cX8_on 16 = .ok (.iaload, 1) := by decide +kernel
theorem dX8_on_17 : decode cX8_on 17 = .ok (.ifCond .ge 9, 3) := by decide +kernel
theorem dX8_on_20 : decode cX8_on 20 = .ok (.aload_n 0, 1) := by decide +kernel
theorem dX8_on_21 : decode cX8_on 21 = .ok (.iconst 1, 1) := by decide +kernel
theorem dX8_on_22 : decode cX8_on 22 = .ok (.invokevirtual 73, 3) := by decide +kernel
theorem dX8_on_25 : decode cX8_on 25 = .ok (.ireturn, 1) := by decide +kernel
theorem dX8_on_26 : decode cX8_on 26 = .ok (.aload_n 0, 1) := by decide +kernel
theorem dX8_on_27 : decode cX8_on 27 = .ok (.getfield 47, 3) := by decide +kernel
theorem dX8_on_30 : decode cX8_on 30 = .ok (.bipush 17, 2) := by decide +kernel
theorem dX8_on_32 : decode cX8_on 32 = .ok (.iload_n 1, 1) := by decide +kernel
theorem dX8_on_33 : decode cX8_on 33 = .ok (.imul, 1) := by decide +kernel
theorem dX8_on_34 : decode cX8_on 34 = .ok (.aload_n 0, 1) := by decide +kernel
theorem dX8_on_35 : decode cX8_on 35 = .ok (.getfield 38, 3) := by decide +kernel
theorem dX8_on_38 : decode cX8_on 38 = .ok (.iconst 0, 1) := by decide +kernel
theorem dX8_on_39 : decode cX8_on 39 = .ok (.bipush 17, 2) := by decide +kernel
theorem dX8_on_41 : decode cX8_on 41 = .ok (.invokestatic 159, 3) := by decide +kernel
theorem dX8_on_44 : decode cX8_on 44 = .ok (.aload_n 0, 1) := by decide +kernel
theorem dX8_on_45 : decode cX8_on 45 = .ok (.getfield 50, 3) := by decide +kernel
theorem dX8_on_48 : decode cX8_on 48 = .ok (.sipush 680, 3) := by decide +kernel
theorem dX8_on_51 : decode cX8_on 51 = .ok (.iload_n 1, 1) := by decide +kernel
theorem dX8_on_52 : decode cX8_on 52 = .ok (.imul, 1) := by decide +kernel
theorem dX8_on_53 : decode cX8_on 53 = .ok (.aload_n 0, 1) := by decide +kernel
theorem dX8_on_54 : decode cX8_on 54 = .ok (.getfield 44, 3) := by decide +kernel
theorem dX8_on_57 : decode cX8_on 57 = .ok (.iconst 0, 1) := by decide +kernel
theorem dX8_on_58 : decode cX8_on 58 = .ok (.sipush 680, 3) := by decide +kernel
theorem dX8_on_61 : decode cX8_on 61 = .ok (.invokestatic 159, 3) := by decide +kernel
theorem dX8_on_64 : decode cX8_on 64 = .ok (.aload_n 0, 1) := by decide +kernel
theorem dX8_on_65 : decode cX8_on 65 = .ok (.aload_n 0, 1) := by decide +kernel
theorem dX8_on_66 : decode cX8_on 66 = .ok (.getfield 53, 3) := by decide +kernel
theorem dX8_on_69 : decode cX8_on 69 = .ok (.iload_n 1, 1) := by decide +kernel
theorem dX8_on_70 : decode cX8_on 70 = .ok (.iaload, 1) := by decide +kernel
theorem dX8_on_71 : decode cX8_on 71 = .ok (.putfield 130, 3) := by decide +kernel
theorem dX8_on_74 : decode cX8_on 74 = .ok (.aload_n 0, 1) := by decide +kernel
theorem dX8_on_75 : decode cX8_on 75 = .ok (.getfield 130, 3) := by decide +kernel
theorem dX8_on_78 : decode cX8_on 78 = .ok (.ireturn, 1) := by decide +kernel
theorem dX8_says_0 : decode cX8_says 0 = .ok (.aload_n 0, 1) := by decide +kernel
theorem dX8_says_1 : decode cX8_says 1 = .ok (.iload_n 1, 1) := by decide +kernel
theorem dX8_says_2 : decode cX8_says 2 = .ok (.invokevirtual 133, 3) := by decide +kernel
theorem dX8_says_5 : decode cX8_says 5 = .ok (.ifCond .eq 26, 3) := by decide +kernel
theorem dX8_says_8 : decode cX8_says 8 = .ok (.iload_n 2, 1) := by decide +kernel
theorem dX8_says_9 : decode cX8_says 9 = .ok (.iconst 0, 1) := by decide +kernel
theorem dX8_says_10 : decode cX8_says 10 = .ok (.bipush 99, 2) := by decide +kernel
theorem dX8_says_12 : decode cX8_says 12 = .ok (.invokestatic 66, 3) := by decide +kernel
theorem dX8_says_15 : decode cX8_says 15 = .ok (.ifCond .eq 16, 3) := by decide +kernel
theorem dX8_says_18 : decode cX8_says 18 = .ok (.aload_n 0, 1) := by decide +kernel
theorem dX8_says_19 : decode cX8_says 19 = .ok (.getfield 32, 3) := by decide +kernel
theorem dX8_says_22 : decode cX8_says 22 = .ok (.iload_n 1, 1) := by decide +kernel
theorem dX8_says_23 : decode cX8_says 23 = .ok (.iaload, 1) := by decide +kernel
theorem dX8_says_24 : decode cX8_says 24 = .ok (.iload_n 2, 1) := by decide +kernel
theorem dX8_says_25 : decode cX8_says 25 = .ok (.invokestatic 140, 3) := by decide +kernel
theorem dX8_says_28 : decode cX8_says 28 = .ok (.goto 4, 3) := by decide +kernel
theorem dX8_says_31 : decode cX8_says 31 = .ok (.iconst (-1), 1) := by decide +kernel
theorem dX8_says_32 : decode cX8_says 32 = .ok (.ireturn, 1) := by decide +kernel
theorem dX8_breathes_0 : decode cX8_breathes 0 = .ok (.aload_n 0, 1) := by decide +kernel
theorem dX8_breathes_1 : decode cX8_breathes 1 = .ok (.iload_n 1, 1) := by decide +kernel
theorem dX8_breathes_2 : decode cX8_breathes 2 = .ok (.invokevirtual 133, 3) := by decide +kernel
theorem dX8_breathes_5 : decode cX8_breathes 5 = .ok (.ifCond .eq 22, 3) := by decide +kernel
theorem dX8_breathes_8 : decode cX8_breathes 8 = .ok (.iload_n 2, 1) := by decide +kernel
theorem dX8_breathes_9 : decode cX8_breathes 9 = .ok (.iconst 0, 1) := by decide +kernel
theorem dX8_breathes_10 : decode cX8_breathes 10 = .ok (.bipush 99, 2) := by decide +kernel
theorem dX8_breathes_12 : decode cX8_breathes 12 = .ok (.invokestatic 66, 3) := by decide +kernel
theorem dX8_breathes_15 : decode cX8_breathes 15 = .ok (.ifCond .eq 12, 3) := by decide +kernel
theorem dX8_breathes_18 : decode cX8_breathes 18 = .ok (.aload_n 0, 1) := by decide +kernel
theorem dX8_breathes_19 : decode cX8_breathes 19 = .ok (.iload_n 1, 1) := by decide +kernel
theorem dX8_breathes_20 : decode cX8_breathes 20 = .ok (.iload_n 2, 1) := by decide +kernel
theorem dX8_breathes_21 : decode cX8_breathes 21 = .ok (.invokevirtual 153, 3) := by decide +kernel
theorem dX8_breathes_24 : decode cX8_breathes 24 = .ok (.goto 4, 3) := by decide +kernel
theorem dX8_breathes_27 : decode cX8_breathes 27 = .ok (.iconst (-1), 1) := by decide +kernel
theorem dX8_breathes_28 : decode cX8_breathes 28 = .ok (.ireturn, 1) := by decide +kernel
theorem dX8_means_0 : decode cX8_means 0 = .ok (.aload_n 0, 1) := by decide +kernel
theorem dX8_means_1 : decode cX8_means 1 = .ok (.iload_n 1, 1) := by decide +kernel
theorem dX8_means_2 : decode cX8_means 2 = .ok (.invokevirtual 133, 3) := by decide +kernel
theorem dX8_means_5 : decode cX8_means 5 = .ok (.ifCond .eq 13, 3) := by decide +kernel
theorem dX8_means_8 : decode cX8_means 8 = .ok (.iload_n 2, 1) := by decide +kernel
theorem dX8_means_9 : decode cX8_means 9 = .ok (.iconst 0, 1) := by decide +kernel
theorem dX8_means_10 : decode cX8_means 10 = .ok (.bipush 99, 2) := by decide +kernel
theorem dX8_means_12 : decode cX8_means 12 = .ok (.invokestatic 66, 3) := by decide +kernel
theorem dX8_means_15 : decode cX8_means 15 = .ok (.ifCond .ne 5, 3) := by decide +kernel
theorem dX8_means_18 : decode cX8_means 18 = .ok (.iconst (-1), 1) := by decide +kernel
theorem dX8_means_19 : decode cX8_means 19 = .ok (.ireturn, 1) := by decide +kernel
theorem dX8_means_20 : decode cX8_means 20 = .ok (.iconst 0, 1) := by decide +kernel
theorem dX8_means_21 : decode cX8_means 21 = .ok (.istore_n 3, 1) := by decide +kernel
theorem dX8_means_22 : decode cX8_means 22 = .ok (.bipush (-9), 2) := by decide +kernel
theorem dX8_means_24 : decode cX8_means 24 = .ok (.istore 4, 2) := by decide +kernel
theorem dX8_means_26 : decode cX8_means 26 = .ok (.bipush 99, 2) := by decide +kernel
theorem dX8_means_28 : decode cX8_means 28 = .ok (.istore 5, 2) := by decide +kernel
theorem dX8_means_30 : decode cX8_means 30 = .ok (.iload 5, 2) := by decide +kernel
theorem dX8_means_32 : decode cX8_means 32 = .ok (.ifCond .lt 56, 3) := by decide +kernel
theorem dX8_means_35 : decode cX8_means 35 = .ok (.iload_n 3, 1) := by decide +kernel
theorem dX8_means_36 : decode cX8_means 36 = .ok (.aload_n 0, 1) := by decide +kernel
theorem dX8_means_37 : decode cX8_means 37 = .ok (.getfield 32, 3) := by decide +kernel
theorem dX8_means_40 : decode cX8_means 40 = .ok (.iload_n 1, 1) := by decide +kernel
theorem dX8_means_41 : decode cX8_means 41 = .ok (.iaload, 1) := by decide +kernel
theorem dX8_means_42 : decode cX8_means 42 = .ok (.iload 5, 2) := by decide +kernel
theorem dX8_means_44 : decode cX8_means 44 = .ok (.invokestatic 140, 3) := by decide +kernel
theorem dX8_means_47 : decode cX8_means 47 = .ok (.iload_n 2, 1) := by decide +kernel
theorem dX8_means_48 : decode cX8_means 48 = .ok (.if_icmp .ne 7, 3) := by decide +kernel
theorem dX8_means_51 : decode cX8_means 51 = .ok (.iconst 1, 1) := by decide +kernel
theorem dX8_means_52 : decode cX8_means 52 = .ok (.goto 4, 3) := by decide +kernel
theorem dX8_means_55 : decode cX8_means 55 = .ok (.iconst 0, 1) := by decide +kernel
theorem dX8_means_56 : decode cX8_means 56 = .ok (.iadd, 1) := by decide +kernel
theorem dX8_means_57 : decode cX8_means 57 = .ok (.istore_n 3, 1) := by decide +kernel
theorem dX8_means_58 : decode cX8_means 58 = .ok (.aload_n 0, 1) := by decide +kernel
theorem dX8_means_59 : decode cX8_means 59 = .ok (.getfield 32, 3) := by decide +kernel
theorem dX8_means_62 : decode cX8_means 62 = .ok (.iload_n 1, 1) := by decide +kernel
theorem dX8_means_63 : decode cX8_means 63 = .ok (.iaload, 1) := by decide +kernel
theorem dX8_means_64 : decode cX8_means 64 = .ok (.iload 5, 2) := by decide +kernel
theorem dX8_means_66 : decode cX8_means 66 = .ok (.invokestatic 140, 3) := by decide +kernel
theorem dX8_means_69 : decode cX8_means 69 = .ok (.iload_n 2, 1) := by decide +kernel
theorem dX8_means_70 : decode cX8_means 70 = .ok (.if_icmp .ne 8, 3) := by decide +kernel
theorem dX8_means_73 : decode cX8_means 73 = .ok (.iload 5, 2) := by decide +kernel
theorem dX8_means_75 : decode cX8_means 75 = .ok (.goto 5, 3) := by decide +kernel
theorem dX8_means_78 : decode cX8_means 78 = .ok (.iload 4, 2) := by decide +kernel
theorem dX8_means_80 : decode cX8_means 80 = .ok (.istore 4, 2) := by decide +kernel
theorem dX8_means_82 : decode cX8_means 82 = .ok (.iinc 5 (-1), 3) := by decide +kernel
theorem dX8_means_85 : decode cX8_means 85 = .ok (.goto (-55), 3) := by decide +kernel
theorem dX8_means_88 : decode cX8_means 88 = .ok (.aload_n 0, 1) := by decide +kernel
theorem dX8_means_89 : decode cX8_means 89 = .ok (.iload 4, 2) := by decide +kernel
theorem dX8_means_91 : decode cX8_means 91 = .ok (.invokevirtual 81, 3) := by decide +kernel
theorem dX8_means_94 : decode cX8_means 94 = .ok (.pop, 1) := by decide +kernel
theorem dX8_means_95 : decode cX8_means 95 = .ok (.iload_n 3, 1) := by decide +kernel
theorem dX8_means_96 : decode cX8_means 96 = .ok (.ireturn, 1) := by decide +kernel
theorem dX8_least_0 : decode cX8_least 0 = .ok (.aload_n 0, 1) := by decide +kernel
theorem dX8_least_1 : decode cX8_least 1 = .ok (.iload_n 1, 1) := by decide +kernel
theorem dX8_least_2 : decode cX8_least 2 = .ok (.invokevirtual 133, 3) := by decide +kernel
theorem dX8_least_5 : decode cX8_least 5 = .ok (.ifCond .eq 13, 3) := by decide +kernel
theorem dX8_least_8 : decode cX8_least 8 = .ok (.iload_n 2, 1) := by decide +kernel
theorem dX8_least_9 : decode cX8_least 9 = .ok (.iconst 0, 1) := by decide +kernel
theorem dX8_least_10 : decode cX8_least 10 = .ok (.bipush 99, 2) := by decide +kernel
theorem dX8_least_12 : decode cX8_least 12 = .ok (.invokestatic 66, 3) := by decide +kernel
theorem dX8_least_15 : decode cX8_least 15 = .ok (.ifCond .ne 5, 3) := by decide +kernel
theorem dX8_least_18 : decode cX8_least 18 = .ok (.iconst (-1), 1) := by decide +kernel
theorem dX8_least_19 : decode cX8_least 19 = .ok (.ireturn, 1) := by decide +kernel
theorem dX8_least_20 : decode cX8_least 20 = .ok (.iconst 0, 1) := by decide +kernel
theorem dX8_least_21 : decode cX8_least 21 = .ok (.istore_n 3, 1) := by decide +kernel
theorem dX8_least_22 : decode cX8_least 22 = .ok (.iload_n 3, 1) := by decide +kernel
theorem dX8_least_23 : decode cX8_least 23 = .ok (.bipush 100, 2) := by decide +kernel
theorem dX8_least_25 : decode cX8_least 25 = .ok (.if_icmp .ge 21, 3) := by decide +kernel
theorem dX8_least_28 : decode cX8_least 28 = .ok (.aload_n 0, 1) := by decide +kernel
theorem dX8_least_29 : decode cX8_least 29 = .ok (.iload_n 1, 1) := by decide +kernel
theorem dX8_least_30 : decode cX8_least 30 = .ok (.iload_n 3, 1) := by decide +kernel
theorem dX8_least_31 : decode cX8_least 31 = .ok (.invokevirtual 153, 3) := by decide +kernel
theorem dX8_least_34 : decode cX8_least 34 = .ok (.iload_n 2, 1) := by decide +kernel
theorem dX8_least_35 : decode cX8_least 35 = .ok (.if_icmp .lt 5, 3) := by decide +kernel
theorem dX8_least_38 : decode cX8_least 38 = .ok (.iload_n 3, 1) := by decide +kernel
theorem dX8_least_39 : decode cX8_least 39 = .ok (.ireturn, 1) := by decide +kernel
theorem dX8_least_40 : decode cX8_least 40 = .ok (.iinc 3 1, 3) := by decide +kernel
theorem dX8_least_43 : decode cX8_least 43 = .ok (.goto (-21), 3) := by decide +kernel
theorem dX8_least_46 : decode cX8_least 46 = .ok (.bipush (-9), 2) := by decide +kernel
theorem dX8_least_48 : decode cX8_least 48 = .ok (.ireturn, 1) := by decide +kernel
theorem dX8_begin_0 : decode cX8_begin 0 = .ok (.aload_n 0, 1) := by decide +kernel
theorem dX8_begin_1 : decode cX8_begin 1 = .ok (.getfield 38, 3) := by decide +kernel
theorem dX8_begin_4 : decode cX8_begin 4 = .ok (.iconst 0, 1) := by decide +kernel
theorem dX8_begin_5 : decode cX8_begin 5 = .ok (.aload_n 0, 1) := by decide +kernel
theorem dX8_begin_6 : decode cX8_begin 6 = .ok (.getfield 41, 3) := by decide +kernel
theorem dX8_begin_9 : decode cX8_begin 9 = .ok (.iconst 0, 1) := by decide +kernel
theorem dX8_begin_10 : decode cX8_begin 10 = .ok (.bipush 17, 2) := by decide +kernel
theorem dX8_begin_12 : decode cX8_begin 12 = .ok (.invokestatic 159, 3) := by decide +kernel
theorem dX8_begin_15 : decode cX8_begin 15 = .ok (.return_, 1) := by decide +kernel
theorem dX8_hangs_0 : decode cX8_hangs 0 = .ok (.aload_n 0, 1) := by decide +kernel
theorem dX8_hangs_1 : decode cX8_hangs 1 = .ok (.iload_n 1, 1) := by decide +kernel
theorem dX8_hangs_2 : decode cX8_hangs 2 = .ok (.invokevirtual 156, 3) := by decide +kernel
theorem dX8_hangs_5 : decode cX8_hangs 5 = .ok (.ifCond .eq 13, 3) := by decide +kernel
theorem dX8_hangs_8 : decode cX8_hangs 8 = .ok (.iload_n 2, 1) := by decide +kernel
theorem dX8_hangs_9 : decode cX8_hangs 9 = .ok (.iconst 0, 1) := by decide +kernel
theorem dX8_hangs_10 : decode cX8_hangs 10 = .ok (.bipush 60, 2) := by decide +kernel
theorem dX8_hangs_12 : decode cX8_hangs 12 = .ok (.invokestatic 66, 3) := by decide +kernel
theorem dX8_hangs_15 : decode cX8_hangs 15 = .ok (.ifCond .ne 5, 3) := by decide +kernel
theorem dX8_hangs_18 : decode cX8_hangs 18 = .ok (.iconst (-1), 1) := by decide +kernel
theorem dX8_hangs_19 : decode cX8_hangs 19 = .ok (.ireturn, 1) := by decide +kernel
theorem dX8_hangs_20 : decode cX8_hangs 20 = .ok (.aload_n 0, 1) := by decide +kernel
theorem dX8_hangs_21 : decode cX8_hangs 21 = .ok (.invokevirtual 184, 3) := by decide +kernel
theorem dX8_hangs_24 : decode cX8_hangs 24 = .ok (.iconst 0, 1) := by decide +kernel
theorem dX8_hangs_25 : decode cX8_hangs 25 = .ok (.istore_n 3, 1) := by decide +kernel
theorem dX8_hangs_26 : decode cX8_hangs 26 = .ok (.iload_n 3, 1) := by decide +kernel
theorem dX8_hangs_27 : decode cX8_hangs 27 = .ok (.iload_n 2, 1) := by decide +kernel
theorem dX8_hangs_28 : decode cX8_hangs 28 = .ok (.if_icmp .ge 18, 3) := by decide +kernel
theorem dX8_hangs_31 : decode cX8_hangs 31 = .ok (.aload_n 0, 1) := by decide +kernel
theorem dX8_hangs_32 : decode cX8_hangs 32 = .ok (.aload_n 0, 1) := by decide +kernel
theorem dX8_hangs_33 : decode cX8_hangs 33 = .ok (.getfield 41, 3) := by decide +kernel
theorem dX8_hangs_36 : decode cX8_hangs 36 = .ok (.invokevirtual 177, 3) := by decide +kernel
theorem dX8_hangs_39 : decode cX8_hangs 39 = .ok (.pop, 1) := by decide +kernel
theorem dX8_hangs_40 : decode cX8_hangs 40 = .ok (.iinc 3 1, 3) := by decide +kernel
theorem dX8_hangs_43 : decode cX8_hangs 43 = .ok (.goto (-17), 3) := by decide +kernel
theorem dX8_hangs_46 : decode cX8_hangs 46 = .ok (.aload_n 0, 1) := by decide +kernel
theorem dX8_hangs_47 : decode cX8_hangs 47 = .ok (.getfield 41, 3) := by decide +kernel
theorem dX8_hangs_50 : decode cX8_hangs 50 = .ok (.iload_n 1, 1) := by decide +kernel
theorem dX8_hangs_51 : decode cX8_hangs 51 = .ok (.iaload, 1) := by decide +kernel
theorem dX8_hangs_52 : decode cX8_hangs 52 = .ok (.ireturn, 1) := by decide +kernel
theorem dX8_clear_0 : decode cX8_clear 0 = .ok (.aload_n 0, 1) := by decide +kernel
theorem dX8_clear_1 : decode cX8_clear 1 = .ok (.getfield 63, 3) := by decide +kernel
theorem dX8_clear_4 : decode cX8_clear 4 = .ok (.ifCond .ne 6, 3) := by decide +kernel
theorem dX8_clear_7 : decode cX8_clear 7 = .ok (.bipush (-4), 2) := by decide +kernel
theorem dX8_clear_9 : decode cX8_clear 9 = .ok (.ireturn, 1) := by decide +kernel
theorem dX8_clear_10 : decode cX8_clear 10 = .ok (.aload_n 0, 1) := by decide +kernel
theorem dX8_clear_11 : decode cX8_clear 11 = .ok (.invokevirtual 184, 3) := by decide +kernel
theorem dX8_clear_14 : decode cX8_clear 14 = .ok (.iconst 0, 1) := by decide +kernel
theorem dX8_clear_15 : decode cX8_clear 15 = .ok (.istore_n 1, 1) := by decide +kernel
theorem dX8_clear_16 : decode cX8_clear 16 = .ok (.iload_n 1, 1) := by decide +kernel
theorem dX8_clear_17 : decode cX8_clear 17 = .ok (.sipush 1000, 3) := by decide +kernel
theorem dX8_clear_20 : decode cX8_clear 20 = .ok (.if_icmp .gt 31, 3) := by decide +kernel
theorem dX8_clear_23 : decode cX8_clear 23 = .ok (.aload_n 0, 1) := by decide +kernel
theorem dX8_clear_24 : decode cX8_clear 24 = .ok (.aload_n 0, 1) := by decide +kernel
theorem dX8_clear_25 : decode cX8_clear 25 = .ok (.getfield 41, 3) := by decide +kernel
theorem dX8_clear_28 : decode cX8_clear 28 = .ok (.invokevirtual 167, 3) := by decide +kernel
theorem dX8_clear_31 : decode cX8_clear 31 = .ok (.ifCond .ne 5, 3) := by decide +kernel
theorem dX8_clear_34 : decode cX8_clear 34 = .ok (.iload_n 1, 1) := by decide +kernel
theorem dX8_clear_35 : decode cX8_clear 35 = .ok (.ireturn, 1) := by decide +kernel
theorem dX8_clear_36 : decode cX8_clear 36 = .ok (.aload_n 0, 1) := by decide +kernel
theorem dX8_clear_37 : decode cX8_clear 37 = .ok (.aload_n 0, 1) := by decide +kernel
theorem dX8_clear_38 : decode cX8_clear 38 = .ok (.getfield 41, 3) := by decide +kernel
theorem dX8_clear_41 : decode cX8_clear 41 = .ok (.invokevirtual 177, 3) := by decide +kernel
theorem dX8_clear_44 : decode cX8_clear 44 = .ok (.pop, 1) := by decide +kernel
theorem dX8_clear_45 : decode cX8_clear 45 = .ok (.iinc 1 1, 3) := by decide +kernel
theorem dX8_clear_48 : decode cX8_clear 48 = .ok (.goto (-32), 3) := by decide +kernel
theorem dX8_clear_51 : decode cX8_clear 51 = .ok (.bipush (-9), 2) := by decide +kernel
theorem dX8_clear_53 : decode cX8_clear 53 = .ok (.ireturn, 1) := by decide +kernel
theorem dX8_window_0 : decode cX8_window 0 = .ok (.iload_n 1, 1) := by decide +kernel
theorem dX8_window_1 : decode cX8_window 1 = .ok (.iconst 0, 1) := by decide +kernel
theorem dX8_window_2 : decode cX8_window 2 = .ok (.sipush 7992, 3) := by decide +kernel
theorem dX8_window_5 : decode cX8_window 5 = .ok (.invokestatic 66, 3) := by decide +kernel
theorem dX8_window_8 : decode cX8_window 8 = .ok (.ifCond .ne 5, 3) := by decide +kernel
theorem dX8_window_11 : decode cX8_window 11 = .ok (.iconst (-1), 1) := by decide +kernel
theorem dX8_window_12 : decode cX8_window 12 = .ok (.ireturn, 1) := by decide +kernel
theorem dX8_window_13 : decode cX8_window 13 = .ok (.aload_n 0, 1) := by decide +kernel
theorem dX8_window_14 : decode cX8_window 14 = .ok (.getfield 63, 3) := by decide +kernel
theorem dX8_window_17 : decode cX8_window 17 = .ok (.ifCond .ne 6, 3) := by decide +kernel
theorem dX8_window_20 : decode cX8_window 20 = .ok (.bipush (-4), 2) := by decide +kernel
theorem dX8_window_22 : decode cX8_window 22 = .ok (.ireturn, 1) := by decide +kernel
theorem dX8_window_23 : decode cX8_window 23 = .ok (.bipush (-9), 2) := by decide +kernel
theorem dX8_window_25 : decode cX8_window 25 = .ok (.istore_n 2, 1) := by decide +kernel
theorem dX8_window_26 : decode cX8_window 26 = .ok (.iconst 0, 1) := by decide +kernel
theorem dX8_window_27 : decode cX8_window 27 = .ok (.istore_n 3, 1) := by decide +kernel
theorem dX8_window_28 : decode cX8_window 28 = .ok (.iload_n 3, 1) := by decide +kernel
theorem dX8_window_29 : decode cX8_window 29 = .ok (.iconst 1, 1) := by decide +kernel
theorem dX8_window_30 : decode cX8_window 30 = .ok (.aload_n 0, 1) := by decide +kernel
theorem dX8_window_31 : decode cX8_window 31 = .ok (.getfield 70, 3) := by decide +kernel
theorem dX8_window_34 : decode cX8_window 34 = .ok (.ishl, 1) := by decide +kernel
theorem dX8_window_35 : decode cX8_window 35 = .ok (.if_icmp .ge 84, 3) := by decide +kernel
theorem dX8_window_38 : decode cX8_window 38 = .ok (.iconst 0, 1) := by decide +kernel
theorem dX8_window_39 : decode cX8_window 39 = .ok (.istore 4, 2) := by decide +kernel
theorem dX8_window_41 : decode cX8_window 41 = .ok (.iconst 0, 1) := by decide +kernel
theorem dX8_window_42 : decode cX8_window 42 = .ok (.istore 5, 2) := by decide +kernel
theorem dX8_window_44 : decode cX8_window 44 = .ok (.iload 5, 2) := by decide +kernel
theorem dX8_window_46 : decode cX8_window 46 = .ok (.aload_n 0, 1) := by decide +kernel
theorem dX8_window_47 : decode cX8_window 47 = .ok (.getfield 70, 3) := by decide +kernel
theorem dX8_window_50 : decode cX8_window 50 = .ok (.if_icmp .ge 34, 3) := by decide +kernel
theorem dX8_window_53 : decode cX8_window 53 = .ok (.iload 4, 2) := by decide +kernel
theorem dX8_window_55 : decode cX8_window 55 = .ok (.iload_n 3, 1) := by decide +kernel
theorem dX8_window_56 : decode cX8_window 56 = .ok (.iload 5, 2) := by decide +kernel
theorem dX8_window_58 : decode cX8_window 58 = .ok (.invokestatic 187, 3) := by decide +kernel
theorem dX8_window_61 : decode cX8_window 61 = .ok (.ifCond .eq 7, 3) := by decide +kernel
theorem dX8_window_64 : decode cX8_window 64 = .ok (.iconst 0, 1) := by decide +kernel
theorem dX8_window_65 : decode cX8_window 65 = .ok (.goto 10, 3) := by decide +kernel
theorem dX8_window_68 : decode cX8_window 68 = .ok (.aload_n 0, 1) := by decide +kernel
theorem dX8_window_69 : decode cX8_window 69 = .ok (.getfield 38, 3) := by decide +kernel
theorem dX8_window_72 : decode cX8_window 72 = .ok (.iload 5, 2) := by decide +kernel
theorem dX8_window_74 : decode cX8_window 74 = .ok (.iaload, 1) := by decide +kernel
theorem dX8_window_75 : decode cX8_window 75 = .ok (.iadd, 1) := by decide +kernel
theorem dX8_window_76 : decode cX8_window 76 = .ok (.istore 4, 2) := by decide +kernel
theorem dX8_window_78 : decode cX8_window 78 = .ok (.iinc 5 1, 3) := by decide +kernel
theorem dX8_window_81 : decode cX8_window 81 = .ok (.goto (-37), 3) := by decide +kernel
theorem dX8_window_84 : decode cX8_window 84 = .ok (.iload 4, 2) := by decide +kernel
theorem dX8_window_86 : decode cX8_window 86 = .ok (.iload_n 1, 1) := by decide +kernel
theorem dX8_window_87 : decode cX8_window 87 = .ok (.if_icmp .gt 24, 3) := by decide +kernel
theorem dX8_window_90 : decode cX8_window 90 = .ok (.iload_n 2, 1) := by decide +kernel
theorem dX8_window_91 : decode cX8_window 91 = .ok (.bipush (-9), 2) := by decide +kernel
theorem dX8_window_93 : decode cX8_window 93 = .ok (.if_icmp .eq 14, 3) := by decide +kernel
theorem dX8_window_96 : decode cX8_window 96 = .ok (.iload_n 3, 1) := by decide +kernel
theorem dX8_window_97 : decode cX8_window 97 = .ok (.invokestatic 190, 3) := by decide +kernel
theorem dX8_window_100 : decode cX8_window 100 = .ok (.iload_n 2, 1) := by decide +kernel
theorem dX8_window_101 : decode cX8_window 101 = .ok (.invokestatic 190, 3) := by decide +kernel
theorem dX8_window_104 : decode cX8_window 104 = .ok (.if_icmp .ge 7, 3) := by decide +kernel
theorem dX8_window_107 : decode cX8_window 107 = .ok (.iload_n 3, 1) := by decide +kernel
theorem dX8_window_108 : decode cX8_window 108 = .ok (.goto 4, 3) := by decide +kernel
theorem dX8_window_111 : decode cX8_window 111 = .ok (.iload_n 2, 1) := by decide +kernel
theorem dX8_window_112 : decode cX8_window 112 = .ok (.istore_n 2, 1) := by decide +kernel
theorem dX8_window_113 : decode cX8_window 113 = .ok (.iinc 3 1, 3) := by decide +kernel
theorem dX8_window_116 : decode cX8_window 116 = .ok (.goto (-88), 3) := by decide +kernel
theorem dX8_window_119 : decode cX8_window 119 = .ok (.aload_n 0, 1) := by decide +kernel
theorem dX8_window_120 : decode cX8_window 120 = .ok (.iload_n 2, 1) := by decide +kernel
theorem dX8_window_121 : decode cX8_window 121 = .ok (.invokevirtual 81, 3) := by decide +kernel
theorem dX8_window_124 : decode cX8_window 124 = .ok (.pop, 1) := by decide +kernel
theorem dX8_window_125 : decode cX8_window 125 = .ok (.iload_n 2, 1) := by decide +kernel
theorem dX8_window_126 : decode cX8_window 126 = .ok (.invokestatic 190, 3) := by decide +kernel
theorem dX8_window_129 : decode cX8_window 129 = .ok (.ireturn, 1) := by decide +kernel
theorem dX8_hangsBy_0 : decode cX8_hangsBy 0 = .ok (.aload_n 0, 1) := by decide +kernel
theorem dX8_hangsBy_1 : decode cX8_hangsBy 1 = .ok (.invokevirtual 184, 3) := by decide +kernel
theorem dX8_hangsBy_4 : decode cX8_hangsBy 4 = .ok (.iconst 1, 1) := by decide +kernel
theorem dX8_hangsBy_5 : decode cX8_hangsBy 5 = .ok (.istore 6, 2) := by decide +kernel
theorem dX8_hangsBy_7 : decode cX8_hangsBy 7 = .ok (.iconst 1, 1) := by decide +kernel
theorem dX8_hangsBy_8 : decode cX8_hangsBy 8 = .ok (.istore 7, 2) := by decide +kernel
theorem dX8_hangsBy_10 : decode cX8_hangsBy 10 = .ok (.iload 7, 2) := by decide +kernel
theorem dX8_hangsBy_12 : decode cX8_hangsBy 12 = .ok (.iload_n 2, 1) := by decide +kernel
theorem dX8_hangsBy_13 : decode cX8_hangsBy 13 = .ok (.if_icmp .ge 18, 3) := by decide +kernel
theorem dX8_hangsBy_16 : decode cX8_hangsBy 16 = .ok (.iload 6, 2) := by decide +kernel
theorem dX8_hangsBy_18 : decode cX8_hangsBy 18 = .ok (.aload_n 0, 1) := by decide +kernel
theorem dX8_hangsBy_19 : decode cX8_hangsBy 19 = .ok (.getfield 63, 3) := by decide +kernel
theorem dX8_hangsBy_22 : decode cX8_hangsBy 22 = .ok (.imul, 1) := by decide +kernel
theorem dX8_hangsBy_23 : decode cX8_hangsBy 23 = .ok (.istore 6, 2) := by decide +kernel
theorem dX8_hangsBy_25 : decode cX8_hangsBy 25 = .ok (.iinc 7 1, 3) := by decide +kernel
theorem dX8_hangsBy_28 : decode cX8_hangsBy 28 = .ok (.goto (-18), 3) := by decide +kernel
theorem dX8_hangsBy_31 : decode cX8_hangsBy 31 = .ok (.iconst 0, 1) := by decide +kernel
theorem dX8_hangsBy_32 : decode cX8_hangsBy 32 = .ok (.istore 7, 2) := by decide +kernel
theorem dX8_hangsBy_34 : decode cX8_hangsBy 34 = .ok (.iload 7, 2) := by decide +kernel
theorem dX8_hangsBy_36 : decode cX8_hangsBy 36 = .ok (.iload_n 2, 1) := by decide +kernel
theorem dX8_hangsBy_37 : decode cX8_hangsBy 37 = .ok (.if_icmp .ge 46, 3) := by decide +kernel
theorem dX8_hangsBy_40 : decode cX8_hangsBy 40 = .ok (.aload_n 0, 1) := by decide +kernel
theorem dX8_hangsBy_41 : decode cX8_hangsBy 41 = .ok (.aload_n 0, 1) := by decide +kernel
theorem dX8_hangsBy_42 : decode cX8_hangsBy 42 = .ok (.getfield 41, 3) := by decide +kernel
theorem dX8_hangsBy_45 : decode cX8_hangsBy 45 = .ok (.iload_n 1, 1) := by decide +kernel
theorem dX8_hangsBy_46 : decode cX8_hangsBy 46 = .ok (.iload 6, 2) := by decide +kernel
theorem dX8_hangsBy_48 : decode cX8_hangsBy 48 = .ok (.idiv, 1) := by decide +kernel
theorem dX8_hangsBy_49 : decode cX8_hangsBy 49 = .ok (.aload_n 0, 1) := by decide +kernel
theorem dX8_hangsBy_50 : decode cX8_hangsBy 50 = .ok (.getfield 63, 3) := by decide +kernel
theorem dX8_hangsBy_53 : decode cX8_hangsBy 53 = .ok (.irem, 1) := by decide +kernel
theorem dX8_hangsBy_54 : decode cX8_hangsBy 54 = .ok (.iload_n 3, 1) := by decide +kernel
theorem dX8_hangsBy_55 : decode cX8_hangsBy 55 = .ok (.invokevirtual 174, 3) := by decide +kernel
theorem dX8_hangsBy_58 : decode cX8_hangsBy 58 = .ok (.iload 6, 2) := by decide +kernel
theorem dX8_hangsBy_60 : decode cX8_hangsBy 60 = .ok (.iconst 1, 1) := by decide +kernel
theorem dX8_hangsBy_61 : decode cX8_hangsBy 61 = .ok (.if_icmp .le 13, 3) := by decide +kernel
theorem dX8_hangsBy_64 : decode cX8_hangsBy 64 = .ok (.iload 6, 2) := by decide +kernel
theorem dX8_hangsBy_66 : decode cX8_hangsBy 66 = .ok (.aload_n 0, 1) := by decide +kernel
theorem dX8_hangsBy_67 : decode cX8_hangsBy 67 = .ok (.getfield 63, 3) := by decide +kernel
theorem dX8_hangsBy_70 : decode cX8_hangsBy 70 = .ok (.idiv, 1) := by decide +kernel
theorem dX8_hangsBy_71 : decode cX8_hangsBy 71 = .ok (.goto 4, 3) := by decide +kernel
theorem dX8_hangsBy_74 : decode cX8_hangsBy 74 = .ok (.iconst 1, 1) := by decide +kernel
theorem dX8_hangsBy_75 : decode cX8_hangsBy 75 = .ok (.istore 6, 2) := by decide +kernel
theorem dX8_hangsBy_77 : decode cX8_hangsBy 77 = .ok (.iinc 7 1, 3) := by decide +kernel
theorem dX8_hangsBy_80 : decode cX8_hangsBy 80 = .ok (.goto (-46), 3) := by decide +kernel
theorem dX8_hangsBy_83 : decode cX8_hangsBy 83 = .ok (.aload_n 0, 1) := by decide +kernel
theorem dX8_hangsBy_84 : decode cX8_hangsBy 84 = .ok (.getfield 41, 3) := by decide +kernel
theorem dX8_hangsBy_87 : decode cX8_hangsBy 87 = .ok (.iload 4, 2) := by decide +kernel
theorem dX8_hangsBy_89 : decode cX8_hangsBy 89 = .ok (.iaload, 1) := by decide +kernel
theorem dX8_hangsBy_90 : decode cX8_hangsBy 90 = .ok (.iload 5, 2) := by decide +kernel
theorem dX8_hangsBy_92 : decode cX8_hangsBy 92 = .ok (.if_icmp .lt 7, 3) := by decide +kernel
theorem dX8_hangsBy_95 : decode cX8_hangsBy 95 = .ok (.iconst 1, 1) := by decide +kernel
theorem dX8_hangsBy_96 : decode cX8_hangsBy 96 = .ok (.goto 4, 3) := by decide +kernel
theorem dX8_hangsBy_99 : decode cX8_hangsBy 99 = .ok (.iconst 0, 1) := by decide +kernel
theorem dX8_hangsBy_100 : decode cX8_hangsBy 100 = .ok (.ireturn, 1) := by decide +kernel
theorem dX8_talks_0 : decode cX8_talks 0 = .ok (.iload_n 1, 1) := by decide +kernel
theorem dX8_talks_1 : decode cX8_talks 1 = .ok (.iconst 0, 1) := by decide +kernel
theorem dX8_talks_2 : decode cX8_talks 2 = .ok (.bipush 99, 2) := by decide +kernel
theorem dX8_talks_4 : decode cX8_talks 4 = .ok (.invokestatic 66, 3) := by decide +kernel
theorem dX8_talks_7 : decode cX8_talks 7 = .ok (.ifCond .eq 32, 3) := by decide +kernel
theorem dX8_talks_10 : decode cX8_talks 10 = .ok (.aload_n 0, 1) := by decide +kernel
theorem dX8_talks_11 : decode cX8_talks 11 = .ok (.iload_n 2, 1) := by decide +kernel
theorem dX8_talks_12 : decode cX8_talks 12 = .ok (.invokevirtual 156, 3) := by decide +kernel
theorem dX8_talks_15 : decode cX8_talks 15 = .ok (.ifCond .eq 24, 3) := by decide +kernel
theorem dX8_talks_18 : decode cX8_talks 18 = .ok (.iload_n 3, 1) := by decide +kernel
theorem dX8_talks_19 : decode cX8_talks 19 = .ok (.iconst 0, 1) := by decide +kernel
theorem dX8_talks_20 : decode cX8_talks 20 = .ok (.sipush 999, 3) := by decide +kernel
theorem dX8_talks_23 : decode cX8_talks 23 = .ok (.invokestatic 66, 3) := by decide +kernel
theorem dX8_talks_26 : decode cX8_talks 26 = .ok (.ifCond .eq 13, 3) := by decide +kernel
theorem dX8_talks_29 : decode cX8_talks 29 = .ok (.iload 4, 2) := by decide +kernel
theorem dX8_talks_31 : decode cX8_talks 31 = .ok (.iconst 0, 1) := by decide +kernel
theorem dX8_talks_32 : decode cX8_talks 32 = .ok (.iconst 5, 1) := by decide +kernel
theorem dX8_talks_33 : decode cX8_talks 33 = .ok (.invokestatic 66, 3) := by decide +kernel
theorem dX8_talks_36 : decode cX8_talks 36 = .ok (.ifCond .ne 5, 3) := by decide +kernel
theorem dX8_talks_39 : decode cX8_talks 39 = .ok (.iconst (-1), 1) := by decide +kernel
theorem dX8_talks_40 : decode cX8_talks 40 = .ok (.ireturn, 1) := by decide +kernel
theorem dX8_talks_41 : decode cX8_talks 41 = .ok (.iconst 1, 1) := by decide +kernel
theorem dX8_talks_42 : decode cX8_talks 42 = .ok (.istore 5, 2) := by decide +kernel
theorem dX8_talks_44 : decode cX8_talks 44 = .ok (.iconst 0, 1) := by decide +kernel
theorem dX8_talks_45 : decode cX8_talks 45 = .ok (.istore 6, 2) := by decide +kernel
theorem dX8_talks_47 : decode cX8_talks 47 = .ok (.iload 6, 2) := by decide +kernel
theorem dX8_talks_49 : decode cX8_talks 49 = .ok (.iconst 3, 1) := by decide +kernel
theorem dX8_talks_50 : decode cX8_talks 50 = .ok (.if_icmp .gt 110, 3) := by decide +kernel
theorem dX8_talks_53 : decode cX8_talks 53 = .ok (.iconst 0, 1) := by decide +kernel
theorem dX8_talks_54 : decode cX8_talks 54 = .ok (.istore 7, 2) := by decide +kernel
theorem dX8_talks_56 : decode cX8_talks 56 = .ok (.iload 7, 2) := by decide +kernel
theorem dX8_talks_58 : decode cX8_talks 58 = .ok (.iload 5, 2) := by decide +kernel
theorem dX8_talks_60 : decode cX8_talks 60 = .ok (.if_icmp .ge 85, 3) := by decide +kernel
theorem dX8_talks_63 : decode cX8_talks 63 = .ok (.aload_n 0, 1) := by decide +kernel
theorem dX8_talks_64 : decode cX8_talks 64 = .ok (.iload 7, 2) := by decide +kernel
theorem dX8_talks_66 : decode cX8_talks 66 = .ok (.iload 6, 2) := by decide +kernel
theorem dX8_talks_68 : decode cX8_talks 68 = .ok (.iload_n 1, 1) := by decide +kernel
theorem dX8_talks_69 : decode cX8_talks 69 = .ok (.iload_n 2, 1) := by decide +kernel
theorem dX8_talks_70 : decode cX8_talks 70 = .ok (.iload_n 3, 1) := by decide +kernel
theorem dX8_talks_71 : decode cX8_talks 71 = .ok (.invokevirtual 193, 3) := by decide +kernel
theorem dX8_talks_74 : decode cX8_talks 74 = .ok (.ifCond .eq 65, 3) := by decide +kernel
theorem dX8_talks_77 : decode cX8_talks 77 = .ok (.aload_n 0, 1) := by decide +kernel
theorem dX8_talks_78 : decode cX8_talks 78 = .ok (.getfield 7, 3) := by decide +kernel
theorem dX8_talks_81 : decode cX8_talks 81 = .ok (.iload 4, 2) := by decide +kernel
theorem dX8_talks_83 : decode cX8_talks 83 = .ok (.iload 6, 2) := by decide +kernel
theorem dX8_talks_85 : decode cX8_talks 85 = .ok (.iastore, 1) := by decide +kernel
theorem dX8_talks_86 : decode cX8_talks 86 = .ok (.iload 7, 2) := by decide +kernel
theorem dX8_talks_88 : decode cX8_talks 88 = .ok (.istore 8, 2) := by decide +kernel
theorem dX8_talks_90 : decode cX8_talks 90 = .ok (.iload 6, 2) := by decide +kernel
theorem dX8_talks_92 : decode cX8_talks 92 = .ok (.iconst 1, 1) := by decide +kernel
theorem dX8_talks_93 : decode cX8_talks 93 = .ok (.isub, 1) := by decide +kernel
theorem dX8_talks_94 : decode cX8_talks 94 = .ok (.istore 9, 2) := by decide +kernel
theorem dX8_talks_96 : decode cX8_talks 96 = .ok (.iload 9, 2) := by decide +kernel
theorem dX8_talks_98 : decode cX8_talks 98 = .ok (.ifCond .lt 38, 3) := by decide +kernel
theorem dX8_talks_101 : decode cX8_talks 101 = .ok (.aload_n 0, 1) := by decide +kernel
theorem dX8_talks_102 : decode cX8_talks 102 = .ok (.getfield 13, 3) := by decide +kernel
theorem dX8_talks_105 : decode cX8_talks 105 = .ok (.bipush 40, 2) := by decide +kernel
theorem dX8_talks_107 : decode cX8_talks 107 = .ok (.iload 4, 2) := by decide +kernel
theorem dX8_talks_109 : decode cX8_talks 109 = .ok (.imul, 1) := by decide +kernel
theorem dX8_talks_110 : decode cX8_talks 110 = .ok (.iload 9, 2) := by decide +kernel
theorem dX8_talks_112 : decode cX8_talks 112 = .ok (.iadd, 1) := by decide +kernel
theorem dX8_talks_113 : decode cX8_talks 113 = .ok (.iload 8, 2) := by decide +kernel
theorem dX8_talks_115 : decode cX8_talks 115 = .ok (.aload_n 0, 1) := by decide +kernel
theorem dX8_talks_116 : decode cX8_talks 116 = .ok (.getfield 63, 3) := by decide +kernel
theorem dX8_talks_119 : decode cX8_talks 119 = .ok (.irem, 1) := by decide +kernel
theorem dX8_talks_120 : decode cX8_talks 120 = .ok (.iastore, 1) := by decide +kernel
theorem dX8_talks_121 : decode cX8_talks 121 = .ok (.iload 8, 2) := by decide +kernel
theorem dX8_talks_123 : decode cX8_talks 123 = .ok (.aload_n 0, 1) := by decide +kernel
theorem dX8_talks_124 : decode cX8_talks 124 = .ok (.getfield 63, 3) := by decide +kernel
theorem dX8_talks_127 : decode cX8_talks 127 = .ok (.idiv, 1) := by decide +kernel
theorem dX8_talks_128 : decode cX8_talks 128 = .ok (.istore 8, 2) := by decide +kernel
theorem dX8_talks_130 : decode cX8_talks 130 = .ok (.iinc 9 (-1), 3) := by decide +kernel
theorem dX8_talks_133 : decode cX8_talks 133 = .ok (.goto (-37), 3) := by decide +kernel
theorem dX8_talks_136 : decode cX8_talks 136 = .ok (.iload 6, 2) := by decide +kernel
theorem dX8_talks_138 : decode cX8_talks 138 = .ok (.ireturn, 1) := by decide +kernel
theorem dX8_talks_139 : decode cX8_talks 139 = .ok (.iinc 7 1, 3) := by decide +kernel
theorem dX8_talks_142 : decode cX8_talks 142 = .ok (.goto (-86), 3) := by decide +kernel
theorem dX8_talks_145 : decode cX8_talks 145 = .ok (.iload 5, 2) := by decide +kernel
theorem dX8_talks_147 : decode cX8_talks 147 = .ok (.aload_n 0, 1) := by decide +kernel
theorem dX8_talks_148 : decode cX8_talks 148 = .ok (.getfield 63, 3) := by decide +kernel
theorem dX8_talks_151 : decode cX8_talks 151 = .ok (.imul, 1) := by decide +kernel
theorem dX8_talks_152 : decode cX8_talks 152 = .ok (.istore 5, 2) := by decide +kernel
theorem dX8_talks_154 : decode cX8_talks 154 = .ok (.iinc 6 1, 3) := by decide +kernel
theorem dX8_talks_157 : decode cX8_talks 157 = .ok (.goto (-110), 3) := by decide +kernel
theorem dX8_talks_160 : decode cX8_talks 160 = .ok (.bipush (-9), 2) := by decide +kernel
theorem dX8_talks_162 : decode cX8_talks 162 = .ok (.ireturn, 1) := by decide +kernel
theorem dX8_isSo_0 : decode cX8_isSo 0 = .ok (.iconst 0, 1) := by decide +kernel
theorem dX8_isSo_1 : decode cX8_isSo 1 = .ok (.istore 4, 2) := by decide +kernel
theorem dX8_isSo_3 : decode cX8_isSo 3 = .ok (.iconst 0, 1) := by decide +kernel
theorem dX8_isSo_4 : decode cX8_isSo 4 = .ok (.istore 5, 2) := by decide +kernel
theorem dX8_isSo_6 : decode cX8_isSo 6 = .ok (.iload 5, 2) := by decide +kernel
theorem dX8_isSo_8 : decode cX8_isSo 8 = .ok (.aload_n 0, 1) := by decide +kernel
theorem dX8_isSo_9 : decode cX8_isSo 9 = .ok (.getfield 63, 3) := by decide +kernel
theorem dX8_isSo_12 : decode cX8_isSo 12 = .ok (.if_icmp .ge 34, 3) := by decide +kernel
theorem dX8_isSo_15 : decode cX8_isSo 15 = .ok (.iload 4, 2) := by decide +kernel
theorem dX8_isSo_17 : decode cX8_isSo 17 = .ok (.iload_n 1, 1) := by decide +kernel
theorem dX8_isSo_18 : decode cX8_isSo 18 = .ok (.iload 5, 2) := by decide +kernel
theorem dX8_isSo_20 : decode cX8_isSo 20 = .ok (.invokestatic 187, 3) := by decide +kernel
theorem dX8_isSo_23 : decode cX8_isSo 23 = .ok (.ifCond .eq 13, 3) := by decide +kernel
theorem dX8_isSo_26 : decode cX8_isSo 26 = .ok (.aload_n 0, 1) := by decide +kernel
theorem dX8_isSo_27 : decode cX8_isSo 27 = .ok (.iload 5, 2) := by decide +kernel
theorem dX8_isSo_29 : decode cX8_isSo 29 = .ok (.iload_n 2, 1) := by decide +kernel
theorem dX8_isSo_30 : decode cX8_isSo 30 = .ok (.invokevirtual 153, 3) := by decide +kernel
theorem dX8_isSo_33 : decode cX8_isSo 33 = .ok (.goto 4, 3) := by decide +kernel
theorem dX8_isSo_36 : decode cX8_isSo 36 = .ok (.iconst 0, 1) := by decide +kernel
theorem dX8_isSo_37 : decode cX8_isSo 37 = .ok (.iadd, 1) := by decide +kernel
theorem dX8_isSo_38 : decode cX8_isSo 38 = .ok (.istore 4, 2) := by decide +kernel
theorem dX8_isSo_40 : decode cX8_isSo 40 = .ok (.iinc 5 1, 3) := by decide +kernel
theorem dX8_isSo_43 : decode cX8_isSo 43 = .ok (.goto (-37), 3) := by decide +kernel
theorem dX8_isSo_46 : decode cX8_isSo 46 = .ok (.iload 4, 2) := by decide +kernel
theorem dX8_isSo_48 : decode cX8_isSo 48 = .ok (.iload_n 3, 1) := by decide +kernel
theorem dX8_isSo_49 : decode cX8_isSo 49 = .ok (.if_icmp .ne 7, 3) := by decide +kernel
theorem dX8_isSo_52 : decode cX8_isSo 52 = .ok (.iconst 1, 1) := by decide +kernel
theorem dX8_isSo_53 : decode cX8_isSo 53 = .ok (.goto 4, 3) := by decide +kernel
theorem dX8_isSo_56 : decode cX8_isSo 56 = .ok (.iconst 0, 1) := by decide +kernel
theorem dX8_isSo_57 : decode cX8_isSo 57 = .ok (.ireturn, 1) := by decide +kernel
theorem dX8_wrongSets_0 : decode cX8_wrongSets 0 = .ok (.iload_n 1, 1) := by decide +kernel
theorem dX8_wrongSets_1 : decode cX8_wrongSets 1 = .ok (.iconst 0, 1) := by decide +kernel
theorem dX8_wrongSets_2 : decode cX8_wrongSets 2 = .ok (.bipush 99, 2) := by decide +kernel
theorem dX8_wrongSets_4 : decode cX8_wrongSets 4 = .ok (.invokestatic 66, 3) := by decide +kernel
theorem dX8_wrongSets_7 : decode cX8_wrongSets 7 = .ok (.ifCond .eq 14, 3) := by decide +kernel
theorem dX8_wrongSets_10 : decode cX8_wrongSets 10 = .ok (.iload_n 2, 1) := by decide +kernel
theorem dX8_wrongSets_11 : decode cX8_wrongSets 11 = .ok (.iconst 0, 1) := by decide +kernel
theorem dX8_wrongSets_12 : decode cX8_wrongSets 12 = .ok (.sipush 594, 3) := by decide +kernel
theorem dX8_wrongSets_15 : decode cX8_wrongSets 15 = .ok (.invokestatic 66, 3) := by decide +kernel
theorem dX8_wrongSets_18 : decode cX8_wrongSets 18 = .ok (.ifCond .ne 7, 3) := by decide +kernel
theorem dX8_wrongSets_21 : decode cX8_wrongSets 21 = .ok (.iconst (-1), 1) := by decide +kernel
theorem dX8_wrongSets_22 : decode cX8_wrongSets 22 = .ok (.goto 16, 3) := by decide +kernel
theorem dX8_wrongSets_25 : decode cX8_wrongSets 25 = .ok (.aload_n 0, 1) := by decide +kernel
theorem dX8_wrongSets_26 : decode cX8_wrongSets 26 = .ok (.getfield 63, 3) := by decide +kernel
theorem dX8_wrongSets_29 : decode cX8_wrongSets 29 = .ok (.ifCond .ne 8, 3) := by decide +kernel
theorem dX8_wrongSets_32 : decode cX8_wrongSets 32 = .ok (.bipush (-4), 2) := by decide +kernel
theorem dX8_wrongSets_34 : decode cX8_wrongSets 34 = .ok (.goto 4, 3) := by decide +kernel
theorem dX8_wrongSets_37 : decode cX8_wrongSets 37 = .ok (.iconst 0, 1) := by decide +kernel
theorem dX8_wrongSets_38 : decode cX8_wrongSets 38 = .ok (.ireturn, 1) := by decide +kernel
theorem dX8_manyBy_0 : decode cX8_manyBy 0 = .ok (.iconst 0, 1) := by decide +kernel
theorem dX8_manyBy_1 : decode cX8_manyBy 1 = .ok (.istore 5, 2) := by decide +kernel
theorem dX8_manyBy_3 : decode cX8_manyBy 3 = .ok (.iconst 0, 1) := by decide +kernel
theorem dX8_manyBy_4 : decode cX8_manyBy 4 = .ok (.istore 6, 2) := by decide +kernel
theorem dX8_manyBy_6 : decode cX8_manyBy 6 = .ok (.iload 6, 2) := by decide +kernel
theorem dX8_manyBy_8 : decode cX8_manyBy 8 = .ok (.iconst 1, 1) := by decide +kernel
theorem dX8_manyBy_9 : decode cX8_manyBy 9 = .ok (.aload_n 0, 1) := by decide +kernel
theorem dX8_manyBy_10 : decode cX8_manyBy 10 = .ok (.getfield 63, 3) := by decide +kernel
theorem dX8_manyBy_13 : decode cX8_manyBy 13 = .ok (.ishl, 1) := by decide +kernel
theorem dX8_manyBy_14 : decode cX8_manyBy 14 = .ok (.if_icmp .ge 46, 3) := by decide +kernel
theorem dX8_manyBy_17 : decode cX8_manyBy 17 = .ok (.iload 5, 2) := by decide +kernel
theorem dX8_manyBy_19 : decode cX8_manyBy 19 = .ok (.iload 6, 2) := by decide +kernel
theorem dX8_manyBy_21 : decode cX8_manyBy 21 = .ok (.iload_n 3, 1) := by decide +kernel
theorem dX8_manyBy_22 : decode cX8_manyBy 22 = .ok (.iand, 1) := by decide +kernel
theorem dX8_manyBy_23 : decode cX8_manyBy 23 = .ok (.iload_n 3, 1) := by decide +kernel
theorem dX8_manyBy_24 : decode cX8_manyBy 24 = .ok (.if_icmp .ne 26, 3) := by decide +kernel
theorem dX8_manyBy_27 : decode cX8_manyBy 27 = .ok (.iload 6, 2) := by decide +kernel
theorem dX8_manyBy_29 : decode cX8_manyBy 29 = .ok (.iload 4, 2) := by decide +kernel
theorem dX8_manyBy_31 : decode cX8_manyBy 31 = .ok (.iand, 1) := by decide +kernel
theorem dX8_manyBy_32 : decode cX8_manyBy 32 = .ok (.ifCond .ne 18, 3) := by decide +kernel
theorem dX8_manyBy_35 : decode cX8_manyBy 35 = .ok (.aload_n 0, 1) := by decide +kernel
theorem dX8_manyBy_36 : decode cX8_manyBy 36 = .ok (.iload 6, 2) := by decide +kernel
theorem dX8_manyBy_38 : decode cX8_manyBy 38 = .ok (.iload_n 1, 1) := by decide +kernel
theorem dX8_manyBy_39 : decode cX8_manyBy 39 = .ok (.iload_n 2, 1) := by decide +kernel
theorem dX8_manyBy_40 : decode cX8_manyBy 40 = .ok (.invokevirtual 197, 3) := by decide +kernel
theorem dX8_manyBy_43 : decode cX8_manyBy 43 = .ok (.ifCond .eq 7, 3) := by decide +kernel
theorem dX8_manyBy_46 : decode cX8_manyBy 46 = .ok (.iconst 1, 1) := by decide +kernel
theorem dX8_manyBy_47 : decode cX8_manyBy 47 = .ok (.goto 4, 3) := by decide +kernel
theorem dX8_manyBy_50 : decode cX8_manyBy 50 = .ok (.iconst 0, 1) := by decide +kernel
theorem dX8_manyBy_51 : decode cX8_manyBy 51 = .ok (.iadd, 1) := by decide +kernel
theorem dX8_manyBy_52 : decode cX8_manyBy 52 = .ok (.istore 5, 2) := by decide +kernel
theorem dX8_manyBy_54 : decode cX8_manyBy 54 = .ok (.iinc 6 1, 3) := by decide +kernel
theorem dX8_manyBy_57 : decode cX8_manyBy 57 = .ok (.goto (-51), 3) := by decide +kernel
theorem dX8_manyBy_60 : decode cX8_manyBy 60 = .ok (.iload 5, 2) := by decide +kernel
theorem dX8_manyBy_62 : decode cX8_manyBy 62 = .ok (.ireturn, 1) := by decide +kernel
theorem dX8_sets_0 : decode cX8_sets 0 = .ok (.aload_n 0, 1) := by decide +kernel
theorem dX8_sets_1 : decode cX8_sets 1 = .ok (.iload_n 1, 1) := by decide +kernel
theorem dX8_sets_2 : decode cX8_sets 2 = .ok (.iload_n 2, 1) := by decide +kernel
theorem dX8_sets_3 : decode cX8_sets 3 = .ok (.invokevirtual 200, 3) := by decide +kernel
theorem dX8_sets_6 : decode cX8_sets 6 = .ok (.ifCond .eq 10, 3) := by decide +kernel
theorem dX8_sets_9 : decode cX8_sets 9 = .ok (.aload_n 0, 1) := by decide +kernel
theorem dX8_sets_10 : decode cX8_sets 10 = .ok (.iload_n 1, 1) := by decide +kernel
theorem dX8_sets_11 : decode cX8_sets 11 = .ok (.iload_n 2, 1) := by decide +kernel
theorem dX8_sets_12 : decode cX8_sets 12 = .ok (.invokevirtual 200, 3) := by decide +kernel
theorem dX8_sets_15 : decode cX8_sets 15 = .ok (.ireturn, 1) := by decide +kernel
theorem dX8_sets_16 : decode cX8_sets 16 = .ok (.bipush (-9), 2) := by decide +kernel
theorem dX8_sets_18 : decode cX8_sets 18 = .ok (.istore_n 3, 1) := by decide +kernel
theorem dX8_sets_19 : decode cX8_sets 19 = .ok (.iconst 1, 1) := by decide +kernel
theorem dX8_sets_20 : decode cX8_sets 20 = .ok (.aload_n 0, 1) := by decide +kernel
theorem dX8_sets_21 : decode cX8_sets 21 = .ok (.getfield 63, 3) := by decide +kernel
theorem dX8_sets_24 : decode cX8_sets 24 = .ok (.ishl, 1) := by decide +kernel
theorem dX8_sets_25 : decode cX8_sets 25 = .ok (.iconst 1, 1) := by decide +kernel
theorem dX8_sets_26 : decode cX8_sets 26 = .ok (.isub, 1) := by decide +kernel
theorem dX8_sets_27 : decode cX8_sets 27 = .ok (.istore 4, 2) := by decide +kernel
theorem dX8_sets_29 : decode cX8_sets 29 = .ok (.iload 4, 2) := by decide +kernel
theorem dX8_sets_31 : decode cX8_sets 31 = .ok (.ifCond .lt 27, 3) := by decide +kernel
theorem dX8_sets_34 : decode cX8_sets 34 = .ok (.aload_n 0, 1) := by decide +kernel
theorem dX8_sets_35 : decode cX8_sets 35 = .ok (.iload 4, 2) := by decide +kernel
theorem dX8_sets_37 : decode cX8_sets 37 = .ok (.iload_n 1, 1) := by decide +kernel
theorem dX8_sets_38 : decode cX8_sets 38 = .ok (.iload_n 2, 1) := by decide +kernel
theorem dX8_sets_39 : decode cX8_sets 39 = .ok (.invokevirtual 197, 3) := by decide +kernel
theorem dX8_sets_42 : decode cX8_sets 42 = .ok (.ifCond .eq 8, 3) := by decide +kernel
theorem dX8_sets_45 : decode cX8_sets 45 = .ok (.iload 4, 2) := by decide +kernel
theorem dX8_sets_47 : decode cX8_sets 47 = .ok (.goto 4, 3) := by decide +kernel
theorem dX8_sets_50 : decode cX8_sets 50 = .ok (.iload_n 3, 1) := by decide +kernel
theorem dX8_sets_51 : decode cX8_sets 51 = .ok (.istore_n 3, 1) := by decide +kernel
theorem dX8_sets_52 : decode cX8_sets 52 = .ok (.iinc 4 (-1), 3) := by decide +kernel
theorem dX8_sets_55 : decode cX8_sets 55 = .ok (.goto (-26), 3) := by decide +kernel
theorem dX8_sets_58 : decode cX8_sets 58 = .ok (.aload_n 0, 1) := by decide +kernel
theorem dX8_sets_59 : decode cX8_sets 59 = .ok (.aload_n 0, 1) := by decide +kernel
theorem dX8_sets_60 : decode cX8_sets 60 = .ok (.iload_n 1, 1) := by decide +kernel
theorem dX8_sets_61 : decode cX8_sets 61 = .ok (.iload_n 2, 1) := by decide +kernel
theorem dX8_sets_62 : decode cX8_sets 62 = .ok (.iconst 0, 1) := by decide +kernel
theorem dX8_sets_63 : decode cX8_sets 63 = .ok (.iconst 0, 1) := by decide +kernel
theorem dX8_sets_64 : decode cX8_sets 64 = .ok (.invokevirtual 203, 3) := by decide +kernel
theorem dX8_sets_67 : decode cX8_sets 67 = .ok (.i2l, 1) := by decide +kernel
theorem dX8_sets_68 : decode cX8_sets 68 = .ok (.putfield 207, 3) := by decide +kernel
theorem dX8_sets_71 : decode cX8_sets 71 = .ok (.aload_n 0, 1) := by decide +kernel
theorem dX8_sets_72 : decode cX8_sets 72 = .ok (.lconst 1, 1) := by decide +kernel
theorem dX8_sets_73 : decode cX8_sets 73 = .ok (.putfield 25, 3) := by decide +kernel
theorem dX8_sets_76 : decode cX8_sets 76 = .ok (.aload_n 0, 1) := by decide +kernel
theorem dX8_sets_77 : decode cX8_sets 77 = .ok (.iload_n 3, 1) := by decide +kernel
theorem dX8_sets_78 : decode cX8_sets 78 = .ok (.invokevirtual 81, 3) := by decide +kernel
theorem dX8_sets_81 : decode cX8_sets 81 = .ok (.ireturn, 1) := by decide +kernel
theorem dX8_sure_0 : decode cX8_sure 0 = .ok (.aload_n 0, 1) := by decide +kernel
theorem dX8_sure_1 : decode cX8_sure 1 = .ok (.iload_n 1, 1) := by decide +kernel
theorem dX8_sure_2 : decode cX8_sure 2 = .ok (.iload_n 2, 1) := by decide +kernel
theorem dX8_sure_3 : decode cX8_sure 3 = .ok (.invokevirtual 200, 3) := by decide +kernel
theorem dX8_sure_6 : decode cX8_sure 6 = .ok (.ifCond .eq 10, 3) := by decide +kernel
theorem dX8_sure_9 : decode cX8_sure 9 = .ok (.aload_n 0, 1) := by decide +kernel
theorem dX8_sure_10 : decode cX8_sure 10 = .ok (.iload_n 1, 1) := by decide +kernel
theorem dX8_sure_11 : decode cX8_sure 11 = .ok (.iload_n 2, 1) := by decide +kernel
theorem dX8_sure_12 : decode cX8_sure 12 = .ok (.invokevirtual 200, 3) := by decide +kernel
theorem dX8_sure_15 : decode cX8_sure 15 = .ok (.ireturn, 1) := by decide +kernel
theorem dX8_sure_16 : decode cX8_sure 16 = .ok (.aload_n 0, 1) := by decide +kernel
theorem dX8_sure_17 : decode cX8_sure 17 = .ok (.iload_n 1, 1) := by decide +kernel
theorem dX8_sure_18 : decode cX8_sure 18 = .ok (.iload_n 2, 1) := by decide +kernel
theorem dX8_sure_19 : decode cX8_sure 19 = .ok (.iconst 0, 1) := by decide +kernel
theorem dX8_sure_20 : decode cX8_sure 20 = .ok (.iconst 0, 1) := by decide +kernel
theorem dX8_sure_21 : decode cX8_sure 21 = .ok (.invokevirtual 203, 3) := by decide +kernel
theorem dX8_sure_24 : decode cX8_sure 24 = .ok (.istore_n 3, 1) := by decide +kernel
theorem dX8_sure_25 : decode cX8_sure 25 = .ok (.iload_n 3, 1) := by decide +kernel
theorem dX8_sure_26 : decode cX8_sure 26 = .ok (.ifCond .ne 9, 3) := by decide +kernel
theorem dX8_sure_29 : decode cX8_sure 29 = .ok (.aload_n 0, 1) := by decide +kernel
theorem dX8_sure_30 : decode cX8_sure 30 = .ok (.iconst 4, 1) := by decide +kernel
theorem dX8_sure_31 : decode cX8_sure 31 = .ok (.invokevirtual 73, 3) := by decide +kernel
theorem dX8_sure_34 : decode cX8_sure 34 = .ok (.ireturn, 1) := by decide +kernel
theorem dX8_sure_35 : decode cX8_sure 35 = .ok (.iconst 0, 1) := by decide +kernel
theorem dX8_sure_36 : decode cX8_sure 36 = .ok (.istore 4, 2) := by decide +kernel
theorem dX8_sure_38 : decode cX8_sure 38 = .ok (.iconst 0, 1) := by decide +kernel
theorem dX8_sure_39 : decode cX8_sure 39 = .ok (.istore 5, 2) := by decide +kernel
theorem dX8_sure_41 : decode cX8_sure 41 = .ok (.iconst 0, 1) := by decide +kernel
theorem dX8_sure_42 : decode cX8_sure 42 = .ok (.istore 6, 2) := by decide +kernel
theorem dX8_sure_44 : decode cX8_sure 44 = .ok (.iload 6, 2) := by decide +kernel
theorem dX8_sure_46 : decode cX8_sure 46 = .ok (.aload_n 0, 1) := by decide +kernel
theorem dX8_sure_47 : decode cX8_sure 47 = .ok (.getfield 63, 3) := by decide +kernel
theorem dX8_sure_50 : decode cX8_sure 50 = .ok (.if_icmp .ge 59, 3) := by decide +kernel
theorem dX8_sure_53 : decode cX8_sure 53 = .ok (.aload_n 0, 1) := by decide +kernel
theorem dX8_sure_54 : decode cX8_sure 54 = .ok (.iload_n 1, 1) := by decide +kernel
theorem dX8_sure_55 : decode cX8_sure 55 = .ok (.iload_n 2, 1) := by decide +kernel
theorem dX8_sure_56 : decode cX8_sure 56 = .ok (.iconst 1, 1) := by decide +kernel
theorem dX8_sure_57 : decode cX8_sure 57 = .ok (.iload 6, 2) := by decide +kernel
theorem dX8_sure_59 : decode cX8_sure 59 = .ok (.ishl, 1) := by decide +kernel
theorem dX8_sure_60 : decode cX8_sure 60 = .ok (.iconst 0, 1) := by decide +kernel
theorem dX8_sure_61 : decode cX8_sure 61 = .ok (.invokevirtual 203, 3) := by decide +kernel
theorem dX8_sure_64 : decode cX8_sure 64 = .ok (.istore 7, 2) := by decide +kernel
theorem dX8_sure_66 : decode cX8_sure 66 = .ok (.iload 4, 2) := by decide +kernel
theorem dX8_sure_68 : decode cX8_sure 68 = .ok (.iload 7, 2) := by decide +kernel
theorem dX8_sure_70 : decode cX8_sure 70 = .ok (.iload_n 3, 1) := by decide +kernel
theorem dX8_sure_71 : decode cX8_sure 71 = .ok (.if_icmp .ne 10, 3) := by decide +kernel
theorem dX8_sure_74 : decode cX8_sure 74 = .ok (.iconst 1, 1) := by decide +kernel
theorem dX8_sure_75 : decode cX8_sure 75 = .ok (.iload 6, 2) := by decide +kernel
theorem dX8_sure_77 : decode cX8_sure 77 = .ok (.ishl, 1) := by decide +kernel
theorem dX8_sure_78 : decode cX8_sure 78 = .ok (.goto 4, 3) := by decide +kernel
theorem dX8_sure_81 : decode cX8_sure 81 = .ok (.iconst 0, 1) := by decide +kernel
theorem dX8_sure_82 : decode cX8_sure 82 = .ok (.ior, 1) := by decide +kernel
theorem dX8_sure_83 : decode cX8_sure 83 = .ok (.istore 4, 2) := by decide +kernel
theorem dX8_sure_85 : decode cX8_sure 85 = .ok (.iload 5, 2) := by decide +kernel
theorem dX8_sure_87 : decode cX8_sure 87 = .ok (.iload 7, 2) := by decide +kernel
theorem dX8_sure_89 : decode cX8_sure 89 = .ok (.ifCond .ne 10, 3) := by decide +kernel
theorem dX8_sure_92 : decode cX8_sure 92 = .ok (.iconst 1, 1) := by decide +kernel
theorem dX8_sure_93 : decode cX8_sure 93 = .ok (.iload 6, 2) := by decide +kernel
theorem dX8_sure_95 : decode cX8_sure 95 = .ok (.ishl, 1) := by decide +kernel
theorem dX8_sure_96 : decode cX8_sure 96 = .ok (.goto 4, 3) := by decide +kernel
theorem dX8_sure_99 : decode cX8_sure 99 = .ok (.iconst 0, 1) := by decide +kernel
theorem dX8_sure_100 : decode cX8_sure 100 = .ok (.ior, 1) := by decide +kernel
theorem dX8_sure_101 : decode cX8_sure 101 = .ok (.istore 5, 2) := by decide +kernel
theorem dX8_sure_103 : decode cX8_sure 103 = .ok (.iinc 6 1, 3) := by decide +kernel
theorem dX8_sure_106 : decode cX8_sure 106 = .ok (.goto (-62), 3) := by decide +kernel
theorem dX8_sure_109 : decode cX8_sure 109 = .ok (.aload_n 0, 1) := by decide +kernel
theorem dX8_sure_110 : decode cX8_sure 110 = .ok (.iload 5, 2) := by decide +kernel
theorem dX8_sure_112 : decode cX8_sure 112 = .ok (.invokevirtual 81, 3) := by decide +kernel
theorem dX8_sure_115 : decode cX8_sure 115 = .ok (.pop, 1) := by decide +kernel
theorem dX8_sure_116 : decode cX8_sure 116 = .ok (.iload 4, 2) := by decide +kernel
theorem dX8_sure_118 : decode cX8_sure 118 = .ok (.ireturn, 1) := by decide +kernel
theorem dX8_ask_0 : decode cX8_ask 0 = .ok (.aload_n 0, 1) := by decide +kernel
theorem dX8_ask_1 : decode cX8_ask 1 = .ok (.iload_n 1, 1) := by decide +kernel
theorem dX8_ask_2 : decode cX8_ask 2 = .ok (.iload_n 2, 1) := by decide +kernel
theorem dX8_ask_3 : decode cX8_ask 3 = .ok (.invokevirtual 200, 3) := by decide +kernel
theorem dX8_ask_6 : decode cX8_ask 6 = .ok (.ifCond .eq 10, 3) := by decide +kernel
theorem dX8_ask_9 : decode cX8_ask 9 = .ok (.aload_n 0, 1) := by decide +kernel
theorem dX8_ask_10 : decode cX8_ask 10 = .ok (.iload_n 1, 1) := by decide +kernel
theorem dX8_ask_11 : decode cX8_ask 11 = .ok (.iload_n 2, 1) := by decide +kernel
theorem dX8_ask_12 : decode cX8_ask 12 = .ok (.invokevirtual 200, 3) := by decide +kernel
theorem dX8_ask_15 : decode cX8_ask 15 = .ok (.ireturn, 1) := by decide +kernel
theorem dX8_ask_16 : decode cX8_ask 16 = .ok (.aload_n 0, 1) := by decide +kernel
theorem dX8_ask_17 : decode cX8_ask 17 = .ok (.iload_n 1, 1) := by decide +kernel
theorem dX8_ask_18 : decode cX8_ask 18 = .ok (.iload_n 2, 1) := by decide +kernel
theorem dX8_ask_19 : decode cX8_ask 19 = .ok (.iconst 0, 1) := by decide +kernel
theorem dX8_ask_20 : decode cX8_ask 20 = .ok (.iconst 0, 1) := by decide +kernel
theorem dX8_ask_21 : decode cX8_ask 21 = .ok (.invokevirtual 203, 3) := by decide +kernel
theorem dX8_ask_24 : decode cX8_ask 24 = .ok (.istore_n 3, 1) := by decide +kernel
theorem dX8_ask_25 : decode cX8_ask 25 = .ok (.iload_n 3, 1) := by decide +kernel
theorem dX8_ask_26 : decode cX8_ask 26 = .ok (.ifCond .ne 9, 3) := by decide +kernel
theorem dX8_ask_29 : decode cX8_ask 29 = .ok (.aload_n 0, 1) := by decide +kernel
theorem dX8_ask_30 : decode cX8_ask 30 = .ok (.iconst 4, 1) := by decide +kernel
theorem dX8_ask_31 : decode cX8_ask 31 = .ok (.invokevirtual 73, 3) := by decide +kernel
theorem dX8_ask_34 : decode cX8_ask 34 = .ok (.ireturn, 1) := by decide +kernel
theorem dX8_ask_35 : decode cX8_ask 35 = .ok (.bipush (-9), 2) := by decide +kernel
theorem dX8_ask_37 : decode cX8_ask 37 = .ok (.istore 4, 2) := by decide +kernel
theorem dX8_ask_39 : decode cX8_ask 39 = .ok (.iconst 0, 1) := by decide +kernel
theorem dX8_ask_40 : decode cX8_ask 40 = .ok (.istore 5, 2) := by decide +kernel
theorem dX8_ask_42 : decode cX8_ask 42 = .ok (.iconst 0, 1) := by decide +kernel
theorem dX8_ask_43 : decode cX8_ask 43 = .ok (.istore 6, 2) := by decide +kernel
theorem dX8_ask_45 : decode cX8_ask 45 = .ok (.iload 6, 2) := by decide +kernel
theorem dX8_ask_47 : decode cX8_ask 47 = .ok (.aload_n 0, 1) := by decide +kernel
theorem dX8_ask_48 : decode cX8_ask 48 = .ok (.getfield 63, 3) := by decide +kernel
theorem dX8_ask_51 : decode cX8_ask 51 = .ok (.if_icmp .ge 91, 3) := by decide +kernel
theorem dX8_ask_54 : decode cX8_ask 54 = .ok (.aload_n 0, 1) := by decide +kernel
theorem dX8_ask_55 : decode cX8_ask 55 = .ok (.iload_n 1, 1) := by decide +kernel
theorem dX8_ask_56 : decode cX8_ask 56 = .ok (.iload_n 2, 1) := by decide +kernel
theorem dX8_ask_57 : decode cX8_ask 57 = .ok (.iconst 1, 1) := by decide +kernel
theorem dX8_ask_58 : decode cX8_ask 58 = .ok (.iload 6, 2) := by decide +kernel
theorem dX8_ask_60 : decode cX8_ask 60 = .ok (.ishl, 1) := by decide +kernel
theorem dX8_ask_61 : decode cX8_ask 61 = .ok (.iconst 0, 1) := by decide +kernel
theorem dX8_ask_62 : decode cX8_ask 62 = .ok (.invokevirtual 203, 3) := by decide +kernel
theorem dX8_ask_65 : decode cX8_ask 65 = .ok (.istore 7, 2) := by decide +kernel
theorem dX8_ask_67 : decode cX8_ask 67 = .ok (.iload 7, 2) := by decide +kernel
theorem dX8_ask_69 : decode cX8_ask 69 = .ok (.iload_n 3, 1) := by decide +kernel
theorem dX8_ask_70 : decode cX8_ask 70 = .ok (.iload 7, 2) := by decide +kernel
theorem dX8_ask_72 : decode cX8_ask 72 = .ok (.isub, 1) := by decide +kernel
theorem dX8_ask_73 : decode cX8_ask 73 = .ok (.if_icmp .le 8, 3) := by decide +kernel
theorem dX8_ask_76 : decode cX8_ask 76 = .ok (.iload 7, 2) := by decide +kernel
theorem dX8_ask_78 : decode cX8_ask 78 = .ok (.goto 7, 3) := by decide +kernel
theorem dX8_ask_81 : decode cX8_ask 81 = .ok (.iload_n 3, 1) := by decide +kernel
theorem dX8_ask_82 : decode cX8_ask 82 = .ok (.iload 7, 2) := by decide +kernel
theorem dX8_ask_84 : decode cX8_ask 84 = .ok (.isub, 1) := by decide +kernel
theorem dX8_ask_85 : decode cX8_ask 85 = .ok (.istore 8, 2) := by decide +kernel
theorem dX8_ask_87 : decode cX8_ask 87 = .ok (.iload 4, 2) := by decide +kernel
theorem dX8_ask_89 : decode cX8_ask 89 = .ok (.bipush (-9), 2) := by decide +kernel
theorem dX8_ask_91 : decode cX8_ask 91 = .ok (.if_icmp .eq 10, 3) := by decide +kernel
theorem dX8_ask_94 : decode cX8_ask 94 = .ok (.iload 8, 2) := by decide +kernel
theorem dX8_ask_96 : decode cX8_ask 96 = .ok (.iload 5, 2) := by decide +kernel
theorem dX8_ask_98 : decode cX8_ask 98 = .ok (.if_icmp .ge 7, 3) := by decide +kernel
theorem dX8_ask_101 : decode cX8_ask 101 = .ok (.iconst 1, 1) := by decide +kernel
theorem dX8_ask_102 : decode cX8_ask 102 = .ok (.goto 4, 3) := by decide +kernel
theorem dX8_ask_105 : decode cX8_ask 105 = .ok (.iconst 0, 1) := by decide +kernel
theorem dX8_ask_106 : decode cX8_ask 106 = .ok (.istore 9, 2) := by decide +kernel
theorem dX8_ask_108 : decode cX8_ask 108 = .ok (.iload 9, 2) := by decide +kernel
theorem dX8_ask_110 : decode cX8_ask 110 = .ok (.ifCond .eq 8, 3) := by decide +kernel
theorem dX8_ask_113 : decode cX8_ask 113 = .ok (.iload 6, 2) := by decide +kernel
theorem dX8_ask_115 : decode cX8_ask 115 = .ok (.goto 5, 3) := by decide +kernel
theorem dX8_ask_118 : decode cX8_ask 118 = .ok (.iload 4, 2) := by decide +kernel
theorem dX8_ask_120 : decode cX8_ask 120 = .ok (.istore 4, 2) := by decide +kernel
theorem dX8_ask_122 : decode cX8_ask 122 = .ok (.iload 9, 2) := by decide +kernel
theorem dX8_ask_124 : decode cX8_ask 124 = .ok (.ifCond .eq 8, 3) := by decide +kernel
theorem dX8_ask_127 : decode cX8_ask 127 = .ok (.iload 8, 2) := by decide +kernel
theorem dX8_ask_129 : decode cX8_ask 129 = .ok (.goto 5, 3) := by decide +kernel
theorem dX8_ask_132 : decode cX8_ask 132 = .ok (.iload 5, 2) := by decide +kernel
theorem dX8_ask_134 : decode cX8_ask 134 = .ok (.istore 5, 2) := by decide +kernel
theorem dX8_ask_136 : decode cX8_ask 136 = .ok (.iinc 6 1, 3) := by decide +kernel
theorem dX8_ask_139 : decode cX8_ask 139 = .ok (.goto (-94), 3) := by decide +kernel
theorem dX8_ask_142 : decode cX8_ask 142 = .ok (.aload_n 0, 1) := by decide +kernel
theorem dX8_ask_143 : decode cX8_ask 143 = .ok (.iload 5, 2) := by decide +kernel
theorem dX8_ask_145 : decode cX8_ask 145 = .ok (.invokevirtual 81, 3) := by decide +kernel
theorem dX8_ask_148 : decode cX8_ask 148 = .ok (.pop, 1) := by decide +kernel
theorem dX8_ask_149 : decode cX8_ask 149 = .ok (.iload 4, 2) := by decide +kernel
theorem dX8_ask_151 : decode cX8_ask 151 = .ok (.ireturn, 1) := by decide +kernel
theorem dX8_wrongPairs_0 : decode cX8_wrongPairs 0 = .ok (.aload_n 0, 1) := by decide +kernel
theorem dX8_wrongPairs_1 : decode cX8_wrongPairs 1 = .ok (.getfield 7, 3) := by decide +kernel
theorem dX8_wrongPairs_4 : decode cX8_wrongPairs 4 = .ok (.iload_n 1, 1) := by decide +kernel
theorem dX8_wrongPairs_5 : decode cX8_wrongPairs 5 = .ok (.iaload, 1) := by decide +kernel
theorem dX8_wrongPairs_6 : decode cX8_wrongPairs 6 = .ok (.ifCond .ge 9, 3) := by decide +kernel
theorem dX8_wrongPairs_9 : decode cX8_wrongPairs 9 = .ok (.aload_n 0, 1) := by decide +kernel
theorem dX8_wrongPairs_10 : decode cX8_wrongPairs 10 = .ok (.iconst 1, 1) := by decide +kernel
theorem dX8_wrongPairs_11 : decode cX8_wrongPairs 11 = .ok (.invokevirtual 73, 3) := by decide +kernel
theorem dX8_wrongPairs_14 : decode cX8_wrongPairs 14 = .ok (.ireturn, 1) := by decide +kernel
theorem dX8_wrongPairs_15 : decode cX8_wrongPairs 15 = .ok (.aload_n 0, 1) := by decide +kernel
theorem dX8_wrongPairs_16 : decode cX8_wrongPairs 16 = .ok (.getfield 7, 3) := by decide +kernel
theorem dX8_wrongPairs_19 : decode cX8_wrongPairs 19 = .ok (.iload_n 1, 1) := by decide +kernel
theorem dX8_wrongPairs_20 : decode cX8_wrongPairs 20 = .ok (.iaload, 1) := by decide +kernel
theorem dX8_wrongPairs_21 : decode cX8_wrongPairs 21 = .ok (.iconst 2, 1) := by decide +kernel
theorem dX8_wrongPairs_22 : decode cX8_wrongPairs 22 = .ok (.irem, 1) := by decide +kernel
theorem dX8_wrongPairs_23 : decode cX8_wrongPairs 23 = .ok (.iconst 1, 1) := by decide +kernel
theorem dX8_wrongPairs_24 : decode cX8_wrongPairs 24 = .ok (.if_icmp .eq 14, 3) := by decide +kernel
theorem dX8_wrongPairs_27 : decode cX8_wrongPairs 27 = .ok (.aload_n 0, 1) := by decide +kernel
theorem dX8_wrongPairs_28 : decode cX8_wrongPairs 28 = .ok (.getfield 7, 3) := by decide +kernel
theorem dX8_wrongPairs_31 : decode cX8_wrongPairs 31 = .ok (.iload_n 1, 1) := by decide +kernel
theorem dX8_wrongPairs_32 : decode cX8_wrongPairs 32 = .ok (.iaload, 1) := by decide +kernel
theorem dX8_wrongPairs_33 : decode cX8_wrongPairs 33 = .ok (.bipush 16, 2) := by decide +kernel
theorem dX8_wrongPairs_35 : decode cX8_wrongPairs 35 = .ok (.if_icmp .le 9, 3) := by decide +kernel
theorem dX8_wrongPairs_38 : decode cX8_wrongPairs 38 = .ok (.aload_n 0, 1) := by decide +kernel
theorem dX8_wrongPairs_39 : decode cX8_wrongPairs 39 = .ok (.iconst 5, 1) := by decide +kernel
theorem dX8_wrongPairs_40 : decode cX8_wrongPairs 40 = .ok (.invokevirtual 73, 3) := by decide +kernel
theorem dX8_wrongPairs_43 : decode cX8_wrongPairs 43 = .ok (.ireturn, 1) := by decide +kernel
theorem dX8_wrongPairs_44 : decode cX8_wrongPairs 44 = .ok (.iconst 1, 1) := by decide +kernel
theorem dX8_wrongPairs_45 : decode cX8_wrongPairs 45 = .ok (.istore_n 2, 1) := by decide +kernel
theorem dX8_wrongPairs_46 : decode cX8_wrongPairs 46 = .ok (.iconst 0, 1) := by decide +kernel
theorem dX8_wrongPairs_47 : decode cX8_wrongPairs 47 = .ok (.istore_n 3, 1) := by decide +kernel
theorem dX8_wrongPairs_48 : decode cX8_wrongPairs 48 = .ok (.iload_n 3, 1) := by decide +kernel
theorem dX8_wrongPairs_49 : decode cX8_wrongPairs 49 = .ok (.aload_n 0, 1) := by decide +kernel
theorem dX8_wrongPairs_50 : decode cX8_wrongPairs 50 = .ok (.getfield 7, 3) := by decide +kernel
theorem dX8_wrongPairs_53 : decode cX8_wrongPairs 53 = .ok (.iload_n 1, 1) := by decide +kernel
theorem dX8_wrongPairs_54 : decode cX8_wrongPairs 54 = .ok (.iaload, 1) := by decide +kernel
theorem dX8_wrongPairs_55 : decode cX8_wrongPairs 55 = .ok (.if_icmp .ge 39, 3) := by decide +kernel
theorem dX8_wrongPairs_58 : decode cX8_wrongPairs 58 = .ok (.iload_n 2, 1) := by decide +kernel
theorem dX8_wrongPairs_59 : decode cX8_wrongPairs 59 = .ok (.ifCond .eq 27, 3) := by decide +kernel
theorem dX8_wrongPairs_62 : decode cX8_wrongPairs 62 = .ok (.aload_n 0, 1) := by decide +kernel
theorem dX8_wrongPairs_63 : decode cX8_wrongPairs 63 = .ok (.getfield 13, 3) := by decide +kernel
theorem dX8_wrongPairs_66 : decode cX8_wrongPairs 66 = .ok (.bipush 40, 2) := by decide +kernel
theorem dX8_wrongPairs_68 : decode cX8_wrongPairs 68 = .ok (.iload_n 1, 1) := by decide +kernel
theorem dX8_wrongPairs_69 : decode cX8_wrongPairs 69 = .ok (.imul, 1) := by decide +kernel
theorem dX8_wrongPairs_70 : decode cX8_wrongPairs 70 = .ok (.iload_n 3, 1) := by decide +kernel
theorem dX8_wrongPairs_71 : decode cX8_wrongPairs 71 = .ok (.iadd, 1) := by decide +kernel
theorem dX8_wrongPairs_72 : decode cX8_wrongPairs 72 = .ok (.iaload, 1) := by decide +kernel
theorem dX8_wrongPairs_73 : decode cX8_wrongPairs 73 = .ok (.iconst 0, 1) := by decide +kernel
theorem dX8_wrongPairs_74 : decode cX8_wrongPairs 74 = .ok (.bipush 99, 2) := by decide +kernel
theorem dX8_wrongPairs_76 : decode cX8_wrongPairs 76 = .ok (.invokestatic 66, 3) := by decide +kernel
theorem dX8_wrongPairs_79 : decode cX8_wrongPairs 79 = .ok (.ifCond .eq 7, 3) := by decide +kernel
theorem dX8_wrongPairs_82 : decode cX8_wrongPairs 82 = .ok (.iconst 1, 1) := by decide +kernel
theorem dX8_wrongPairs_83 : decode cX8_wrongPairs 83 = .ok (.goto 4, 3) := by decide +kernel
theorem dX8_wrongPairs_86 : decode cX8_wrongPairs 86 = .ok (.iconst 0, 1) := by decide +kernel
theorem dX8_wrongPairs_87 : decode cX8_wrongPairs 87 = .ok (.istore_n 2, 1) := by decide +kernel
theorem dX8_wrongPairs_88 : decode cX8_wrongPairs 88 = .ok (.iinc 3 1, 3) := by decide +kernel
theorem dX8_wrongPairs_91 : decode cX8_wrongPairs 91 = .ok (.goto (-43), 3) := by decide +kernel
theorem dX8_wrongPairs_94 : decode cX8_wrongPairs 94 = .ok (.iload_n 2, 1) := by decide +kernel
theorem dX8_wrongPairs_95 : decode cX8_wrongPairs 95 = .ok (.ifCond .eq 7, 3) := by decide +kernel
theorem dX8_wrongPairs_98 : decode cX8_wrongPairs 98 = .ok (.iconst 0, 1) := by decide +kernel
theorem dX8_wrongPairs_99 : decode cX8_wrongPairs 99 = .ok (.goto 8, 3) := by decide +kernel
theorem dX8_wrongPairs_102 : decode cX8_wrongPairs 102 = .ok (.aload_n 0, 1) := by decide +kernel
end
section
theorem dX8_wrongPairs_103 : decode cX8_wrongPairs 103 = .ok (.iconst 3, 1) := by decide +kernel
theorem dX8_wrongPairs_104 : decode cX8_wrongPairs 104 = .ok (.invokevirtual 73, 3) := by decide +kernel
theorem dX8_wrongPairs_107 : decode cX8_wrongPairs 107 = .ok (.ireturn, 1) := by decide +kernel
theorem dX8_saidSo_0 : decode cX8_saidSo 0 = .ok (.iconst 1, 1) := by decide +kernel
theorem dX8_saidSo_1 : decode cX8_saidSo 1 = .ok (.istore_n 3, 1) := by decide +kernel
theorem dX8_saidSo_2 : decode cX8_saidSo 2 = .ok (.iconst 0, 1) := by decide +kernel
theorem dX8_saidSo_3 : decode cX8_saidSo 3 = .ok (.istore 4, 2) := by decide +kernel
theorem dX8_saidSo_5 : decode cX8_saidSo 5 = .ok (.iload 4, 2) := by decide +kernel
theorem dX8_saidSo_7 : decode cX8_saidSo 7 = .ok (.aload_n 0, 1) := by decide +kernel
theorem dX8_saidSo_8 : decode cX8_saidSo 8 = .ok (.getfield 7, 3) := by decide +kernel
theorem dX8_saidSo_11 : decode cX8_saidSo 11 = .ok (.iload_n 1, 1) := by decide +kernel
theorem dX8_saidSo_12 : decode cX8_saidSo 12 = .ok (.iaload, 1) := by decide +kernel
theorem dX8_saidSo_13 : decode cX8_saidSo 13 = .ok (.if_icmp .ge 52, 3) := by decide +kernel
theorem dX8_saidSo_16 : decode cX8_saidSo 16 = .ok (.iload_n 3, 1) := by decide +kernel
theorem dX8_saidSo_17 : decode cX8_saidSo 17 = .ok (.ifCond .eq 40, 3) := by decide +kernel
theorem dX8_saidSo_20 : decode cX8_saidSo 20 = .ok (.iload_n 2, 1) := by decide +kernel
theorem dX8_saidSo_21 : decode cX8_saidSo 21 = .ok (.aload_n 0, 1) := by decide +kernel
theorem dX8_saidSo_22 : decode cX8_saidSo 22 = .ok (.getfield 13, 3) := by decide +kernel
theorem dX8_saidSo_25 : decode cX8_saidSo 25 = .ok (.bipush 40, 2) := by decide +kernel
theorem dX8_saidSo_27 : decode cX8_saidSo 27 = .ok (.iload_n 1, 1) := by decide +kernel
theorem dX8_saidSo_28 : decode cX8_saidSo 28 = .ok (.imul, 1) := by decide +kernel
theorem dX8_saidSo_29 : decode cX8_saidSo 29 = .ok (.iload 4, 2) := by decide +kernel
theorem dX8_saidSo_31 : decode cX8_saidSo 31 = .ok (.iadd, 1) := by decide +kernel
theorem dX8_saidSo_32 : decode cX8_saidSo 32 = .ok (.iaload, 1) := by decide +kernel
theorem dX8_saidSo_33 : decode cX8_saidSo 33 = .ok (.invokestatic 140, 3) := by decide +kernel
theorem dX8_saidSo_36 : decode cX8_saidSo 36 = .ok (.aload_n 0, 1) := by decide +kernel
theorem dX8_saidSo_37 : decode cX8_saidSo 37 = .ok (.getfield 13, 3) := by decide +kernel
theorem dX8_saidSo_40 : decode cX8_saidSo 40 = .ok (.bipush 40, 2) := by decide +kernel
theorem dX8_saidSo_42 : decode cX8_saidSo 42 = .ok (.iload_n 1, 1) := by decide +kernel
theorem dX8_saidSo_43 : decode cX8_saidSo 43 = .ok (.imul, 1) := by decide +kernel
theorem dX8_saidSo_44 : decode cX8_saidSo 44 = .ok (.iload 4, 2) := by decide +kernel
theorem dX8_saidSo_46 : decode cX8_saidSo 46 = .ok (.iadd, 1) := by decide +kernel
theorem dX8_saidSo_47 : decode cX8_saidSo 47 = .ok (.iconst 1, 1) := by decide +kernel
theorem dX8_saidSo_48 : decode cX8_saidSo 48 = .ok (.iadd, 1) := by decide +kernel
theorem dX8_saidSo_49 : decode cX8_saidSo 49 = .ok (.iaload, 1) := by decide +kernel
theorem dX8_saidSo_50 : decode cX8_saidSo 50 = .ok (.if_icmp .ne 7, 3) := by decide +kernel
theorem dX8_saidSo_53 : decode cX8_saidSo 53 = .ok (.iconst 1, 1) := by decide +kernel
theorem dX8_saidSo_54 : decode cX8_saidSo 54 = .ok (.goto 4, 3) := by decide +kernel
theorem dX8_saidSo_57 : decode cX8_saidSo 57 = .ok (.iconst 0, 1) := by decide +kernel
theorem dX8_saidSo_58 : decode cX8_saidSo 58 = .ok (.istore_n 3, 1) := by decide +kernel
theorem dX8_saidSo_59 : decode cX8_saidSo 59 = .ok (.iinc 4 2, 3) := by decide +kernel
theorem dX8_saidSo_62 : decode cX8_saidSo 62 = .ok (.goto (-57), 3) := by decide +kernel
theorem dX8_saidSo_65 : decode cX8_saidSo 65 = .ok (.iload_n 3, 1) := by decide +kernel
theorem dX8_saidSo_66 : decode cX8_saidSo 66 = .ok (.ireturn, 1) := by decide +kernel
theorem dX8_kindsBy_0 : decode cX8_kindsBy 0 = .ok (.iconst 0, 1) := by decide +kernel
theorem dX8_kindsBy_1 : decode cX8_kindsBy 1 = .ok (.istore_n 2, 1) := by decide +kernel
theorem dX8_kindsBy_2 : decode cX8_kindsBy 2 = .ok (.iconst 0, 1) := by decide +kernel
theorem dX8_kindsBy_3 : decode cX8_kindsBy 3 = .ok (.istore_n 3, 1) := by decide +kernel
theorem dX8_kindsBy_4 : decode cX8_kindsBy 4 = .ok (.iload_n 3, 1) := by decide +kernel
theorem dX8_kindsBy_5 : decode cX8_kindsBy 5 = .ok (.bipush 6, 2) := by decide +kernel
theorem dX8_kindsBy_7 : decode cX8_kindsBy 7 = .ok (.if_icmp .ge 28, 3) := by decide +kernel
theorem dX8_kindsBy_10 : decode cX8_kindsBy 10 = .ok (.iload_n 2, 1) := by decide +kernel
theorem dX8_kindsBy_11 : decode cX8_kindsBy 11 = .ok (.aload_n 0, 1) := by decide +kernel
theorem dX8_kindsBy_12 : decode cX8_kindsBy 12 = .ok (.iload_n 1, 1) := by decide +kernel
theorem dX8_kindsBy_13 : decode cX8_kindsBy 13 = .ok (.iload_n 3, 1) := by decide +kernel
theorem dX8_kindsBy_14 : decode cX8_kindsBy 14 = .ok (.invokevirtual 210, 3) := by decide +kernel
theorem dX8_kindsBy_17 : decode cX8_kindsBy 17 = .ok (.ifCond .eq 9, 3) := by decide +kernel
theorem dX8_kindsBy_20 : decode cX8_kindsBy 20 = .ok (.iconst 1, 1) := by decide +kernel
theorem dX8_kindsBy_21 : decode cX8_kindsBy 21 = .ok (.iload_n 3, 1) := by decide +kernel
theorem dX8_kindsBy_22 : decode cX8_kindsBy 22 = .ok (.ishl, 1) := by decide +kernel
theorem dX8_kindsBy_23 : decode cX8_kindsBy 23 = .ok (.goto 4, 3) := by decide +kernel
theorem dX8_kindsBy_26 : decode cX8_kindsBy 26 = .ok (.iconst 0, 1) := by decide +kernel
theorem dX8_kindsBy_27 : decode cX8_kindsBy 27 = .ok (.ior, 1) := by decide +kernel
theorem dX8_kindsBy_28 : decode cX8_kindsBy 28 = .ok (.istore_n 2, 1) := by decide +kernel
theorem dX8_kindsBy_29 : decode cX8_kindsBy 29 = .ok (.iinc 3 1, 3) := by decide +kernel
theorem dX8_kindsBy_32 : decode cX8_kindsBy 32 = .ok (.goto (-28), 3) := by decide +kernel
theorem dX8_kindsBy_35 : decode cX8_kindsBy 35 = .ok (.iload_n 2, 1) := by decide +kernel
theorem dX8_kindsBy_36 : decode cX8_kindsBy 36 = .ok (.ireturn, 1) := by decide +kernel
theorem dX8_who_0 : decode cX8_who 0 = .ok (.iload_n 1, 1) := by decide +kernel
theorem dX8_who_1 : decode cX8_who 1 = .ok (.iconst 0, 1) := by decide +kernel
theorem dX8_who_2 : decode cX8_who 2 = .ok (.iconst 5, 1) := by decide +kernel
theorem dX8_who_3 : decode cX8_who 3 = .ok (.invokestatic 66, 3) := by decide +kernel
theorem dX8_who_6 : decode cX8_who 6 = .ok (.ifCond .ne 5, 3) := by decide +kernel
theorem dX8_who_9 : decode cX8_who 9 = .ok (.iconst (-1), 1) := by decide +kernel
theorem dX8_who_10 : decode cX8_who 10 = .ok (.ireturn, 1) := by decide +kernel
theorem dX8_who_11 : decode cX8_who 11 = .ok (.aload_n 0, 1) := by decide +kernel
theorem dX8_who_12 : decode cX8_who 12 = .ok (.iload_n 1, 1) := by decide +kernel
theorem dX8_who_13 : decode cX8_who 13 = .ok (.invokevirtual 213, 3) := by decide +kernel
theorem dX8_who_16 : decode cX8_who 16 = .ok (.ifCond .eq 6, 3) := by decide +kernel
theorem dX8_who_19 : decode cX8_who 19 = .ok (.bipush (-3), 2) := by decide +kernel
theorem dX8_who_21 : decode cX8_who 21 = .ok (.ireturn, 1) := by decide +kernel
theorem dX8_who_22 : decode cX8_who 22 = .ok (.iconst 0, 1) := by decide +kernel
theorem dX8_who_23 : decode cX8_who 23 = .ok (.istore_n 2, 1) := by decide +kernel
theorem dX8_who_24 : decode cX8_who 24 = .ok (.iconst 0, 1) := by decide +kernel
theorem dX8_who_25 : decode cX8_who 25 = .ok (.istore_n 3, 1) := by decide +kernel
theorem dX8_who_26 : decode cX8_who 26 = .ok (.iload_n 3, 1) := by decide +kernel
theorem dX8_who_27 : decode cX8_who 27 = .ok (.aload_n 0, 1) := by decide +kernel
theorem dX8_who_28 : decode cX8_who 28 = .ok (.getfield 63, 3) := by decide +kernel
theorem dX8_who_31 : decode cX8_who 31 = .ok (.if_icmp .ge 33, 3) := by decide +kernel
theorem dX8_who_34 : decode cX8_who 34 = .ok (.iload_n 2, 1) := by decide +kernel
theorem dX8_who_35 : decode cX8_who 35 = .ok (.aload_n 0, 1) := by decide +kernel
theorem dX8_who_36 : decode cX8_who 36 = .ok (.iload_n 1, 1) := by decide +kernel
theorem dX8_who_37 : decode cX8_who 37 = .ok (.aload_n 0, 1) := by decide +kernel
theorem dX8_who_38 : decode cX8_who 38 = .ok (.getfield 32, 3) := by decide +kernel
theorem dX8_who_41 : decode cX8_who 41 = .ok (.iload_n 3, 1) := by decide +kernel
theorem dX8_who_42 : decode cX8_who 42 = .ok (.iaload, 1) := by decide +kernel
theorem dX8_who_43 : decode cX8_who 43 = .ok (.invokevirtual 210, 3) := by decide +kernel
theorem dX8_who_46 : decode cX8_who 46 = .ok (.ifCond .eq 9, 3) := by decide +kernel
theorem dX8_who_49 : decode cX8_who 49 = .ok (.iconst 1, 1) := by decide +kernel
theorem dX8_who_50 : decode cX8_who 50 = .ok (.iload_n 3, 1) := by decide +kernel
theorem dX8_who_51 : decode cX8_who 51 = .ok (.ishl, 1) := by decide +kernel
theorem dX8_who_52 : decode cX8_who 52 = .ok (.goto 4, 3) := by decide +kernel
theorem dX8_who_55 : decode cX8_who 55 = .ok (.iconst 0, 1) := by decide +kernel
theorem dX8_who_56 : decode cX8_who 56 = .ok (.ior, 1) := by decide +kernel
theorem dX8_who_57 : decode cX8_who 57 = .ok (.istore_n 2, 1) := by decide +kernel
theorem dX8_who_58 : decode cX8_who 58 = .ok (.iinc 3 1, 3) := by decide +kernel
theorem dX8_who_61 : decode cX8_who 61 = .ok (.goto (-35), 3) := by decide +kernel
theorem dX8_who_64 : decode cX8_who 64 = .ok (.iload_n 2, 1) := by decide +kernel
theorem dX8_who_65 : decode cX8_who 65 = .ok (.ireturn, 1) := by decide +kernel
theorem dX8_kinds_0 : decode cX8_kinds 0 = .ok (.iload_n 1, 1) := by decide +kernel
theorem dX8_kinds_1 : decode cX8_kinds 1 = .ok (.iconst 0, 1) := by decide +kernel
theorem dX8_kinds_2 : decode cX8_kinds 2 = .ok (.iconst 5, 1) := by decide +kernel
theorem dX8_kinds_3 : decode cX8_kinds 3 = .ok (.invokestatic 66, 3) := by decide +kernel
theorem dX8_kinds_6 : decode cX8_kinds 6 = .ok (.ifCond .ne 5, 3) := by decide +kernel
theorem dX8_kinds_9 : decode cX8_kinds 9 = .ok (.iconst (-1), 1) := by decide +kernel
theorem dX8_kinds_10 : decode cX8_kinds 10 = .ok (.ireturn, 1) := by decide +kernel
theorem dX8_kinds_11 : decode cX8_kinds 11 = .ok (.aload_n 0, 1) := by decide +kernel
theorem dX8_kinds_12 : decode cX8_kinds 12 = .ok (.iload_n 1, 1) := by decide +kernel
theorem dX8_kinds_13 : decode cX8_kinds 13 = .ok (.invokevirtual 213, 3) := by decide +kernel
theorem dX8_kinds_16 : decode cX8_kinds 16 = .ok (.ifCond .eq 8, 3) := by decide +kernel
theorem dX8_kinds_19 : decode cX8_kinds 19 = .ok (.bipush (-3), 2) := by decide +kernel
theorem dX8_kinds_21 : decode cX8_kinds 21 = .ok (.goto 8, 3) := by decide +kernel
theorem dX8_kinds_24 : decode cX8_kinds 24 = .ok (.aload_n 0, 1) := by decide +kernel
theorem dX8_kinds_25 : decode cX8_kinds 25 = .ok (.iload_n 1, 1) := by decide +kernel
theorem dX8_kinds_26 : decode cX8_kinds 26 = .ok (.invokevirtual 216, 3) := by decide +kernel
theorem dX8_kinds_29 : decode cX8_kinds 29 = .ok (.ireturn, 1) := by decide +kernel
theorem dX8_test_0 : decode cX8_test 0 = .ok (.iload_n 1, 1) := by decide +kernel
theorem dX8_test_1 : decode cX8_test 1 = .ok (.iconst 0, 1) := by decide +kernel
theorem dX8_test_2 : decode cX8_test 2 = .ok (.iconst 5, 1) := by decide +kernel
theorem dX8_test_3 : decode cX8_test 3 = .ok (.invokestatic 66, 3) := by decide +kernel
theorem dX8_test_6 : decode cX8_test 6 = .ok (.ifCond .ne 5, 3) := by decide +kernel
theorem dX8_test_9 : decode cX8_test 9 = .ok (.iconst (-1), 1) := by decide +kernel
theorem dX8_test_10 : decode cX8_test 10 = .ok (.ireturn, 1) := by decide +kernel
theorem dX8_test_11 : decode cX8_test 11 = .ok (.aload_n 0, 1) := by decide +kernel
theorem dX8_test_12 : decode cX8_test 12 = .ok (.iload_n 1, 1) := by decide +kernel
theorem dX8_test_13 : decode cX8_test 13 = .ok (.invokevirtual 213, 3) := by decide +kernel
theorem dX8_test_16 : decode cX8_test 16 = .ok (.ifCond .eq 6, 3) := by decide +kernel
theorem dX8_test_19 : decode cX8_test 19 = .ok (.bipush (-3), 2) := by decide +kernel
theorem dX8_test_21 : decode cX8_test 21 = .ok (.ireturn, 1) := by decide +kernel
theorem dX8_test_22 : decode cX8_test 22 = .ok (.aload_n 0, 1) := by decide +kernel
theorem dX8_test_23 : decode cX8_test 23 = .ok (.iload_n 1, 1) := by decide +kernel
theorem dX8_test_24 : decode cX8_test 24 = .ok (.invokevirtual 216, 3) := by decide +kernel
theorem dX8_test_27 : decode cX8_test 27 = .ok (.istore_n 2, 1) := by decide +kernel
theorem dX8_test_28 : decode cX8_test 28 = .ok (.iload_n 2, 1) := by decide +kernel
theorem dX8_test_29 : decode cX8_test 29 = .ok (.ifCond .ne 6, 3) := by decide +kernel
theorem dX8_test_32 : decode cX8_test 32 = .ok (.bipush (-9), 2) := by decide +kernel
theorem dX8_test_34 : decode cX8_test 34 = .ok (.ireturn, 1) := by decide +kernel
theorem dX8_test_35 : decode cX8_test 35 = .ok (.bipush (-9), 2) := by decide +kernel
theorem dX8_test_37 : decode cX8_test 37 = .ok (.istore_n 3, 1) := by decide +kernel
theorem dX8_test_38 : decode cX8_test 38 = .ok (.iconst 0, 1) := by decide +kernel
theorem dX8_test_39 : decode cX8_test 39 = .ok (.istore 4, 2) := by decide +kernel
theorem dX8_test_41 : decode cX8_test 41 = .ok (.iconst 0, 1) := by decide +kernel
theorem dX8_test_42 : decode cX8_test 42 = .ok (.istore 5, 2) := by decide +kernel
theorem dX8_test_44 : decode cX8_test 44 = .ok (.iload 5, 2) := by decide +kernel
theorem dX8_test_46 : decode cX8_test 46 = .ok (.bipush 100, 2) := by decide +kernel
theorem dX8_test_48 : decode cX8_test 48 = .ok (.if_icmp .ge 154, 3) := by decide +kernel
theorem dX8_test_51 : decode cX8_test 51 = .ok (.iconst 0, 1) := by decide +kernel
theorem dX8_test_52 : decode cX8_test 52 = .ok (.istore 6, 2) := by decide +kernel
theorem dX8_test_54 : decode cX8_test 54 = .ok (.iconst 0, 1) := by decide +kernel
theorem dX8_test_55 : decode cX8_test 55 = .ok (.istore 7, 2) := by decide +kernel
theorem dX8_test_57 : decode cX8_test 57 = .ok (.iload 7, 2) := by decide +kernel
theorem dX8_test_59 : decode cX8_test 59 = .ok (.bipush 6, 2) := by decide +kernel
theorem dX8_test_61 : decode cX8_test 61 = .ok (.if_icmp .ge 89, 3) := by decide +kernel
theorem dX8_test_64 : decode cX8_test 64 = .ok (.iconst 0, 1) := by decide +kernel
theorem dX8_test_65 : decode cX8_test 65 = .ok (.istore 8, 2) := by decide +kernel
theorem dX8_test_67 : decode cX8_test 67 = .ok (.iconst 0, 1) := by decide +kernel
theorem dX8_test_68 : decode cX8_test 68 = .ok (.istore 9, 2) := by decide +kernel
theorem dX8_test_70 : decode cX8_test 70 = .ok (.iload 9, 2) := by decide +kernel
theorem dX8_test_72 : decode cX8_test 72 = .ok (.bipush 6, 2) := by decide +kernel
theorem dX8_test_74 : decode cX8_test 74 = .ok (.if_icmp .ge 54, 3) := by decide +kernel
theorem dX8_test_77 : decode cX8_test 77 = .ok (.iload 8, 2) := by decide +kernel
theorem dX8_test_79 : decode cX8_test 79 = .ok (.iload_n 2, 1) := by decide +kernel
theorem dX8_test_80 : decode cX8_test 80 = .ok (.iload 7, 2) := by decide +kernel
theorem dX8_test_82 : decode cX8_test 82 = .ok (.invokestatic 187, 3) := by decide +kernel
theorem dX8_test_85 : decode cX8_test 85 = .ok (.ifCond .eq 33, 3) := by decide +kernel
theorem dX8_test_88 : decode cX8_test 88 = .ok (.iload_n 2, 1) := by decide +kernel
theorem dX8_test_89 : decode cX8_test 89 = .ok (.iload 9, 2) := by decide +kernel
theorem dX8_test_91 : decode cX8_test 91 = .ok (.invokestatic 187, 3) := by decide +kernel
theorem dX8_test_94 : decode cX8_test 94 = .ok (.ifCond .eq 24, 3) := by decide +kernel
theorem dX8_test_97 : decode cX8_test 97 = .ok (.iload 7, 2) := by decide +kernel
theorem dX8_test_99 : decode cX8_test 99 = .ok (.iload 5, 2) := by decide +kernel
theorem dX8_test_101 : decode cX8_test 101 = .ok (.invokestatic 140, 3) := by decide +kernel
theorem dX8_test_104 : decode cX8_test 104 = .ok (.iload 9, 2) := by decide +kernel
theorem dX8_test_106 : decode cX8_test 106 = .ok (.iload 5, 2) := by decide +kernel
theorem dX8_test_108 : decode cX8_test 108 = .ok (.invokestatic 140, 3) := by decide +kernel
theorem dX8_test_111 : decode cX8_test 111 = .ok (.if_icmp .ne 7, 3) := by decide +kernel
theorem dX8_test_114 : decode cX8_test 114 = .ok (.iconst 1, 1) := by decide +kernel
theorem dX8_test_115 : decode cX8_test 115 = .ok (.goto 4, 3) := by decide +kernel
theorem dX8_test_118 : decode cX8_test 118 = .ok (.iconst 0, 1) := by decide +kernel
theorem dX8_test_119 : decode cX8_test 119 = .ok (.iadd, 1) := by decide +kernel
theorem dX8_test_120 : decode cX8_test 120 = .ok (.istore 8, 2) := by decide +kernel
theorem dX8_test_122 : decode cX8_test 122 = .ok (.iinc 9 1, 3) := by decide +kernel
theorem dX8_test_125 : decode cX8_test 125 = .ok (.goto (-55), 3) := by decide +kernel
theorem dX8_test_128 : decode cX8_test 128 = .ok (.iload 8, 2) := by decide +kernel
theorem dX8_test_130 : decode cX8_test 130 = .ok (.iload 6, 2) := by decide +kernel
theorem dX8_test_132 : decode cX8_test 132 = .ok (.if_icmp .le 8, 3) := by decide +kernel
theorem dX8_test_135 : decode cX8_test 135 = .ok (.iload 8, 2) := by decide +kernel
theorem dX8_test_137 : decode cX8_test 137 = .ok (.goto 5, 3) := by decide +kernel
theorem dX8_test_140 : decode cX8_test 140 = .ok (.iload 6, 2) := by decide +kernel
theorem dX8_test_142 : decode cX8_test 142 = .ok (.istore 6, 2) := by decide +kernel
theorem dX8_test_144 : decode cX8_test 144 = .ok (.iinc 7 1, 3) := by decide +kernel
theorem dX8_test_147 : decode cX8_test 147 = .ok (.goto (-90), 3) := by decide +kernel
theorem dX8_test_150 : decode cX8_test 150 = .ok (.iload_n 3, 1) := by decide +kernel
theorem dX8_test_151 : decode cX8_test 151 = .ok (.bipush (-9), 2) := by decide +kernel
theorem dX8_test_153 : decode cX8_test 153 = .ok (.if_icmp .eq 10, 3) := by decide +kernel
theorem dX8_test_156 : decode cX8_test 156 = .ok (.iload 6, 2) := by decide +kernel
theorem dX8_test_158 : decode cX8_test 158 = .ok (.iload 4, 2) := by decide +kernel
theorem dX8_test_160 : decode cX8_test 160 = .ok (.if_icmp .ge 7, 3) := by decide +kernel
theorem dX8_test_163 : decode cX8_test 163 = .ok (.iconst 1, 1) := by decide +kernel
theorem dX8_test_164 : decode cX8_test 164 = .ok (.goto 4, 3) := by decide +kernel
theorem dX8_test_167 : decode cX8_test 167 = .ok (.iconst 0, 1) := by decide +kernel
theorem dX8_test_168 : decode cX8_test 168 = .ok (.istore 7, 2) := by decide +kernel
theorem dX8_test_170 : decode cX8_test 170 = .ok (.iload 7, 2) := by decide +kernel
theorem dX8_test_172 : decode cX8_test 172 = .ok (.ifCond .eq 8, 3) := by decide +kernel
theorem dX8_test_175 : decode cX8_test 175 = .ok (.iload 5, 2) := by decide +kernel
theorem dX8_test_177 : decode cX8_test 177 = .ok (.goto 4, 3) := by decide +kernel
theorem dX8_test_180 : decode cX8_test 180 = .ok (.iload_n 3, 1) := by decide +kernel
theorem dX8_test_181 : decode cX8_test 181 = .ok (.istore_n 3, 1) := by decide +kernel
theorem dX8_test_182 : decode cX8_test 182 = .ok (.iload 7, 2) := by decide +kernel
theorem dX8_test_184 : decode cX8_test 184 = .ok (.ifCond .eq 8, 3) := by decide +kernel
theorem dX8_test_187 : decode cX8_test 187 = .ok (.iload 6, 2) := by decide +kernel
theorem dX8_test_189 : decode cX8_test 189 = .ok (.goto 5, 3) := by decide +kernel
theorem dX8_test_192 : decode cX8_test 192 = .ok (.iload 4, 2) := by decide +kernel
theorem dX8_test_194 : decode cX8_test 194 = .ok (.istore 4, 2) := by decide +kernel
theorem dX8_test_196 : decode cX8_test 196 = .ok (.iinc 5 1, 3) := by decide +kernel
theorem dX8_test_199 : decode cX8_test 199 = .ok (.goto (-155), 3) := by decide +kernel
theorem dX8_test_202 : decode cX8_test 202 = .ok (.aload_n 0, 1) := by decide +kernel
theorem dX8_test_203 : decode cX8_test 203 = .ok (.iload 4, 2) := by decide +kernel
theorem dX8_test_205 : decode cX8_test 205 = .ok (.invokevirtual 81, 3) := by decide +kernel
theorem dX8_test_208 : decode cX8_test 208 = .ok (.pop, 1) := by decide +kernel
theorem dX8_test_209 : decode cX8_test 209 = .ok (.iload_n 3, 1) := by decide +kernel
theorem dX8_test_210 : decode cX8_test 210 = .ok (.ireturn, 1) := by decide +kernel
theorem dX8_leaks_0 : decode cX8_leaks 0 = .ok (.iload_n 1, 1) := by decide +kernel
theorem dX8_leaks_1 : decode cX8_leaks 1 = .ok (.iconst 0, 1) := by decide +kernel
theorem dX8_leaks_2 : decode cX8_leaks 2 = .ok (.iconst 5, 1) := by decide +kernel
theorem dX8_leaks_3 : decode cX8_leaks 3 = .ok (.invokestatic 66, 3) := by decide +kernel
theorem dX8_leaks_6 : decode cX8_leaks 6 = .ok (.ifCond .ne 5, 3) := by decide +kernel
theorem dX8_leaks_9 : decode cX8_leaks 9 = .ok (.iconst (-1), 1) := by decide +kernel
theorem dX8_leaks_10 : decode cX8_leaks 10 = .ok (.ireturn, 1) := by decide +kernel
theorem dX8_leaks_11 : decode cX8_leaks 11 = .ok (.aload_n 0, 1) := by decide +kernel
theorem dX8_leaks_12 : decode cX8_leaks 12 = .ok (.getfield 7, 3) := by decide +kernel
theorem dX8_leaks_15 : decode cX8_leaks 15 = .ok (.iload_n 1, 1) := by decide +kernel
theorem dX8_leaks_16 : decode cX8_leaks 16 = .ok (.iaload, 1) := by decide +kernel
theorem dX8_leaks_17 : decode cX8_leaks 17 = .ok (.ifCond .ge 9, 3) := by decide +kernel
theorem dX8_leaks_20 : decode cX8_leaks 20 = .ok (.aload_n 0, 1) := by decide +kernel
theorem dX8_leaks_21 : decode cX8_leaks 21 = .ok (.iconst 1, 1) := by decide +kernel
theorem dX8_leaks_22 : decode cX8_leaks 22 = .ok (.invokevirtual 73, 3) := by decide +kernel
theorem dX8_leaks_25 : decode cX8_leaks 25 = .ok (.ireturn, 1) := by decide +kernel
theorem dX8_leaks_26 : decode cX8_leaks 26 = .ok (.aload_n 0, 1) := by decide +kernel
theorem dX8_leaks_27 : decode cX8_leaks 27 = .ok (.getfield 7, 3) := by decide +kernel
theorem dX8_leaks_30 : decode cX8_leaks 30 = .ok (.iload_n 1, 1) := by decide +kernel
theorem dX8_leaks_31 : decode cX8_leaks 31 = .ok (.iaload, 1) := by decide +kernel
theorem dX8_leaks_32 : decode cX8_leaks 32 = .ok (.ifCond .ne 9, 3) := by decide +kernel
theorem dX8_leaks_35 : decode cX8_leaks 35 = .ok (.aload_n 0, 1) := by decide +kernel
theorem dX8_leaks_36 : decode cX8_leaks 36 = .ok (.iconst 5, 1) := by decide +kernel
theorem dX8_leaks_37 : decode cX8_leaks 37 = .ok (.invokevirtual 73, 3) := by decide +kernel
theorem dX8_leaks_40 : decode cX8_leaks 40 = .ok (.ireturn, 1) := by decide +kernel
theorem dX8_leaks_41 : decode cX8_leaks 41 = .ok (.iconst 1, 1) := by decide +kernel
theorem dX8_leaks_42 : decode cX8_leaks 42 = .ok (.istore_n 2, 1) := by decide +kernel
theorem dX8_leaks_43 : decode cX8_leaks 43 = .ok (.iconst 0, 1) := by decide +kernel
theorem dX8_leaks_44 : decode cX8_leaks 44 = .ok (.istore_n 3, 1) := by decide +kernel
theorem dX8_leaks_45 : decode cX8_leaks 45 = .ok (.iload_n 3, 1) := by decide +kernel
theorem dX8_leaks_46 : decode cX8_leaks 46 = .ok (.aload_n 0, 1) := by decide +kernel
theorem dX8_leaks_47 : decode cX8_leaks 47 = .ok (.getfield 7, 3) := by decide +kernel
theorem dX8_leaks_50 : decode cX8_leaks 50 = .ok (.iload_n 1, 1) := by decide +kernel
theorem dX8_leaks_51 : decode cX8_leaks 51 = .ok (.iaload, 1) := by decide +kernel
theorem dX8_leaks_52 : decode cX8_leaks 52 = .ok (.if_icmp .ge 40, 3) := by decide +kernel
theorem dX8_leaks_55 : decode cX8_leaks 55 = .ok (.iload_n 2, 1) := by decide +kernel
theorem dX8_leaks_56 : decode cX8_leaks 56 = .ok (.ifCond .eq 28, 3) := by decide +kernel
theorem dX8_leaks_59 : decode cX8_leaks 59 = .ok (.aload_n 0, 1) := by decide +kernel
theorem dX8_leaks_60 : decode cX8_leaks 60 = .ok (.getfield 13, 3) := by decide +kernel
theorem dX8_leaks_63 : decode cX8_leaks 63 = .ok (.bipush 40, 2) := by decide +kernel
theorem dX8_leaks_65 : decode cX8_leaks 65 = .ok (.iload_n 1, 1) := by decide +kernel
theorem dX8_leaks_66 : decode cX8_leaks 66 = .ok (.imul, 1) := by decide +kernel
theorem dX8_leaks_67 : decode cX8_leaks 67 = .ok (.iload_n 3, 1) := by decide +kernel
theorem dX8_leaks_68 : decode cX8_leaks 68 = .ok (.iadd, 1) := by decide +kernel
theorem dX8_leaks_69 : decode cX8_leaks 69 = .ok (.iaload, 1) := by decide +kernel
theorem dX8_leaks_70 : decode cX8_leaks 70 = .ok (.iconst 0, 1) := by decide +kernel
theorem dX8_leaks_71 : decode cX8_leaks 71 = .ok (.sipush 999, 3) := by decide +kernel
theorem dX8_leaks_74 : decode cX8_leaks 74 = .ok (.invokestatic 66, 3) := by decide +kernel
theorem dX8_leaks_77 : decode cX8_leaks 77 = .ok (.ifCond .eq 7, 3) := by decide +kernel
theorem dX8_leaks_80 : decode cX8_leaks 80 = .ok (.iconst 1, 1) := by decide +kernel
theorem dX8_leaks_81 : decode cX8_leaks 81 = .ok (.goto 4, 3) := by decide +kernel
theorem dX8_leaks_84 : decode cX8_leaks 84 = .ok (.iconst 0, 1) := by decide +kernel
theorem dX8_leaks_85 : decode cX8_leaks 85 = .ok (.istore_n 2, 1) := by decide +kernel
theorem dX8_leaks_86 : decode cX8_leaks 86 = .ok (.iinc 3 1, 3) := by decide +kernel
theorem dX8_leaks_89 : decode cX8_leaks 89 = .ok (.goto (-44), 3) := by decide +kernel
theorem dX8_leaks_92 : decode cX8_leaks 92 = .ok (.iload_n 2, 1) := by decide +kernel
theorem dX8_leaks_93 : decode cX8_leaks 93 = .ok (.ifCond .ne 9, 3) := by decide +kernel
theorem dX8_leaks_96 : decode cX8_leaks 96 = .ok (.aload_n 0, 1) := by decide +kernel
theorem dX8_leaks_97 : decode cX8_leaks 97 = .ok (.iconst 3, 1) := by decide +kernel
theorem dX8_leaks_98 : decode cX8_leaks 98 = .ok (.invokevirtual 73, 3) := by decide +kernel
theorem dX8_leaks_101 : decode cX8_leaks 101 = .ok (.ireturn, 1) := by decide +kernel
theorem dX8_leaks_102 : decode cX8_leaks 102 = .ok (.iconst 0, 1) := by decide +kernel
theorem dX8_leaks_103 : decode cX8_leaks 103 = .ok (.istore_n 3, 1) := by decide +kernel
theorem dX8_leaks_104 : decode cX8_leaks 104 = .ok (.iconst 0, 1) := by decide +kernel
theorem dX8_leaks_105 : decode cX8_leaks 105 = .ok (.istore 4, 2) := by decide +kernel
theorem dX8_leaks_107 : decode cX8_leaks 107 = .ok (.iload 4, 2) := by decide +kernel
theorem dX8_leaks_109 : decode cX8_leaks 109 = .ok (.bipush 10, 2) := by decide +kernel
theorem dX8_leaks_111 : decode cX8_leaks 111 = .ok (.if_icmp .ge 105, 3) := by decide +kernel
theorem dX8_leaks_114 : decode cX8_leaks 114 = .ok (.iconst 1, 1) := by decide +kernel
theorem dX8_leaks_115 : decode cX8_leaks 115 = .ok (.istore 5, 2) := by decide +kernel
theorem dX8_leaks_117 : decode cX8_leaks 117 = .ok (.iconst 1, 1) := by decide +kernel
theorem dX8_leaks_118 : decode cX8_leaks 118 = .ok (.istore 6, 2) := by decide +kernel
theorem dX8_leaks_120 : decode cX8_leaks 120 = .ok (.iload 6, 2) := by decide +kernel
theorem dX8_leaks_122 : decode cX8_leaks 122 = .ok (.aload_n 0, 1) := by decide +kernel
theorem dX8_leaks_123 : decode cX8_leaks 123 = .ok (.getfield 7, 3) := by decide +kernel
theorem dX8_leaks_126 : decode cX8_leaks 126 = .ok (.iload_n 1, 1) := by decide +kernel
theorem dX8_leaks_127 : decode cX8_leaks 127 = .ok (.iaload, 1) := by decide +kernel
theorem dX8_leaks_128 : decode cX8_leaks 128 = .ok (.if_icmp .ge 66, 3) := by decide +kernel
theorem dX8_leaks_131 : decode cX8_leaks 131 = .ok (.aload_n 0, 1) := by decide +kernel
theorem dX8_leaks_132 : decode cX8_leaks 132 = .ok (.getfield 13, 3) := by decide +kernel
theorem dX8_leaks_135 : decode cX8_leaks 135 = .ok (.bipush 40, 2) := by decide +kernel
theorem dX8_leaks_137 : decode cX8_leaks 137 = .ok (.iload_n 1, 1) := by decide +kernel
theorem dX8_leaks_138 : decode cX8_leaks 138 = .ok (.imul, 1) := by decide +kernel
theorem dX8_leaks_139 : decode cX8_leaks 139 = .ok (.iload 6, 2) := by decide +kernel
theorem dX8_leaks_141 : decode cX8_leaks 141 = .ok (.iadd, 1) := by decide +kernel
theorem dX8_leaks_142 : decode cX8_leaks 142 = .ok (.iconst 1, 1) := by decide +kernel
theorem dX8_leaks_143 : decode cX8_leaks 143 = .ok (.isub, 1) := by decide +kernel
theorem dX8_leaks_144 : decode cX8_leaks 144 = .ok (.iaload, 1) := by decide +kernel
theorem dX8_leaks_145 : decode cX8_leaks 145 = .ok (.iload 4, 2) := by decide +kernel
theorem dX8_leaks_147 : decode cX8_leaks 147 = .ok (.isub, 1) := by decide +kernel
theorem dX8_leaks_148 : decode cX8_leaks 148 = .ok (.istore 7, 2) := by decide +kernel
theorem dX8_leaks_150 : decode cX8_leaks 150 = .ok (.iload 5, 2) := by decide +kernel
theorem dX8_leaks_152 : decode cX8_leaks 152 = .ok (.ifCond .eq 33, 3) := by decide +kernel
theorem dX8_leaks_155 : decode cX8_leaks 155 = .ok (.aload_n 0, 1) := by decide +kernel
theorem dX8_leaks_156 : decode cX8_leaks 156 = .ok (.getfield 13, 3) := by decide +kernel
theorem dX8_leaks_159 : decode cX8_leaks 159 = .ok (.bipush 40, 2) := by decide +kernel
theorem dX8_leaks_161 : decode cX8_leaks 161 = .ok (.iload_n 1, 1) := by decide +kernel
theorem dX8_leaks_162 : decode cX8_leaks 162 = .ok (.imul, 1) := by decide +kernel
theorem dX8_leaks_163 : decode cX8_leaks 163 = .ok (.iload 6, 2) := by decide +kernel
theorem dX8_leaks_165 : decode cX8_leaks 165 = .ok (.iadd, 1) := by decide +kernel
theorem dX8_leaks_166 : decode cX8_leaks 166 = .ok (.iaload, 1) := by decide +kernel
theorem dX8_leaks_167 : decode cX8_leaks 167 = .ok (.iload 7, 2) := by decide +kernel
theorem dX8_leaks_169 : decode cX8_leaks 169 = .ok (.ifCond .ge 7, 3) := by decide +kernel
theorem dX8_leaks_172 : decode cX8_leaks 172 = .ok (.iconst 0, 1) := by decide +kernel
theorem dX8_leaks_173 : decode cX8_leaks 173 = .ok (.goto 5, 3) := by decide +kernel
theorem dX8_leaks_176 : decode cX8_leaks 176 = .ok (.iload 7, 2) := by decide +kernel
theorem dX8_leaks_178 : decode cX8_leaks 178 = .ok (.if_icmp .ne 7, 3) := by decide +kernel
theorem dX8_leaks_181 : decode cX8_leaks 181 = .ok (.iconst 1, 1) := by decide +kernel
theorem dX8_leaks_182 : decode cX8_leaks 182 = .ok (.goto 4, 3) := by decide +kernel
theorem dX8_leaks_185 : decode cX8_leaks 185 = .ok (.iconst 0, 1) := by decide +kernel
theorem dX8_leaks_186 : decode cX8_leaks 186 = .ok (.istore 5, 2) := by decide +kernel
theorem dX8_leaks_188 : decode cX8_leaks 188 = .ok (.iinc 6 1, 3) := by decide +kernel
theorem dX8_leaks_191 : decode cX8_leaks 191 = .ok (.goto (-71), 3) := by decide +kernel
theorem dX8_leaks_194 : decode cX8_leaks 194 = .ok (.iload_n 3, 1) := by decide +kernel
theorem dX8_leaks_195 : decode cX8_leaks 195 = .ok (.iload 5, 2) := by decide +kernel
theorem dX8_leaks_197 : decode cX8_leaks 197 = .ok (.ifCond .eq 10, 3) := by decide +kernel
theorem dX8_leaks_200 : decode cX8_leaks 200 = .ok (.iconst 1, 1) := by decide +kernel
theorem dX8_leaks_201 : decode cX8_leaks 201 = .ok (.iload 4, 2) := by decide +kernel
theorem dX8_leaks_203 : decode cX8_leaks 203 = .ok (.ishl, 1) := by decide +kernel
theorem dX8_leaks_204 : decode cX8_leaks 204 = .ok (.goto 4, 3) := by decide +kernel
theorem dX8_leaks_207 : decode cX8_leaks 207 = .ok (.iconst 0, 1) := by decide +kernel
theorem dX8_leaks_208 : decode cX8_leaks 208 = .ok (.ior, 1) := by decide +kernel
theorem dX8_leaks_209 : decode cX8_leaks 209 = .ok (.istore_n 3, 1) := by decide +kernel
theorem dX8_leaks_210 : decode cX8_leaks 210 = .ok (.iinc 4 1, 3) := by decide +kernel
theorem dX8_leaks_213 : decode cX8_leaks 213 = .ok (.goto (-106), 3) := by decide +kernel
theorem dX8_leaks_216 : decode cX8_leaks 216 = .ok (.iload_n 3, 1) := by decide +kernel
theorem dX8_leaks_217 : decode cX8_leaks 217 = .ok (.ireturn, 1) := by decide +kernel
theorem dX8_eveningBy_0 : decode cX8_eveningBy 0 = .ok (.aload_n 0, 1) := by decide +kernel
theorem dX8_eveningBy_1 : decode cX8_eveningBy 1 = .ok (.invokevirtual 184, 3) := by decide +kernel
theorem dX8_eveningBy_4 : decode cX8_eveningBy 4 = .ok (.iload_n 1, 1) := by decide +kernel
theorem dX8_eveningBy_5 : decode cX8_eveningBy 5 = .ok (.istore 4, 2) := by decide +kernel
theorem dX8_eveningBy_7 : decode cX8_eveningBy 7 = .ok (.iconst 0, 1) := by decide +kernel
theorem dX8_eveningBy_8 : decode cX8_eveningBy 8 = .ok (.istore 5, 2) := by decide +kernel
theorem dX8_eveningBy_10 : decode cX8_eveningBy 10 = .ok (.iload 5, 2) := by decide +kernel
theorem dX8_eveningBy_12 : decode cX8_eveningBy 12 = .ok (.iload_n 3, 1) := by decide +kernel
theorem dX8_eveningBy_13 : decode cX8_eveningBy 13 = .ok (.if_icmp .ge 70, 3) := by decide +kernel
theorem dX8_eveningBy_16 : decode cX8_eveningBy 16 = .ok (.iload 4, 2) := by decide +kernel
theorem dX8_eveningBy_18 : decode cX8_eveningBy 18 = .ok (.bipush 7, 2) := by decide +kernel
theorem dX8_eveningBy_20 : decode cX8_eveningBy 20 = .ok (.irem, 1) := by decide +kernel
theorem dX8_eveningBy_21 : decode cX8_eveningBy 21 = .ok (.istore 6, 2) := by decide +kernel
theorem dX8_eveningBy_23 : decode cX8_eveningBy 23 = .ok (.iload 4, 2) := by decide +kernel
theorem dX8_eveningBy_25 : decode cX8_eveningBy 25 = .ok (.bipush 7, 2) := by decide +kernel
theorem dX8_eveningBy_27 : decode cX8_eveningBy 27 = .ok (.idiv, 1) := by decide +kernel
theorem dX8_eveningBy_28 : decode cX8_eveningBy 28 = .ok (.bipush 9, 2) := by decide +kernel
theorem dX8_eveningBy_30 : decode cX8_eveningBy 30 = .ok (.irem, 1) := by decide +kernel
theorem dX8_eveningBy_31 : decode cX8_eveningBy 31 = .ok (.istore 7, 2) := by decide +kernel
theorem dX8_eveningBy_33 : decode cX8_eveningBy 33 = .ok (.iload 4, 2) := by decide +kernel
theorem dX8_eveningBy_35 : decode cX8_eveningBy 35 = .ok (.bipush 63, 2) := by decide +kernel
theorem dX8_eveningBy_37 : decode cX8_eveningBy 37 = .ok (.idiv, 1) := by decide +kernel
theorem dX8_eveningBy_38 : decode cX8_eveningBy 38 = .ok (.istore 4, 2) := by decide +kernel
theorem dX8_eveningBy_40 : decode cX8_eveningBy 40 = .ok (.iload 6, 2) := by decide +kernel
theorem dX8_eveningBy_42 : decode cX8_eveningBy 42 = .ok (.aload_n 0, 1) := by decide +kernel
theorem dX8_eveningBy_43 : decode cX8_eveningBy 43 = .ok (.getfield 63, 3) := by decide +kernel
theorem dX8_eveningBy_46 : decode cX8_eveningBy 46 = .ok (.if_icmp .ge 14, 3) := by decide +kernel
theorem dX8_eveningBy_49 : decode cX8_eveningBy 49 = .ok (.aload_n 0, 1) := by decide +kernel
theorem dX8_eveningBy_50 : decode cX8_eveningBy 50 = .ok (.aload_n 0, 1) := by decide +kernel
theorem dX8_eveningBy_51 : decode cX8_eveningBy 51 = .ok (.getfield 41, 3) := by decide +kernel
theorem dX8_eveningBy_54 : decode cX8_eveningBy 54 = .ok (.iload 6, 2) := by decide +kernel
theorem dX8_eveningBy_56 : decode cX8_eveningBy 56 = .ok (.iload_n 2, 1) := by decide +kernel
theorem dX8_eveningBy_57 : decode cX8_eveningBy 57 = .ok (.invokevirtual 174, 3) := by decide +kernel
theorem dX8_eveningBy_60 : decode cX8_eveningBy 60 = .ok (.iload 7, 2) := by decide +kernel
theorem dX8_eveningBy_62 : decode cX8_eveningBy 62 = .ok (.aload_n 0, 1) := by decide +kernel
theorem dX8_eveningBy_63 : decode cX8_eveningBy 63 = .ok (.getfield 70, 3) := by decide +kernel
theorem dX8_eveningBy_66 : decode cX8_eveningBy 66 = .ok (.if_icmp .ge 11, 3) := by decide +kernel
theorem dX8_eveningBy_69 : decode cX8_eveningBy 69 = .ok (.aload_n 0, 1) := by decide +kernel
theorem dX8_eveningBy_70 : decode cX8_eveningBy 70 = .ok (.getfield 41, 3) := by decide +kernel
theorem dX8_eveningBy_73 : decode cX8_eveningBy 73 = .ok (.iload 7, 2) := by decide +kernel
theorem dX8_eveningBy_75 : decode cX8_eveningBy 75 = .ok (.iconst 0, 1) := by decide +kernel
theorem dX8_eveningBy_76 : decode cX8_eveningBy 76 = .ok (.iastore, 1) := by decide +kernel
theorem dX8_eveningBy_77 : decode cX8_eveningBy 77 = .ok (.iinc 5 1, 3) := by decide +kernel
theorem dX8_eveningBy_80 : decode cX8_eveningBy 80 = .ok (.goto (-70), 3) := by decide +kernel
theorem dX8_eveningBy_83 : decode cX8_eveningBy 83 = .ok (.aload_n 0, 1) := by decide +kernel
theorem dX8_eveningBy_84 : decode cX8_eveningBy 84 = .ok (.aload_n 0, 1) := by decide +kernel
theorem dX8_eveningBy_85 : decode cX8_eveningBy 85 = .ok (.getfield 41, 3) := by decide +kernel
theorem dX8_eveningBy_88 : decode cX8_eveningBy 88 = .ok (.invokevirtual 167, 3) := by decide +kernel
theorem dX8_eveningBy_91 : decode cX8_eveningBy 91 = .ok (.ireturn, 1) := by decide +kernel
theorem dX8_isTurn_0 : decode cX8_isTurn 0 = .ok (.iload_n 1, 1) := by decide +kernel
theorem dX8_isTurn_1 : decode cX8_isTurn 1 = .ok (.bipush 7, 2) := by decide +kernel
theorem dX8_isTurn_3 : decode cX8_isTurn 3 = .ok (.irem, 1) := by decide +kernel
theorem dX8_isTurn_4 : decode cX8_isTurn 4 = .ok (.istore_n 2, 1) := by decide +kernel
theorem dX8_isTurn_5 : decode cX8_isTurn 5 = .ok (.iload_n 1, 1) := by decide +kernel
theorem dX8_isTurn_6 : decode cX8_isTurn 6 = .ok (.bipush 7, 2) := by decide +kernel
theorem dX8_isTurn_8 : decode cX8_isTurn 8 = .ok (.idiv, 1) := by decide +kernel
theorem dX8_isTurn_9 : decode cX8_isTurn 9 = .ok (.istore_n 3, 1) := by decide +kernel
theorem dX8_isTurn_10 : decode cX8_isTurn 10 = .ok (.iload_n 2, 1) := by decide +kernel
theorem dX8_isTurn_11 : decode cX8_isTurn 11 = .ok (.aload_n 0, 1) := by decide +kernel
theorem dX8_isTurn_12 : decode cX8_isTurn 12 = .ok (.getfield 63, 3) := by decide +kernel
theorem dX8_isTurn_15 : decode cX8_isTurn 15 = .ok (.if_icmp .lt 9, 3) := by decide +kernel
theorem dX8_isTurn_18 : decode cX8_isTurn 18 = .ok (.iload_n 2, 1) := by decide +kernel
theorem dX8_isTurn_19 : decode cX8_isTurn 19 = .ok (.bipush 6, 2) := by decide +kernel
theorem dX8_isTurn_21 : decode cX8_isTurn 21 = .ok (.if_icmp .ne 21, 3) := by decide +kernel
theorem dX8_isTurn_24 : decode cX8_isTurn 24 = .ok (.iload_n 3, 1) := by decide +kernel
theorem dX8_isTurn_25 : decode cX8_isTurn 25 = .ok (.aload_n 0, 1) := by decide +kernel
theorem dX8_isTurn_26 : decode cX8_isTurn 26 = .ok (.getfield 70, 3) := by decide +kernel
theorem dX8_isTurn_29 : decode cX8_isTurn 29 = .ok (.if_icmp .lt 9, 3) := by decide +kernel
theorem dX8_isTurn_32 : decode cX8_isTurn 32 = .ok (.iload_n 3, 1) := by decide +kernel
theorem dX8_isTurn_33 : decode cX8_isTurn 33 = .ok (.bipush 8, 2) := by decide +kernel
theorem dX8_isTurn_35 : decode cX8_isTurn 35 = .ok (.if_icmp .ne 7, 3) := by decide +kernel
theorem dX8_isTurn_38 : decode cX8_isTurn 38 = .ok (.iconst 1, 1) := by decide +kernel
theorem dX8_isTurn_39 : decode cX8_isTurn 39 = .ok (.goto 4, 3) := by decide +kernel
theorem dX8_isTurn_42 : decode cX8_isTurn 42 = .ok (.iconst 0, 1) := by decide +kernel
theorem dX8_isTurn_43 : decode cX8_isTurn 43 = .ok (.ireturn, 1) := by decide +kernel
theorem dX8_lastTurn_0 : decode cX8_lastTurn 0 = .ok (.iconst (-1), 1) := by decide +kernel
theorem dX8_lastTurn_1 : decode cX8_lastTurn 1 = .ok (.istore_n 3, 1) := by decide +kernel
theorem dX8_lastTurn_2 : decode cX8_lastTurn 2 = .ok (.iconst 0, 1) := by decide +kernel
theorem dX8_lastTurn_3 : decode cX8_lastTurn 3 = .ok (.istore 4, 2) := by decide +kernel
theorem dX8_lastTurn_5 : decode cX8_lastTurn 5 = .ok (.iload 4, 2) := by decide +kernel
theorem dX8_lastTurn_7 : decode cX8_lastTurn 7 = .ok (.bipush 7, 2) := by decide +kernel
theorem dX8_lastTurn_9 : decode cX8_lastTurn 9 = .ok (.if_icmp .ge 136, 3) := by decide +kernel
theorem dX8_lastTurn_12 : decode cX8_lastTurn 12 = .ok (.sipush 9999, 3) := by decide +kernel
theorem dX8_lastTurn_15 : decode cX8_lastTurn 15 = .ok (.istore 5, 2) := by decide +kernel
theorem dX8_lastTurn_17 : decode cX8_lastTurn 17 = .ok (.iconst 0, 1) := by decide +kernel
theorem dX8_lastTurn_18 : decode cX8_lastTurn 18 = .ok (.istore 6, 2) := by decide +kernel
theorem dX8_lastTurn_20 : decode cX8_lastTurn 20 = .ok (.iload 6, 2) := by decide +kernel
theorem dX8_lastTurn_22 : decode cX8_lastTurn 22 = .ok (.bipush 9, 2) := by decide +kernel
theorem dX8_lastTurn_24 : decode cX8_lastTurn 24 = .ok (.if_icmp .ge 94, 3) := by decide +kernel
theorem dX8_lastTurn_27 : decode cX8_lastTurn 27 = .ok (.aload_n 0, 1) := by decide +kernel
theorem dX8_lastTurn_28 : decode cX8_lastTurn 28 = .ok (.iload 4, 2) := by decide +kernel
theorem dX8_lastTurn_30 : decode cX8_lastTurn 30 = .ok (.bipush 7, 2) := by decide +kernel
theorem dX8_lastTurn_32 : decode cX8_lastTurn 32 = .ok (.iload 6, 2) := by decide +kernel
theorem dX8_lastTurn_34 : decode cX8_lastTurn 34 = .ok (.imul, 1) := by decide +kernel
theorem dX8_lastTurn_35 : decode cX8_lastTurn 35 = .ok (.iadd, 1) := by decide +kernel
theorem dX8_lastTurn_36 : decode cX8_lastTurn 36 = .ok (.invokevirtual 219, 3) := by decide +kernel
theorem dX8_lastTurn_39 : decode cX8_lastTurn 39 = .ok (.istore 7, 2) := by decide +kernel
theorem dX8_lastTurn_41 : decode cX8_lastTurn 41 = .ok (.iload 7, 2) := by decide +kernel
theorem dX8_lastTurn_43 : decode cX8_lastTurn 43 = .ok (.ifCond .eq 48, 3) := by decide +kernel
theorem dX8_lastTurn_46 : decode cX8_lastTurn 46 = .ok (.aload_n 0, 1) := by decide +kernel
theorem dX8_lastTurn_47 : decode cX8_lastTurn 47 = .ok (.iload_n 2, 1) := by decide +kernel
theorem dX8_lastTurn_48 : decode cX8_lastTurn 48 = .ok (.ifCond .ge 14, 3) := by decide +kernel
theorem dX8_lastTurn_51 : decode cX8_lastTurn 51 = .ok (.iload 4, 2) := by decide +kernel
theorem dX8_lastTurn_53 : decode cX8_lastTurn 53 = .ok (.bipush 7, 2) := by decide +kernel
theorem dX8_lastTurn_55 : decode cX8_lastTurn 55 = .ok (.iload 6, 2) := by decide +kernel
theorem dX8_lastTurn_57 : decode cX8_lastTurn 57 = .ok (.imul, 1) := by decide +kernel
theorem dX8_lastTurn_58 : decode cX8_lastTurn 58 = .ok (.iadd, 1) := by decide +kernel
theorem dX8_lastTurn_59 : decode cX8_lastTurn 59 = .ok (.goto 16, 3) := by decide +kernel
theorem dX8_lastTurn_62 : decode cX8_lastTurn 62 = .ok (.iload_n 2, 1) := by decide +kernel
theorem dX8_lastTurn_63 : decode cX8_lastTurn 63 = .ok (.bipush 63, 2) := by decide +kernel
theorem dX8_lastTurn_65 : decode cX8_lastTurn 65 = .ok (.iload 4, 2) := by decide +kernel
theorem dX8_lastTurn_67 : decode cX8_lastTurn 67 = .ok (.bipush 7, 2) := by decide +kernel
theorem dX8_lastTurn_69 : decode cX8_lastTurn 69 = .ok (.iload 6, 2) := by decide +kernel
theorem dX8_lastTurn_71 : decode cX8_lastTurn 71 = .ok (.imul, 1) := by decide +kernel
theorem dX8_lastTurn_72 : decode cX8_lastTurn 72 = .ok (.iadd, 1) := by decide +kernel
theorem dX8_lastTurn_73 : decode cX8_lastTurn 73 = .ok (.imul, 1) := by decide +kernel
theorem dX8_lastTurn_74 : decode cX8_lastTurn 74 = .ok (.iadd, 1) := by decide +kernel
theorem dX8_lastTurn_75 : decode cX8_lastTurn 75 = .ok (.iload_n 1, 1) := by decide +kernel
theorem dX8_lastTurn_76 : decode cX8_lastTurn 76 = .ok (.iload_n 2, 1) := by decide +kernel
theorem dX8_lastTurn_77 : decode cX8_lastTurn 77 = .ok (.ifCond .ge 7, 3) := by decide +kernel
theorem dX8_lastTurn_80 : decode cX8_lastTurn 80 = .ok (.iconst 1, 1) := by decide +kernel
theorem dX8_lastTurn_81 : decode cX8_lastTurn 81 = .ok (.goto 4, 3) := by decide +kernel
theorem dX8_lastTurn_84 : decode cX8_lastTurn 84 = .ok (.iconst 2, 1) := by decide +kernel
theorem dX8_lastTurn_85 : decode cX8_lastTurn 85 = .ok (.invokevirtual 222, 3) := by decide +kernel
theorem dX8_lastTurn_88 : decode cX8_lastTurn 88 = .ok (.goto 6, 3) := by decide +kernel
theorem dX8_lastTurn_91 : decode cX8_lastTurn 91 = .ok (.sipush 9999, 3) := by decide +kernel
theorem dX8_lastTurn_94 : decode cX8_lastTurn 94 = .ok (.istore 8, 2) := by decide +kernel
theorem dX8_lastTurn_96 : decode cX8_lastTurn 96 = .ok (.iload 8, 2) := by decide +kernel
theorem dX8_lastTurn_98 : decode cX8_lastTurn 98 = .ok (.iload 5, 2) := by decide +kernel
theorem dX8_lastTurn_100 : decode cX8_lastTurn 100 = .ok (.if_icmp .ge 8, 3) := by decide +kernel
theorem dX8_lastTurn_103 : decode cX8_lastTurn 103 = .ok (.iload 8, 2) := by decide +kernel
theorem dX8_lastTurn_105 : decode cX8_lastTurn 105 = .ok (.goto 5, 3) := by decide +kernel
theorem dX8_lastTurn_108 : decode cX8_lastTurn 108 = .ok (.iload 5, 2) := by decide +kernel
theorem dX8_lastTurn_110 : decode cX8_lastTurn 110 = .ok (.istore 5, 2) := by decide +kernel
theorem dX8_lastTurn_112 : decode cX8_lastTurn 112 = .ok (.iinc 6 1, 3) := by decide +kernel
theorem dX8_lastTurn_115 : decode cX8_lastTurn 115 = .ok (.goto (-95), 3) := by decide +kernel
theorem dX8_lastTurn_118 : decode cX8_lastTurn 118 = .ok (.iload 5, 2) := by decide +kernel
theorem dX8_lastTurn_120 : decode cX8_lastTurn 120 = .ok (.sipush 9999, 3) := by decide +kernel
theorem dX8_lastTurn_123 : decode cX8_lastTurn 123 = .ok (.if_icmp .ge 14, 3) := by decide +kernel
theorem dX8_lastTurn_126 : decode cX8_lastTurn 126 = .ok (.iload 5, 2) := by decide +kernel
theorem dX8_lastTurn_128 : decode cX8_lastTurn 128 = .ok (.iload_n 3, 1) := by decide +kernel
theorem dX8_lastTurn_129 : decode cX8_lastTurn 129 = .ok (.if_icmp .le 8, 3) := by decide +kernel
theorem dX8_lastTurn_132 : decode cX8_lastTurn 132 = .ok (.iload 5, 2) := by decide +kernel
theorem dX8_lastTurn_134 : decode cX8_lastTurn 134 = .ok (.goto 4, 3) := by decide +kernel
theorem dX8_lastTurn_137 : decode cX8_lastTurn 137 = .ok (.iload_n 3, 1) := by decide +kernel
theorem dX8_lastTurn_138 : decode cX8_lastTurn 138 = .ok (.istore_n 3, 1) := by decide +kernel
theorem dX8_lastTurn_139 : decode cX8_lastTurn 139 = .ok (.iinc 4 1, 3) := by decide +kernel
theorem dX8_lastTurn_142 : decode cX8_lastTurn 142 = .ok (.goto (-137), 3) := by decide +kernel
theorem dX8_lastTurn_145 : decode cX8_lastTurn 145 = .ok (.iload_n 3, 1) := by decide +kernel
theorem dX8_lastTurn_146 : decode cX8_lastTurn 146 = .ok (.ireturn, 1) := by decide +kernel
theorem dX8_evening_0 : decode cX8_evening 0 = .ok (.iload_n 1, 1) := by decide +kernel
theorem dX8_evening_1 : decode cX8_evening 1 = .ok (.iconst 0, 1) := by decide +kernel
theorem dX8_evening_2 : decode cX8_evening 2 = .ok (.bipush 99, 2) := by decide +kernel
theorem dX8_evening_4 : decode cX8_evening 4 = .ok (.invokestatic 66, 3) := by decide +kernel
theorem dX8_evening_7 : decode cX8_evening 7 = .ok (.ifCond .eq 12, 3) := by decide +kernel
theorem dX8_evening_10 : decode cX8_evening 10 = .ok (.iload_n 2, 1) := by decide +kernel
theorem dX8_evening_11 : decode cX8_evening 11 = .ok (.iconst 0, 1) := by decide +kernel
theorem dX8_evening_12 : decode cX8_evening 12 = .ok (.iconst 2, 1) := by decide +kernel
theorem dX8_evening_13 : decode cX8_evening 13 = .ok (.invokestatic 66, 3) := by decide +kernel
theorem dX8_evening_16 : decode cX8_evening 16 = .ok (.ifCond .ne 5, 3) := by decide +kernel
theorem dX8_evening_19 : decode cX8_evening 19 = .ok (.iconst (-1), 1) := by decide +kernel
theorem dX8_evening_20 : decode cX8_evening 20 = .ok (.ireturn, 1) := by decide +kernel
theorem dX8_evening_21 : decode cX8_evening 21 = .ok (.aload_n 0, 1) := by decide +kernel
theorem dX8_evening_22 : decode cX8_evening 22 = .ok (.getfield 63, 3) := by decide +kernel
theorem dX8_evening_25 : decode cX8_evening 25 = .ok (.ifCond .ne 6, 3) := by decide +kernel
theorem dX8_evening_28 : decode cX8_evening 28 = .ok (.bipush (-4), 2) := by decide +kernel
theorem dX8_evening_30 : decode cX8_evening 30 = .ok (.ireturn, 1) := by decide +kernel
theorem dX8_evening_31 : decode cX8_evening 31 = .ok (.iload_n 2, 1) := by decide +kernel
theorem dX8_evening_32 : decode cX8_evening 32 = .ok (.iconst 2, 1) := by decide +kernel
theorem dX8_evening_33 : decode cX8_evening 33 = .ok (.if_icmp .ge 25, 3) := by decide +kernel
theorem dX8_evening_36 : decode cX8_evening 36 = .ok (.iload_n 2, 1) := by decide +kernel
theorem dX8_evening_37 : decode cX8_evening 37 = .ok (.ifCond .ne 14, 3) := by decide +kernel
theorem dX8_evening_40 : decode cX8_evening 40 = .ok (.aload_n 0, 1) := by decide +kernel
theorem dX8_evening_41 : decode cX8_evening 41 = .ok (.aload_n 0, 1) := by decide +kernel
theorem dX8_evening_42 : decode cX8_evening 42 = .ok (.getfield 38, 3) := by decide +kernel
theorem dX8_evening_45 : decode cX8_evening 45 = .ok (.invokevirtual 167, 3) := by decide +kernel
theorem dX8_evening_48 : decode cX8_evening 48 = .ok (.goto 9, 3) := by decide +kernel
theorem dX8_evening_51 : decode cX8_evening 51 = .ok (.aload_n 0, 1) := by decide +kernel
theorem dX8_evening_52 : decode cX8_evening 52 = .ok (.iload_n 1, 1) := by decide +kernel
theorem dX8_evening_53 : decode cX8_evening 53 = .ok (.iconst (-1), 1) := by decide +kernel
theorem dX8_evening_54 : decode cX8_evening 54 = .ok (.invokevirtual 226, 3) := by decide +kernel
theorem dX8_evening_57 : decode cX8_evening 57 = .ok (.ireturn, 1) := by decide +kernel
theorem dX8_evening_58 : decode cX8_evening 58 = .ok (.iconst (-1), 1) := by decide +kernel
theorem dX8_evening_59 : decode cX8_evening 59 = .ok (.istore_n 3, 1) := by decide +kernel
theorem dX8_evening_60 : decode cX8_evening 60 = .ok (.iconst 0, 1) := by decide +kernel
theorem dX8_evening_61 : decode cX8_evening 61 = .ok (.istore 4, 2) := by decide +kernel
theorem dX8_evening_63 : decode cX8_evening 63 = .ok (.iload 4, 2) := by decide +kernel
theorem dX8_evening_65 : decode cX8_evening 65 = .ok (.bipush 7, 2) := by decide +kernel
theorem dX8_evening_67 : decode cX8_evening 67 = .ok (.if_icmp .ge 103, 3) := by decide +kernel
theorem dX8_evening_70 : decode cX8_evening 70 = .ok (.sipush 9999, 3) := by decide +kernel
theorem dX8_evening_73 : decode cX8_evening 73 = .ok (.istore 5, 2) := by decide +kernel
theorem dX8_evening_75 : decode cX8_evening 75 = .ok (.iconst 0, 1) := by decide +kernel
theorem dX8_evening_76 : decode cX8_evening 76 = .ok (.istore 6, 2) := by decide +kernel
theorem dX8_evening_78 : decode cX8_evening 78 = .ok (.iload 6, 2) := by decide +kernel
theorem dX8_evening_80 : decode cX8_evening 80 = .ok (.bipush 9, 2) := by decide +kernel
theorem dX8_evening_82 : decode cX8_evening 82 = .ok (.if_icmp .ge 61, 3) := by decide +kernel
theorem dX8_evening_85 : decode cX8_evening 85 = .ok (.aload_n 0, 1) := by decide +kernel
theorem dX8_evening_86 : decode cX8_evening 86 = .ok (.iload 4, 2) := by decide +kernel
theorem dX8_evening_88 : decode cX8_evening 88 = .ok (.bipush 7, 2) := by decide +kernel
theorem dX8_evening_90 : decode cX8_evening 90 = .ok (.iload 6, 2) := by decide +kernel
theorem dX8_evening_92 : decode cX8_evening 92 = .ok (.imul, 1) := by decide +kernel
theorem dX8_evening_93 : decode cX8_evening 93 = .ok (.iadd, 1) := by decide +kernel
theorem dX8_evening_94 : decode cX8_evening 94 = .ok (.invokevirtual 219, 3) := by decide +kernel
theorem dX8_evening_97 : decode cX8_evening 97 = .ok (.ifCond .eq 19, 3) := by decide +kernel
theorem dX8_evening_100 : decode cX8_evening 100 = .ok (.aload_n 0, 1) := by decide +kernel
theorem dX8_evening_101 : decode cX8_evening 101 = .ok (.iload_n 1, 1) := by decide +kernel
theorem dX8_evening_102 : decode cX8_evening 102 = .ok (.iload 4, 2) := by decide +kernel
theorem dX8_evening_104 : decode cX8_evening 104 = .ok (.bipush 7, 2) := by decide +kernel
theorem dX8_evening_106 : decode cX8_evening 106 = .ok (.iload 6, 2) := by decide +kernel
theorem dX8_evening_108 : decode cX8_evening 108 = .ok (.imul, 1) := by decide +kernel
theorem dX8_evening_109 : decode cX8_evening 109 = .ok (.iadd, 1) := by decide +kernel
theorem dX8_evening_110 : decode cX8_evening 110 = .ok (.invokevirtual 226, 3) := by decide +kernel
theorem dX8_evening_113 : decode cX8_evening 113 = .ok (.goto 6, 3) := by decide +kernel
theorem dX8_evening_116 : decode cX8_evening 116 = .ok (.sipush 9999, 3) := by decide +kernel
theorem dX8_evening_119 : decode cX8_evening 119 = .ok (.istore 7, 2) := by decide +kernel
theorem dX8_evening_121 : decode cX8_evening 121 = .ok (.iload 7, 2) := by decide +kernel
theorem dX8_evening_123 : decode cX8_evening 123 = .ok (.iload 5, 2) := by decide +kernel
theorem dX8_evening_125 : decode cX8_evening 125 = .ok (.if_icmp .ge 8, 3) := by decide +kernel
theorem dX8_evening_128 : decode cX8_evening 128 = .ok (.iload 7, 2) := by decide +kernel
theorem dX8_evening_130 : decode cX8_evening 130 = .ok (.goto 5, 3) := by decide +kernel
theorem dX8_evening_133 : decode cX8_evening 133 = .ok (.iload 5, 2) := by decide +kernel
theorem dX8_evening_135 : decode cX8_evening 135 = .ok (.istore 5, 2) := by decide +kernel
theorem dX8_evening_137 : decode cX8_evening 137 = .ok (.iinc 6 1, 3) := by decide +kernel
theorem dX8_evening_140 : decode cX8_evening 140 = .ok (.goto (-62), 3) := by decide +kernel
theorem dX8_evening_143 : decode cX8_evening 143 = .ok (.iload 5, 2) := by decide +kernel
theorem dX8_evening_145 : decode cX8_evening 145 = .ok (.sipush 9999, 3) := by decide +kernel
theorem dX8_evening_148 : decode cX8_evening 148 = .ok (.if_icmp .ge 14, 3) := by decide +kernel
theorem dX8_evening_151 : decode cX8_evening 151 = .ok (.iload 5, 2) := by decide +kernel
theorem dX8_evening_153 : decode cX8_evening 153 = .ok (.iload_n 3, 1) := by decide +kernel
theorem dX8_evening_154 : decode cX8_evening 154 = .ok (.if_icmp .le 8, 3) := by decide +kernel
theorem dX8_evening_157 : decode cX8_evening 157 = .ok (.iload 5, 2) := by decide +kernel
theorem dX8_evening_159 : decode cX8_evening 159 = .ok (.goto 4, 3) := by decide +kernel
theorem dX8_evening_162 : decode cX8_evening 162 = .ok (.iload_n 3, 1) := by decide +kernel
theorem dX8_evening_163 : decode cX8_evening 163 = .ok (.istore_n 3, 1) := by decide +kernel
theorem dX8_evening_164 : decode cX8_evening 164 = .ok (.iinc 4 1, 3) := by decide +kernel
theorem dX8_evening_167 : decode cX8_evening 167 = .ok (.goto (-104), 3) := by decide +kernel
theorem dX8_evening_170 : decode cX8_evening 170 = .ok (.iload_n 3, 1) := by decide +kernel
theorem dX8_evening_171 : decode cX8_evening 171 = .ok (.ireturn, 1) := by decide +kernel
theorem dX8_tellsPart_0 : decode cX8_tellsPart 0 = .ok (.lload_n 1, 1) := by decide +kernel
theorem dX8_tellsPart_1 : decode cX8_tellsPart 1 = .ok (.lstore 5, 2) := by decide +kernel
theorem dX8_tellsPart_3 : decode cX8_tellsPart 3 = .ok (.lload_n 3, 1) := by decide +kernel
theorem dX8_tellsPart_4 : decode cX8_tellsPart 4 = .ok (.lstore 7, 2) := by decide +kernel
theorem dX8_tellsPart_6 : decode cX8_tellsPart 6 = .ok (.lload 7, 2) := by decide +kernel
theorem dX8_tellsPart_8 : decode cX8_tellsPart 8 = .ok (.lconst 0, 1) := by decide +kernel
theorem dX8_tellsPart_9 : decode cX8_tellsPart 9 = .ok (.lcmp, 1) := by decide +kernel
theorem dX8_tellsPart_10 : decode cX8_tellsPart 10 = .ok (.ifCond .le 21, 3) := by decide +kernel
theorem dX8_tellsPart_13 : decode cX8_tellsPart 13 = .ok (.lload 5, 2) := by decide +kernel
theorem dX8_tellsPart_15 : decode cX8_tellsPart 15 = .ok (.lload 7, 2) := by decide +kernel
theorem dX8_tellsPart_17 : decode cX8_tellsPart 17 = .ok (.lrem, 1) := by decide +kernel
theorem dX8_tellsPart_18 : decode cX8_tellsPart 18 = .ok (.lstore 9, 2) := by decide +kernel
theorem dX8_tellsPart_20 : decode cX8_tellsPart 20 = .ok (.lload 7, 2) := by decide +kernel
theorem dX8_tellsPart_22 : decode cX8_tellsPart 22 = .ok (.lstore 5, 2) := by decide +kernel
theorem dX8_tellsPart_24 : decode cX8_tellsPart 24 = .ok (.lload 9, 2) := by decide +kernel
theorem dX8_tellsPart_26 : decode cX8_tellsPart 26 = .ok (.lstore 7, 2) := by decide +kernel
theorem dX8_tellsPart_28 : decode cX8_tellsPart 28 = .ok (.goto (-22), 3) := by decide +kernel
theorem dX8_tellsPart_31 : decode cX8_tellsPart 31 = .ok (.aload_n 0, 1) := by decide +kernel
theorem dX8_tellsPart_32 : decode cX8_tellsPart 32 = .ok (.lload_n 1, 1) := by decide +kernel
theorem dX8_tellsPart_33 : decode cX8_tellsPart 33 = .ok (.lload 5, 2) := by decide +kernel
theorem dX8_tellsPart_35 : decode cX8_tellsPart 35 = .ok (.ldiv, 1) := by decide +kernel
theorem dX8_tellsPart_36 : decode cX8_tellsPart 36 = .ok (.putfield 207, 3) := by decide +kernel
theorem dX8_tellsPart_39 : decode cX8_tellsPart 39 = .ok (.aload_n 0, 1) := by decide +kernel
theorem dX8_tellsPart_40 : decode cX8_tellsPart 40 = .ok (.lload_n 3, 1) := by decide +kernel
theorem dX8_tellsPart_41 : decode cX8_tellsPart 41 = .ok (.lload 5, 2) := by decide +kernel
theorem dX8_tellsPart_43 : decode cX8_tellsPart 43 = .ok (.ldiv, 1) := by decide +kernel
theorem dX8_tellsPart_44 : decode cX8_tellsPart 44 = .ok (.putfield 25, 3) := by decide +kernel
theorem dX8_tellsPart_47 : decode cX8_tellsPart 47 = .ok (.return_, 1) := by decide +kernel
theorem dX8_partOf_0 : decode cX8_partOf 0 = .ok (.iload_n 0, 1) := by decide +kernel
theorem dX8_partOf_1 : decode cX8_partOf 1 = .ok (.iload_n 1, 1) := by decide +kernel
theorem dX8_partOf_2 : decode cX8_partOf 2 = .ok (.if_icmp .ge 8, 3) := by decide +kernel
theorem dX8_partOf_5 : decode cX8_partOf 5 = .ok (.iload_n 2, 1) := by decide +kernel
theorem dX8_partOf_6 : decode cX8_partOf 6 = .ok (.i2l, 1) := by decide +kernel
theorem dX8_partOf_7 : decode cX8_partOf 7 = .ok (.goto 6, 3) := by decide +kernel
theorem dX8_partOf_10 : decode cX8_partOf 10 = .ok (.ldc2_w 229, 3) := by decide +kernel
theorem dX8_partOf_13 : decode cX8_partOf 13 = .ok (.lstore_n 3, 1) := by decide +kernel
theorem dX8_partOf_14 : decode cX8_partOf 14 = .ok (.iconst 0, 1) := by decide +kernel
theorem dX8_partOf_15 : decode cX8_partOf 15 = .ok (.istore 5, 2) := by decide +kernel
theorem dX8_partOf_17 : decode cX8_partOf 17 = .ok (.iload 5, 2) := by decide +kernel
theorem dX8_partOf_19 : decode cX8_partOf 19 = .ok (.iload_n 1, 1) := by decide +kernel
theorem dX8_partOf_20 : decode cX8_partOf 20 = .ok (.if_icmp .ge 40, 3) := by decide +kernel
theorem dX8_partOf_23 : decode cX8_partOf 23 = .ok (.lload_n 3, 1) := by decide +kernel
theorem dX8_partOf_24 : decode cX8_partOf 24 = .ok (.iload 5, 2) := by decide +kernel
theorem dX8_partOf_26 : decode cX8_partOf 26 = .ok (.iload_n 0, 1) := by decide +kernel
theorem dX8_partOf_27 : decode cX8_partOf 27 = .ok (.if_icmp .ge 12, 3) := by decide +kernel
theorem dX8_partOf_30 : decode cX8_partOf 30 = .ok (.ldc2_w 229, 3) := by decide +kernel
theorem dX8_partOf_33 : decode cX8_partOf 33 = .ok (.iload_n 2, 1) := by decide +kernel
theorem dX8_partOf_34 : decode cX8_partOf 34 = .ok (.i2l, 1) := by decide +kernel
theorem dX8_partOf_35 : decode cX8_partOf 35 = .ok (.lsub, 1) := by decide +kernel
theorem dX8_partOf_36 : decode cX8_partOf 36 = .ok (.goto 16, 3) := by decide +kernel
theorem dX8_partOf_39 : decode cX8_partOf 39 = .ok (.iload 5, 2) := by decide +kernel
theorem dX8_partOf_41 : decode cX8_partOf 41 = .ok (.iload_n 0, 1) := by decide +kernel
theorem dX8_partOf_42 : decode cX8_partOf 42 = .ok (.if_icmp .le 9, 3) := by decide +kernel
theorem dX8_partOf_45 : decode cX8_partOf 45 = .ok (.ldc2_w 229, 3) := by decide +kernel
theorem dX8_partOf_48 : decode cX8_partOf 48 = .ok (.goto 4, 3) := by decide +kernel
theorem dX8_partOf_51 : decode cX8_partOf 51 = .ok (.lconst 1, 1) := by decide +kernel
theorem dX8_partOf_52 : decode cX8_partOf 52 = .ok (.lmul, 1) := by decide +kernel
theorem dX8_partOf_53 : decode cX8_partOf 53 = .ok (.lstore_n 3, 1) := by decide +kernel
theorem dX8_partOf_54 : decode cX8_partOf 54 = .ok (.iinc 5 1, 3) := by decide +kernel
theorem dX8_partOf_57 : decode cX8_partOf 57 = .ok (.goto (-40), 3) := by decide +kernel
theorem dX8_partOf_60 : decode cX8_partOf 60 = .ok (.iload_n 0, 1) := by decide +kernel
theorem dX8_partOf_61 : decode cX8_partOf 61 = .ok (.iload_n 1, 1) := by decide +kernel
theorem dX8_partOf_62 : decode cX8_partOf 62 = .ok (.if_icmp .ge 7, 3) := by decide +kernel
theorem dX8_partOf_65 : decode cX8_partOf 65 = .ok (.lload_n 3, 1) := by decide +kernel
theorem dX8_partOf_66 : decode cX8_partOf 66 = .ok (.goto 8, 3) := by decide +kernel
theorem dX8_partOf_69 : decode cX8_partOf 69 = .ok (.lload_n 3, 1) := by decide +kernel
theorem dX8_partOf_70 : decode cX8_partOf 70 = .ok (.ldc2_w 229, 3) := by decide +kernel
theorem dX8_partOf_73 : decode cX8_partOf 73 = .ok (.ldiv, 1) := by decide +kernel
theorem dX8_partOf_74 : decode cX8_partOf 74 = .ok (.lreturn, 1) := by decide +kernel
theorem dX8_whole_0 : decode cX8_whole 0 = .ok (.lconst 1, 1) := by decide +kernel
theorem dX8_whole_1 : decode cX8_whole 1 = .ok (.lstore_n 1, 1) := by decide +kernel
theorem dX8_whole_2 : decode cX8_whole 2 = .ok (.iconst 0, 1) := by decide +kernel
theorem dX8_whole_3 : decode cX8_whole 3 = .ok (.istore_n 3, 1) := by decide +kernel
theorem dX8_whole_4 : decode cX8_whole 4 = .ok (.iload_n 3, 1) := by decide +kernel
theorem dX8_whole_5 : decode cX8_whole 5 = .ok (.iload_n 0, 1) := by decide +kernel
theorem dX8_whole_6 : decode cX8_whole 6 = .ok (.if_icmp .ge 15, 3) := by decide +kernel
theorem dX8_whole_9 : decode cX8_whole 9 = .ok (.lload_n 1, 1) := by decide +kernel
theorem dX8_whole_10 : decode cX8_whole 10 = .ok (.ldc2_w 229, 3) := by decide +kernel
theorem dX8_whole_13 : decode cX8_whole 13 = .ok (.lmul, 1) := by decide +kernel
theorem dX8_whole_14 : decode cX8_whole 14 = .ok (.lstore_n 1, 1) := by decide +kernel
theorem dX8_whole_15 : decode cX8_whole 15 = .ok (.iinc 3 1, 3) := by decide +kernel
theorem dX8_whole_18 : decode cX8_whole 18 = .ok (.goto (-14), 3) := by decide +kernel
theorem dX8_whole_21 : decode cX8_whole 21 = .ok (.lload_n 1, 1) := by decide +kernel
theorem dX8_whole_22 : decode cX8_whole 22 = .ok (.lreturn, 1) := by decide +kernel
theorem dX8_odds_0 : decode cX8_odds 0 = .ok (.iload_n 1, 1) := by decide +kernel
theorem dX8_odds_1 : decode cX8_odds 1 = .ok (.iconst 0, 1) := by decide +kernel
theorem dX8_odds_2 : decode cX8_odds 2 = .ok (.sipush 7992, 3) := by decide +kernel
theorem dX8_odds_5 : decode cX8_odds 5 = .ok (.invokestatic 66, 3) := by decide +kernel
theorem dX8_odds_8 : decode cX8_odds 8 = .ok (.ifCond .eq 23, 3) := by decide +kernel
theorem dX8_odds_11 : decode cX8_odds 11 = .ok (.iload_n 2, 1) := by decide +kernel
theorem dX8_odds_12 : decode cX8_odds 12 = .ok (.iconst 0, 1) := by decide +kernel
theorem dX8_odds_13 : decode cX8_odds 13 = .ok (.bipush 6, 2) := by decide +kernel
theorem dX8_odds_15 : decode cX8_odds 15 = .ok (.invokestatic 66, 3) := by decide +kernel
theorem dX8_odds_18 : decode cX8_odds 18 = .ok (.ifCond .eq 13, 3) := by decide +kernel
theorem dX8_odds_21 : decode cX8_odds 21 = .ok (.iload_n 3, 1) := by decide +kernel
theorem dX8_odds_22 : decode cX8_odds 22 = .ok (.iconst 0, 1) := by decide +kernel
theorem dX8_odds_23 : decode cX8_odds 23 = .ok (.bipush 12, 2) := by decide +kernel
theorem dX8_odds_25 : decode cX8_odds 25 = .ok (.invokestatic 66, 3) := by decide +kernel
theorem dX8_odds_28 : decode cX8_odds 28 = .ok (.ifCond .ne 5, 3) := by decide +kernel
theorem dX8_odds_31 : decode cX8_odds 31 = .ok (.iconst (-1), 1) := by decide +kernel
theorem dX8_odds_32 : decode cX8_odds 32 = .ok (.ireturn, 1) := by decide +kernel
theorem dX8_odds_33 : decode cX8_odds 33 = .ok (.aload_n 0, 1) := by decide +kernel
theorem dX8_odds_34 : decode cX8_odds 34 = .ok (.getfield 63, 3) := by decide +kernel
theorem dX8_odds_37 : decode cX8_odds 37 = .ok (.ifCond .ne 6, 3) := by decide +kernel
theorem dX8_odds_40 : decode cX8_odds 40 = .ok (.bipush (-4), 2) := by decide +kernel
theorem dX8_odds_42 : decode cX8_odds 42 = .ok (.ireturn, 1) := by decide +kernel
theorem dX8_odds_43 : decode cX8_odds 43 = .ok (.aload_n 0, 1) := by decide +kernel
theorem dX8_odds_44 : decode cX8_odds 44 = .ok (.invokevirtual 184, 3) := by decide +kernel
theorem dX8_odds_47 : decode cX8_odds 47 = .ok (.lconst 0, 1) := by decide +kernel
theorem dX8_odds_48 : decode cX8_odds 48 = .ok (.lstore 4, 2) := by decide +kernel
theorem dX8_odds_50 : decode cX8_odds 50 = .ok (.iconst 0, 1) := by decide +kernel
theorem dX8_odds_51 : decode cX8_odds 51 = .ok (.istore 6, 2) := by decide +kernel
theorem dX8_odds_53 : decode cX8_odds 53 = .ok (.iload 6, 2) := by decide +kernel
theorem dX8_odds_55 : decode cX8_odds 55 = .ok (.iload_n 2, 1) := by decide +kernel
theorem dX8_odds_56 : decode cX8_odds 56 = .ok (.if_icmp .gt 46, 3) := by decide +kernel
theorem dX8_odds_59 : decode cX8_odds 59 = .ok (.lload 4, 2) := by decide +kernel
theorem dX8_odds_61 : decode cX8_odds 61 = .ok (.aload_n 0, 1) := by decide +kernel
theorem dX8_odds_62 : decode cX8_odds 62 = .ok (.aload_n 0, 1) := by decide +kernel
theorem dX8_odds_63 : decode cX8_odds 63 = .ok (.getfield 41, 3) := by decide +kernel
theorem dX8_odds_66 : decode cX8_odds 66 = .ok (.invokevirtual 167, 3) := by decide +kernel
theorem dX8_odds_69 : decode cX8_odds 69 = .ok (.iload_n 1, 1) := by decide +kernel
theorem dX8_odds_70 : decode cX8_odds 70 = .ok (.if_icmp .lt 13, 3) := by decide +kernel
theorem dX8_odds_73 : decode cX8_odds 73 = .ok (.iload 6, 2) := by decide +kernel
theorem dX8_odds_75 : decode cX8_odds 75 = .ok (.iload_n 2, 1) := by decide +kernel
theorem dX8_odds_76 : decode cX8_odds 76 = .ok (.iload_n 3, 1) := by decide +kernel
theorem dX8_odds_77 : decode cX8_odds 77 = .ok (.invokestatic 231, 3) := by decide +kernel
theorem dX8_odds_80 : decode cX8_odds 80 = .ok (.goto 4, 3) := by decide +kernel
theorem dX8_odds_83 : decode cX8_odds 83 = .ok (.lconst 0, 1) := by decide +kernel
theorem dX8_odds_84 : decode cX8_odds 84 = .ok (.ladd, 1) := by decide +kernel
theorem dX8_odds_85 : decode cX8_odds 85 = .ok (.lstore 4, 2) := by decide +kernel
theorem dX8_odds_87 : decode cX8_odds 87 = .ok (.aload_n 0, 1) := by decide +kernel
theorem dX8_odds_88 : decode cX8_odds 88 = .ok (.aload_n 0, 1) := by decide +kernel
theorem dX8_odds_89 : decode cX8_odds 89 = .ok (.getfield 41, 3) := by decide +kernel
theorem dX8_odds_92 : decode cX8_odds 92 = .ok (.invokevirtual 177, 3) := by decide +kernel
theorem dX8_odds_95 : decode cX8_odds 95 = .ok (.pop, 1) := by decide +kernel
theorem dX8_odds_96 : decode cX8_odds 96 = .ok (.iinc 6 1, 3) := by decide +kernel
theorem dX8_odds_99 : decode cX8_odds 99 = .ok (.goto (-46), 3) := by decide +kernel
theorem dX8_odds_102 : decode cX8_odds 102 = .ok (.aload_n 0, 1) := by decide +kernel
theorem dX8_odds_103 : decode cX8_odds 103 = .ok (.lload 4, 2) := by decide +kernel
theorem dX8_odds_105 : decode cX8_odds 105 = .ok (.iload_n 2, 1) := by decide +kernel
theorem dX8_odds_106 : decode cX8_odds 106 = .ok (.invokestatic 235, 3) := by decide +kernel
theorem dX8_odds_109 : decode cX8_odds 109 = .ok (.invokevirtual 239, 3) := by decide +kernel
theorem dX8_odds_112 : decode cX8_odds 112 = .ok (.iconst 1, 1) := by decide +kernel
theorem dX8_odds_113 : decode cX8_odds 113 = .ok (.ireturn, 1) := by decide +kernel
theorem dX8_mid_0 : decode cX8_mid 0 = .ok (.iload_n 1, 1) := by decide +kernel
theorem dX8_mid_1 : decode cX8_mid 1 = .ok (.iconst 0, 1) := by decide +kernel
theorem dX8_mid_2 : decode cX8_mid 2 = .ok (.bipush 6, 2) := by decide +kernel
theorem dX8_mid_4 : decode cX8_mid 4 = .ok (.invokestatic 66, 3) := by decide +kernel
theorem dX8_mid_7 : decode cX8_mid 7 = .ok (.ifCond .eq 13, 3) := by decide +kernel
theorem dX8_mid_10 : decode cX8_mid 10 = .ok (.iload_n 2, 1) := by decide +kernel
theorem dX8_mid_11 : decode cX8_mid 11 = .ok (.iconst 0, 1) := by decide +kernel
theorem dX8_mid_12 : decode cX8_mid 12 = .ok (.bipush 12, 2) := by decide +kernel
theorem dX8_mid_14 : decode cX8_mid 14 = .ok (.invokestatic 66, 3) := by decide +kernel
theorem dX8_mid_17 : decode cX8_mid 17 = .ok (.ifCond .ne 5, 3) := by decide +kernel
theorem dX8_mid_20 : decode cX8_mid 20 = .ok (.iconst (-1), 1) := by decide +kernel
theorem dX8_mid_21 : decode cX8_mid 21 = .ok (.ireturn, 1) := by decide +kernel
theorem dX8_mid_22 : decode cX8_mid 22 = .ok (.aload_n 0, 1) := by decide +kernel
theorem dX8_mid_23 : decode cX8_mid 23 = .ok (.getfield 63, 3) := by decide +kernel
theorem dX8_mid_26 : decode cX8_mid 26 = .ok (.ifCond .ne 6, 3) := by decide +kernel
theorem dX8_mid_29 : decode cX8_mid 29 = .ok (.bipush (-4), 2) := by decide +kernel
theorem dX8_mid_31 : decode cX8_mid 31 = .ok (.ireturn, 1) := by decide +kernel
theorem dX8_mid_32 : decode cX8_mid 32 = .ok (.aload_n 0, 1) := by decide +kernel
theorem dX8_mid_33 : decode cX8_mid 33 = .ok (.invokevirtual 184, 3) := by decide +kernel
theorem dX8_mid_36 : decode cX8_mid 36 = .ok (.lconst 0, 1) := by decide +kernel
theorem dX8_mid_37 : decode cX8_mid 37 = .ok (.lstore_n 3, 1) := by decide +kernel
theorem dX8_mid_38 : decode cX8_mid 38 = .ok (.iconst 0, 1) := by decide +kernel
theorem dX8_mid_39 : decode cX8_mid 39 = .ok (.istore 5, 2) := by decide +kernel
theorem dX8_mid_41 : decode cX8_mid 41 = .ok (.iload 5, 2) := by decide +kernel
theorem dX8_mid_43 : decode cX8_mid 43 = .ok (.iload_n 1, 1) := by decide +kernel
theorem dX8_mid_44 : decode cX8_mid 44 = .ok (.if_icmp .gt 38, 3) := by decide +kernel
theorem dX8_mid_47 : decode cX8_mid 47 = .ok (.lload_n 3, 1) := by decide +kernel
theorem dX8_mid_48 : decode cX8_mid 48 = .ok (.aload_n 0, 1) := by decide +kernel
theorem dX8_mid_49 : decode cX8_mid 49 = .ok (.aload_n 0, 1) := by decide +kernel
theorem dX8_mid_50 : decode cX8_mid 50 = .ok (.getfield 41, 3) := by decide +kernel
theorem dX8_mid_53 : decode cX8_mid 53 = .ok (.invokevirtual 167, 3) := by decide +kernel
theorem dX8_mid_56 : decode cX8_mid 56 = .ok (.i2l, 1) := by decide +kernel
theorem dX8_mid_57 : decode cX8_mid 57 = .ok (.iload 5, 2) := by decide +kernel
theorem dX8_mid_59 : decode cX8_mid 59 = .ok (.iload_n 1, 1) := by decide +kernel
theorem dX8_mid_60 : decode cX8_mid 60 = .ok (.iload_n 2, 1) := by decide +kernel
theorem dX8_mid_61 : decode cX8_mid 61 = .ok (.invokestatic 231, 3) := by decide +kernel
theorem dX8_mid_64 : decode cX8_mid 64 = .ok (.lmul, 1) := by decide +kernel
theorem dX8_mid_65 : decode cX8_mid 65 = .ok (.ladd, 1) := by decide +kernel
theorem dX8_mid_66 : decode cX8_mid 66 = .ok (.lstore_n 3, 1) := by decide +kernel
theorem dX8_mid_67 : decode cX8_mid 67 = .ok (.aload_n 0, 1) := by decide +kernel
theorem dX8_mid_68 : decode cX8_mid 68 = .ok (.aload_n 0, 1) := by decide +kernel
theorem dX8_mid_69 : decode cX8_mid 69 = .ok (.getfield 41, 3) := by decide +kernel
theorem dX8_mid_72 : decode cX8_mid 72 = .ok (.invokevirtual 177, 3) := by decide +kernel
theorem dX8_mid_75 : decode cX8_mid 75 = .ok (.pop, 1) := by decide +kernel
theorem dX8_mid_76 : decode cX8_mid 76 = .ok (.iinc 5 1, 3) := by decide +kernel
theorem dX8_mid_79 : decode cX8_mid 79 = .ok (.goto (-38), 3) := by decide +kernel
theorem dX8_mid_82 : decode cX8_mid 82 = .ok (.aload_n 0, 1) := by decide +kernel
theorem dX8_mid_83 : decode cX8_mid 83 = .ok (.lload_n 3, 1) := by decide +kernel
theorem dX8_mid_84 : decode cX8_mid 84 = .ok (.iload_n 1, 1) := by decide +kernel
theorem dX8_mid_85 : decode cX8_mid 85 = .ok (.invokestatic 235, 3) := by decide +kernel
theorem dX8_mid_88 : decode cX8_mid 88 = .ok (.invokevirtual 239, 3) := by decide +kernel
theorem dX8_mid_91 : decode cX8_mid 91 = .ok (.iconst 1, 1) := by decide +kernel
theorem dX8_mid_92 : decode cX8_mid 92 = .ok (.ireturn, 1) := by decide +kernel
theorem dX8_lots_0 : decode cX8_lots 0 = .ok (.iload_n 1, 1) := by decide +kernel
theorem dX8_lots_1 : decode cX8_lots 1 = .ok (.iconst 1, 1) := by decide +kernel
theorem dX8_lots_2 : decode cX8_lots 2 = .ok (.bipush 20, 2) := by decide +kernel
theorem dX8_lots_4 : decode cX8_lots 4 = .ok (.invokestatic 66, 3) := by decide +kernel
theorem dX8_lots_7 : decode cX8_lots 7 = .ok (.ifCond .eq 13, 3) := by decide +kernel
theorem dX8_lots_10 : decode cX8_lots 10 = .ok (.iload_n 2, 1) := by decide +kernel
theorem dX8_lots_11 : decode cX8_lots 11 = .ok (.iconst 1, 1) := by decide +kernel
theorem dX8_lots_12 : decode cX8_lots 12 = .ok (.ldc 243, 2) := by decide +kernel
theorem dX8_lots_14 : decode cX8_lots 14 = .ok (.invokestatic 66, 3) := by decide +kernel
theorem dX8_lots_17 : decode cX8_lots 17 = .ok (.ifCond .ne 5, 3) := by decide +kernel
theorem dX8_lots_20 : decode cX8_lots 20 = .ok (.iconst (-1), 1) := by decide +kernel
theorem dX8_lots_21 : decode cX8_lots 21 = .ok (.ireturn, 1) := by decide +kernel
theorem dX8_lots_22 : decode cX8_lots 22 = .ok (.aload_n 0, 1) := by decide +kernel
theorem dX8_lots_23 : decode cX8_lots 23 = .ok (.getfield 63, 3) := by decide +kernel
theorem dX8_lots_26 : decode cX8_lots 26 = .ok (.ifCond .ne 6, 3) := by decide +kernel
theorem dX8_lots_29 : decode cX8_lots 29 = .ok (.bipush (-4), 2) := by decide +kernel
theorem dX8_lots_31 : decode cX8_lots 31 = .ok (.ireturn, 1) := by decide +kernel
theorem dX8_lots_32 : decode cX8_lots 32 = .ok (.aload_n 0, 1) := by decide +kernel
theorem dX8_lots_33 : decode cX8_lots 33 = .ok (.getfield 130, 3) := by decide +kernel
theorem dX8_lots_36 : decode cX8_lots 36 = .ok (.iload_n 1, 1) := by decide +kernel
theorem dX8_lots_37 : decode cX8_lots 37 = .ok (.iadd, 1) := by decide +kernel
theorem dX8_lots_38 : decode cX8_lots 38 = .ok (.bipush 40, 2) := by decide +kernel
theorem dX8_lots_40 : decode cX8_lots 40 = .ok (.if_icmp .le 6, 3) := by decide +kernel
theorem dX8_lots_43 : decode cX8_lots 43 = .ok (.bipush (-2), 2) := by decide +kernel
theorem dX8_lots_45 : decode cX8_lots 45 = .ok (.ireturn, 1) := by decide +kernel
theorem dX8_lots_46 : decode cX8_lots 46 = .ok (.iload_n 2, 1) := by decide +kernel
theorem dX8_lots_47 : decode cX8_lots 47 = .ok (.i2l, 1) := by decide +kernel
theorem dX8_lots_48 : decode cX8_lots 48 = .ok (.lstore_n 3, 1) := by decide +kernel
theorem dX8_lots_49 : decode cX8_lots 49 = .ok (.iconst 0, 1) := by decide +kernel
theorem dX8_lots_50 : decode cX8_lots 50 = .ok (.istore 5, 2) := by decide +kernel
theorem dX8_lots_52 : decode cX8_lots 52 = .ok (.iload 5, 2) := by decide +kernel
theorem dX8_lots_54 : decode cX8_lots 54 = .ok (.iload_n 1, 1) := by decide +kernel
theorem dX8_lots_55 : decode cX8_lots 55 = .ok (.if_icmp .ge 118, 3) := by decide +kernel
theorem dX8_lots_58 : decode cX8_lots 58 = .ok (.lload_n 3, 1) := by decide +kernel
theorem dX8_lots_59 : decode cX8_lots 59 = .ok (.ldc2_w 244, 3) := by decide +kernel
theorem dX8_lots_62 : decode cX8_lots 62 = .ok (.lmul, 1) := by decide +kernel
theorem dX8_lots_63 : decode cX8_lots 63 = .ok (.ldc2_w 246, 3) := by decide +kernel
theorem dX8_lots_66 : decode cX8_lots 66 = .ok (.lrem, 1) := by decide +kernel
theorem dX8_lots_67 : decode cX8_lots 67 = .ok (.lstore_n 3, 1) := by decide +kernel
theorem dX8_lots_68 : decode cX8_lots 68 = .ok (.aload_n 0, 1) := by decide +kernel
theorem dX8_lots_69 : decode cX8_lots 69 = .ok (.invokevirtual 171, 3) := by decide +kernel
theorem dX8_lots_72 : decode cX8_lots 72 = .ok (.lload_n 3, 1) := by decide +kernel
theorem dX8_lots_73 : decode cX8_lots 73 = .ok (.ldc2_w 248, 3) := by decide +kernel
theorem dX8_lots_76 : decode cX8_lots 76 = .ok (.ldiv, 1) := by decide +kernel
theorem dX8_lots_77 : decode cX8_lots 77 = .ok (.ldc2_w 248, 3) := by decide +kernel
theorem dX8_lots_80 : decode cX8_lots 80 = .ok (.lrem, 1) := by decide +kernel
theorem dX8_lots_81 : decode cX8_lots 81 = .ok (.l2i, 1) := by decide +kernel
theorem dX8_lots_82 : decode cX8_lots 82 = .ok (.istore 6, 2) := by decide +kernel
theorem dX8_lots_84 : decode cX8_lots 84 = .ok (.iload 6, 2) := by decide +kernel
theorem dX8_lots_86 : decode cX8_lots 86 = .ok (.ifCond .ne 15, 3) := by decide +kernel
theorem dX8_lots_89 : decode cX8_lots 89 = .ok (.aload_n 0, 1) := by decide +kernel
theorem dX8_lots_90 : decode cX8_lots 90 = .ok (.aload_n 0, 1) := by decide +kernel
theorem dX8_lots_91 : decode cX8_lots 91 = .ok (.getfield 38, 3) := by decide +kernel
theorem dX8_lots_94 : decode cX8_lots 94 = .ok (.invokevirtual 177, 3) := by decide +kernel
theorem dX8_lots_97 : decode cX8_lots 97 = .ok (.pop, 1) := by decide +kernel
theorem dX8_lots_98 : decode cX8_lots 98 = .ok (.goto 69, 3) := by decide +kernel
theorem dX8_lots_101 : decode cX8_lots 101 = .ok (.iload 6, 2) := by decide +kernel
theorem dX8_lots_103 : decode cX8_lots 103 = .ok (.iconst 1, 1) := by decide +kernel
theorem dX8_lots_104 : decode cX8_lots 104 = .ok (.if_icmp .ne 20, 3) := by decide +kernel
theorem dX8_lots_107 : decode cX8_lots 107 = .ok (.aload_n 0, 1) := by decide +kernel
theorem dX8_lots_108 : decode cX8_lots 108 = .ok (.getfield 38, 3) := by decide +kernel
theorem dX8_lots_111 : decode cX8_lots 111 = .ok (.lload_n 3, 1) := by decide +kernel
theorem dX8_lots_112 : decode cX8_lots 112 = .ok (.aload_n 0, 1) := by decide +kernel
theorem dX8_lots_113 : decode cX8_lots 113 = .ok (.getfield 70, 3) := by decide +kernel
theorem dX8_lots_116 : decode cX8_lots 116 = .ok (.i2l, 1) := by decide +kernel
theorem dX8_lots_117 : decode cX8_lots 117 = .ok (.lrem, 1) := by decide +kernel
theorem dX8_lots_118 : decode cX8_lots 118 = .ok (.l2i, 1) := by decide +kernel
theorem dX8_lots_119 : decode cX8_lots 119 = .ok (.iconst 0, 1) := by decide +kernel
theorem dX8_lots_120 : decode cX8_lots 120 = .ok (.iastore, 1) := by decide +kernel
theorem dX8_lots_121 : decode cX8_lots 121 = .ok (.goto 46, 3) := by decide +kernel
theorem dX8_lots_124 : decode cX8_lots 124 = .ok (.iload 6, 2) := by decide +kernel
theorem dX8_lots_126 : decode cX8_lots 126 = .ok (.iconst 2, 1) := by decide +kernel
theorem dX8_lots_127 : decode cX8_lots 127 = .ok (.if_icmp .ne 14, 3) := by decide +kernel
theorem dX8_lots_130 : decode cX8_lots 130 = .ok (.aload_n 0, 1) := by decide +kernel
theorem dX8_lots_131 : decode cX8_lots 131 = .ok (.aload_n 0, 1) := by decide +kernel
theorem dX8_lots_132 : decode cX8_lots 132 = .ok (.getfield 38, 3) := by decide +kernel
theorem dX8_lots_135 : decode cX8_lots 135 = .ok (.invokevirtual 180, 3) := by decide +kernel
theorem dX8_lots_138 : decode cX8_lots 138 = .ok (.goto 29, 3) := by decide +kernel
theorem dX8_lots_141 : decode cX8_lots 141 = .ok (.aload_n 0, 1) := by decide +kernel
theorem dX8_lots_142 : decode cX8_lots 142 = .ok (.aload_n 0, 1) := by decide +kernel
theorem dX8_lots_143 : decode cX8_lots 143 = .ok (.getfield 38, 3) := by decide +kernel
theorem dX8_lots_146 : decode cX8_lots 146 = .ok (.lload_n 3, 1) := by decide +kernel
theorem dX8_lots_147 : decode cX8_lots 147 = .ok (.aload_n 0, 1) := by decide +kernel
theorem dX8_lots_148 : decode cX8_lots 148 = .ok (.getfield 63, 3) := by decide +kernel
theorem dX8_lots_151 : decode cX8_lots 151 = .ok (.i2l, 1) := by decide +kernel
theorem dX8_lots_152 : decode cX8_lots 152 = .ok (.lrem, 1) := by decide +kernel
theorem dX8_lots_153 : decode cX8_lots 153 = .ok (.l2i, 1) := by decide +kernel
theorem dX8_lots_154 : decode cX8_lots 154 = .ok (.lload_n 3, 1) := by decide +kernel
theorem dX8_lots_155 : decode cX8_lots 155 = .ok (.ldc2_w 250, 3) := by decide +kernel
theorem dX8_lots_158 : decode cX8_lots 158 = .ok (.ldiv, 1) := by decide +kernel
theorem dX8_lots_159 : decode cX8_lots 159 = .ok (.ldc2_w 252, 3) := by decide +kernel
theorem dX8_lots_162 : decode cX8_lots 162 = .ok (.lrem, 1) := by decide +kernel
theorem dX8_lots_163 : decode cX8_lots 163 = .ok (.l2i, 1) := by decide +kernel
theorem dX8_lots_164 : decode cX8_lots 164 = .ok (.invokevirtual 174, 3) := by decide +kernel
theorem dX8_lots_167 : decode cX8_lots 167 = .ok (.iinc 5 1, 3) := by decide +kernel
theorem dX8_lots_170 : decode cX8_lots 170 = .ok (.goto (-118), 3) := by decide +kernel
theorem dX8_lots_173 : decode cX8_lots 173 = .ok (.aload_n 0, 1) := by decide +kernel
theorem dX8_lots_174 : decode cX8_lots 174 = .ok (.aload_n 0, 1) := by decide +kernel
theorem dX8_lots_175 : decode cX8_lots 175 = .ok (.getfield 38, 3) := by decide +kernel
theorem dX8_lots_178 : decode cX8_lots 178 = .ok (.invokevirtual 167, 3) := by decide +kernel
theorem dX8_lots_181 : decode cX8_lots 181 = .ok (.ireturn, 1) := by decide +kernel
theorem dX8_asked_0 : decode cX8_asked 0 = .ok (.aload_n 0, 1) := by decide +kernel
theorem dX8_asked_1 : decode cX8_asked 1 = .ok (.getfield 60, 3) := by decide +kernel
theorem dX8_asked_4 : decode cX8_asked 4 = .ok (.ireturn, 1) := by decide +kernel
theorem dX8_upper_0 : decode cX8_upper 0 = .ok (.aload_n 0, 1) := by decide +kernel
theorem dX8_upper_1 : decode cX8_upper 1 = .ok (.getfield 207, 3) := by decide +kernel
theorem dX8_upper_4 : decode cX8_upper 4 = .ok (.lreturn, 1) := by decide +kernel
theorem dX8_lower_0 : decode cX8_lower 0 = .ok (.aload_n 0, 1) := by decide +kernel
theorem dX8_lower_1 : decode cX8_lower 1 = .ok (.getfield 25, 3) := by decide +kernel
theorem dX8_lower_4 : decode cX8_lower 4 = .ok (.lreturn, 1) := by decide +kernel
theorem dX8_thereOf_0 : decode cX8_thereOf 0 = .ok (.iconst 0, 1) := by decide +kernel
theorem dX8_thereOf_1 : decode cX8_thereOf 1 = .ok (.istore_n 1, 1) := by decide +kernel
theorem dX8_thereOf_2 : decode cX8_thereOf 2 = .ok (.aload_n 0, 1) := by decide +kernel
theorem dX8_thereOf_3 : decode cX8_thereOf 3 = .ok (.astore_n 2, 1) := by decide +kernel
theorem dX8_thereOf_4 : decode cX8_thereOf 4 = .ok (.aload_n 2, 1) := by decide +kernel
theorem dX8_thereOf_5 : decode cX8_thereOf 5 = .ok (.arraylength, 1) := by decide +kernel
theorem dX8_thereOf_6 : decode cX8_thereOf 6 = .ok (.istore_n 3, 1) := by decide +kernel
theorem dX8_thereOf_7 : decode cX8_thereOf 7 = .ok (.iconst 0, 1) := by decide +kernel
theorem dX8_thereOf_8 : decode cX8_thereOf 8 = .ok (.istore 4, 2) := by decide +kernel
theorem dX8_thereOf_10 : decode cX8_thereOf 10 = .ok (.iload 4, 2) := by decide +kernel
theorem dX8_thereOf_12 : decode cX8_thereOf 12 = .ok (.iload_n 3, 1) := by decide +kernel
theorem dX8_thereOf_13 : decode cX8_thereOf 13 = .ok (.if_icmp .ge 28, 3) := by decide +kernel
theorem dX8_thereOf_16 : decode cX8_thereOf 16 = .ok (.aload_n 2, 1) := by decide +kernel
theorem dX8_thereOf_17 : decode cX8_thereOf 17 = .ok (.iload 4, 2) := by decide +kernel
theorem dX8_thereOf_19 : decode cX8_thereOf 19 = .ok (.iaload, 1) := by decide +kernel
theorem dX8_thereOf_20 : decode cX8_thereOf 20 = .ok (.istore 5, 2) := by decide +kernel
theorem dX8_thereOf_22 : decode cX8_thereOf 22 = .ok (.iload_n 1, 1) := by decide +kernel
theorem dX8_thereOf_23 : decode cX8_thereOf 23 = .ok (.iload 5, 2) := by decide +kernel
theorem dX8_thereOf_25 : decode cX8_thereOf 25 = .ok (.ifCond .ge 7, 3) := by decide +kernel
theorem dX8_thereOf_28 : decode cX8_thereOf 28 = .ok (.iconst 0, 1) := by decide +kernel
theorem dX8_thereOf_29 : decode cX8_thereOf 29 = .ok (.goto 4, 3) := by decide +kernel
theorem dX8_thereOf_32 : decode cX8_thereOf 32 = .ok (.iconst 1, 1) := by decide +kernel
theorem dX8_thereOf_33 : decode cX8_thereOf 33 = .ok (.iadd, 1) := by decide +kernel
theorem dX8_thereOf_34 : decode cX8_thereOf 34 = .ok (.istore_n 1, 1) := by decide +kernel
theorem dX8_thereOf_35 : decode cX8_thereOf 35 = .ok (.iinc 4 1, 3) := by decide +kernel
theorem dX8_thereOf_38 : decode cX8_thereOf 38 = .ok (.goto (-28), 3) := by decide +kernel
theorem dX8_thereOf_41 : decode cX8_thereOf 41 = .ok (.iload_n 1, 1) := by decide +kernel
theorem dX8_thereOf_42 : decode cX8_thereOf 42 = .ok (.ireturn, 1) := by decide +kernel
theorem dX8_kindMany_0 : decode cX8_kindMany 0 = .ok (.iconst 0, 1) := by decide +kernel
theorem dX8_kindMany_1 : decode cX8_kindMany 1 = .ok (.istore_n 2, 1) := by decide +kernel
theorem dX8_kindMany_2 : decode cX8_kindMany 2 = .ok (.iconst 0, 1) := by decide +kernel
theorem dX8_kindMany_3 : decode cX8_kindMany 3 = .ok (.istore_n 3, 1) := by decide +kernel
theorem dX8_kindMany_4 : decode cX8_kindMany 4 = .ok (.iload_n 3, 1) := by decide +kernel
theorem dX8_kindMany_5 : decode cX8_kindMany 5 = .ok (.aload_n 0, 1) := by decide +kernel
theorem dX8_kindMany_6 : decode cX8_kindMany 6 = .ok (.getfield 63, 3) := by decide +kernel
theorem dX8_kindMany_9 : decode cX8_kindMany 9 = .ok (.if_icmp .ge 30, 3) := by decide +kernel
theorem dX8_kindMany_12 : decode cX8_kindMany 12 = .ok (.iload_n 2, 1) := by decide +kernel
theorem dX8_kindMany_13 : decode cX8_kindMany 13 = .ok (.aload_n 0, 1) := by decide +kernel
theorem dX8_kindMany_14 : decode cX8_kindMany 14 = .ok (.getfield 32, 3) := by decide +kernel
theorem dX8_kindMany_17 : decode cX8_kindMany 17 = .ok (.iload_n 3, 1) := by decide +kernel
theorem dX8_kindMany_18 : decode cX8_kindMany 18 = .ok (.iaload, 1) := by decide +kernel
theorem dX8_kindMany_19 : decode cX8_kindMany 19 = .ok (.iload_n 1, 1) := by decide +kernel
theorem dX8_kindMany_20 : decode cX8_kindMany 20 = .ok (.invokestatic 143, 3) := by decide +kernel
theorem dX8_kindMany_23 : decode cX8_kindMany 23 = .ok (.ifCond .eq 7, 3) := by decide +kernel
theorem dX8_kindMany_26 : decode cX8_kindMany 26 = .ok (.iconst 1, 1) := by decide +kernel
theorem dX8_kindMany_27 : decode cX8_kindMany 27 = .ok (.goto 4, 3) := by decide +kernel
theorem dX8_kindMany_30 : decode cX8_kindMany 30 = .ok (.iconst 0, 1) := by decide +kernel
theorem dX8_kindMany_31 : decode cX8_kindMany 31 = .ok (.iadd, 1) := by decide +kernel
theorem dX8_kindMany_32 : decode cX8_kindMany 32 = .ok (.istore_n 2, 1) := by decide +kernel
theorem dX8_kindMany_33 : decode cX8_kindMany 33 = .ok (.iinc 3 1, 3) := by decide +kernel
theorem dX8_kindMany_36 : decode cX8_kindMany 36 = .ok (.goto (-32), 3) := by decide +kernel
theorem dX8_kindMany_39 : decode cX8_kindMany 39 = .ok (.iload_n 2, 1) := by decide +kernel
theorem dX8_kindMany_40 : decode cX8_kindMany 40 = .ok (.ireturn, 1) := by decide +kernel
theorem dX8_count_0 : decode cX8_count 0 = .ok (.iload_n 1, 1) := by decide +kernel
theorem dX8_count_1 : decode cX8_count 1 = .ok (.tableswitch 156 0 12 #[67, 72, 77, 85, 90, 99, 107, 115, 120, 126, 132, 140, 148], 67) := by decide +kernel
theorem dX8_count_68 : decode cX8_count 68 = .ok (.aload_n 0, 1) := by decide +kernel
theorem dX8_count_69 : decode cX8_count 69 = .ok (.getfield 63, 3) := by decide +kernel
theorem dX8_count_72 : decode cX8_count 72 = .ok (.ireturn, 1) := by decide +kernel
theorem dX8_count_73 : decode cX8_count 73 = .ok (.aload_n 0, 1) := by decide +kernel
theorem dX8_count_74 : decode cX8_count 74 = .ok (.getfield 70, 3) := by decide +kernel
theorem dX8_count_77 : decode cX8_count 77 = .ok (.ireturn, 1) := by decide +kernel
theorem dX8_count_78 : decode cX8_count 78 = .ok (.aload_n 0, 1) := by decide +kernel
theorem dX8_count_79 : decode cX8_count 79 = .ok (.getfield 38, 3) := by decide +kernel
theorem dX8_count_82 : decode cX8_count 82 = .ok (.bipush 8, 2) := by decide +kernel
theorem dX8_count_84 : decode cX8_count 84 = .ok (.iaload, 1) := by decide +kernel
theorem dX8_count_85 : decode cX8_count 85 = .ok (.ireturn, 1) := by decide +kernel
theorem dX8_count_86 : decode cX8_count 86 = .ok (.aload_n 0, 1) := by decide +kernel
theorem dX8_count_87 : decode cX8_count 87 = .ok (.getfield 130, 3) := by decide +kernel
theorem dX8_count_90 : decode cX8_count 90 = .ok (.ireturn, 1) := by decide +kernel
theorem dX8_count_91 : decode cX8_count 91 = .ok (.aload_n 0, 1) := by decide +kernel
theorem dX8_count_92 : decode cX8_count 92 = .ok (.aload_n 0, 1) := by decide +kernel
theorem dX8_count_93 : decode cX8_count 93 = .ok (.getfield 38, 3) := by decide +kernel
theorem dX8_count_96 : decode cX8_count 96 = .ok (.invokevirtual 167, 3) := by decide +kernel
theorem dX8_count_99 : decode cX8_count 99 = .ok (.ireturn, 1) := by decide +kernel
theorem dX8_count_100 : decode cX8_count 100 = .ok (.aload_n 0, 1) := by decide +kernel
theorem dX8_count_101 : decode cX8_count 101 = .ok (.getfield 38, 3) := by decide +kernel
theorem dX8_count_104 : decode cX8_count 104 = .ok (.bipush 9, 2) := by decide +kernel
theorem dX8_count_106 : decode cX8_count 106 = .ok (.iaload, 1) := by decide +kernel
theorem dX8_count_107 : decode cX8_count 107 = .ok (.ireturn, 1) := by decide +kernel
theorem dX8_count_108 : decode cX8_count 108 = .ok (.aload_n 0, 1) := by decide +kernel
theorem dX8_count_109 : decode cX8_count 109 = .ok (.getfield 38, 3) := by decide +kernel
theorem dX8_count_112 : decode cX8_count 112 = .ok (.bipush 10, 2) := by decide +kernel
theorem dX8_count_114 : decode cX8_count 114 = .ok (.iaload, 1) := by decide +kernel
theorem dX8_count_115 : decode cX8_count 115 = .ok (.ireturn, 1) := by decide +kernel
theorem dX8_count_116 : decode cX8_count 116 = .ok (.aload_n 0, 1) := by decide +kernel
theorem dX8_count_117 : decode cX8_count 117 = .ok (.getfield 127, 3) := by decide +kernel
theorem dX8_count_120 : decode cX8_count 120 = .ok (.ireturn, 1) := by decide +kernel
theorem dX8_count_121 : decode cX8_count 121 = .ok (.aload_n 0, 1) := by decide +kernel
theorem dX8_count_122 : decode cX8_count 122 = .ok (.iconst 1, 1) := by decide +kernel
theorem dX8_count_123 : decode cX8_count 123 = .ok (.invokevirtual 254, 3) := by decide +kernel
theorem dX8_count_126 : decode cX8_count 126 = .ok (.ireturn, 1) := by decide +kernel
theorem dX8_count_127 : decode cX8_count 127 = .ok (.aload_n 0, 1) := by decide +kernel
theorem dX8_count_128 : decode cX8_count 128 = .ok (.iconst 2, 1) := by decide +kernel
theorem dX8_count_129 : decode cX8_count 129 = .ok (.invokevirtual 254, 3) := by decide +kernel
theorem dX8_count_132 : decode cX8_count 132 = .ok (.ireturn, 1) := by decide +kernel
theorem dX8_count_133 : decode cX8_count 133 = .ok (.aload_n 0, 1) := by decide +kernel
theorem dX8_count_134 : decode cX8_count 134 = .ok (.getfield 7, 3) := by decide +kernel
theorem dX8_count_137 : decode cX8_count 137 = .ok (.invokestatic 257, 3) := by decide +kernel
theorem dX8_count_140 : decode cX8_count 140 = .ok (.ireturn, 1) := by decide +kernel
theorem dX8_count_141 : decode cX8_count 141 = .ok (.aload_n 0, 1) := by decide +kernel
theorem dX8_count_142 : decode cX8_count 142 = .ok (.getfield 16, 3) := by decide +kernel
theorem dX8_count_145 : decode cX8_count 145 = .ok (.invokestatic 257, 3) := by decide +kernel
theorem dX8_count_148 : decode cX8_count 148 = .ok (.ireturn, 1) := by decide +kernel
theorem dX8_count_149 : decode cX8_count 149 = .ok (.aload_n 0, 1) := by decide +kernel
theorem dX8_count_150 : decode cX8_count 150 = .ok (.getfield 53, 3) := by decide +kernel
theorem dX8_count_153 : decode cX8_count 153 = .ok (.invokestatic 257, 3) := by decide +kernel
theorem dX8_count_156 : decode cX8_count 156 = .ok (.ireturn, 1) := by decide +kernel
theorem dX8_count_157 : decode cX8_count 157 = .ok (.iconst (-1), 1) := by decide +kernel
theorem dX8_count_158 : decode cX8_count 158 = .ok (.ireturn, 1) := by decide +kernel
theorem dX8_finding_0 : decode cX8_finding 0 = .ok (.aload_n 0, 1) := by decide +kernel
theorem dX8_finding_1 : decode cX8_finding 1 = .ok (.getfield 56, 3) := by decide +kernel
theorem dX8_finding_4 : decode cX8_finding 4 = .ok (.ireturn, 1) := by decide +kernel
theorem dX8_findings_0 : decode cX8_findings 0 = .ok (.iload_n 1, 1) := by decide +kernel
theorem dX8_findings_1 : decode cX8_findings 1 = .ok (.iconst 1, 1) := by decide +kernel
theorem dX8_findings_2 : decode cX8_findings 2 = .ok (.iconst 5, 1) := by decide +kernel
theorem dX8_findings_3 : decode cX8_findings 3 = .ok (.invokestatic 66, 3) := by decide +kernel
theorem dX8_findings_6 : decode cX8_findings 6 = .ok (.ifCond .eq 12, 3) := by decide +kernel
theorem dX8_findings_9 : decode cX8_findings 9 = .ok (.aload_n 0, 1) := by decide +kernel
theorem dX8_findings_10 : decode cX8_findings 10 = .ok (.getfield 22, 3) := by decide +kernel
theorem dX8_findings_13 : decode cX8_findings 13 = .ok (.iload_n 1, 1) := by decide +kernel
theorem dX8_findings_14 : decode cX8_findings 14 = .ok (.iaload, 1) := by decide +kernel
theorem dX8_findings_15 : decode cX8_findings 15 = .ok (.goto 4, 3) := by decide +kernel
theorem dX8_findings_18 : decode cX8_findings 18 = .ok (.iconst (-1), 1) := by decide +kernel
theorem dX8_findings_19 : decode cX8_findings 19 = .ok (.ireturn, 1) := by decide +kernel
theorem dX8_digest_0 : decode cX8_digest 0 = .ok (.ldc2_w 260, 3) := by decide +kernel
theorem dX8_digest_3 : decode cX8_digest 3 = .ok (.lstore_n 1, 1) := by decide +kernel
theorem dX8_digest_4 : decode cX8_digest 4 = .ok (.iconst 0, 1) := by decide +kernel
theorem dX8_digest_5 : decode cX8_digest 5 = .ok (.istore_n 3, 1) := by decide +kernel
theorem dX8_digest_6 : decode cX8_digest 6 = .ok (.iload_n 3, 1) := by decide +kernel
theorem dX8_digest_7 : decode cX8_digest 7 = .ok (.bipush 13, 2) := by decide +kernel
theorem dX8_digest_9 : decode cX8_digest 9 = .ok (.if_icmp .ge 22, 3) := by decide +kernel
theorem dX8_digest_12 : decode cX8_digest 12 = .ok (.ldc2_w 262, 3) := by decide +kernel
theorem dX8_digest_15 : decode cX8_digest 15 = .ok (.lload_n 1, 1) := by decide +kernel
theorem dX8_digest_16 : decode cX8_digest 16 = .ok (.lmul, 1) := by decide +kernel
theorem dX8_digest_17 : decode cX8_digest 17 = .ok (.aload_n 0, 1) := by decide +kernel
theorem dX8_digest_18 : decode cX8_digest 18 = .ok (.iload_n 3, 1) := by decide +kernel
theorem dX8_digest_19 : decode cX8_digest 19 = .ok (.invokevirtual 264, 3) := by decide +kernel
theorem dX8_digest_22 : decode cX8_digest 22 = .ok (.i2l, 1) := by decide +kernel
theorem dX8_digest_23 : decode cX8_digest 23 = .ok (.ladd, 1) := by decide +kernel
theorem dX8_digest_24 : decode cX8_digest 24 = .ok (.lstore_n 1, 1) := by decide +kernel
theorem dX8_digest_25 : decode cX8_digest 25 = .ok (.iinc 3 1, 3) := by decide +kernel
theorem dX8_digest_28 : decode cX8_digest 28 = .ok (.goto (-22), 3) := by decide +kernel
theorem dX8_digest_31 : decode cX8_digest 31 = .ok (.iconst 0, 1) := by decide +kernel
theorem dX8_digest_32 : decode cX8_digest 32 = .ok (.istore_n 3, 1) := by decide +kernel
theorem dX8_digest_33 : decode cX8_digest 33 = .ok (.iload_n 3, 1) := by decide +kernel
theorem dX8_digest_34 : decode cX8_digest 34 = .ok (.aload_n 0, 1) := by decide +kernel
theorem dX8_digest_35 : decode cX8_digest 35 = .ok (.getfield 70, 3) := by decide +kernel
theorem dX8_digest_38 : decode cX8_digest 38 = .ok (.if_icmp .ge 23, 3) := by decide +kernel
theorem dX8_digest_41 : decode cX8_digest 41 = .ok (.ldc2_w 262, 3) := by decide +kernel
theorem dX8_digest_44 : decode cX8_digest 44 = .ok (.lload_n 1, 1) := by decide +kernel
theorem dX8_digest_45 : decode cX8_digest 45 = .ok (.lmul, 1) := by decide +kernel
theorem dX8_digest_46 : decode cX8_digest 46 = .ok (.aload_n 0, 1) := by decide +kernel
theorem dX8_digest_47 : decode cX8_digest 47 = .ok (.getfield 38, 3) := by decide +kernel
theorem dX8_digest_50 : decode cX8_digest 50 = .ok (.iload_n 3, 1) := by decide +kernel
theorem dX8_digest_51 : decode cX8_digest 51 = .ok (.iaload, 1) := by decide +kernel
theorem dX8_digest_52 : decode cX8_digest 52 = .ok (.i2l, 1) := by decide +kernel
theorem dX8_digest_53 : decode cX8_digest 53 = .ok (.ladd, 1) := by decide +kernel
theorem dX8_digest_54 : decode cX8_digest 54 = .ok (.lstore_n 1, 1) := by decide +kernel
theorem dX8_digest_55 : decode cX8_digest 55 = .ok (.iinc 3 1, 3) := by decide +kernel
theorem dX8_digest_58 : decode cX8_digest 58 = .ok (.goto (-25), 3) := by decide +kernel
theorem dX8_digest_61 : decode cX8_digest 61 = .ok (.iconst 0, 1) := by decide +kernel
theorem dX8_digest_62 : decode cX8_digest 62 = .ok (.istore_n 3, 1) := by decide +kernel
theorem dX8_digest_63 : decode cX8_digest 63 = .ok (.iload_n 3, 1) := by decide +kernel
theorem dX8_digest_64 : decode cX8_digest 64 = .ok (.aload_n 0, 1) := by decide +kernel
theorem dX8_digest_65 : decode cX8_digest 65 = .ok (.getfield 63, 3) := by decide +kernel
theorem dX8_digest_68 : decode cX8_digest 68 = .ok (.if_icmp .ge 39, 3) := by decide +kernel
theorem dX8_digest_71 : decode cX8_digest 71 = .ok (.iconst 0, 1) := by decide +kernel
theorem dX8_digest_72 : decode cX8_digest 72 = .ok (.istore 4, 2) := by decide +kernel
theorem dX8_digest_74 : decode cX8_digest 74 = .ok (.iload 4, 2) := by decide +kernel
theorem dX8_digest_76 : decode cX8_digest 76 = .ok (.iconst 4, 1) := by decide +kernel
theorem dX8_digest_77 : decode cX8_digest 77 = .ok (.if_icmp .ge 24, 3) := by decide +kernel
theorem dX8_digest_80 : decode cX8_digest 80 = .ok (.ldc2_w 262, 3) := by decide +kernel
theorem dX8_digest_83 : decode cX8_digest 83 = .ok (.lload_n 1, 1) := by decide +kernel
theorem dX8_digest_84 : decode cX8_digest 84 = .ok (.lmul, 1) := by decide +kernel
theorem dX8_digest_85 : decode cX8_digest 85 = .ok (.aload_n 0, 1) := by decide +kernel
theorem dX8_digest_86 : decode cX8_digest 86 = .ok (.iload_n 3, 1) := by decide +kernel
theorem dX8_digest_87 : decode cX8_digest 87 = .ok (.iload 4, 2) := by decide +kernel
theorem dX8_digest_89 : decode cX8_digest 89 = .ok (.invokevirtual 137, 3) := by decide +kernel
theorem dX8_digest_92 : decode cX8_digest 92 = .ok (.i2l, 1) := by decide +kernel
theorem dX8_digest_93 : decode cX8_digest 93 = .ok (.ladd, 1) := by decide +kernel
theorem dX8_digest_94 : decode cX8_digest 94 = .ok (.lstore_n 1, 1) := by decide +kernel
theorem dX8_digest_95 : decode cX8_digest 95 = .ok (.iinc 4 1, 3) := by decide +kernel
theorem dX8_digest_98 : decode cX8_digest 98 = .ok (.goto (-24), 3) := by decide +kernel
theorem dX8_digest_101 : decode cX8_digest 101 = .ok (.iinc 3 1, 3) := by decide +kernel
theorem dX8_digest_104 : decode cX8_digest 104 = .ok (.goto (-41), 3) := by decide +kernel
theorem dX8_digest_107 : decode cX8_digest 107 = .ok (.iconst 0, 1) := by decide +kernel
theorem dX8_digest_108 : decode cX8_digest 108 = .ok (.istore_n 3, 1) := by decide +kernel
theorem dX8_digest_109 : decode cX8_digest 109 = .ok (.iload_n 3, 1) := by decide +kernel
theorem dX8_digest_110 : decode cX8_digest 110 = .ok (.iconst 3, 1) := by decide +kernel
theorem dX8_digest_111 : decode cX8_digest 111 = .ok (.if_icmp .ge 23, 3) := by decide +kernel
theorem dX8_digest_114 : decode cX8_digest 114 = .ok (.ldc2_w 262, 3) := by decide +kernel
theorem dX8_digest_117 : decode cX8_digest 117 = .ok (.lload_n 1, 1) := by decide +kernel
theorem dX8_digest_118 : decode cX8_digest 118 = .ok (.lmul, 1) := by decide +kernel
theorem dX8_digest_119 : decode cX8_digest 119 = .ok (.aload_n 0, 1) := by decide +kernel
theorem dX8_digest_120 : decode cX8_digest 120 = .ok (.getfield 53, 3) := by decide +kernel
theorem dX8_digest_123 : decode cX8_digest 123 = .ok (.iload_n 3, 1) := by decide +kernel
theorem dX8_digest_124 : decode cX8_digest 124 = .ok (.iaload, 1) := by decide +kernel
theorem dX8_digest_125 : decode cX8_digest 125 = .ok (.i2l, 1) := by decide +kernel
theorem dX8_digest_126 : decode cX8_digest 126 = .ok (.ladd, 1) := by decide +kernel
theorem dX8_digest_127 : decode cX8_digest 127 = .ok (.lstore_n 1, 1) := by decide +kernel
theorem dX8_digest_128 : decode cX8_digest 128 = .ok (.iinc 3 1, 3) := by decide +kernel
theorem dX8_digest_131 : decode cX8_digest 131 = .ok (.goto (-22), 3) := by decide +kernel
theorem dX8_digest_134 : decode cX8_digest 134 = .ok (.iconst 0, 1) := by decide +kernel
theorem dX8_digest_135 : decode cX8_digest 135 = .ok (.istore_n 3, 1) := by decide +kernel
theorem dX8_digest_136 : decode cX8_digest 136 = .ok (.iload_n 3, 1) := by decide +kernel
theorem dX8_digest_137 : decode cX8_digest 137 = .ok (.bipush 6, 2) := by decide +kernel
theorem dX8_digest_139 : decode cX8_digest 139 = .ok (.if_icmp .ge 63, 3) := by decide +kernel
theorem dX8_digest_142 : decode cX8_digest 142 = .ok (.ldc2_w 262, 3) := by decide +kernel
theorem dX8_digest_145 : decode cX8_digest 145 = .ok (.lload_n 1, 1) := by decide +kernel
theorem dX8_digest_146 : decode cX8_digest 146 = .ok (.lmul, 1) := by decide +kernel
theorem dX8_digest_147 : decode cX8_digest 147 = .ok (.aload_n 0, 1) := by decide +kernel
theorem dX8_digest_148 : decode cX8_digest 148 = .ok (.getfield 7, 3) := by decide +kernel
theorem dX8_digest_151 : decode cX8_digest 151 = .ok (.iload_n 3, 1) := by decide +kernel
theorem dX8_digest_152 : decode cX8_digest 152 = .ok (.iaload, 1) := by decide +kernel
theorem dX8_digest_153 : decode cX8_digest 153 = .ok (.i2l, 1) := by decide +kernel
theorem dX8_digest_154 : decode cX8_digest 154 = .ok (.ladd, 1) := by decide +kernel
theorem dX8_digest_155 : decode cX8_digest 155 = .ok (.lstore_n 1, 1) := by decide +kernel
theorem dX8_digest_156 : decode cX8_digest 156 = .ok (.iconst 0, 1) := by decide +kernel
theorem dX8_digest_157 : decode cX8_digest 157 = .ok (.istore 4, 2) := by decide +kernel
theorem dX8_digest_159 : decode cX8_digest 159 = .ok (.iload 4, 2) := by decide +kernel
theorem dX8_digest_161 : decode cX8_digest 161 = .ok (.aload_n 0, 1) := by decide +kernel
theorem dX8_digest_162 : decode cX8_digest 162 = .ok (.getfield 7, 3) := by decide +kernel
theorem dX8_digest_165 : decode cX8_digest 165 = .ok (.iload_n 3, 1) := by decide +kernel
theorem dX8_digest_166 : decode cX8_digest 166 = .ok (.iaload, 1) := by decide +kernel
theorem dX8_digest_167 : decode cX8_digest 167 = .ok (.if_icmp .ge 29, 3) := by decide +kernel
theorem dX8_digest_170 : decode cX8_digest 170 = .ok (.ldc2_w 262, 3) := by decide +kernel
theorem dX8_digest_173 : decode cX8_digest 173 = .ok (.lload_n 1, 1) := by decide +kernel
theorem dX8_digest_174 : decode cX8_digest 174 = .ok (.lmul, 1) := by decide +kernel
theorem dX8_digest_175 : decode cX8_digest 175 = .ok (.aload_n 0, 1) := by decide +kernel
theorem dX8_digest_176 : decode cX8_digest 176 = .ok (.getfield 13, 3) := by decide +kernel
theorem dX8_digest_179 : decode cX8_digest 179 = .ok (.bipush 40, 2) := by decide +kernel
theorem dX8_digest_181 : decode cX8_digest 181 = .ok (.iload_n 3, 1) := by decide +kernel
theorem dX8_digest_182 : decode cX8_digest 182 = .ok (.imul, 1) := by decide +kernel
theorem dX8_digest_183 : decode cX8_digest 183 = .ok (.iload 4, 2) := by decide +kernel
theorem dX8_digest_185 : decode cX8_digest 185 = .ok (.iadd, 1) := by decide +kernel
theorem dX8_digest_186 : decode cX8_digest 186 = .ok (.iaload, 1) := by decide +kernel
theorem dX8_digest_187 : decode cX8_digest 187 = .ok (.i2l, 1) := by decide +kernel
theorem dX8_digest_188 : decode cX8_digest 188 = .ok (.ladd, 1) := by decide +kernel
theorem dX8_digest_189 : decode cX8_digest 189 = .ok (.lstore_n 1, 1) := by decide +kernel
theorem dX8_digest_190 : decode cX8_digest 190 = .ok (.iinc 4 1, 3) := by decide +kernel
theorem dX8_digest_193 : decode cX8_digest 193 = .ok (.goto (-34), 3) := by decide +kernel
theorem dX8_digest_196 : decode cX8_digest 196 = .ok (.iinc 3 1, 3) := by decide +kernel
theorem dX8_digest_199 : decode cX8_digest 199 = .ok (.goto (-63), 3) := by decide +kernel
theorem dX8_digest_202 : decode cX8_digest 202 = .ok (.iconst 0, 1) := by decide +kernel
theorem dX8_digest_203 : decode cX8_digest 203 = .ok (.istore_n 3, 1) := by decide +kernel
theorem dX8_digest_204 : decode cX8_digest 204 = .ok (.iload_n 3, 1) := by decide +kernel
theorem dX8_digest_205 : decode cX8_digest 205 = .ok (.iconst 4, 1) := by decide +kernel
theorem dX8_digest_206 : decode cX8_digest 206 = .ok (.if_icmp .ge 63, 3) := by decide +kernel
theorem dX8_digest_209 : decode cX8_digest 209 = .ok (.ldc2_w 262, 3) := by decide +kernel
theorem dX8_digest_212 : decode cX8_digest 212 = .ok (.lload_n 1, 1) := by decide +kernel
theorem dX8_digest_213 : decode cX8_digest 213 = .ok (.lmul, 1) := by decide +kernel
theorem dX8_digest_214 : decode cX8_digest 214 = .ok (.aload_n 0, 1) := by decide +kernel
theorem dX8_digest_215 : decode cX8_digest 215 = .ok (.getfield 16, 3) := by decide +kernel
theorem dX8_digest_218 : decode cX8_digest 218 = .ok (.iload_n 3, 1) := by decide +kernel
theorem dX8_digest_219 : decode cX8_digest 219 = .ok (.iaload, 1) := by decide +kernel
theorem dX8_digest_220 : decode cX8_digest 220 = .ok (.i2l, 1) := by decide +kernel
theorem dX8_digest_221 : decode cX8_digest 221 = .ok (.ladd, 1) := by decide +kernel
theorem dX8_digest_222 : decode cX8_digest 222 = .ok (.lstore_n 1, 1) := by decide +kernel
theorem dX8_digest_223 : decode cX8_digest 223 = .ok (.iconst 0, 1) := by decide +kernel
theorem dX8_digest_224 : decode cX8_digest 224 = .ok (.istore 4, 2) := by decide +kernel
theorem dX8_digest_226 : decode cX8_digest 226 = .ok (.iload 4, 2) := by decide +kernel
theorem dX8_digest_228 : decode cX8_digest 228 = .ok (.aload_n 0, 1) := by decide +kernel
theorem dX8_digest_229 : decode cX8_digest 229 = .ok (.getfield 16, 3) := by decide +kernel
theorem dX8_digest_232 : decode cX8_digest 232 = .ok (.iload_n 3, 1) := by decide +kernel
theorem dX8_digest_233 : decode cX8_digest 233 = .ok (.iaload, 1) := by decide +kernel
theorem dX8_digest_234 : decode cX8_digest 234 = .ok (.if_icmp .ge 29, 3) := by decide +kernel
theorem dX8_digest_237 : decode cX8_digest 237 = .ok (.ldc2_w 262, 3) := by decide +kernel
theorem dX8_digest_240 : decode cX8_digest 240 = .ok (.lload_n 1, 1) := by decide +kernel
theorem dX8_digest_241 : decode cX8_digest 241 = .ok (.lmul, 1) := by decide +kernel
theorem dX8_digest_242 : decode cX8_digest 242 = .ok (.aload_n 0, 1) := by decide +kernel
theorem dX8_digest_243 : decode cX8_digest 243 = .ok (.getfield 19, 3) := by decide +kernel
theorem dX8_digest_246 : decode cX8_digest 246 = .ok (.bipush 60, 2) := by decide +kernel
theorem dX8_digest_248 : decode cX8_digest 248 = .ok (.iload_n 3, 1) := by decide +kernel
theorem dX8_digest_249 : decode cX8_digest 249 = .ok (.imul, 1) := by decide +kernel
theorem dX8_digest_250 : decode cX8_digest 250 = .ok (.iload 4, 2) := by decide +kernel
theorem dX8_digest_252 : decode cX8_digest 252 = .ok (.iadd, 1) := by decide +kernel
theorem dX8_digest_253 : decode cX8_digest 253 = .ok (.iaload, 1) := by decide +kernel
theorem dX8_digest_254 : decode cX8_digest 254 = .ok (.i2l, 1) := by decide +kernel
theorem dX8_digest_255 : decode cX8_digest 255 = .ok (.ladd, 1) := by decide +kernel
theorem dX8_digest_256 : decode cX8_digest 256 = .ok (.lstore_n 1, 1) := by decide +kernel
theorem dX8_digest_257 : decode cX8_digest 257 = .ok (.iinc 4 1, 3) := by decide +kernel
theorem dX8_digest_260 : decode cX8_digest 260 = .ok (.goto (-34), 3) := by decide +kernel
theorem dX8_digest_263 : decode cX8_digest 263 = .ok (.iinc 3 1, 3) := by decide +kernel
theorem dX8_digest_266 : decode cX8_digest 266 = .ok (.goto (-62), 3) := by decide +kernel
theorem dX8_digest_269 : decode cX8_digest 269 = .ok (.lload_n 1, 1) := by decide +kernel
theorem dX8_digest_270 : decode cX8_digest 270 = .ok (.lreturn, 1) := by decide +kernel
end
section
/-! ===== calls of methods whose answer and memory are known ===== -/
def zk_R (r : Option Value) (mu : Mem) (lm : MemL) : Option Value → Mem → MemL → Prop := fun r' m l => r' = r ∧ m = mu ∧ l = lm
section ZD
variable {d : Nat} {own : String} {cc : ByteArray} {nL : Nat} {ret : Option FieldType} {sx : Option (Nat × (Nat → Int32))} {ls st : List Value} {mu : Mem} {lm : MemL} {Q : Option Value → Mem → MemL → Prop} {pc : Nat} {own' : String} {y : MethodName} {cc' : ByteArray} {nL' : Nat} {ret' : Option FieldType} {n idx : Nat} {mu' : Mem} {lm' : MemL}
theorem zk_callSI {x : Int32} (hd : decode cc pc = .ok (.invokestatic idx, 3)) (hy : zk_Mt own' y cc' nL' ret' n) (hl : Cond.methodLink own idx y ∈ zk_tb) (hs : Cond.static y ∈ zk_tb) (as st' : List Value) (hst : st = as.reverse ++ st') (hn : as.length = n) (hlen : (zk_ent as).length ≤ nL') (hc : (st'.map fun v => v.category).sum ≤ 8)
    (h : zk_M d own' cc' nL' ret' none 0 (zk_loc as nL') [] mu lm (zk_R (some (.int x)) mu' lm')) (kk : zk_M (d + 1) own cc nL ret sx (pc + 3) ls (.int x :: st') mu' lm' Q) : zk_M (d + 1) own cc nL ret sx pc ls st mu lm Q := zk_callS hd hy hl hs as st' hst hn hlen hc h (fun r m l q => by
  obtain ⟨rfl, rfl, rfl⟩ := q
  exact kk)
theorem zk_callSNI {host : String} {x : Int32} (hd : decode cc pc = .ok (.invokestatic idx, 3)) (hy : zk_Mt own' y cc' nL' ret' n) (hl : ∀ s, zk_Nst s → va_Nw (.methodLinkNest own idx y host) s) (hs : Cond.static y ∈ zk_tb) (as st' : List Value) (hst : st = as.reverse ++ st') (hn : as.length = n) (hlen : (zk_ent as).length ≤ nL') (hc : (st'.map fun v => v.category).sum ≤ 8)
    (h : zk_M d own' cc' nL' ret' none 0 (zk_loc as nL') [] mu lm (zk_R (some (.int x)) mu' lm')) (kk : zk_M (d + 1) own cc nL ret sx (pc + 3) ls (.int x :: st') mu' lm' Q) : zk_M (d + 1) own cc nL ret sx pc ls st mu lm Q := zk_callSN hd hy hl hs as st' hst hn hlen hc h (fun r m l q => by
  obtain ⟨rfl, rfl, rfl⟩ := q
  exact kk)
theorem zk_callVI {x : Int32} (hd : decode cc pc = .ok (.invokevirtual idx, 3)) (hy : zk_Mt own' y cc' nL' ret' n) (hl : Cond.methodLink own idx y ∈ zk_tb) (hs : Cond.instanceMethod y ∈ zk_tb ∧ Cond.selects own' y y ∈ zk_tb) {b ci N : Nat} {fs : List Nat} {T : u_T} (hb : zk_shp[b]? = some (0, ci, fs)) (hci : vwCl[ci]? = some (own', T, N)) (as st' : List Value) (hst : st = as.reverse ++ .ref b :: st') (hn : as.length = n) (hlen : (zk_ent (.ref b :: as)).length ≤ nL') (hc : (st'.map fun v => v.category).sum ≤ 8)
    (h : zk_M d own' cc' nL' ret' none 0 (zk_loc (.ref b :: as) nL') [] mu lm (zk_R (some (.int x)) mu' lm')) (kk : zk_M (d + 1) own cc nL ret sx (pc + 3) ls (.int x :: st') mu' lm' Q) : zk_M (d + 1) own cc nL ret sx pc ls st mu lm Q := zk_callV hd hy hl hs hb hci as st' hst hn hlen hc h (fun r m l q => by
  obtain ⟨rfl, rfl, rfl⟩ := q
  exact kk)
theorem zk_callSJ {x : Int64} (hd : decode cc pc = .ok (.invokestatic idx, 3)) (hy : zk_Mt own' y cc' nL' ret' n) (hl : Cond.methodLink own idx y ∈ zk_tb) (hs : Cond.static y ∈ zk_tb) (as st' : List Value) (hst : st = as.reverse ++ st') (hn : as.length = n) (hlen : (zk_ent as).length ≤ nL') (hc : (st'.map fun v => v.category).sum ≤ 8)
    (h : zk_M d own' cc' nL' ret' none 0 (zk_loc as nL') [] mu lm (zk_R (some (.long x)) mu' lm')) (kk : zk_M (d + 1) own cc nL ret sx (pc + 3) ls (.long x :: st') mu' lm' Q) : zk_M (d + 1) own cc nL ret sx pc ls st mu lm Q := zk_callS hd hy hl hs as st' hst hn hlen hc h (fun r m l q => by
  obtain ⟨rfl, rfl, rfl⟩ := q
  exact kk)
theorem zk_callSNJ {host : String} {x : Int64} (hd : decode cc pc = .ok (.invokestatic idx, 3)) (hy : zk_Mt own' y cc' nL' ret' n) (hl : ∀ s, zk_Nst s → va_Nw (.methodLinkNest own idx y host) s) (hs : Cond.static y ∈ zk_tb) (as st' : List Value) (hst : st = as.reverse ++ st') (hn : as.length = n) (hlen : (zk_ent as).length ≤ nL') (hc : (st'.map fun v => v.category).sum ≤ 8)
    (h : zk_M d own' cc' nL' ret' none 0 (zk_loc as nL') [] mu lm (zk_R (some (.long x)) mu' lm')) (kk : zk_M (d + 1) own cc nL ret sx (pc + 3) ls (.long x :: st') mu' lm' Q) : zk_M (d + 1) own cc nL ret sx pc ls st mu lm Q := zk_callSN hd hy hl hs as st' hst hn hlen hc h (fun r m l q => by
  obtain ⟨rfl, rfl, rfl⟩ := q
  exact kk)
theorem zk_callVJ {x : Int64} (hd : decode cc pc = .ok (.invokevirtual idx, 3)) (hy : zk_Mt own' y cc' nL' ret' n) (hl : Cond.methodLink own idx y ∈ zk_tb) (hs : Cond.instanceMethod y ∈ zk_tb ∧ Cond.selects own' y y ∈ zk_tb) {b ci N : Nat} {fs : List Nat} {T : u_T} (hb : zk_shp[b]? = some (0, ci, fs)) (hci : vwCl[ci]? = some (own', T, N)) (as st' : List Value) (hst : st = as.reverse ++ .ref b :: st') (hn : as.length = n) (hlen : (zk_ent (.ref b :: as)).length ≤ nL') (hc : (st'.map fun v => v.category).sum ≤ 8)
    (h : zk_M d own' cc' nL' ret' none 0 (zk_loc (.ref b :: as) nL') [] mu lm (zk_R (some (.long x)) mu' lm')) (kk : zk_M (d + 1) own cc nL ret sx (pc + 3) ls (.long x :: st') mu' lm' Q) : zk_M (d + 1) own cc nL ret sx pc ls st mu lm Q := zk_callV hd hy hl hs hb hci as st' hst hn hlen hc h (fun r m l q => by
  obtain ⟨rfl, rfl, rfl⟩ := q
  exact kk)
theorem zk_callSA {x : Nat} (hd : decode cc pc = .ok (.invokestatic idx, 3)) (hy : zk_Mt own' y cc' nL' ret' n) (hl : Cond.methodLink own idx y ∈ zk_tb) (hs : Cond.static y ∈ zk_tb) (as st' : List Value) (hst : st = as.reverse ++ st') (hn : as.length = n) (hlen : (zk_ent as).length ≤ nL') (hc : (st'.map fun v => v.category).sum ≤ 8)
    (h : zk_M d own' cc' nL' ret' none 0 (zk_loc as nL') [] mu lm (zk_R (some (.ref x)) mu' lm')) (kk : zk_M (d + 1) own cc nL ret sx (pc + 3) ls (.ref x :: st') mu' lm' Q) : zk_M (d + 1) own cc nL ret sx pc ls st mu lm Q := zk_callS hd hy hl hs as st' hst hn hlen hc h (fun r m l q => by
  obtain ⟨rfl, rfl, rfl⟩ := q
  exact kk)
theorem zk_callSNA {host : String} {x : Nat} (hd : decode cc pc = .ok (.invokestatic idx, 3)) (hy : zk_Mt own' y cc' nL' ret' n) (hl : ∀ s, zk_Nst s → va_Nw (.methodLinkNest own idx y host) s) (hs : Cond.static y ∈ zk_tb) (as st' : List Value) (hst : st = as.reverse ++ st') (hn : as.length = n) (hlen : (zk_ent as).length ≤ nL') (hc : (st'.map fun v => v.category).sum ≤ 8)
    (h : zk_M d own' cc' nL' ret' none 0 (zk_loc as nL') [] mu lm (zk_R (some (.ref x)) mu' lm')) (kk : zk_M (d + 1) own cc nL ret sx (pc + 3) ls (.ref x :: st') mu' lm' Q) : zk_M (d + 1) own cc nL ret sx pc ls st mu lm Q := zk_callSN hd hy hl hs as st' hst hn hlen hc h (fun r m l q => by
  obtain ⟨rfl, rfl, rfl⟩ := q
  exact kk)
theorem zk_callVA {x : Nat} (hd : decode cc pc = .ok (.invokevirtual idx, 3)) (hy : zk_Mt own' y cc' nL' ret' n) (hl : Cond.methodLink own idx y ∈ zk_tb) (hs : Cond.instanceMethod y ∈ zk_tb ∧ Cond.selects own' y y ∈ zk_tb) {b ci N : Nat} {fs : List Nat} {T : u_T} (hb : zk_shp[b]? = some (0, ci, fs)) (hci : vwCl[ci]? = some (own', T, N)) (as st' : List Value) (hst : st = as.reverse ++ .ref b :: st') (hn : as.length = n) (hlen : (zk_ent (.ref b :: as)).length ≤ nL') (hc : (st'.map fun v => v.category).sum ≤ 8)
    (h : zk_M d own' cc' nL' ret' none 0 (zk_loc (.ref b :: as) nL') [] mu lm (zk_R (some (.ref x)) mu' lm')) (kk : zk_M (d + 1) own cc nL ret sx (pc + 3) ls (.ref x :: st') mu' lm' Q) : zk_M (d + 1) own cc nL ret sx pc ls st mu lm Q := zk_callV hd hy hl hs hb hci as st' hst hn hlen hc h (fun r m l q => by
  obtain ⟨rfl, rfl, rfl⟩ := q
  exact kk)
theorem zk_callSU (hd : decode cc pc = .ok (.invokestatic idx, 3)) (hy : zk_Mt own' y cc' nL' ret' n) (hl : Cond.methodLink own idx y ∈ zk_tb) (hs : Cond.static y ∈ zk_tb) (as st' : List Value) (hst : st = as.reverse ++ st') (hn : as.length = n) (hlen : (zk_ent as).length ≤ nL') (hc : (st'.map fun v => v.category).sum ≤ 8)
    (h : zk_M d own' cc' nL' ret' none 0 (zk_loc as nL') [] mu lm (zk_R (some .null) mu' lm')) (kk : zk_M (d + 1) own cc nL ret sx (pc + 3) ls (.null :: st') mu' lm' Q) : zk_M (d + 1) own cc nL ret sx pc ls st mu lm Q := zk_callS hd hy hl hs as st' hst hn hlen hc h (fun r m l q => by
  obtain ⟨rfl, rfl, rfl⟩ := q
  exact kk)
theorem zk_callSNU {host : String}  (hd : decode cc pc = .ok (.invokestatic idx, 3)) (hy : zk_Mt own' y cc' nL' ret' n) (hl : ∀ s, zk_Nst s → va_Nw (.methodLinkNest own idx y host) s) (hs : Cond.static y ∈ zk_tb) (as st' : List Value) (hst : st = as.reverse ++ st') (hn : as.length = n) (hlen : (zk_ent as).length ≤ nL') (hc : (st'.map fun v => v.category).sum ≤ 8)
    (h : zk_M d own' cc' nL' ret' none 0 (zk_loc as nL') [] mu lm (zk_R (some .null) mu' lm')) (kk : zk_M (d + 1) own cc nL ret sx (pc + 3) ls (.null :: st') mu' lm' Q) : zk_M (d + 1) own cc nL ret sx pc ls st mu lm Q := zk_callSN hd hy hl hs as st' hst hn hlen hc h (fun r m l q => by
  obtain ⟨rfl, rfl, rfl⟩ := q
  exact kk)
theorem zk_callVU (hd : decode cc pc = .ok (.invokevirtual idx, 3)) (hy : zk_Mt own' y cc' nL' ret' n) (hl : Cond.methodLink own idx y ∈ zk_tb) (hs : Cond.instanceMethod y ∈ zk_tb ∧ Cond.selects own' y y ∈ zk_tb) {b ci N : Nat} {fs : List Nat} {T : u_T} (hb : zk_shp[b]? = some (0, ci, fs)) (hci : vwCl[ci]? = some (own', T, N)) (as st' : List Value) (hst : st = as.reverse ++ .ref b :: st') (hn : as.length = n) (hlen : (zk_ent (.ref b :: as)).length ≤ nL') (hc : (st'.map fun v => v.category).sum ≤ 8)
    (h : zk_M d own' cc' nL' ret' none 0 (zk_loc (.ref b :: as) nL') [] mu lm (zk_R (some .null) mu' lm')) (kk : zk_M (d + 1) own cc nL ret sx (pc + 3) ls (.null :: st') mu' lm' Q) : zk_M (d + 1) own cc nL ret sx pc ls st mu lm Q := zk_callV hd hy hl hs hb hci as st' hst hn hlen hc h (fun r m l q => by
  obtain ⟨rfl, rfl, rfl⟩ := q
  exact kk)
theorem zk_callSV  (hd : decode cc pc = .ok (.invokestatic idx, 3)) (hy : zk_Mt own' y cc' nL' ret' n) (hl : Cond.methodLink own idx y ∈ zk_tb) (hs : Cond.static y ∈ zk_tb) (as st' : List Value) (hst : st = as.reverse ++ st') (hn : as.length = n) (hlen : (zk_ent as).length ≤ nL') (hc : (st'.map fun v => v.category).sum ≤ 8)
    (h : zk_M d own' cc' nL' ret' none 0 (zk_loc as nL') [] mu lm (zk_R none mu' lm')) (kk : zk_M (d + 1) own cc nL ret sx (pc + 3) ls st' mu' lm' Q) : zk_M (d + 1) own cc nL ret sx pc ls st mu lm Q := zk_callS hd hy hl hs as st' hst hn hlen hc h (fun r m l q => by
  obtain ⟨rfl, rfl, rfl⟩ := q
  exact kk)
theorem zk_callSNV {host : String}  (hd : decode cc pc = .ok (.invokestatic idx, 3)) (hy : zk_Mt own' y cc' nL' ret' n) (hl : ∀ s, zk_Nst s → va_Nw (.methodLinkNest own idx y host) s) (hs : Cond.static y ∈ zk_tb) (as st' : List Value) (hst : st = as.reverse ++ st') (hn : as.length = n) (hlen : (zk_ent as).length ≤ nL') (hc : (st'.map fun v => v.category).sum ≤ 8)
    (h : zk_M d own' cc' nL' ret' none 0 (zk_loc as nL') [] mu lm (zk_R none mu' lm')) (kk : zk_M (d + 1) own cc nL ret sx (pc + 3) ls st' mu' lm' Q) : zk_M (d + 1) own cc nL ret sx pc ls st mu lm Q := zk_callSN hd hy hl hs as st' hst hn hlen hc h (fun r m l q => by
  obtain ⟨rfl, rfl, rfl⟩ := q
  exact kk)
theorem zk_callVV  (hd : decode cc pc = .ok (.invokevirtual idx, 3)) (hy : zk_Mt own' y cc' nL' ret' n) (hl : Cond.methodLink own idx y ∈ zk_tb) (hs : Cond.instanceMethod y ∈ zk_tb ∧ Cond.selects own' y y ∈ zk_tb) {b ci N : Nat} {fs : List Nat} {T : u_T} (hb : zk_shp[b]? = some (0, ci, fs)) (hci : vwCl[ci]? = some (own', T, N)) (as st' : List Value) (hst : st = as.reverse ++ .ref b :: st') (hn : as.length = n) (hlen : (zk_ent (.ref b :: as)).length ≤ nL') (hc : (st'.map fun v => v.category).sum ≤ 8)
    (h : zk_M d own' cc' nL' ret' none 0 (zk_loc (.ref b :: as) nL') [] mu lm (zk_R none mu' lm')) (kk : zk_M (d + 1) own cc nL ret sx (pc + 3) ls st' mu' lm' Q) : zk_M (d + 1) own cc nL ret sx pc ls st mu lm Q := zk_callV hd hy hl hs hb hci as st' hst hn hlen hc h (fun r m l q => by
  obtain ⟨rfl, rfl, rfl⟩ := q
  exact kk)
theorem zk_mmax {x y : Int32} (hd : decode cc pc = .ok (.invokestatic idx, 3)) (hl : Cond.methodLink own idx yJ9_max_7cf53 ∈ zk_tb) (hc : (st.map fun v => v.category).sum ≤ 8) (k : zk_M (d + 1) own cc nL ret sx (pc + 3) ls (.int (if x < y then y else x) :: st) mu lm Q) : zk_M (d + 1) own cc nL ret sx pc ls (.int y :: .int x :: st) mu lm Q := by
  intro p l e R s m args below meth cd D ρ γ A cells slots H locs Z lsr C Wd hls K
  obtain ⟨⟨hx, hb, hml, hown, hts⟩, c2, hK, hA, ⟨c5, c6, c7, c7'⟩, c8⟩ := id C
  exact va_mmax hx hb (hml.trans hls.1.symm) hown (hts _ hl) (hts _ (zk_in 390 (by decide +kernel) rfl)) (hts _ (zk_in 64 (by decide +kernel) rfl)) (hts _ (zk_in 391 (by decide +kernel) rfl)) (by omega) (by rw [zk_cat]; omega) c7 c7' hd (k p l e R s m args below meth cd D ρ γ A cells slots H locs Z lsr C Wd hls K)
theorem zk_mmin {x y : Int32} (hd : decode cc pc = .ok (.invokestatic idx, 3)) (hl : Cond.methodLink own idx yJ9_min_7cf53 ∈ zk_tb) (hc : (st.map fun v => v.category).sum ≤ 8) (k : zk_M (d + 1) own cc nL ret sx (pc + 3) ls (.int (if y < x then y else x) :: st) mu lm Q) : zk_M (d + 1) own cc nL ret sx pc ls (.int y :: .int x :: st) mu lm Q := by
  intro p l e R s m args below meth cd D ρ γ A cells slots H locs Z lsr C Wd hls K
  obtain ⟨⟨hx, hb, hml, hown, hts⟩, c2, hK, hA, ⟨c5, c6, c7, c7'⟩, c8⟩ := id C
  exact va_mmin hx hb (hml.trans hls.1.symm) hown (hts _ hl) (hts _ (zk_in 241 (by decide +kernel) rfl)) (hts _ (zk_in 64 (by decide +kernel) rfl)) (hts _ (zk_in 242 (by decide +kernel) rfl)) (by omega) (by rw [zk_cat]; omega) c7 c7' hd (k p l e R s m args below meth cd D ρ γ A cells slots H locs Z lsr C Wd hls K)
end ZD
end
section
/-! ===== plain words for answers ===== -/
def zb (P : Prop) [Decidable P] : Int32 := if P then 1 else 0
theorem zb_e {P : Prop} [Decidable P] : (zb P = 0) = ¬ P := by
  unfold zb; by_cases h : P <;> simp [h]
theorem zb_n {P : Prop} [Decidable P] : (¬ zb P = 0) = P := by
  unfold zb; by_cases h : P <;> simp [h]
theorem zb_t {P : Prop} [Decidable P] (h : P) : zb P = 1 := if_pos h
theorem zb_f {P : Prop} [Decidable P] (h : ¬ P) : zb P = 0 := if_neg h
theorem zb_01 {P : Prop} [Decidable P] : zb P = 0 ∨ zb P = 1 := by
  unfold zb; by_cases h : P <;> simp [h]
theorem zk_ri {x y : Int32} {mu : Mem} {lm : MemL} (h : x = y) : zk_R (some (.int y)) mu lm (some (.int x)) mu lm := ⟨by rw [h], rfl, rfl⟩
theorem zk_rl {x y : Int64} {mu : Mem} {lm : MemL} (h : x = y) : zk_R (some (.long y)) mu lm (some (.long x)) mu lm := ⟨by rw [h], rfl, rfl⟩
theorem zk_rm {x y : Int32} {mu mu' : Mem} {lm lm' : MemL} (h : x = y) (h2 : mu = mu') (h3 : lm = lm') : zk_R (some (.int y)) mu' lm' (some (.int x)) mu lm := ⟨by rw [h], h2, h3⟩
theorem zk_rv0 {mu mu' : Mem} {lm lm' : MemL} (h2 : mu = mu') (h3 : lm = lm') : zk_R none mu' lm' none mu lm := ⟨rfl, h2, h3⟩
/-- a loop that counts up to C -/
theorem zk_ind {P : Nat → Prop} (C : Nat) (h : ∀ k, k ≤ C → (k < C → P (k + 1)) → P k) : ∀ k, k ≤ C → P k := by
  have key : ∀ m k, k + m = C → P k := by
    intro m
    induction m with
    | zero => intro k hk; exact h k (by omega) (fun q => by omega)
    | succ m ih => intro k hk; exact h k (by omega) (fun _ => ih (k + 1) (by omega))
  intro k hk
  exact key (C - k) k (by omega)
/-- a loop that counts down to 0: P k is the loop's head with k to go -/
theorem zk_dn {P : Nat → Prop} (h : ∀ k, (∀ j, k = j + 1 → P j) → P k) : ∀ k, P k := by
  intro k
  induction k with
  | zero => exact h 0 (fun j q => by omega)
  | succ k ih => exact h (k + 1) (fun j q => by rw [show j = k by omega]; exact ih)
def zsum : Nat → (Nat → Int32) → Int32
  | 0, _ => 0
  | k + 1, f => zsum k f + f k
theorem zsum_s (k : Nat) (f : Nat → Int32) : zsum (k + 1) f = zsum k f + f k := rfl
theorem zsum_cong {f g : Nat → Int32} : ∀ {n : Nat}, (∀ k, k < n → f k = g k) → zsum n f = zsum n g
  | 0, _ => rfl
  | n + 1, h => by rw [zsum, zsum, zsum_cong (fun k hk => h k (by omega)), h n (by omega)]
theorem zlt {x y : Int32} : (x < y) = (x.toInt < y.toInt) := propext Int32.lt_iff_toInt_lt
theorem zle {x y : Int32} : (x ≤ y) = (x.toInt ≤ y.toInt) := propext Int32.le_iff_toInt_le
theorem zeq {x y : Int32} : (x = y) = (x.toInt = y.toInt) := propext Int32.toInt_inj.symm
theorem nIle {a b : Nat} (ha : a < 2147483648) (hb : b < 2147483648) : (nI a ≤ nI b) = (a ≤ b) := propext (nI_leI ha hb)
theorem nIlt {a b : Nat} (ha : a < 2147483648) (hb : b < 2147483648) : (nI a < nI b) = (a < b) := propext (nI_ltI ha hb)
theorem nIeq {a b : Nat} (ha : a < 2147483648) (hb : b < 2147483648) : (nI a = nI b) = (a = b) := propext (nI_eq ha hb)
theorem zi_10 : ((10 : Int32) = 0) = False := by decide
section M20
variable {d : Nat} {mu : Mem} {lm : MemL}
theorem sp_X7_within (x a b : Int32) : zk_M d RX7 cX7_within 3 (some .boolean) none 0 (zk_loc [.int x, .int a, .int b] 3) [] mu lm (zk_R (some (.int (zb (a ≤ x ∧ x ≤ b)))) mu lm) := by
  refine zk_iload_n (pc := 0) 0 dX7_within_0 rfl rfl ?_
  refine zk_iload_n (pc := 1) 1 dX7_within_1 rfl rfl ?_
  refine zk_icmp_lt (pc := 2) 14 dX7_within_2 (by decide) (fun h2 => ?_) (fun h2 => ?_)
  · skip
    refine zk_iconst (pc := 14) (v := 0) dX7_within_14 (by decide) ?_
    refine zk_ireturn (pc := 15) dX7_within_15 (Or.inr ⟨rfl, by first | exact Or.inl rfl | exact Or.inr rfl⟩) ?_
    apply zk_ri; unfold zb; simp only [zlt, zle] at *; split <;> first | rfl | (exfalso; omega)
  · skip
    refine zk_iload_n (pc := 5) 0 dX7_within_5 rfl rfl ?_
    refine zk_iload_n (pc := 6) 2 dX7_within_6 rfl rfl ?_
    refine zk_icmp_gt (pc := 7) 14 dX7_within_7 (by decide) (fun h7 => ?_) (fun h7 => ?_)
    · skip
      refine zk_iconst (pc := 14) (v := 0) dX7_within_14 (by decide) ?_
      refine zk_ireturn (pc := 15) dX7_within_15 (Or.inr ⟨rfl, by first | exact Or.inl rfl | exact Or.inr rfl⟩) ?_
      apply zk_ri; unfold zb; simp only [zlt, zle] at *; split <;> first | rfl | (exfalso; omega)
    · skip
      refine zk_iconst (pc := 10) (v := 1) dX7_within_10 (by decide) ?_
      refine zk_goto (pc := 11) 15 dX7_within_11 (by decide) ?_
      refine zk_ireturn (pc := 15) dX7_within_15 (Or.inr ⟨rfl, by first | exact Or.inl rfl | exact Or.inr rfl⟩) ?_
      apply zk_ri; unfold zb; simp only [zlt, zle] at *; split <;> first | rfl | (exfalso; omega)
theorem sp_X2_isOf (k w : Int32) (hw : w = 0 ∨ w = 1 ∨ w = 2 ∨ w = 3 ∨ w = 4 ∨ w = 5) : zk_M d RX2 cX2_isOf 2 (some .boolean) none 0 (zk_loc [.int k, .int w] 2) [] mu lm (zk_R (some (.int (zb (w = 0 ∨ (w = 1 ∧ (k = 1 ∨ k = 4)) ∨ (w = 2 ∧ (k = 2 ∨ k = 5)) ∨ (w ≠ 0 ∧ w ≠ 1 ∧ w ≠ 2 ∧ k = w))))) mu lm) := by
  refine zk_iload_n (pc := 0) 1 dX2_isOf_0 rfl rfl ?_
  by_cases e0 : w = 0
  · subst e0
    refine zk_tabIn (pc := 1) 28 dX2_isOf_1 (by decide) (by decide) (by rfl) (by decide) ?_
    refine zk_iconst (pc := 28) (v := 1) dX2_isOf_28 (by decide) ?_
    refine zk_ireturn (pc := 29) dX2_isOf_29 (Or.inr ⟨rfl, by first | exact Or.inl rfl | exact Or.inr rfl⟩) ?_
    apply zk_ri; unfold zb; simp
  by_cases e1 : w = 1
  · subst e1
    refine zk_tabIn (pc := 1) 30 dX2_isOf_1 (by decide) (by decide) (by rfl) (by decide) ?_
    refine zk_iload_n (pc := 30) 0 dX2_isOf_30 rfl rfl ?_
    refine zk_iconst (pc := 31) (v := 1) dX2_isOf_31 (by decide) ?_
    refine zk_icmp_eq (pc := 32) 40 dX2_isOf_32 (by decide) (fun h32 => ?_) (fun h32 => ?_)
    · skip
      refine zk_iconst (pc := 40) (v := 1) dX2_isOf_40 (by decide) ?_
      refine zk_goto (pc := 41) 45 dX2_isOf_41 (by decide) ?_
      refine zk_ireturn (pc := 45) dX2_isOf_45 (Or.inr ⟨rfl, by first | exact Or.inl rfl | exact Or.inr rfl⟩) ?_
      apply zk_ri; unfold zb; simp_all
    · skip
      refine zk_iload_n (pc := 35) 0 dX2_isOf_35 rfl rfl ?_
      refine zk_iconst (pc := 36) (v := 4) dX2_isOf_36 (by decide) ?_
      refine zk_icmp_ne (pc := 37) 44 dX2_isOf_37 (by decide) (fun h37 => ?_) (fun h37 => ?_)
      · skip
        refine zk_iconst (pc := 44) (v := 0) dX2_isOf_44 (by decide) ?_
        refine zk_ireturn (pc := 45) dX2_isOf_45 (Or.inr ⟨rfl, by first | exact Or.inl rfl | exact Or.inr rfl⟩) ?_
        apply zk_ri; unfold zb; simp_all
      · skip
        refine zk_iconst (pc := 40) (v := 1) dX2_isOf_40 (by decide) ?_
        refine zk_goto (pc := 41) 45 dX2_isOf_41 (by decide) ?_
        refine zk_ireturn (pc := 45) dX2_isOf_45 (Or.inr ⟨rfl, by first | exact Or.inl rfl | exact Or.inr rfl⟩) ?_
        apply zk_ri; unfold zb; simp_all
  by_cases e2 : w = 2
  · subst e2
    refine zk_tabIn (pc := 1) 46 dX2_isOf_1 (by decide) (by decide) (by rfl) (by decide) ?_
    refine zk_iload_n (pc := 46) 0 dX2_isOf_46 rfl rfl ?_
    refine zk_iconst (pc := 47) (v := 2) dX2_isOf_47 (by decide) ?_
    refine zk_icmp_eq (pc := 48) 56 dX2_isOf_48 (by decide) (fun h48 => ?_) (fun h48 => ?_)
    · skip
      refine zk_iconst (pc := 56) (v := 1) dX2_isOf_56 (by decide) ?_
      refine zk_goto (pc := 57) 61 dX2_isOf_57 (by decide) ?_
      refine zk_ireturn (pc := 61) dX2_isOf_61 (Or.inr ⟨rfl, by first | exact Or.inl rfl | exact Or.inr rfl⟩) ?_
      apply zk_ri; unfold zb; simp_all
    · skip
      refine zk_iload_n (pc := 51) 0 dX2_isOf_51 rfl rfl ?_
      refine zk_iconst (pc := 52) (v := 5) dX2_isOf_52 (by decide) ?_
      refine zk_icmp_ne (pc := 53) 60 dX2_isOf_53 (by decide) (fun h53 => ?_) (fun h53 => ?_)
      · skip
        refine zk_iconst (pc := 60) (v := 0) dX2_isOf_60 (by decide) ?_
        refine zk_ireturn (pc := 61) dX2_isOf_61 (Or.inr ⟨rfl, by first | exact Or.inl rfl | exact Or.inr rfl⟩) ?_
        apply zk_ri; unfold zb; simp_all
      · skip
        refine zk_iconst (pc := 56) (v := 1) dX2_isOf_56 (by decide) ?_
        refine zk_goto (pc := 57) 61 dX2_isOf_57 (by decide) ?_
        refine zk_ireturn (pc := 61) dX2_isOf_61 (Or.inr ⟨rfl, by first | exact Or.inl rfl | exact Or.inr rfl⟩) ?_
        apply zk_ri; unfold zb; simp_all
  · refine zk_tabOut (pc := 1) 62 dX2_isOf_1 (by rcases hw with rfl | rfl | rfl | rfl | rfl | rfl <;> first | exact absurd rfl e0 | exact absurd rfl e1 | exact absurd rfl e2 | (right; decide)) (by decide) ?_
    refine zk_iload_n (pc := 62) 0 dX2_isOf_62 rfl rfl ?_
    refine zk_iload_n (pc := 63) 1 dX2_isOf_63 rfl rfl ?_
    refine zk_icmp_ne (pc := 64) 71 dX2_isOf_64 (by decide) (fun h64 => ?_) (fun h64 => ?_)
    · skip
      refine zk_iconst (pc := 71) (v := 0) dX2_isOf_71 (by decide) ?_
      refine zk_ireturn (pc := 72) dX2_isOf_72 (Or.inr ⟨rfl, by first | exact Or.inl rfl | exact Or.inr rfl⟩) ?_
      apply zk_ri; unfold zb; simp_all
    · skip
      refine zk_iconst (pc := 67) (v := 1) dX2_isOf_67 (by decide) ?_
      refine zk_goto (pc := 68) 72 dX2_isOf_68 (by decide) ?_
      refine zk_ireturn (pc := 72) dX2_isOf_72 (Or.inr ⟨rfl, by first | exact Or.inl rfl | exact Or.inr rfl⟩) ?_
      apply zk_ri; unfold zb; simp_all
/-- what a kind says of v -/
def kSay (k v : Int32) : Int32 := if k = 2 then v - (v - v / 10 * 10) else if k = 5 then v - v / 10 * 10 else if k = 3 then v else if k = 4 then (if 0 < v / 2 - 1 then v / 2 - 1 else 0) else v / 2
theorem sp_X2_spoken (k v : Int32) : zk_M (d + 1) RX2 cX2_spoken 2 (some .int) none 0 (zk_loc [.int k, .int v] 2) [] mu lm (zk_R (some (.int (kSay k v))) mu lm) := by
  refine zk_iload_n (pc := 0) 0 dX2_spoken_0 rfl rfl ?_
  by_cases e2 : k = 2
  · subst e2
    refine zk_tabIn (pc := 1) 32 dX2_spoken_1 (by decide) (by decide) (by rfl) (by decide) ?_
    refine zk_iload_n (pc := 32) 1 dX2_spoken_32 rfl rfl ?_
    refine zk_iload_n (pc := 33) 1 dX2_spoken_33 rfl rfl ?_
    refine zk_bipush (pc := 34) (v := 10) dX2_spoken_34 (by decide) ?_
    refine zk_irem (pc := 36) dX2_spoken_36 (by decide) ?_
    refine zk_isub (pc := 37) dX2_spoken_37 ?_
    refine zk_ireturn (pc := 38) dX2_spoken_38 (Or.inl rfl) ?_
    exact zk_ri rfl
  by_cases e3 : k = 3
  · subst e3
    refine zk_tabIn (pc := 1) 44 dX2_spoken_1 (by decide) (by decide) (by rfl) (by decide) ?_
    refine zk_iload_n (pc := 44) 1 dX2_spoken_44 rfl rfl ?_
    refine zk_ireturn (pc := 45) dX2_spoken_45 (Or.inl rfl) ?_
    exact zk_ri rfl
  by_cases e4 : k = 4
  · subst e4
    refine zk_tabIn (pc := 1) 46 dX2_spoken_1 (by decide) (by decide) (by rfl) (by decide) ?_
    refine zk_iconst (pc := 46) (v := 0) dX2_spoken_46 (by decide) ?_
    refine zk_iload_n (pc := 47) 1 dX2_spoken_47 rfl rfl ?_
    refine zk_iconst (pc := 48) (v := 2) dX2_spoken_48 (by decide) ?_
    refine zk_idiv (pc := 49) dX2_spoken_49 (by decide) ?_
    refine zk_iconst (pc := 50) (v := 1) dX2_spoken_50 (by decide) ?_
    refine zk_isub (pc := 51) dX2_spoken_51 ?_
    refine zk_mmax (pc := 52) dX2_spoken_52 lkX2_11 (Nat.le_of_ble_eq_true rfl) ?_
    refine zk_ireturn (pc := 55) dX2_spoken_55 (Or.inl rfl) ?_
    exact zk_ri rfl
  by_cases e5 : k = 5
  · subst e5
    refine zk_tabIn (pc := 1) 39 dX2_spoken_1 (by decide) (by decide) (by rfl) (by decide) ?_
    refine zk_iload_n (pc := 39) 1 dX2_spoken_39 rfl rfl ?_
    refine zk_bipush (pc := 40) (v := 10) dX2_spoken_40 (by decide) ?_
    refine zk_irem (pc := 42) dX2_spoken_42 (by decide) ?_
    refine zk_ireturn (pc := 43) dX2_spoken_43 (Or.inl rfl) ?_
    exact zk_ri rfl
  · have a2 : (2 : Int32).toInt = 2 := by decide
    have a3 : (3 : Int32).toInt = 3 := by decide
    have a4 : (4 : Int32).toInt = 4 := by decide
    have a5 : (5 : Int32).toInt = 5 := by decide
    have b2 : ¬ k.toInt = 2 := fun q => e2 (Int32.toInt_inj.mp (q.trans a2.symm))
    have b3 : ¬ k.toInt = 3 := fun q => e3 (Int32.toInt_inj.mp (q.trans a3.symm))
    have b4 : ¬ k.toInt = 4 := fun q => e4 (Int32.toInt_inj.mp (q.trans a4.symm))
    have b5 : ¬ k.toInt = 5 := fun q => e5 (Int32.toInt_inj.mp (q.trans a5.symm))
    refine zk_tabOut (pc := 1) (x := k) 56 dX2_spoken_1 (by omega) (by decide) ?_
    refine zk_iload_n (pc := 56) 1 dX2_spoken_56 rfl rfl ?_
    refine zk_iconst (pc := 57) (v := 2) dX2_spoken_57 (by decide) ?_
    refine zk_idiv (pc := 58) dX2_spoken_58 (by decide) ?_
    refine zk_ireturn (pc := 59) dX2_spoken_59 (Or.inl rfl) ?_
    exact zk_ri (by unfold kSay; rw [if_neg e2, if_neg e5, if_neg e3, if_neg e4])
theorem sp_X2_breathed (k v : Int32) : zk_M (d + 2) RX2 cX2_breathed 2 (some .int) none 0 (zk_loc [.int k, .int v] 2) [] mu lm (zk_R (some (.int (v - kSay k v))) mu lm) := by
  refine zk_iload_n (pc := 0) 1 dX2_breathed_0 rfl rfl ?_
  refine zk_iload_n (pc := 1) 0 dX2_breathed_1 rfl rfl ?_
  refine zk_iload_n (pc := 2) 1 dX2_breathed_2 rfl rfl ?_
  refine zk_callSI (pc := 3) dX2_breathed_3 mtX2_spoken lkX2_17 stX2_spoken [_, _] _ rfl rfl (Nat.le_of_ble_eq_true rfl) (Nat.le_of_ble_eq_true rfl) (sp_X2_spoken _ _) ?_
  refine zk_isub (pc := 6) dX2_breathed_6 ?_
  refine zk_ireturn (pc := 7) dX2_breathed_7 (Or.inl rfl) ?_
  exact zk_ri rfl
theorem sp_X2_meaningsOf (k s : Int32) : zk_M (d + 2) RX2 cX2_meaningsOf 4 (some .int) none 0 (zk_loc [.int k, .int s] 4) [] mu lm (zk_R (some (.int (zsum 100 (fun v => zb (kSay k (nI v) = s))))) mu lm) := by
  have loop : ∀ j, j ≤ 100 → zk_M (d + 2) RX2 cX2_meaningsOf 4 (some .int) none 4 [.int k, .int s, .int (zsum j (fun v => zb (kSay k (nI v) = s))), .int (nI j)] [] mu lm (zk_R (some (.int (zsum 100 (fun v => zb (kSay k (nI v) = s))))) mu lm) := by
    refine zk_ind 100 (fun j hj ih => ?_)
    refine zk_iload_n (pc := 4) 3 dX2_meaningsOf_4 rfl rfl ?_
    refine zk_bipush (pc := 5) (v := 99) dX2_meaningsOf_5 (by decide) ?_
    refine zk_icmp_gt (pc := 7) 33 dX2_meaningsOf_7 (by decide) (fun h7 => ?_) (fun h7 => ?_)
    · rw [show (99 : Int32) = nI 99 from rfl, nIlt (by omega) (by omega)] at h7
      refine zk_iload_n (pc := 33) 2 dX2_meaningsOf_33 rfl rfl ?_
      refine zk_ireturn (pc := 34) dX2_meaningsOf_34 (Or.inl rfl) ?_
      exact zk_ri (by rw [show j = 100 by omega])
    · rw [show (99 : Int32) = nI 99 from rfl, nIlt (by omega) (by omega)] at h7
      refine zk_iload_n (pc := 10) 2 dX2_meaningsOf_10 rfl rfl ?_
      refine zk_iload_n (pc := 11) 0 dX2_meaningsOf_11 rfl rfl ?_
      refine zk_iload_n (pc := 12) 3 dX2_meaningsOf_12 rfl rfl ?_
      refine zk_callSI (pc := 13) dX2_meaningsOf_13 mtX2_spoken lkX2_17 stX2_spoken [_, _] _ rfl rfl (Nat.le_of_ble_eq_true rfl) (Nat.le_of_ble_eq_true rfl) (sp_X2_spoken _ _) ?_
      refine zk_iload_n (pc := 16) 1 dX2_meaningsOf_16 rfl rfl ?_
      refine zk_icmp_ne (pc := 17) 24 dX2_meaningsOf_17 (by decide) (fun h17 => ?_) (fun h17 => ?_)
      · skip
        refine zk_iconst (pc := 24) (v := 0) dX2_meaningsOf_24 (by decide) ?_
        refine zk_iadd (pc := 25) dX2_meaningsOf_25 ?_
        refine zk_istore_n (pc := 26) 2 dX2_meaningsOf_26 rfl (by decide) ?_
        refine zk_iinc (pc := 27) dX2_meaningsOf_27 rfl (nI_1 j) (by decide) ?_
        refine zk_goto (pc := 30) 4 dX2_meaningsOf_30 (by decide) ?_
        have e := ih (by omega)
        rw [zsum_s] at e
        first | (rw [zb_t h17] at e; exact e) | (rw [zb_f h17] at e; exact e)
      · skip
        refine zk_iconst (pc := 20) (v := 1) dX2_meaningsOf_20 (by decide) ?_
        refine zk_goto (pc := 21) 25 dX2_meaningsOf_21 (by decide) ?_
        refine zk_iadd (pc := 25) dX2_meaningsOf_25 ?_
        refine zk_istore_n (pc := 26) 2 dX2_meaningsOf_26 rfl (by decide) ?_
        refine zk_iinc (pc := 27) dX2_meaningsOf_27 rfl (nI_1 j) (by decide) ?_
        refine zk_goto (pc := 30) 4 dX2_meaningsOf_30 (by decide) ?_
        have e := ih (by omega)
        rw [zsum_s] at e
        first | (rw [zb_t h17] at e; exact e) | (rw [zb_f h17] at e; exact e)
  refine zk_iconst (pc := 0) (v := 0) dX2_meaningsOf_0 (by decide) ?_
  refine zk_istore_n (pc := 1) 2 dX2_meaningsOf_1 rfl (by decide) ?_
  refine zk_iconst (pc := 2) (v := 0) dX2_meaningsOf_2 (by decide) ?_
  refine zk_istore_n (pc := 3) 3 dX2_meaningsOf_3 rfl (by decide) ?_
  exact loop 0 (by omega)
/-- the first k below n from j on with p k, or d -/
def zfst (p : Nat → Bool) (dflt : Int32) : Nat → Nat → Int32
  | 0, _ => dflt
  | m + 1, j => if p j then nI j else zfst p dflt m (j + 1)
theorem sp_X2_leastMeaningOf (k s : Int32) : zk_M (d + 2) RX2 cX2_leastMeaningOf 3 (some .int) none 0 (zk_loc [.int k, .int s] 3) [] mu lm (zk_R (some (.int (zfst (fun v => decide (kSay k (nI v) = s)) (-9) 100 0))) mu lm) := by
  have loop : ∀ j, j ≤ 100 → zk_M (d + 2) RX2 cX2_leastMeaningOf 3 (some .int) none 2 [.int k, .int s, .int (nI j)] [] mu lm (zk_R (some (.int (zfst (fun v => decide (kSay k (nI v) = s)) (-9) (100 - j) j))) mu lm) := by
    refine zk_ind 100 (fun j hj ih => ?_)
    refine zk_iload_n (pc := 2) 2 dX2_leastMeaningOf_2 rfl rfl ?_
    refine zk_bipush (pc := 3) (v := 99) dX2_leastMeaningOf_3 (by decide) ?_
    refine zk_icmp_gt (pc := 5) 25 dX2_leastMeaningOf_5 (by decide) (fun h5 => ?_) (fun h5 => ?_)
    · rw [show (99 : Int32) = nI 99 from rfl, nIlt (by omega) (by omega)] at h5
      refine zk_bipush (pc := 25) (v := -9) dX2_leastMeaningOf_25 (by decide) ?_
      refine zk_ireturn (pc := 27) dX2_leastMeaningOf_27 (Or.inl rfl) (zk_ri ?_)
      rw [show 100 - j = 0 by omega]
      rfl
    · rw [show (99 : Int32) = nI 99 from rfl, nIlt (by omega) (by omega)] at h5
      refine zk_iload_n (pc := 8) 0 dX2_leastMeaningOf_8 rfl rfl ?_
      refine zk_iload_n (pc := 9) 2 dX2_leastMeaningOf_9 rfl rfl ?_
      refine zk_callSI (pc := 10) dX2_leastMeaningOf_10 mtX2_spoken lkX2_17 stX2_spoken [_, _] _ rfl rfl (Nat.le_of_ble_eq_true rfl) (Nat.le_of_ble_eq_true rfl) (sp_X2_spoken _ _) ?_
      refine zk_iload_n (pc := 13) 1 dX2_leastMeaningOf_13 rfl rfl ?_
      refine zk_icmp_ne (pc := 14) 19 dX2_leastMeaningOf_14 (by decide) (fun h14 => ?_) (fun h14 => ?_)
      · skip
        refine zk_iinc (pc := 19) dX2_leastMeaningOf_19 rfl (nI_1 j) (by decide) ?_
        refine zk_goto (pc := 22) 2 dX2_leastMeaningOf_22 (by decide) ?_
        have e := ih (by omega)
        rw [show 100 - j = (100 - (j + 1)) + 1 by omega]
        have e2 : zfst (fun v => decide (kSay k (nI v) = s)) (-9) (100 - (j + 1) + 1) j = zfst (fun v => decide (kSay k (nI v) = s)) (-9) (100 - (j + 1)) (j + 1) := by
          show (if decide (kSay k (nI j) = s) = true then _ else _) = _
          rw [if_neg (by simpa using h14)]
        rw [e2]
        exact e
      · skip
        refine zk_iload_n (pc := 17) 2 dX2_leastMeaningOf_17 rfl rfl ?_
        refine zk_ireturn (pc := 18) dX2_leastMeaningOf_18 (Or.inl rfl) (zk_ri ?_)
        rw [show 100 - j = (100 - (j + 1)) + 1 by omega]
        show _ = (if decide (kSay k (nI j) = s) = true then _ else _)
        rw [if_pos (by simpa using h14)]
  refine zk_iconst (pc := 0) (v := 0) dX2_leastMeaningOf_0 (by decide) ?_
  refine zk_istore_n (pc := 1) 2 dX2_leastMeaningOf_1 rfl (by decide) ?_
  exact loop 0 (by omega)
end M20
end
section
section M21
variable {d : Nat} {mu : Mem} {lm : MemL}
theorem zup_s {α : Type} (mu : Nat → Nat → α) (c k : Nat) (v : α) : zk_up mu c k v c k = v := by simp [zk_up]
theorem zup_c {α : Type} (mu : Nat → Nat → α) {c k c' : Nat} (v : α) (k' : Nat) (h : c' ≠ c) : zk_up mu c k v c' k' = mu c' k' := by simp [zk_up, h]
theorem zup_k {α : Type} (mu : Nat → Nat → α) {c k k' : Nat} (v : α) (c' : Nat) (h : k' ≠ k) : zk_up mu c k v c' k' = mu c' k' := by simp [zk_up, h]
theorem zuc_s {α : Type} (mu : Nat → Nat → α) (c : Nat) (f : Nat → α) : zk_uc mu c f c = f := by simp [zk_uc]
theorem zuc_c {α : Type} (mu : Nat → Nat → α) {c c' : Nat} (f : Nat → α) (h : c' ≠ c) : zk_uc mu c f c' = mu c' := by simp [zk_uc, h]
theorem zix {i : Int32} {n : Nat} (h0 : 0 ≤ i) (h1 : i < nI n) (hn : n < 2147483648) : i = nI i.toNatClampNeg ∧ i.toNatClampNeg < n := by
  obtain ⟨j, hj, rfl⟩ := nI_of (x := i) (by simp only [zlt, zle] at *; omega)
  rw [nIlt hj hn] at h1
  rw [nI_clamp hj]
  exact ⟨rfl, h1⟩
theorem zrow_ne {c p n : Nat} {fs rs : List Nat} {ci : Nat} (hc : zk_shp[c]? = some (0, ci, fs)) (hp : zk_shp[p]? = some (1, n, rs)) : c ≠ p := by
  intro h; rw [h, hp] at hc; cases hc
/-- a Row: its cell, the cell of its places, how many they are -/
def zRow (c p n : Nat) : Prop := zk_shp[c]? = some (0, 2, [p + 2, 0]) ∧ zk_shp[p]? = some (1, n, []) ∧ n < 2147483648
def rHas (mu : Mem) (c n : Nat) (i : Int32) : Prop := 0 ≤ i ∧ i < mu c 1 ∧ i < nI n
theorem sp_X4_isThere {c p n : Nat} (hr : zRow c p n) : zk_M d RX4 cX4_isThere 1 (some .boolean) none 0 (zk_loc [.ref c] 1) [] mu lm (zk_R (some (.int (zb (0 ≤ mu c 1)))) mu lm) := by
  refine zk_aload_n (pc := 0) 0 dX4_isThere_0 rfl rfl ?_
  refine zk_getI (pc := 1) dX4_isThere_1 flX4_13 hr.1 rfl ?_
  refine zk_if_lt (pc := 4) 11 dX4_isThere_4 (by decide) (fun h4 => ?_) (fun h4 => ?_)
  · skip
    refine zk_iconst (pc := 11) (v := 0) dX4_isThere_11 (by decide) ?_
    refine zk_ireturn (pc := 12) dX4_isThere_12 (Or.inr ⟨rfl, by first | exact Or.inl rfl | exact Or.inr rfl⟩) ?_
    apply zk_ri; unfold zb; simp only [zlt, zle] at *; split <;> first | rfl | (exfalso; omega)
  · skip
    refine zk_iconst (pc := 7) (v := 1) dX4_isThere_7 (by decide) ?_
    refine zk_goto (pc := 8) 12 dX4_isThere_8 (by decide) ?_
    refine zk_ireturn (pc := 12) dX4_isThere_12 (Or.inr ⟨rfl, by first | exact Or.inl rfl | exact Or.inr rfl⟩) ?_
    apply zk_ri; unfold zb; simp only [zlt, zle] at *; split <;> first | rfl | (exfalso; omega)
theorem sp_X4_has {c p n : Nat} (hr : zRow c p n) (i : Int32) : zk_M d RX4 cX4_has 2 (some .boolean) none 0 (zk_loc [.ref c, .int i] 2) [] mu lm (zk_R (some (.int (zb (0 ≤ i ∧ i < mu c 1 ∧ i < nI n)))) mu lm) := by
  refine zk_iload_n (pc := 0) 1 dX4_has_0 rfl rfl ?_
  refine zk_if_lt (pc := 1) 25 dX4_has_1 (by decide) (fun h1 => ?_) (fun h1 => ?_)
  · skip
    refine zk_iconst (pc := 25) (v := 0) dX4_has_25 (by decide) ?_
    refine zk_ireturn (pc := 26) dX4_has_26 (Or.inr ⟨rfl, by first | exact Or.inl rfl | exact Or.inr rfl⟩) ?_
    apply zk_ri; unfold zb; simp only [zlt, zle] at *; split <;> first | rfl | (exfalso; omega)
  · skip
    refine zk_iload_n (pc := 4) 1 dX4_has_4 rfl rfl ?_
    refine zk_aload_n (pc := 5) 0 dX4_has_5 rfl rfl ?_
    refine zk_getI (pc := 6) dX4_has_6 flX4_13 hr.1 rfl ?_
    refine zk_icmp_ge (pc := 9) 25 dX4_has_9 (by decide) (fun h9 => ?_) (fun h9 => ?_)
    · skip
      refine zk_iconst (pc := 25) (v := 0) dX4_has_25 (by decide) ?_
      refine zk_ireturn (pc := 26) dX4_has_26 (Or.inr ⟨rfl, by first | exact Or.inl rfl | exact Or.inr rfl⟩) ?_
      apply zk_ri; unfold zb; simp only [zlt, zle] at *; split <;> first | rfl | (exfalso; omega)
    · skip
      refine zk_iload_n (pc := 12) 1 dX4_has_12 rfl rfl ?_
      refine zk_aload_n (pc := 13) 0 dX4_has_13 rfl rfl ?_
      refine zk_getR (pc := 14) dX4_has_14 flX4_7 hr.1 rfl ?_
      refine zk_alen (pc := 17) dX4_has_17 hr.2.1 (by decide) ?_
      refine zk_icmp_ge (pc := 18) 25 dX4_has_18 (by decide) (fun h18 => ?_) (fun h18 => ?_)
      · skip
        refine zk_iconst (pc := 25) (v := 0) dX4_has_25 (by decide) ?_
        refine zk_ireturn (pc := 26) dX4_has_26 (Or.inr ⟨rfl, by first | exact Or.inl rfl | exact Or.inr rfl⟩) ?_
        apply zk_ri; unfold zb; simp only [zlt, zle] at *; split <;> first | rfl | (exfalso; omega)
      · skip
        refine zk_iconst (pc := 21) (v := 1) dX4_has_21 (by decide) ?_
        refine zk_goto (pc := 22) 26 dX4_has_22 (by decide) ?_
        refine zk_ireturn (pc := 26) dX4_has_26 (Or.inr ⟨rfl, by first | exact Or.inl rfl | exact Or.inr rfl⟩) ?_
        apply zk_ri; unfold zb; simp only [zlt, zle] at *; split <;> first | rfl | (exfalso; omega)
theorem sp_X4_holds {c p n : Nat} (hr : zRow c p n) (i k : Int32) : zk_M d RX4 cX4_holds 3 (some .boolean) none 0 (zk_loc [.ref c, .int i, .int k] 3) [] mu lm (zk_R (some (.int (zb (0 ≤ i ∧ 0 ≤ k ∧ k ≤ mu c 1 ∧ i ≤ mu c 1 - k)))) mu lm) := by
  refine zk_iload_n (pc := 0) 1 dX4_holds_0 rfl rfl ?_
  refine zk_if_lt (pc := 1) 30 dX4_holds_1 (by decide) (fun h1 => ?_) (fun h1 => ?_)
  · skip
    refine zk_iconst (pc := 30) (v := 0) dX4_holds_30 (by decide) ?_
    refine zk_ireturn (pc := 31) dX4_holds_31 (Or.inr ⟨rfl, by first | exact Or.inl rfl | exact Or.inr rfl⟩) ?_
    apply zk_ri; unfold zb; simp only [zlt, zle] at *; split <;> first | rfl | (exfalso; omega)
  · skip
    refine zk_iload_n (pc := 4) 2 dX4_holds_4 rfl rfl ?_
    refine zk_if_lt (pc := 5) 30 dX4_holds_5 (by decide) (fun h5 => ?_) (fun h5 => ?_)
    · skip
      refine zk_iconst (pc := 30) (v := 0) dX4_holds_30 (by decide) ?_
      refine zk_ireturn (pc := 31) dX4_holds_31 (Or.inr ⟨rfl, by first | exact Or.inl rfl | exact Or.inr rfl⟩) ?_
      apply zk_ri; unfold zb; simp only [zlt, zle] at *; split <;> first | rfl | (exfalso; omega)
    · skip
      refine zk_iload_n (pc := 8) 2 dX4_holds_8 rfl rfl ?_
      refine zk_aload_n (pc := 9) 0 dX4_holds_9 rfl rfl ?_
      refine zk_getI (pc := 10) dX4_holds_10 flX4_13 hr.1 rfl ?_
      refine zk_icmp_gt (pc := 13) 30 dX4_holds_13 (by decide) (fun h13 => ?_) (fun h13 => ?_)
      · skip
        refine zk_iconst (pc := 30) (v := 0) dX4_holds_30 (by decide) ?_
        refine zk_ireturn (pc := 31) dX4_holds_31 (Or.inr ⟨rfl, by first | exact Or.inl rfl | exact Or.inr rfl⟩) ?_
        apply zk_ri; unfold zb; simp only [zlt, zle] at *; split <;> first | rfl | (exfalso; omega)
      · skip
        refine zk_iload_n (pc := 16) 1 dX4_holds_16 rfl rfl ?_
        refine zk_aload_n (pc := 17) 0 dX4_holds_17 rfl rfl ?_
        refine zk_getI (pc := 18) dX4_holds_18 flX4_13 hr.1 rfl ?_
        refine zk_iload_n (pc := 21) 2 dX4_holds_21 rfl rfl ?_
        refine zk_isub (pc := 22) dX4_holds_22 ?_
        refine zk_icmp_gt (pc := 23) 30 dX4_holds_23 (by decide) (fun h23 => ?_) (fun h23 => ?_)
        · skip
          refine zk_iconst (pc := 30) (v := 0) dX4_holds_30 (by decide) ?_
          refine zk_ireturn (pc := 31) dX4_holds_31 (Or.inr ⟨rfl, by first | exact Or.inl rfl | exact Or.inr rfl⟩) ?_
          apply zk_ri; unfold zb; simp only [zlt, zle] at *; split <;> first | rfl | (exfalso; omega)
        · skip
          refine zk_iconst (pc := 26) (v := 1) dX4_holds_26 (by decide) ?_
          refine zk_goto (pc := 27) 31 dX4_holds_27 (by decide) ?_
          refine zk_ireturn (pc := 31) dX4_holds_31 (Or.inr ⟨rfl, by first | exact Or.inl rfl | exact Or.inr rfl⟩) ?_
          apply zk_ri; unfold zb; simp only [zlt, zle] at *; split <;> first | rfl | (exfalso; omega)
theorem sp_X4_read {c p n : Nat} (hr : zRow c p n) (i : Int32) : zk_M (d + 1) RX4 cX4_read 2 (some .int) none 0 (zk_loc [.ref c, .int i] 2) [] mu lm (zk_R (some (.int (if 0 ≤ i ∧ i < mu c 1 ∧ i < nI n then mu p i.toNatClampNeg else 0))) mu lm) := by
  refine zk_aload_n (pc := 0) 0 dX4_read_0 rfl rfl ?_
  refine zk_iload_n (pc := 1) 1 dX4_read_1 rfl rfl ?_
  refine zk_callVI (pc := 2) dX4_read_2 mtX4_has lkX4_17 stX4_has hr.1 (by rfl) [_] _ rfl rfl (Nat.le_of_ble_eq_true rfl) (Nat.le_of_ble_eq_true rfl) (sp_X4_has hr i) ?_
  refine zk_if_eq (pc := 5) 17 dX4_read_5 (by decide) (fun h5 => ?_) (fun h5 => ?_)
  · rw [zb_e] at h5
    refine zk_iconst (pc := 17) (v := 0) dX4_read_17 (by decide) ?_
    refine zk_ireturn (pc := 18) dX4_read_18 (Or.inl rfl) (zk_ri ?_)
    first | rw [if_pos h5] | rw [if_neg h5]
  · rw [zb_n] at h5
    refine zk_aload_n (pc := 8) 0 dX4_read_8 rfl rfl ?_
    refine zk_getR (pc := 9) dX4_read_9 flX4_7 hr.1 rfl ?_
    refine zk_iload_n (pc := 12) 1 dX4_read_12 rfl rfl ?_
    refine zk_iaload (pc := 13) i.toNatClampNeg dX4_read_13 hr.2.1 (zix h5.1 h5.2.2 hr.2.2).1 (zix h5.1 h5.2.2 hr.2.2).2 ?_
    refine zk_goto (pc := 14) 18 dX4_read_14 (by decide) ?_
    refine zk_ireturn (pc := 18) dX4_read_18 (Or.inl rfl) (zk_ri ?_)
    first | rw [if_pos h5] | rw [if_neg h5]
theorem sp_X4_write {c p n : Nat} (hr : zRow c p n) (i v : Int32) : zk_M (d + 1) RX4 cX4_write 3 (none) none 0 (zk_loc [.ref c, .int i, .int v] 3) [] mu lm (zk_R none (if 0 ≤ i ∧ i < mu c 1 ∧ i < nI n then zk_up mu p i.toNatClampNeg v else mu) lm) := by
  refine zk_aload_n (pc := 0) 0 dX4_write_0 rfl rfl ?_
  refine zk_iload_n (pc := 1) 1 dX4_write_1 rfl rfl ?_
  refine zk_callVI (pc := 2) dX4_write_2 mtX4_has lkX4_17 stX4_has hr.1 (by rfl) [_] _ rfl rfl (Nat.le_of_ble_eq_true rfl) (Nat.le_of_ble_eq_true rfl) (sp_X4_has hr i) ?_
  refine zk_if_eq (pc := 5) 15 dX4_write_5 (by decide) (fun h5 => ?_) (fun h5 => ?_)
  · rw [zb_e] at h5
    refine zk_return (pc := 15) dX4_write_15 rfl (zk_rv0 ?_ rfl)
    first | rw [if_pos h5] | rw [if_neg h5]
  · rw [zb_n] at h5
    refine zk_aload_n (pc := 8) 0 dX4_write_8 rfl rfl ?_
    refine zk_getR (pc := 9) dX4_write_9 flX4_7 hr.1 rfl ?_
    refine zk_iload_n (pc := 12) 1 dX4_write_12 rfl rfl ?_
    refine zk_iload_n (pc := 13) 2 dX4_write_13 rfl rfl ?_
    refine zk_iastore (pc := 14) i.toNatClampNeg dX4_write_14 hr.2.1 (zix h5.1 h5.2.2 hr.2.2).1 (zix h5.1 h5.2.2 hr.2.2).2 ?_
    refine zk_return (pc := 15) dX4_write_15 rfl (zk_rv0 ?_ rfl)
    first | rw [if_pos h5] | rw [if_neg h5]
/-- places 0 .. j - 1 of the cell p are v -/
def zfill (mu : Mem) (p j : Nat) (v : Int32) : Mem := zk_uc mu p (fun k => if k < j then v else mu p k)
theorem zfill_0 (mu : Mem) (p : Nat) (v : Int32) : zfill mu p 0 v = mu := by
  unfold zfill
  have : (fun k => if k < 0 then v else mu p k) = mu p := by funext k; simp
  rw [this, zk_uc_self]
theorem zfill_s (mu : Mem) (p j : Nat) (v : Int32) : zk_up (zfill mu p j v) p j v = zfill mu p (j + 1) v := by
  funext c k
  unfold zfill zk_up zk_uc
  by_cases hc : c = p
  · subst hc
    by_cases hk : k = j
    · subst hk; simp
    · have e : (k < j + 1) = (k < j) := propext ⟨fun h => by omega, fun h => by omega⟩
      simp [hk, e]
  · simp [hc]
theorem zfill_c (mu : Mem) {p c : Nat} (j : Nat) (v : Int32) (k : Nat) (h : c ≠ p) : zfill mu p j v c k = mu c k := by
  unfold zfill; rw [zuc_c _ _ h]
theorem sp_X4_renew {c p n j : Nat} (hr : zRow c p n) (hj : j ≤ n) (v : Int32) : zk_M (d + 1) RX4 cX4_renew 4 (none) none 0 (zk_loc [.ref c, .int (nI j), .int v] 4) [] mu lm (zk_R none (zfill (zk_up mu c 1 (nI j)) p j v) lm) := by
  have hcp := zrow_ne hr.1 hr.2.1
  have hn := hr.2.2
  have loop : ∀ k, k ≤ j → zk_M (d + 1) RX4 cX4_renew 4 (none) none 15 [.ref c, .int (nI j), .int v, .int (nI k)] [] (zfill (zk_up mu c 1 (nI j)) p k v) lm (zk_R none (zfill (zk_up mu c 1 (nI j)) p j v) lm) := by
    refine zk_ind j (fun k hk ih => ?_)
    refine zk_iload_n (pc := 15) 3 dX4_renew_15 rfl rfl ?_
    refine zk_aload_n (pc := 16) 0 dX4_renew_16 rfl rfl ?_
    refine zk_getI (pc := 17) dX4_renew_17 flX4_13 hr.1 rfl ?_
    refine zk_icmp_ge (pc := 20) 36 dX4_renew_20 (by decide) (fun h20 => ?_) (fun h20 => ?_)
    · rw [zfill_c _ _ _ _ hcp, zup_s, nIle (by omega) (by omega)] at h20
      refine zk_return (pc := 36) dX4_renew_36 rfl (zk_rv0 ?_ rfl)
      rw [show k = j by omega]
    · rw [zfill_c _ _ _ _ hcp, zup_s, nIle (by omega) (by omega)] at h20
      refine zk_aload_n (pc := 23) 0 dX4_renew_23 rfl rfl ?_
      refine zk_getR (pc := 24) dX4_renew_24 flX4_7 hr.1 rfl ?_
      refine zk_iload_n (pc := 27) 3 dX4_renew_27 rfl rfl ?_
      refine zk_iload_n (pc := 28) 2 dX4_renew_28 rfl rfl ?_
      refine zk_iastore (pc := 29) k dX4_renew_29 hr.2.1 rfl (by omega) ?_
      refine zk_iinc (pc := 30) dX4_renew_30 rfl (nI_1 k) (by decide) ?_
      refine zk_goto (pc := 33) 15 dX4_renew_33 (by decide) ?_
      have e := ih (by omega)
      rw [← zfill_s] at e
      exact e
  have e0 := loop 0 (by omega)
  rw [zfill_0] at e0
  refine zk_aload_n (pc := 0) 0 dX4_renew_0 rfl rfl ?_
  refine zk_iload_n (pc := 1) 1 dX4_renew_1 rfl rfl ?_
  refine zk_aload_n (pc := 2) 0 dX4_renew_2 rfl rfl ?_
  refine zk_getR (pc := 3) dX4_renew_3 flX4_7 hr.1 rfl ?_
  refine zk_alen (pc := 6) dX4_renew_6 hr.2.1 (by decide) ?_
  refine zk_mmin (pc := 7) dX4_renew_7 lkX4_21 (Nat.le_of_ble_eq_true rfl) ?_
  refine zk_putI (pc := 10) dX4_renew_10 flX4_13 hr.1 rfl ?_
  refine zk_iconst (pc := 13) (v := 0) dX4_renew_13 (by decide) ?_
  refine zk_istore_n (pc := 14) 3 dX4_renew_14 rfl (by decide) ?_
  rw [if_neg (show ¬ nI n < nI j by rw [nIlt (by omega) (by omega)]; omega)]
  exact e0
/-- p of k, k + 1, .. (m of them) -/
def zall (p : Nat → Bool) : Nat → Nat → Bool
  | 0, _ => true
  | m + 1, k => p k && zall p m (k + 1)
theorem zall_iff (p : Nat → Bool) : ∀ m k, zall p m k = true ↔ ∀ i, i < m → p (k + i) = true
  | 0, k => by simp [zall]
  | m + 1, k => by
    rw [zall, Bool.and_eq_true, zall_iff p m (k + 1)]
    constructor
    · rintro ⟨h1, h2⟩ i hi
      cases i with
      | zero => exact h1
      | succ i => have := h2 i (by omega); rwa [show k + 1 + i = k + (i + 1) by omega] at this
    · intro h
      exact ⟨h 0 (by omega), fun i hi => by have := h (i + 1) (by omega); rwa [show k + (i + 1) = k + 1 + i by omega] at this⟩
theorem zall_t {p : Nat → Bool} {m k : Nat} (h : p k = true) : zall p (m + 1) k = zall p m (k + 1) := by rw [zall, h, Bool.true_and]
theorem zall_f {p : Nat → Bool} {m k : Nat} (h : p k = false) : zall p (m + 1) k = false := by rw [zall, h, Bool.false_and]
theorem zall_0 {p : Nat → Bool} {k : Nat} : zall p 0 k = true := rfl
theorem sp_X4_isAllWithin {c p n j : Nat} (hr : zRow c p n) (hs : mu c 1 = nI j) (hj : j ≤ n) (a b : Int32) : zk_M (d + 2) RX4 cX4_isAllWithin 4 (some .boolean) none 0 (zk_loc [.ref c, .int a, .int b] 4) [] mu lm (zk_R (some (.int (zb (zall (fun i => decide (a ≤ mu p i ∧ mu p i ≤ b)) j 0 = true)))) mu lm) := by
  have hn := hr.2.2
  have loop : ∀ k, k ≤ j → zk_M (d + 2) RX4 cX4_isAllWithin 4 (some .boolean) none 2 [.ref c, .int a, .int b, .int (nI k)] [] mu lm (zk_R (some (.int (zb (zall (fun i => decide (a ≤ mu p i ∧ mu p i ≤ b)) (j - k) k = true)))) mu lm) := by
    refine zk_ind j (fun k hk ih => ?_)
    refine zk_iload_n (pc := 2) 3 dX4_isAllWithin_2 rfl rfl ?_
    refine zk_aload_n (pc := 3) 0 dX4_isAllWithin_3 rfl rfl ?_
    refine zk_getI (pc := 4) dX4_isAllWithin_4 flX4_13 hr.1 rfl ?_
    refine zk_icmp_ge (pc := 7) 31 dX4_isAllWithin_7 (by decide) (fun h7 => ?_) (fun h7 => ?_)
    · rw [hs, nIle (by omega) (by omega)] at h7
      refine zk_iconst (pc := 31) (v := 1) dX4_isAllWithin_31 (by decide) ?_
      refine zk_ireturn (pc := 32) dX4_isAllWithin_32 (Or.inr ⟨rfl, Or.inr rfl⟩) (zk_ri ?_)
      rw [show j - k = 0 by omega, zall_0, zb_t rfl]
    · rw [hs, nIle (by omega) (by omega)] at h7
      refine zk_aload_n (pc := 10) 0 dX4_isAllWithin_10 rfl rfl ?_
      refine zk_iload_n (pc := 11) 3 dX4_isAllWithin_11 rfl rfl ?_
      refine zk_callVI (pc := 12) dX4_isAllWithin_12 mtX4_read lkX4_27 stX4_read hr.1 (by rfl) [_] _ rfl rfl (Nat.le_of_ble_eq_true rfl) (Nat.le_of_ble_eq_true rfl) (by have e := sp_X4_read (d := d) (mu := mu) (lm := lm) hr (nI k); rw [if_pos ⟨nI_pos' (by omega), by rw [hs, nIlt (by omega) (by omega)]; omega, by rw [nIlt (by omega) (by omega)]; omega⟩, nI_clamp (by omega)] at e; exact e) ?_
      refine zk_iload_n (pc := 15) 1 dX4_isAllWithin_15 rfl rfl ?_
      refine zk_iload_n (pc := 16) 2 dX4_isAllWithin_16 rfl rfl ?_
      refine zk_callSNI (pc := 17) dX4_isAllWithin_17 mtX7_within lkX4_31 stX7_within [_, _, _] _ rfl rfl (Nat.le_of_ble_eq_true rfl) (Nat.le_of_ble_eq_true rfl) (sp_X7_within _ _ _) ?_
      refine zk_if_ne (pc := 20) 25 dX4_isAllWithin_20 (by decide) (fun h20 => ?_) (fun h20 => ?_)
      · rw [zb_n] at h20
        refine zk_iinc (pc := 25) dX4_isAllWithin_25 rfl (nI_1 k) (by decide) ?_
        refine zk_goto (pc := 28) 2 dX4_isAllWithin_28 (by decide) ?_
        rw [show j - k = (j - (k + 1)) + 1 by omega, zall_t (by simpa using h20)]
        exact ih (by omega)
      · rw [zb_e] at h20
        refine zk_iconst (pc := 23) (v := 0) dX4_isAllWithin_23 (by decide) ?_
        refine zk_ireturn (pc := 24) dX4_isAllWithin_24 (Or.inr ⟨rfl, Or.inl rfl⟩) (zk_ri ?_)
        rw [show j - k = (j - (k + 1)) + 1 by omega, zall_f (by simpa using h20), zb_f (by decide)]
  refine zk_iconst (pc := 0) (v := 0) dX4_isAllWithin_0 (by decide) ?_
  refine zk_istore_n (pc := 1) 3 dX4_isAllWithin_1 rfl (by decide) ?_
  exact loop 0 (by omega)
end M21
end
section
section M22
variable {d : Nat} {mu : Mem} {lm : MemL}
theorem sp_X0_hasMember (i : Int32) : zk_M d RX0 cX0_hasMember 2 (some .boolean) none 0 (zk_loc [.ref 23, .int i] 2) [] mu lm (zk_R (some (.int (zb (0 ≤ i ∧ i < mu 23 6)))) mu lm) := by
  refine zk_iload_n (pc := 0) 1 dX0_hasMember_0 rfl rfl ?_
  refine zk_if_lt (pc := 1) 16 dX0_hasMember_1 (by decide) (fun h1 => ?_) (fun h1 => ?_)
  · skip
    refine zk_iconst (pc := 16) (v := 0) dX0_hasMember_16 (by decide) ?_
    refine zk_ireturn (pc := 17) dX0_hasMember_17 (Or.inr ⟨rfl, by first | exact Or.inl rfl | exact Or.inr rfl⟩) ?_
    apply zk_ri; unfold zb; simp only [zlt, zle] at *; split <;> first | rfl | (exfalso; omega)
  · skip
    refine zk_iload_n (pc := 4) 1 dX0_hasMember_4 rfl rfl ?_
    refine zk_aload_n (pc := 5) 0 dX0_hasMember_5 rfl rfl ?_
    refine zk_getI (pc := 6) dX0_hasMember_6 flX0_24 rfl rfl ?_
    refine zk_icmp_ge (pc := 9) 16 dX0_hasMember_9 (by decide) (fun h9 => ?_) (fun h9 => ?_)
    · skip
      refine zk_iconst (pc := 16) (v := 0) dX0_hasMember_16 (by decide) ?_
      refine zk_ireturn (pc := 17) dX0_hasMember_17 (Or.inr ⟨rfl, by first | exact Or.inl rfl | exact Or.inr rfl⟩) ?_
      apply zk_ri; unfold zb; simp only [zlt, zle] at *; split <;> first | rfl | (exfalso; omega)
    · skip
      refine zk_iconst (pc := 12) (v := 1) dX0_hasMember_12 (by decide) ?_
      refine zk_goto (pc := 13) 17 dX0_hasMember_13 (by decide) ?_
      refine zk_ireturn (pc := 17) dX0_hasMember_17 (Or.inr ⟨rfl, by first | exact Or.inl rfl | exact Or.inr rfl⟩) ?_
      apply zk_ri; unfold zb; simp only [zlt, zle] at *; split <;> first | rfl | (exfalso; omega)
theorem sp_X0_hasCell (i : Int32) : zk_M d RX0 cX0_hasCell 2 (some .boolean) none 0 (zk_loc [.ref 23, .int i] 2) [] mu lm (zk_R (some (.int (zb (0 ≤ i ∧ i < mu 23 5)))) mu lm) := by
  refine zk_iload_n (pc := 0) 1 dX0_hasCell_0 rfl rfl ?_
  refine zk_if_lt (pc := 1) 16 dX0_hasCell_1 (by decide) (fun h1 => ?_) (fun h1 => ?_)
  · skip
    refine zk_iconst (pc := 16) (v := 0) dX0_hasCell_16 (by decide) ?_
    refine zk_ireturn (pc := 17) dX0_hasCell_17 (Or.inr ⟨rfl, by first | exact Or.inl rfl | exact Or.inr rfl⟩) ?_
    apply zk_ri; unfold zb; simp only [zlt, zle] at *; split <;> first | rfl | (exfalso; omega)
  · skip
    refine zk_iload_n (pc := 4) 1 dX0_hasCell_4 rfl rfl ?_
    refine zk_aload_n (pc := 5) 0 dX0_hasCell_5 rfl rfl ?_
    refine zk_getI (pc := 6) dX0_hasCell_6 flX0_28 rfl rfl ?_
    refine zk_icmp_ge (pc := 9) 16 dX0_hasCell_9 (by decide) (fun h9 => ?_) (fun h9 => ?_)
    · skip
      refine zk_iconst (pc := 16) (v := 0) dX0_hasCell_16 (by decide) ?_
      refine zk_ireturn (pc := 17) dX0_hasCell_17 (Or.inr ⟨rfl, by first | exact Or.inl rfl | exact Or.inr rfl⟩) ?_
      apply zk_ri; unfold zb; simp only [zlt, zle] at *; split <;> first | rfl | (exfalso; omega)
    · skip
      refine zk_iconst (pc := 12) (v := 1) dX0_hasCell_12 (by decide) ?_
      refine zk_goto (pc := 13) 17 dX0_hasCell_13 (by decide) ?_
      refine zk_ireturn (pc := 17) dX0_hasCell_17 (Or.inr ⟨rfl, by first | exact Or.inl rfl | exact Or.inr rfl⟩) ?_
      apply zk_ri; unfold zb; simp only [zlt, zle] at *; split <;> first | rfl | (exfalso; omega)
def cBeh (cells c : Int32) : Int32 := if cells ≤ c + 1 then 0 else c + 1
def cAhd (cells c : Int32) : Int32 := if c ≤ 0 then cells - 1 else c - 1
theorem sp_X0_behind (c : Int32) : zk_M d RX0 cX0_behind 2 (some .int) none 0 (zk_loc [.ref 23, .int c] 2) [] mu lm (zk_R (some (.int (cBeh (mu 23 5) c))) mu lm) := by
  refine zk_iload_n (pc := 0) 1 dX0_behind_0 rfl rfl ?_
  refine zk_iconst (pc := 1) (v := 1) dX0_behind_1 (by decide) ?_
  refine zk_iadd (pc := 2) dX0_behind_2 ?_
  refine zk_aload_n (pc := 3) 0 dX0_behind_3 rfl rfl ?_
  refine zk_getI (pc := 4) dX0_behind_4 flX0_28 rfl rfl ?_
  refine zk_icmp_ge (pc := 7) 16 dX0_behind_7 (by decide) (fun h7 => ?_) (fun h7 => ?_)
  · skip
    refine zk_iconst (pc := 16) (v := 0) dX0_behind_16 (by decide) ?_
    refine zk_ireturn (pc := 17) dX0_behind_17 (Or.inl rfl) ?_
    apply zk_ri; unfold cBeh; first | rw [if_pos h7] | rw [if_neg h7]
  · skip
    refine zk_iload_n (pc := 10) 1 dX0_behind_10 rfl rfl ?_
    refine zk_iconst (pc := 11) (v := 1) dX0_behind_11 (by decide) ?_
    refine zk_iadd (pc := 12) dX0_behind_12 ?_
    refine zk_goto (pc := 13) 17 dX0_behind_13 (by decide) ?_
    refine zk_ireturn (pc := 17) dX0_behind_17 (Or.inl rfl) ?_
    apply zk_ri; unfold cBeh; first | rw [if_pos h7] | rw [if_neg h7]
theorem sp_X0_ahead (c : Int32) : zk_M d RX0 cX0_ahead 2 (some .int) none 0 (zk_loc [.ref 23, .int c] 2) [] mu lm (zk_R (some (.int (cAhd (mu 23 5) c))) mu lm) := by
  refine zk_iload_n (pc := 0) 1 dX0_ahead_0 rfl rfl ?_
  refine zk_if_le (pc := 1) 10 dX0_ahead_1 (by decide) (fun h1 => ?_) (fun h1 => ?_)
  · skip
    refine zk_aload_n (pc := 10) 0 dX0_ahead_10 rfl rfl ?_
    refine zk_getI (pc := 11) dX0_ahead_11 flX0_28 rfl rfl ?_
    refine zk_iconst (pc := 14) (v := 1) dX0_ahead_14 (by decide) ?_
    refine zk_isub (pc := 15) dX0_ahead_15 ?_
    refine zk_ireturn (pc := 16) dX0_ahead_16 (Or.inl rfl) ?_
    apply zk_ri; unfold cAhd; first | rw [if_pos h1] | rw [if_neg h1]
  · skip
    refine zk_iload_n (pc := 4) 1 dX0_ahead_4 rfl rfl ?_
    refine zk_iconst (pc := 5) (v := 1) dX0_ahead_5 (by decide) ?_
    refine zk_isub (pc := 6) dX0_ahead_6 ?_
    refine zk_goto (pc := 7) 16 dX0_ahead_7 (by decide) ?_
    refine zk_ireturn (pc := 16) dX0_ahead_16 (Or.inl rfl) ?_
    apply zk_ri; unfold cAhd; first | rw [if_pos h1] | rw [if_neg h1]
theorem sp_X0_sumOf {c n C : Nat} (hs : zk_shp[c]? = some (1, n, [])) (hC : mu 23 5 = nI C) (hn : C ≤ n) : zk_M d RX0 cX0_sumOf 4 (some .int) none 0 (zk_loc [.ref 23, .ref c] 4) [] mu lm (zk_R (some (.int (zsum C (mu c)))) mu lm) := by
  have hsm := zk_sm hs
  simp only at hsm
  have loop : ∀ k, k ≤ C → zk_M d RX0 cX0_sumOf 4 (some .int) none 4 [.ref 23, .ref c, .int (zsum k (mu c)), .int (nI k)] [] mu lm (zk_R (some (.int (zsum C (mu c)))) mu lm) := by
    refine zk_ind C (fun k hk ih => ?_)
    refine zk_iload_n (pc := 4) 3 dX0_sumOf_4 rfl rfl ?_
    refine zk_aload_n (pc := 5) 0 dX0_sumOf_5 rfl rfl ?_
    refine zk_getI (pc := 6) dX0_sumOf_6 flX0_28 rfl rfl ?_
    refine zk_icmp_ge (pc := 9) 30 dX0_sumOf_9 (by decide) (fun h9 => ?_) (fun h9 => ?_)
    · rw [hC, nIle (by omega) (by omega)] at h9
      refine zk_iload_n (pc := 30) 2 dX0_sumOf_30 rfl rfl ?_
      refine zk_ireturn (pc := 31) dX0_sumOf_31 (Or.inl rfl) (zk_ri ?_)
      rw [show k = C by omega]
    · rw [hC, nIle (by omega) (by omega)] at h9
      refine zk_iload_n (pc := 12) 3 dX0_sumOf_12 rfl rfl ?_
      refine zk_aload_n (pc := 13) 1 dX0_sumOf_13 rfl rfl ?_
      refine zk_alen (pc := 14) dX0_sumOf_14 hs (by decide) ?_
      refine zk_icmp_ge (pc := 15) 30 dX0_sumOf_15 (by decide) (fun h15 => ?_) (fun h15 => ?_)
      · rw [nIle (by omega) (by omega)] at h15
        omega --
      · skip
        refine zk_iload_n (pc := 18) 2 dX0_sumOf_18 rfl rfl ?_
        refine zk_aload_n (pc := 19) 1 dX0_sumOf_19 rfl rfl ?_
        refine zk_iload_n (pc := 20) 3 dX0_sumOf_20 rfl rfl ?_
        refine zk_iaload (pc := 21) k dX0_sumOf_21 hs rfl (by omega) ?_
        refine zk_iadd (pc := 22) dX0_sumOf_22 ?_
        refine zk_istore_n (pc := 23) 2 dX0_sumOf_23 rfl (by decide) ?_
        refine zk_iinc (pc := 24) dX0_sumOf_24 rfl (nI_1 k) (by decide) ?_
        refine zk_goto (pc := 27) 4 dX0_sumOf_27 (by decide) ?_
        exact ih (by omega)
  refine zk_iconst (pc := 0) (v := 0) dX0_sumOf_0 (by decide) ?_
  refine zk_istore_n (pc := 1) 2 dX0_sumOf_1 rfl (by decide) ?_
  refine zk_iconst (pc := 2) (v := 0) dX0_sumOf_2 (by decide) ?_
  refine zk_istore_n (pc := 3) 3 dX0_sumOf_3 rfl (by decide) ?_
  exact loop 0 (by omega)
theorem sp_X0_allSmoke {C : Nat} (hC : mu 23 5 = nI C) (hn : C ≤ 8) : zk_M (d + 1) RX0 cX0_allSmoke 1 (some .int) none 0 (zk_loc [.ref 23] 1) [] mu lm (zk_R (some (.int (zsum C (mu 27)))) mu lm) := by
  refine zk_aload_n (pc := 0) 0 dX0_allSmoke_0 rfl rfl ?_
  refine zk_aload_n (pc := 1) 0 dX0_allSmoke_1 rfl rfl ?_
  refine zk_getR (pc := 2) dX0_allSmoke_2 flX0_21 rfl rfl ?_
  refine zk_callVI (pc := 5) dX0_allSmoke_5 mtX0_sumOf lkX0_93 stX0_sumOf (by rfl) (by rfl) [_] _ rfl rfl (Nat.le_of_ble_eq_true rfl) (Nat.le_of_ble_eq_true rfl) (sp_X0_sumOf (c := 27) (n := 8) rfl hC hn) ?_
  refine zk_ireturn (pc := 8) dX0_allSmoke_8 (Or.inl rfl) ?_
  exact zk_ri rfl
def zmax (x y : Int32) : Int32 := if x < y then y else x
def zmin (x y : Int32) : Int32 := if y < x then y else x
def zmx : Nat → (Nat → Int32) → Int32
  | 0, _ => 0
  | k + 1, f => zmax (zmx k f) (f k)
theorem sp_X0_fullestOf {c n C : Nat} (hs : zk_shp[c]? = some (1, n, [])) (hC : mu 23 5 = nI C) (hn : C ≤ n) : zk_M (d + 1) RX0 cX0_fullestOf 4 (some .int) none 0 (zk_loc [.ref 23, .ref c] 4) [] mu lm (zk_R (some (.int (zmx C (mu c)))) mu lm) := by
  have hsm := zk_sm hs
  simp only at hsm
  have loop : ∀ k, k ≤ C → zk_M (d + 1) RX0 cX0_fullestOf 4 (some .int) none 4 [.ref 23, .ref c, .int (zmx k (mu c)), .int (nI k)] [] mu lm (zk_R (some (.int (zmx C (mu c)))) mu lm) := by
    refine zk_ind C (fun k hk ih => ?_)
    refine zk_iload_n (pc := 4) 3 dX0_fullestOf_4 rfl rfl ?_
    refine zk_aload_n (pc := 5) 0 dX0_fullestOf_5 rfl rfl ?_
    refine zk_getI (pc := 6) dX0_fullestOf_6 flX0_28 rfl rfl ?_
    refine zk_icmp_ge (pc := 9) 32 dX0_fullestOf_9 (by decide) (fun h9 => ?_) (fun h9 => ?_)
    · rw [hC, nIle (by omega) (by omega)] at h9
      refine zk_iload_n (pc := 32) 2 dX0_fullestOf_32 rfl rfl ?_
      refine zk_ireturn (pc := 33) dX0_fullestOf_33 (Or.inl rfl) (zk_ri ?_)
      rw [show k = C by omega]
    · rw [hC, nIle (by omega) (by omega)] at h9
      refine zk_iload_n (pc := 12) 3 dX0_fullestOf_12 rfl rfl ?_
      refine zk_aload_n (pc := 13) 1 dX0_fullestOf_13 rfl rfl ?_
      refine zk_alen (pc := 14) dX0_fullestOf_14 hs (by decide) ?_
      refine zk_icmp_ge (pc := 15) 32 dX0_fullestOf_15 (by decide) (fun h15 => ?_) (fun h15 => ?_)
      · rw [nIle (by omega) (by omega)] at h15
        omega --
      · skip
        refine zk_iload_n (pc := 18) 2 dX0_fullestOf_18 rfl rfl ?_
        refine zk_aload_n (pc := 19) 1 dX0_fullestOf_19 rfl rfl ?_
        refine zk_iload_n (pc := 20) 3 dX0_fullestOf_20 rfl rfl ?_
        refine zk_iaload (pc := 21) k dX0_fullestOf_21 hs rfl (by omega) ?_
        refine zk_mmax (pc := 22) dX0_fullestOf_22 lkX0_90 (Nat.le_of_ble_eq_true rfl) ?_
        refine zk_istore_n (pc := 25) 2 dX0_fullestOf_25 rfl (by decide) ?_
        refine zk_iinc (pc := 26) dX0_fullestOf_26 rfl (nI_1 k) (by decide) ?_
        refine zk_goto (pc := 29) 4 dX0_fullestOf_29 (by decide) ?_
        exact ih (by omega)
  refine zk_iconst (pc := 0) (v := 0) dX0_fullestOf_0 (by decide) ?_
  refine zk_istore_n (pc := 1) 2 dX0_fullestOf_1 rfl (by decide) ?_
  refine zk_iconst (pc := 2) (v := 0) dX0_fullestOf_2 (by decide) ?_
  refine zk_istore_n (pc := 3) 3 dX0_fullestOf_3 rfl (by decide) ?_
  exact loop 0 (by omega)
theorem sp_X0_smokeIn {j : Nat} (hj : j < 8) (n : Int32) : zk_M (d + 1) RX0 cX0_smokeIn 3 (some .int) none 0 (zk_loc [.ref 23, .int (nI j), .int n] 3) [] mu lm (zk_R (some (.int (zmax 0 (mu 27 j - mu 23 4 * n)))) mu lm) := by
  refine zk_iconst (pc := 0) (v := 0) dX0_smokeIn_0 (by decide) ?_
  refine zk_aload_n (pc := 1) 0 dX0_smokeIn_1 rfl rfl ?_
  refine zk_getR (pc := 2) dX0_smokeIn_2 flX0_21 rfl rfl ?_
  refine zk_iload_n (pc := 5) 1 dX0_smokeIn_5 rfl rfl ?_
  refine zk_iaload (pc := 6) j dX0_smokeIn_6 rfl rfl hj ?_
  refine zk_aload_n (pc := 7) 0 dX0_smokeIn_7 rfl rfl ?_
  refine zk_getI (pc := 8) dX0_smokeIn_8 flX0_87 rfl rfl ?_
  refine zk_iload_n (pc := 11) 2 dX0_smokeIn_11 rfl rfl ?_
  refine zk_imul (pc := 12) dX0_smokeIn_12 ?_
  refine zk_isub (pc := 13) dX0_smokeIn_13 ?_
  refine zk_mmax (pc := 14) dX0_smokeIn_14 lkX0_90 (Nat.le_of_ble_eq_true rfl) ?_
  refine zk_ireturn (pc := 17) dX0_smokeIn_17 (Or.inl rfl) ?_
  exact zk_ri rfl
theorem sp_X0_allSmokeIn {C : Nat} (hC : mu 23 5 = nI C) (hn : C ≤ 8) (n : Int32) : zk_M (d + 2) RX0 cX0_allSmokeIn 4 (some .int) none 0 (zk_loc [.ref 23, .int n] 4) [] mu lm (zk_R (some (.int (zsum C (fun j => zmax 0 (mu 27 j - mu 23 4 * n))))) mu lm) := by
  have loop : ∀ k, k ≤ C → zk_M (d + 2) RX0 cX0_allSmokeIn 4 (some .int) none 4 [.ref 23, .int n, .int (zsum k (fun j => zmax 0 (mu 27 j - mu 23 4 * n))), .int (nI k)] [] mu lm (zk_R (some (.int (zsum C (fun j => zmax 0 (mu 27 j - mu 23 4 * n))))) mu lm) := by
    refine zk_ind C (fun k hk ih => ?_)
    refine zk_iload_n (pc := 4) 3 dX0_allSmokeIn_4 rfl rfl ?_
    refine zk_aload_n (pc := 5) 0 dX0_allSmokeIn_5 rfl rfl ?_
    refine zk_getI (pc := 6) dX0_allSmokeIn_6 flX0_28 rfl rfl ?_
    refine zk_icmp_ge (pc := 9) 27 dX0_allSmokeIn_9 (by decide) (fun h9 => ?_) (fun h9 => ?_)
    · rw [hC, nIle (by omega) (by omega)] at h9
      refine zk_iload_n (pc := 27) 2 dX0_allSmokeIn_27 rfl rfl ?_
      refine zk_ireturn (pc := 28) dX0_allSmokeIn_28 (Or.inl rfl) (zk_ri ?_)
      rw [show k = C by omega]
    · rw [hC, nIle (by omega) (by omega)] at h9
      refine zk_iload_n (pc := 12) 2 dX0_allSmokeIn_12 rfl rfl ?_
      refine zk_aload_n (pc := 13) 0 dX0_allSmokeIn_13 rfl rfl ?_
      refine zk_iload_n (pc := 14) 3 dX0_allSmokeIn_14 rfl rfl ?_
      refine zk_iload_n (pc := 15) 1 dX0_allSmokeIn_15 rfl rfl ?_
      refine zk_callVI (pc := 16) dX0_allSmokeIn_16 mtX0_smokeIn lkX0_84 stX0_smokeIn (by rfl) (by rfl) [_, _] _ rfl rfl (Nat.le_of_ble_eq_true rfl) (Nat.le_of_ble_eq_true rfl) (sp_X0_smokeIn (by omega) n) ?_
      refine zk_iadd (pc := 19) dX0_allSmokeIn_19 ?_
      refine zk_istore_n (pc := 20) 2 dX0_allSmokeIn_20 rfl (by decide) ?_
      refine zk_iinc (pc := 21) dX0_allSmokeIn_21 rfl (nI_1 k) (by decide) ?_
      refine zk_goto (pc := 24) 4 dX0_allSmokeIn_24 (by decide) ?_
      exact ih (by omega)
  refine zk_iconst (pc := 0) (v := 0) dX0_allSmokeIn_0 (by decide) ?_
  refine zk_istore_n (pc := 1) 2 dX0_allSmokeIn_1 rfl (by decide) ?_
  refine zk_iconst (pc := 2) (v := 0) dX0_allSmokeIn_2 (by decide) ?_
  refine zk_istore_n (pc := 3) 3 dX0_allSmokeIn_3 rfl (by decide) ?_
  exact loop 0 (by omega)
end M22
end
section
section M23
variable {d : Nat} {mu : Mem} {lm : MemL}
theorem zb_c {P Q : Prop} [Decidable P] [Decidable Q] (h : P ↔ Q) : zb P = zb Q := by
  unfold zb
  by_cases hP : P
  · rw [if_pos hP, if_pos (h.mp hP)]
  · rw [if_neg hP, if_neg (fun q => hP (h.mpr q))]
theorem sp_isOf1 (k : Int32) : zk_M d RX2 cX2_isOf 2 (some .boolean) none 0 (zk_loc [.int k, .int 1] 2) [] mu lm (zk_R (some (.int (zb (k = 1 ∨ k = 4)))) mu lm) := by
  have e := sp_X2_isOf (d := d) (mu := mu) (lm := lm) k 1 (Or.inr (Or.inl rfl))
  rw [zb_c (show _ ↔ (k = 1 ∨ k = 4) from by simp)] at e
  exact e
theorem sp_isOf2 (k : Int32) : zk_M d RX2 cX2_isOf 2 (some .boolean) none 0 (zk_loc [.int k, .int 2] 2) [] mu lm (zk_R (some (.int (zb (k = 2 ∨ k = 5)))) mu lm) := by
  have e := sp_X2_isOf (d := d) (mu := mu) (lm := lm) k 2 (Or.inr (Or.inr (Or.inl rfl)))
  rw [zb_c (show _ ↔ (k = 2 ∨ k = 5) from by simp)] at e
  exact e
/-- how much of what one of a kind, under a cell, breathes of v comes to the cell c -/
def shr (kind seat cells v c : Int32) : Int32 :=
  if kind = 1 ∨ kind = 4 then (if c = seat then (v - kSay kind v) / 2 else if c = cBeh cells seat then ((v - kSay kind v) - (v - kSay kind v) / 2) / 2 else if c = cAhd cells seat then (v - kSay kind v) - (v - kSay kind v) / 2 - ((v - kSay kind v) - (v - kSay kind v) / 2) / 2 else 0)
  else (if c = seat then v - kSay kind v else 0)
theorem sp_X0_share {j : Nat} (hj : j < 6) (v c : Int32) : zk_M (d + 3) RX0 cX0_share 7 (some .int) none 0 (zk_loc [.ref 23, .int (nI j), .int v, .int c] 7) [] mu lm (zk_R (some (.int (shr (mu 24 j) (mu 25 j) (mu 23 5) v c))) mu lm) := by
  refine zk_aload_n (pc := 0) 0 dX0_share_0 rfl rfl ?_
  refine zk_getR (pc := 1) dX0_share_1 flX0_9 rfl rfl ?_
  refine zk_iload_n (pc := 4) 1 dX0_share_4 rfl rfl ?_
  refine zk_iaload (pc := 5) j dX0_share_5 rfl rfl hj ?_
  refine zk_iload_n (pc := 6) 2 dX0_share_6 rfl rfl ?_
  refine zk_callSI (pc := 7) dX0_share_7 mtX2_breathed lkX0_44 stX2_breathed [_, _] _ rfl rfl (Nat.le_of_ble_eq_true rfl) (Nat.le_of_ble_eq_true rfl) (sp_X2_breathed _ _) ?_
  refine zk_istore (pc := 10) 4 dX0_share_10 (by decide) ?_
  refine zk_aload_n (pc := 12) 0 dX0_share_12 rfl rfl ?_
  refine zk_getR (pc := 13) dX0_share_13 flX0_9 rfl rfl ?_
  refine zk_iload_n (pc := 16) 1 dX0_share_16 rfl rfl ?_
  refine zk_iaload (pc := 17) j dX0_share_17 rfl rfl hj ?_
  refine zk_iconst (pc := 18) (v := 1) dX0_share_18 (by decide) ?_
  refine zk_callSI (pc := 19) dX0_share_19 mtX2_isOf lkX0_50 stX2_isOf [_, _] _ rfl rfl (Nat.le_of_ble_eq_true rfl) (Nat.le_of_ble_eq_true rfl) (sp_isOf1 _) ?_
  refine zk_if_ne (pc := 22) 42 dX0_share_22 (by decide) (fun h22 => ?_) (fun h22 => ?_)
  · rw [zb_n] at h22
    refine zk_iload (pc := 42) dX0_share_42 rfl ?_
    refine zk_iconst (pc := 44) (v := 2) dX0_share_44 (by decide) ?_
    refine zk_idiv (pc := 45) dX0_share_45 (by decide) ?_
    refine zk_istore (pc := 46) 5 dX0_share_46 (by decide) ?_
    refine zk_iload (pc := 48) dX0_share_48 rfl ?_
    refine zk_iload (pc := 50) dX0_share_50 rfl ?_
    refine zk_isub (pc := 52) dX0_share_52 ?_
    refine zk_iconst (pc := 53) (v := 2) dX0_share_53 (by decide) ?_
    refine zk_idiv (pc := 54) dX0_share_54 (by decide) ?_
    refine zk_istore (pc := 55) 6 dX0_share_55 (by decide) ?_
    refine zk_iload_n (pc := 57) 3 dX0_share_57 rfl rfl ?_
    refine zk_aload_n (pc := 58) 0 dX0_share_58 rfl rfl ?_
    refine zk_getR (pc := 59) dX0_share_59 flX0_15 rfl rfl ?_
    refine zk_iload_n (pc := 62) 1 dX0_share_62 rfl rfl ?_
    refine zk_iaload (pc := 63) j dX0_share_63 rfl rfl hj ?_
    refine zk_icmp_ne (pc := 64) 70 dX0_share_64 (by decide) (fun h64 => ?_) (fun h64 => ?_)
    · skip
      refine zk_iload_n (pc := 70) 3 dX0_share_70 rfl rfl ?_
      refine zk_aload_n (pc := 71) 0 dX0_share_71 rfl rfl ?_
      refine zk_aload_n (pc := 72) 0 dX0_share_72 rfl rfl ?_
      refine zk_getR (pc := 73) dX0_share_73 flX0_15 rfl rfl ?_
      refine zk_iload_n (pc := 76) 1 dX0_share_76 rfl rfl ?_
      refine zk_iaload (pc := 77) j dX0_share_77 rfl rfl hj ?_
      refine zk_callVI (pc := 78) dX0_share_78 mtX0_behind lkX0_54 stX0_behind (by rfl) (by rfl) [_] _ rfl rfl (Nat.le_of_ble_eq_true rfl) (Nat.le_of_ble_eq_true rfl) (sp_X0_behind _) ?_
      refine zk_icmp_ne (pc := 81) 87 dX0_share_81 (by decide) (fun h81 => ?_) (fun h81 => ?_)
      · skip
        refine zk_iload_n (pc := 87) 3 dX0_share_87 rfl rfl ?_
        refine zk_aload_n (pc := 88) 0 dX0_share_88 rfl rfl ?_
        refine zk_aload_n (pc := 89) 0 dX0_share_89 rfl rfl ?_
        refine zk_getR (pc := 90) dX0_share_90 flX0_15 rfl rfl ?_
        refine zk_iload_n (pc := 93) 1 dX0_share_93 rfl rfl ?_
        refine zk_iaload (pc := 94) j dX0_share_94 rfl rfl hj ?_
        refine zk_callVI (pc := 95) dX0_share_95 mtX0_ahead lkX0_58 stX0_ahead (by rfl) (by rfl) [_] _ rfl rfl (Nat.le_of_ble_eq_true rfl) (Nat.le_of_ble_eq_true rfl) (sp_X0_ahead _) ?_
        refine zk_icmp_ne (pc := 98) 112 dX0_share_98 (by decide) (fun h98 => ?_) (fun h98 => ?_)
        · skip
          refine zk_iconst (pc := 112) (v := 0) dX0_share_112 (by decide) ?_
          refine zk_ireturn (pc := 113) dX0_share_113 (Or.inl rfl) ?_
          apply zk_ri; unfold shr
          first | rw [if_neg h22, if_pos h32] | rw [if_neg h22, if_neg h32] | rw [if_pos h22, if_pos h64] | rw [if_pos h22, if_neg h64, if_pos h81] | rw [if_pos h22, if_neg h64, if_neg h81, if_pos h98] | rw [if_pos h22, if_neg h64, if_neg h81, if_neg h98]
        · skip
          refine zk_iload (pc := 101) dX0_share_101 rfl ?_
          refine zk_iload (pc := 103) dX0_share_103 rfl ?_
          refine zk_isub (pc := 105) dX0_share_105 ?_
          refine zk_iload (pc := 106) dX0_share_106 rfl ?_
          refine zk_isub (pc := 108) dX0_share_108 ?_
          refine zk_goto (pc := 109) 113 dX0_share_109 (by decide) ?_
          refine zk_ireturn (pc := 113) dX0_share_113 (Or.inl rfl) ?_
          apply zk_ri; unfold shr
          first | rw [if_neg h22, if_pos h32] | rw [if_neg h22, if_neg h32] | rw [if_pos h22, if_pos h64] | rw [if_pos h22, if_neg h64, if_pos h81] | rw [if_pos h22, if_neg h64, if_neg h81, if_pos h98] | rw [if_pos h22, if_neg h64, if_neg h81, if_neg h98]
      · skip
        refine zk_iload (pc := 84) dX0_share_84 rfl ?_
        refine zk_ireturn (pc := 86) dX0_share_86 (Or.inl rfl) ?_
        apply zk_ri; unfold shr
        first | rw [if_neg h22, if_pos h32] | rw [if_neg h22, if_neg h32] | rw [if_pos h22, if_pos h64] | rw [if_pos h22, if_neg h64, if_pos h81] | rw [if_pos h22, if_neg h64, if_neg h81, if_pos h98] | rw [if_pos h22, if_neg h64, if_neg h81, if_neg h98]
    · skip
      refine zk_iload (pc := 67) dX0_share_67 rfl ?_
      refine zk_ireturn (pc := 69) dX0_share_69 (Or.inl rfl) ?_
      apply zk_ri; unfold shr
      first | rw [if_neg h22, if_pos h32] | rw [if_neg h22, if_neg h32] | rw [if_pos h22, if_pos h64] | rw [if_pos h22, if_neg h64, if_pos h81] | rw [if_pos h22, if_neg h64, if_neg h81, if_pos h98] | rw [if_pos h22, if_neg h64, if_neg h81, if_neg h98]
  · rw [zb_e] at h22
    refine zk_iload_n (pc := 25) 3 dX0_share_25 rfl rfl ?_
    refine zk_aload_n (pc := 26) 0 dX0_share_26 rfl rfl ?_
    refine zk_getR (pc := 27) dX0_share_27 flX0_15 rfl rfl ?_
    refine zk_iload_n (pc := 30) 1 dX0_share_30 rfl rfl ?_
    refine zk_iaload (pc := 31) j dX0_share_31 rfl rfl hj ?_
    refine zk_icmp_ne (pc := 32) 40 dX0_share_32 (by decide) (fun h32 => ?_) (fun h32 => ?_)
    · skip
      refine zk_iconst (pc := 40) (v := 0) dX0_share_40 (by decide) ?_
      refine zk_ireturn (pc := 41) dX0_share_41 (Or.inl rfl) ?_
      apply zk_ri; unfold shr
      first | rw [if_neg h22, if_pos h32] | rw [if_neg h22, if_neg h32] | rw [if_pos h22, if_pos h64] | rw [if_pos h22, if_neg h64, if_pos h81] | rw [if_pos h22, if_neg h64, if_neg h81, if_pos h98] | rw [if_pos h22, if_neg h64, if_neg h81, if_neg h98]
    · skip
      refine zk_iload (pc := 35) dX0_share_35 rfl ?_
      refine zk_goto (pc := 37) 41 dX0_share_37 (by decide) ?_
      refine zk_ireturn (pc := 41) dX0_share_41 (Or.inl rfl) ?_
      apply zk_ri; unfold shr
      first | rw [if_neg h22, if_pos h32] | rw [if_neg h22, if_neg h32] | rw [if_pos h22, if_pos h64] | rw [if_pos h22, if_neg h64, if_pos h81] | rw [if_pos h22, if_neg h64, if_neg h81, if_pos h98] | rw [if_pos h22, if_neg h64, if_neg h81, if_neg h98]
def brth (mu : Mem) (c j : Nat) (v : Int32) (k : Nat) : Mem := zk_uc mu c (fun q => if q < k then zmin 999 (mu c q + shr (mu 24 j) (mu 25 j) (mu 23 5) v (nI q)) else mu c q)
theorem brth_0 (mu : Mem) (c j : Nat) (v : Int32) : brth mu c j v 0 = mu := by
  unfold brth
  have : (fun q => if q < 0 then zmin 999 (mu c q + shr (mu 24 j) (mu 25 j) (mu 23 5) v (nI q)) else mu c q) = mu c := by funext q; simp
  rw [this, zk_uc_self]
theorem brth_s (mu : Mem) (c j : Nat) (v : Int32) (k : Nat) : zk_up (brth mu c j v k) c k (zmin 999 (mu c k + shr (mu 24 j) (mu 25 j) (mu 23 5) v (nI k))) = brth mu c j v (k + 1) := by
  funext c' k'
  unfold brth zk_up zk_uc
  by_cases hc : c' = c
  · subst hc
    by_cases hk : k' = k
    · subst hk; simp
    · have e : (k' < k + 1) = (k' < k) := propext ⟨fun h => by omega, fun h => by omega⟩
      simp [hk, e]
  · simp [hc]
theorem brth_c (mu : Mem) {c c' : Nat} (j : Nat) (v : Int32) (k : Nat) (h : c' ≠ c) : brth mu c j v k c' = mu c' := by unfold brth; rw [zuc_c _ _ h]
theorem brth_k (mu : Mem) (c j : Nat) (v : Int32) (k : Nat) : brth mu c j v k c k = mu c k := by unfold brth; rw [zuc_s]; simp
theorem sp_X0_breatheInto {c n C j : Nat} (hs : zk_shp[c]? = some (1, n, [])) (hC : mu 23 5 = nI C) (hn : C ≤ n) (hj : j < 6) (h23 : 23 ≠ c) (h24 : 24 ≠ c) (h25 : 25 ≠ c) (v : Int32) : zk_M (d + 4) RX0 cX0_breatheInto 5 (none) none 0 (zk_loc [.ref 23, .ref c, .int (nI j), .int v] 5) [] mu lm (zk_R none (brth mu c j v C) lm) := by
  have hsm := zk_sm hs
  simp only at hsm
  have loop : ∀ k, k ≤ C → zk_M (d + 4) RX0 cX0_breatheInto 5 (none) none 3 [.ref 23, .ref c, .int (nI j), .int v, .int (nI k)] [] (brth mu c j v k) lm (zk_R none (brth mu c j v C) lm) := by
    refine zk_ind C (fun k hk ih => ?_)
    refine zk_iload (pc := 3) dX0_breatheInto_3 rfl ?_
    refine zk_aload_n (pc := 5) 0 dX0_breatheInto_5 rfl rfl ?_
    refine zk_getI (pc := 6) dX0_breatheInto_6 flX0_28 rfl rfl ?_
    refine zk_icmp_ge (pc := 9) 48 dX0_breatheInto_9 (by decide) (fun h9 => ?_) (fun h9 => ?_)
    · rw [brth_c _ _ _ _ h23, hC, nIle (by omega) (by omega)] at h9
      refine zk_return (pc := 48) dX0_breatheInto_48 rfl (zk_rv0 ?_ rfl)
      rw [show k = C by omega]
    · rw [brth_c _ _ _ _ h23, hC, nIle (by omega) (by omega)] at h9
      refine zk_iload (pc := 12) dX0_breatheInto_12 rfl ?_
      refine zk_aload_n (pc := 14) 1 dX0_breatheInto_14 rfl rfl ?_
      refine zk_alen (pc := 15) dX0_breatheInto_15 hs (by decide) ?_
      refine zk_icmp_ge (pc := 16) 48 dX0_breatheInto_16 (by decide) (fun h16 => ?_) (fun h16 => ?_)
      · rw [nIle (by omega) (by omega)] at h16
        omega --
      · skip
        refine zk_aload_n (pc := 19) 1 dX0_breatheInto_19 rfl rfl ?_
        refine zk_iload (pc := 20) dX0_breatheInto_20 rfl ?_
        refine zk_sipush (pc := 22) (v := 999) dX0_breatheInto_22 (by decide) ?_
        refine zk_aload_n (pc := 25) 1 dX0_breatheInto_25 rfl rfl ?_
        refine zk_iload (pc := 26) dX0_breatheInto_26 rfl ?_
        refine zk_iaload (pc := 28) k dX0_breatheInto_28 hs rfl (by omega) ?_
        refine zk_aload_n (pc := 29) 0 dX0_breatheInto_29 rfl rfl ?_
        refine zk_iload_n (pc := 30) 2 dX0_breatheInto_30 rfl rfl ?_
        refine zk_iload_n (pc := 31) 3 dX0_breatheInto_31 rfl rfl ?_
        refine zk_iload (pc := 32) dX0_breatheInto_32 rfl ?_
        refine zk_callVI (pc := 34) dX0_breatheInto_34 mtX0_share lkX0_61 stX0_share (by rfl) (by rfl) [_, _, _] _ rfl rfl (Nat.le_of_ble_eq_true rfl) (Nat.le_of_ble_eq_true rfl) (sp_X0_share hj _ _) ?_
        refine zk_iadd (pc := 37) dX0_breatheInto_37 ?_
        refine zk_mmin (pc := 38) dX0_breatheInto_38 lkX0_65 (Nat.le_of_ble_eq_true rfl) ?_
        refine zk_iastore (pc := 41) k dX0_breatheInto_41 hs rfl (by omega) ?_
        refine zk_iinc (pc := 42) dX0_breatheInto_42 rfl (nI_1 k) (by decide) ?_
        refine zk_goto (pc := 45) 3 dX0_breatheInto_45 (by decide) ?_
        rw [brth_c _ _ _ _ h24, brth_c _ _ _ _ h25, brth_c _ _ _ _ h23, brth_k]
        have e := ih (by omega)
        rw [← brth_s] at e
        exact e
  have e0 := loop 0 (by omega)
  rw [brth_0] at e0
  refine zk_iconst (pc := 0) (v := 0) dX0_breatheInto_0 (by decide) ?_
  refine zk_istore (pc := 1) 4 dX0_breatheInto_1 (by decide) ?_
  exact e0
/-- a member talks: memory behind it -/
def talkM (mu : Mem) (C j : Nat) (v : Int32) : Mem := zk_up (zk_up (brth mu 27 j v C) 26 j (mu 26 j + 1)) 23 9 (mu 23 9 + kSay (mu 24 j) v)
theorem sp_X0_letTalk {C j M : Nat} (hC : mu 23 5 = nI C) (hn : C ≤ 8) (hM : mu 23 6 = nI M) (hM6 : M ≤ 6) (hj : j < M) (v : Int32) : zk_M (d + 5) RX0 cX0_letTalk 4 (some .int) none 0 (zk_loc [.ref 23, .int (nI j), .int v] 4) [] mu lm (zk_R (some (.int (kSay (mu 24 j) v))) (talkM mu C j v) lm) := by
  refine zk_aload_n (pc := 0) 0 dX0_letTalk_0 rfl rfl ?_
  refine zk_iload_n (pc := 1) 1 dX0_letTalk_1 rfl rfl ?_
  refine zk_callVI (pc := 2) dX0_letTalk_2 mtX0_hasMember lkX0_70 stX0_hasMember (by rfl) (by rfl) [_] _ rfl rfl (Nat.le_of_ble_eq_true rfl) (Nat.le_of_ble_eq_true rfl) (sp_X0_hasMember _) ?_
  refine zk_if_ne (pc := 5) 10 dX0_letTalk_5 (by decide) (fun h5 => ?_) (fun h5 => ?_)
  · rw [zb_n] at h5
    refine zk_aload_n (pc := 10) 0 dX0_letTalk_10 rfl rfl ?_
    refine zk_getR (pc := 11) dX0_letTalk_11 flX0_9 rfl rfl ?_
    refine zk_iload_n (pc := 14) 1 dX0_letTalk_14 rfl rfl ?_
    refine zk_iaload (pc := 15) j dX0_letTalk_15 rfl rfl (by omega) ?_
    refine zk_iload_n (pc := 16) 2 dX0_letTalk_16 rfl rfl ?_
    refine zk_callSI (pc := 17) dX0_letTalk_17 mtX2_spoken lkX0_73 stX2_spoken [_, _] _ rfl rfl (Nat.le_of_ble_eq_true rfl) (Nat.le_of_ble_eq_true rfl) (sp_X2_spoken _ _) ?_
    refine zk_istore_n (pc := 20) 3 dX0_letTalk_20 rfl (by decide) ?_
    refine zk_aload_n (pc := 21) 0 dX0_letTalk_21 rfl rfl ?_
    refine zk_aload_n (pc := 22) 0 dX0_letTalk_22 rfl rfl ?_
    refine zk_getR (pc := 23) dX0_letTalk_23 flX0_21 rfl rfl ?_
    refine zk_iload_n (pc := 26) 1 dX0_letTalk_26 rfl rfl ?_
    refine zk_iload_n (pc := 27) 2 dX0_letTalk_27 rfl rfl ?_
    refine zk_callVV (pc := 28) dX0_letTalk_28 mtX0_breatheInto lkX0_76 stX0_breatheInto (by rfl) (by rfl) [_, _, _] _ rfl rfl (Nat.le_of_ble_eq_true rfl) (Nat.le_of_ble_eq_true rfl) (sp_X0_breatheInto (c := 27) (n := 8) rfl hC hn (by omega) (by decide) (by decide) (by decide) v) ?_
    refine zk_aload_n (pc := 31) 0 dX0_letTalk_31 rfl rfl ?_
    refine zk_getR (pc := 32) dX0_letTalk_32 flX0_18 rfl rfl ?_
    refine zk_iload_n (pc := 35) 1 dX0_letTalk_35 rfl rfl ?_
    refine zk_dup2 (pc := 36) dX0_letTalk_36 rfl rfl ?_
    refine zk_iaload (pc := 37) j dX0_letTalk_37 rfl rfl (by omega) ?_
    refine zk_iconst (pc := 38) (v := 1) dX0_letTalk_38 (by decide) ?_
    refine zk_iadd (pc := 39) dX0_letTalk_39 ?_
    refine zk_iastore (pc := 40) j dX0_letTalk_40 rfl rfl (by omega) ?_
    refine zk_aload_n (pc := 41) 0 dX0_letTalk_41 rfl rfl ?_
    refine zk_dup (pc := 42) dX0_letTalk_42 rfl ?_
    refine zk_getI (pc := 43) dX0_letTalk_43 flX0_41 rfl rfl ?_
    refine zk_iload_n (pc := 46) 3 dX0_letTalk_46 rfl rfl ?_
    refine zk_iadd (pc := 47) dX0_letTalk_47 ?_
    refine zk_putI (pc := 48) dX0_letTalk_48 flX0_41 rfl rfl ?_
    refine zk_iload_n (pc := 51) 3 dX0_letTalk_51 rfl rfl ?_
    refine zk_ireturn (pc := 52) dX0_letTalk_52 (Or.inl rfl) (zk_rm rfl ?_ rfl)
    unfold talkM
    rw [brth_c _ _ _ _ (by decide), zup_c _ _ _ (by decide), brth_c _ _ _ _ (by decide)]
  · exact absurd (show 0 ≤ nI j ∧ nI j < mu 23 6 from ⟨nI_pos' (by omega), by rw [hM, nIlt (by omega) (by omega)]; exact hj⟩) (by rw [zb_e] at h5; exact h5) --
def hourA (mu : Mem) (k : Nat) : Mem := zk_uc mu 27 (fun q => if q < k then zmax 0 (mu 27 q - mu 23 4 * 1) else mu 27 q)
theorem hourA_0 (mu : Mem) : hourA mu 0 = mu := by
  unfold hourA
  have : (fun q => if q < 0 then zmax 0 (mu 27 q - mu 23 4 * 1) else mu 27 q) = mu 27 := by funext q; simp
  rw [this, zk_uc_self]
theorem hourA_s (mu : Mem) (k : Nat) : zk_up (hourA mu k) 27 k (zmax 0 (mu 27 k - mu 23 4 * 1)) = hourA mu (k + 1) := by
  funext c' k'
  unfold hourA zk_up zk_uc
  by_cases hc : c' = 27
  · subst hc
    by_cases hk : k' = k
    · subst hk; simp
    · have e : (k' < k + 1) = (k' < k) := propext ⟨fun h => by omega, fun h => by omega⟩
      simp [hk, e]
  · simp [hc]
theorem hourA_c (mu : Mem) {c' : Nat} (k : Nat) (h : c' ≠ 27) : hourA mu k c' = mu c' := by unfold hourA; rw [zuc_c _ _ h]
theorem hourA_k (mu : Mem) (k : Nat) : hourA mu k 27 k = mu 27 k := by unfold hourA; rw [zuc_s]; simp
/-- an hour: memory behind it -/
def hourM (mu : Mem) (C : Nat) : Mem := zk_up (hourA mu C) 23 7 (mu 23 7 + 1)
theorem sp_X0_passHour {C : Nat} (hC : mu 23 5 = nI C) (hn : C ≤ 8) : zk_M (d + 2) RX0 cX0_passHour 3 (some .int) none 0 (zk_loc [.ref 23] 3) [] mu lm (zk_R (some (.int (zsum C (mu 27) - zsum C (hourM mu C 27)))) (hourM mu C) lm) := by
  have loop : ∀ b : Int32, ∀ k, k ≤ C → zk_M (d + 2) RX0 cX0_passHour 3 (some .int) none 7 [.ref 23, .int b, .int (nI k)] [] (hourA mu k) lm (zk_R (some (.int (b - zsum C (hourM mu C 27)))) (hourM mu C) lm) := by
    intro b
    refine zk_ind C (fun k hk ih => ?_)
    refine zk_iload_n (pc := 7) 2 dX0_passHour_7 rfl rfl ?_
    refine zk_aload_n (pc := 8) 0 dX0_passHour_8 rfl rfl ?_
    refine zk_getI (pc := 9) dX0_passHour_9 flX0_28 rfl rfl ?_
    refine zk_icmp_ge (pc := 12) 33 dX0_passHour_12 (by decide) (fun h12 => ?_) (fun h12 => ?_)
    · rw [hourA_c _ _ (by decide), hC, nIle (by omega) (by omega)] at h12
      obtain rfl : k = C := by omega
      rw [show hourA mu k = hourA mu k from rfl]
      refine zk_aload_n (pc := 33) 0 dX0_passHour_33 rfl rfl ?_
      refine zk_dup (pc := 34) dX0_passHour_34 rfl ?_
      refine zk_getI (pc := 35) dX0_passHour_35 flX0_35 rfl rfl ?_
      refine zk_iconst (pc := 38) (v := 1) dX0_passHour_38 (by decide) ?_
      refine zk_iadd (pc := 39) dX0_passHour_39 ?_
      refine zk_putI (pc := 40) dX0_passHour_40 flX0_35 rfl rfl ?_
      refine zk_iload_n (pc := 43) 1 dX0_passHour_43 rfl rfl ?_
      refine zk_aload_n (pc := 44) 0 dX0_passHour_44 rfl rfl ?_
      refine zk_callVI (pc := 45) dX0_passHour_45 mtX0_allSmoke lkX0_80 stX0_allSmoke (by rfl) (by rfl) [] _ rfl rfl (Nat.le_of_ble_eq_true rfl) (Nat.le_of_ble_eq_true rfl) (sp_X0_allSmoke (C := k) (by rw [zup_k _ _ _ (by decide), hourA_c _ _ (by decide)]; exact hC) hn) ?_
      refine zk_isub (pc := 48) dX0_passHour_48 ?_
      refine zk_ireturn (pc := 49) dX0_passHour_49 (Or.inl rfl) (zk_rm ?_ ?_ rfl)
      · rw [hourA_c _ _ (by decide)]; rfl
      · rw [hourA_c _ _ (by decide)]; rfl
    · rw [hourA_c _ _ (by decide), hC, nIle (by omega) (by omega)] at h12
      refine zk_aload_n (pc := 15) 0 dX0_passHour_15 rfl rfl ?_
      refine zk_getR (pc := 16) dX0_passHour_16 flX0_21 rfl rfl ?_
      refine zk_iload_n (pc := 19) 2 dX0_passHour_19 rfl rfl ?_
      refine zk_aload_n (pc := 20) 0 dX0_passHour_20 rfl rfl ?_
      refine zk_iload_n (pc := 21) 2 dX0_passHour_21 rfl rfl ?_
      refine zk_iconst (pc := 22) (v := 1) dX0_passHour_22 (by decide) ?_
      refine zk_callVI (pc := 23) dX0_passHour_23 mtX0_smokeIn lkX0_84 stX0_smokeIn (by rfl) (by rfl) [_, _] _ rfl rfl (Nat.le_of_ble_eq_true rfl) (Nat.le_of_ble_eq_true rfl) (sp_X0_smokeIn (by omega) 1) ?_
      refine zk_iastore (pc := 26) k dX0_passHour_26 rfl rfl (by omega) ?_
      refine zk_iinc (pc := 27) dX0_passHour_27 rfl (nI_1 k) (by decide) ?_
      refine zk_goto (pc := 30) 7 dX0_passHour_30 (by decide) ?_
      rw [hourA_c (c' := 23) _ _ (by decide), hourA_k]
      have e := ih (by omega)
      rw [← hourA_s] at e
      exact e
  have e0 := loop (zsum C (mu 27)) 0 (by omega)
  rw [hourA_0] at e0
  refine zk_aload_n (pc := 0) 0 dX0_passHour_0 rfl rfl ?_
  refine zk_callVI (pc := 1) dX0_passHour_1 mtX0_allSmoke lkX0_80 stX0_allSmoke (by rfl) (by rfl) [] _ rfl rfl (Nat.le_of_ble_eq_true rfl) (Nat.le_of_ble_eq_true rfl) (sp_X0_allSmoke hC hn) ?_
  refine zk_istore_n (pc := 4) 1 dX0_passHour_4 rfl (by decide) ?_
  refine zk_iconst (pc := 5) (v := 0) dX0_passHour_5 (by decide) ?_
  refine zk_istore_n (pc := 6) 2 dX0_passHour_6 rfl (by decide) ?_
  exact e0
theorem sp_X0_openCell {C c : Nat} (hC : mu 23 5 = nI C) (hn : C ≤ 8) (hc : c < C) : zk_M (d + 1) RX0 cX0_openCell 3 (some .int) none 0 (zk_loc [.ref 23, .int (nI c)] 3) [] mu lm (zk_R (some (.int (mu 27 c))) (zk_up mu 27 c 0) lm) := by
  refine zk_aload_n (pc := 0) 0 dX0_openCell_0 rfl rfl ?_
  refine zk_iload_n (pc := 1) 1 dX0_openCell_1 rfl rfl ?_
  refine zk_callVI (pc := 2) dX0_openCell_2 mtX0_hasCell lkX0_31 stX0_hasCell (by rfl) (by rfl) [_] _ rfl rfl (Nat.le_of_ble_eq_true rfl) (Nat.le_of_ble_eq_true rfl) (sp_X0_hasCell _) ?_
  refine zk_if_ne (pc := 5) 10 dX0_openCell_5 (by decide) (fun h5 => ?_) (fun h5 => ?_)
  · rw [zb_n] at h5
    refine zk_aload_n (pc := 10) 0 dX0_openCell_10 rfl rfl ?_
    refine zk_getR (pc := 11) dX0_openCell_11 flX0_21 rfl rfl ?_
    refine zk_iload_n (pc := 14) 1 dX0_openCell_14 rfl rfl ?_
    refine zk_iaload (pc := 15) c dX0_openCell_15 rfl rfl (by omega) ?_
    refine zk_istore_n (pc := 16) 2 dX0_openCell_16 rfl (by decide) ?_
    refine zk_aload_n (pc := 17) 0 dX0_openCell_17 rfl rfl ?_
    refine zk_getR (pc := 18) dX0_openCell_18 flX0_21 rfl rfl ?_
    refine zk_iload_n (pc := 21) 1 dX0_openCell_21 rfl rfl ?_
    refine zk_iconst (pc := 22) (v := 0) dX0_openCell_22 (by decide) ?_
    refine zk_iastore (pc := 23) c dX0_openCell_23 rfl rfl (by omega) ?_
    refine zk_iload_n (pc := 24) 2 dX0_openCell_24 rfl rfl ?_
    exact zk_ireturn (pc := 25) dX0_openCell_25 (Or.inl rfl) (zk_rm rfl rfl rfl)
  · exact absurd (show 0 ≤ nI c ∧ nI c < mu 23 5 from ⟨nI_pos' (by omega), by rw [hC, nIlt (by omega) (by omega)]; exact hc⟩) (by rw [zb_e] at h5; exact h5) --
/-- thunder: memory behind it -/
def thunM (mu : Mem) (C : Nat) : Mem := zfill (zk_up mu 23 8 (mu 23 8 + zsum C (mu 27))) 27 C 0
theorem sp_X0_comeDown {C : Nat} (hC : mu 23 5 = nI C) (hn : C ≤ 8) : zk_M (d + 2) RX0 cX0_comeDown 2 (some .int) none 0 (zk_loc [.ref 23] 2) [] mu lm (zk_R (some (.int (mu 23 8 + zsum C (mu 27)))) (thunM mu C) lm) := by
  have loop : ∀ nu : Mem, nu 23 5 = nI C → ∀ k, k ≤ C → zk_M (d + 2) RX0 cX0_comeDown 2 (some .int) none 15 [.ref 23, .int (nI k)] [] (zfill nu 27 k 0) lm (zk_R (some (.int (nu 23 8))) (zfill nu 27 C 0) lm) := by
    intro nu hC
    refine zk_ind C (fun k hk ih => ?_)
    refine zk_iload_n (pc := 15) 1 dX0_comeDown_15 rfl rfl ?_
    refine zk_aload_n (pc := 16) 0 dX0_comeDown_16 rfl rfl ?_
    refine zk_getI (pc := 17) dX0_comeDown_17 flX0_28 rfl rfl ?_
    refine zk_icmp_ge (pc := 20) 36 dX0_comeDown_20 (by decide) (fun h20 => ?_) (fun h20 => ?_)
    · rw [zfill_c _ _ _ _ (by decide), hC, nIle (by omega) (by omega)] at h20
      refine zk_aload_n (pc := 36) 0 dX0_comeDown_36 rfl rfl ?_
      refine zk_getI (pc := 37) dX0_comeDown_37 flX0_38 rfl rfl ?_
      refine zk_ireturn (pc := 40) dX0_comeDown_40 (Or.inl rfl) (zk_rm ?_ ?_ rfl)
      · rw [zfill_c _ _ _ _ (by decide)]
      · rw [show k = C by omega]
    · rw [zfill_c _ _ _ _ (by decide), hC, nIle (by omega) (by omega)] at h20
      refine zk_aload_n (pc := 23) 0 dX0_comeDown_23 rfl rfl ?_
      refine zk_getR (pc := 24) dX0_comeDown_24 flX0_21 rfl rfl ?_
      refine zk_iload_n (pc := 27) 1 dX0_comeDown_27 rfl rfl ?_
      refine zk_iconst (pc := 28) (v := 0) dX0_comeDown_28 (by decide) ?_
      refine zk_iastore (pc := 29) k dX0_comeDown_29 rfl rfl (by omega) ?_
      refine zk_iinc (pc := 30) dX0_comeDown_30 rfl (nI_1 k) (by decide) ?_
      refine zk_goto (pc := 33) 15 dX0_comeDown_33 (by decide) ?_
      have e := ih (by omega)
      rw [← zfill_s] at e
      exact e
  have e0 := loop (zk_up mu 23 8 (mu 23 8 + zsum C (mu 27))) (by rw [zup_k _ _ _ (by decide)]; exact hC) 0 (by omega)
  rw [zfill_0, zup_s] at e0
  refine zk_aload_n (pc := 0) 0 dX0_comeDown_0 rfl rfl ?_
  refine zk_dup (pc := 1) dX0_comeDown_1 rfl ?_
  refine zk_getI (pc := 2) dX0_comeDown_2 flX0_38 rfl rfl ?_
  refine zk_aload_n (pc := 5) 0 dX0_comeDown_5 rfl rfl ?_
  refine zk_callVI (pc := 6) dX0_comeDown_6 mtX0_allSmoke lkX0_80 stX0_allSmoke (by rfl) (by rfl) [] _ rfl rfl (Nat.le_of_ble_eq_true rfl) (Nat.le_of_ble_eq_true rfl) (sp_X0_allSmoke hC hn) ?_
  refine zk_iadd (pc := 9) dX0_comeDown_9 ?_
  refine zk_putI (pc := 10) dX0_comeDown_10 flX0_38 rfl rfl ?_
  refine zk_iconst (pc := 13) (v := 0) dX0_comeDown_13 (by decide) ?_
  refine zk_istore_n (pc := 14) 1 dX0_comeDown_14 rfl (by decide) ?_
  exact e0
end M23
end
