section
-- ===== PART A: goes FIRST, ahead of the names: the tables' words, and 'selects' of the private methods out of them =====
/-- a private method of a class that the tables say can be made, by its rows of tables_1 -/
def lw_okq (q : MethodName × Nat) : Prop := (q.1.cls ≠ "java/lang/invoke/MethodHandle" ∧ q.1.cls ≠ "java/lang/invoke/VarHandle") ∧ Cond.instantiable q.1.cls q.2 ∈ tables_1 ∧ Cond.privateMethod q.1 ∈ tables_1 ∧ Cond.instanceMethod q.1 ∈ tables_1
theorem lw_p0 : lw_okq (⟨"ClubSmoke", "renewed", "(LClubSmoke$Row;III)I"⟩, 13) := ⟨⟨by decide +kernel, by decide +kernel⟩, List.mem_of_getElem? (i := 14) (by decide +kernel), List.mem_of_getElem? (i := 172) (by decide +kernel), List.mem_of_getElem? (i := 173) (by decide +kernel)⟩
theorem lw_p1 : lw_okq (⟨"ClubSmoke", "found", "(I)I"⟩, 13) := ⟨⟨by decide +kernel, by decide +kernel⟩, List.mem_of_getElem? (i := 14) (by decide +kernel), List.mem_of_getElem? (i := 176) (by decide +kernel), List.mem_of_getElem? (i := 177) (by decide +kernel)⟩
theorem lw_p2 : lw_okq (⟨"ClubSmoke", "refusedPlace", "(LClubSmoke$Row;I)I"⟩, 13) := ⟨⟨by decide +kernel, by decide +kernel⟩, List.mem_of_getElem? (i := 14) (by decide +kernel), List.mem_of_getElem? (i := 191) (by decide +kernel), List.mem_of_getElem? (i := 192) (by decide +kernel)⟩
theorem lw_p3 : lw_okq (⟨"ClubSmoke", "memberFact", "(II)I"⟩, 13) := ⟨⟨by decide +kernel, by decide +kernel⟩, List.mem_of_getElem? (i := 14) (by decide +kernel), List.mem_of_getElem? (i := 295) (by decide +kernel), List.mem_of_getElem? (i := 296) (by decide +kernel)⟩
theorem lw_p4 : lw_okq (⟨"ClubSmoke$Club", "behind", "(I)I"⟩, 10) := ⟨⟨by decide +kernel, by decide +kernel⟩, List.mem_of_getElem? (i := 44) (by decide +kernel), List.mem_of_getElem? (i := 310) (by decide +kernel), List.mem_of_getElem? (i := 311) (by decide +kernel)⟩
theorem lw_p5 : lw_okq (⟨"ClubSmoke$Club", "ahead", "(I)I"⟩, 10) := ⟨⟨by decide +kernel, by decide +kernel⟩, List.mem_of_getElem? (i := 44) (by decide +kernel), List.mem_of_getElem? (i := 314) (by decide +kernel), List.mem_of_getElem? (i := 315) (by decide +kernel)⟩
theorem lw_p6 : lw_okq (⟨"ClubSmoke", "perform", "(III)I"⟩, 13) := ⟨⟨by decide +kernel, by decide +kernel⟩, List.mem_of_getElem? (i := 14) (by decide +kernel), List.mem_of_getElem? (i := 356) (by decide +kernel), List.mem_of_getElem? (i := 357) (by decide +kernel)⟩
theorem lw_p7 : lw_okq (⟨"ClubSmoke", "enact", "(III)I"⟩, 13) := ⟨⟨by decide +kernel, by decide +kernel⟩, List.mem_of_getElem? (i := 14) (by decide +kernel), List.mem_of_getElem? (i := 364) (by decide +kernel), List.mem_of_getElem? (i := 365) (by decide +kernel)⟩
theorem lw_p8 : lw_okq (⟨"ClubSmoke", "relive", "()V"⟩, 13) := ⟨⟨by decide +kernel, by decide +kernel⟩, List.mem_of_getElem? (i := 14) (by decide +kernel), List.mem_of_getElem? (i := 425) (by decide +kernel), List.mem_of_getElem? (i := 426) (by decide +kernel)⟩
theorem lw_p9 : lw_okq (⟨"ClubSmoke", "lineBreath", "(II)I"⟩, 13) := ⟨⟨by decide +kernel, by decide +kernel⟩, List.mem_of_getElem? (i := 14) (by decide +kernel), List.mem_of_getElem? (i := 505) (by decide +kernel), List.mem_of_getElem? (i := 506) (by decide +kernel)⟩
theorem lw_p10 : lw_okq (⟨"ClubSmoke", "writeLine", "(LClubSmoke$Row;II)V"⟩, 13) := ⟨⟨by decide +kernel, by decide +kernel⟩, List.mem_of_getElem? (i := 14) (by decide +kernel), List.mem_of_getElem? (i := 509) (by decide +kernel), List.mem_of_getElem? (i := 510) (by decide +kernel)⟩
theorem lw_p11 : lw_okq (⟨"ClubSmoke", "refusedSets", "(II)I"⟩, 13) := ⟨⟨by decide +kernel, by decide +kernel⟩, List.mem_of_getElem? (i := 14) (by decide +kernel), List.mem_of_getElem? (i := 517) (by decide +kernel), List.mem_of_getElem? (i := 518) (by decide +kernel)⟩
theorem lw_p12 : lw_okq (⟨"ClubSmoke", "weighBreaths", "(I)V"⟩, 13) := ⟨⟨by decide +kernel, by decide +kernel⟩, List.mem_of_getElem? (i := 14) (by decide +kernel), List.mem_of_getElem? (i := 521) (by decide +kernel), List.mem_of_getElem? (i := 522) (by decide +kernel)⟩
theorem lw_p13 : lw_okq (⟨"ClubSmoke", "setsWith", "(II)I"⟩, 13) := ⟨⟨by decide +kernel, by decide +kernel⟩, List.mem_of_getElem? (i := 14) (by decide +kernel), List.mem_of_getElem? (i := 525) (by decide +kernel), List.mem_of_getElem? (i := 526) (by decide +kernel)⟩
theorem lw_p14 : lw_okq (⟨"ClubSmoke", "setBreath", "(I)I"⟩, 13) := ⟨⟨by decide +kernel, by decide +kernel⟩, List.mem_of_getElem? (i := 14) (by decide +kernel), List.mem_of_getElem? (i := 529) (by decide +kernel), List.mem_of_getElem? (i := 530) (by decide +kernel)⟩
theorem lw_p15 : lw_okq (⟨"ClubSmoke", "tell", "(JJ)V"⟩, 13) := ⟨⟨by decide +kernel, by decide +kernel⟩, List.mem_of_getElem? (i := 14) (by decide +kernel), List.mem_of_getElem? (i := 533) (by decide +kernel), List.mem_of_getElem? (i := 534) (by decide +kernel)⟩
def lw_privs_1 : List (MethodName × Nat) := [(⟨"ClubSmoke", "renewed", "(LClubSmoke$Row;III)I"⟩, 13), (⟨"ClubSmoke", "found", "(I)I"⟩, 13), (⟨"ClubSmoke", "refusedPlace", "(LClubSmoke$Row;I)I"⟩, 13), (⟨"ClubSmoke", "memberFact", "(II)I"⟩, 13), (⟨"ClubSmoke$Club", "behind", "(I)I"⟩, 10), (⟨"ClubSmoke$Club", "ahead", "(I)I"⟩, 10), (⟨"ClubSmoke", "perform", "(III)I"⟩, 13), (⟨"ClubSmoke", "enact", "(III)I"⟩, 13), (⟨"ClubSmoke", "relive", "()V"⟩, 13), (⟨"ClubSmoke", "lineBreath", "(II)I"⟩, 13), (⟨"ClubSmoke", "writeLine", "(LClubSmoke$Row;II)V"⟩, 13), (⟨"ClubSmoke", "refusedSets", "(II)I"⟩, 13), (⟨"ClubSmoke", "weighBreaths", "(I)V"⟩, 13), (⟨"ClubSmoke", "setsWith", "(II)I"⟩, 13), (⟨"ClubSmoke", "setBreath", "(I)I"⟩, 13), (⟨"ClubSmoke", "tell", "(JJ)V"⟩, 13)]
theorem lw_r1 : ∀ q ∈ lw_privs_1, lw_okq q := List.forall_mem_cons.mpr ⟨lw_p0, List.forall_mem_cons.mpr ⟨lw_p1, List.forall_mem_cons.mpr ⟨lw_p2, List.forall_mem_cons.mpr ⟨lw_p3, List.forall_mem_cons.mpr ⟨lw_p4, List.forall_mem_cons.mpr ⟨lw_p5, List.forall_mem_cons.mpr ⟨lw_p6, List.forall_mem_cons.mpr ⟨lw_p7, List.forall_mem_cons.mpr ⟨lw_p8, List.forall_mem_cons.mpr ⟨lw_p9, List.forall_mem_cons.mpr ⟨lw_p10, List.forall_mem_cons.mpr ⟨lw_p11, List.forall_mem_cons.mpr ⟨lw_p12, List.forall_mem_cons.mpr ⟨lw_p13, List.forall_mem_cons.mpr ⟨lw_p14, List.forall_mem_cons.mpr ⟨lw_p15, fun _ h => absurd h List.not_mem_nil⟩⟩⟩⟩⟩⟩⟩⟩⟩⟩⟩⟩⟩⟩⟩⟩
theorem lw_p16 : lw_okq (⟨"ClubSmoke", "firstSet", "(I)I"⟩, 13) := ⟨⟨by decide +kernel, by decide +kernel⟩, List.mem_of_getElem? (i := 14) (by decide +kernel), List.mem_of_getElem? (i := 540) (by decide +kernel), List.mem_of_getElem? (i := 541) (by decide +kernel)⟩
theorem lw_p17 : lw_okq (⟨"ClubSmoke", "refusedNotes", "(LClubSmoke$Row;)I"⟩, 13) := ⟨⟨by decide +kernel, by decide +kernel⟩, List.mem_of_getElem? (i := 14) (by decide +kernel), List.mem_of_getElem? (i := 557) (by decide +kernel), List.mem_of_getElem? (i := 558) (by decide +kernel)⟩
theorem lw_p18 : lw_okq (⟨"ClubSmoke$Turns", "mostByTalk", "(LClubSmoke$Club;III)I"⟩, 1) := ⟨⟨by decide +kernel, by decide +kernel⟩, List.mem_of_getElem? (i := 112) (by decide +kernel), List.mem_of_getElem? (i := 607) (by decide +kernel), List.mem_of_getElem? (i := 608) (by decide +kernel)⟩
theorem lw_p19 : lw_okq (⟨"ClubSmoke$Turns", "takeAir", "(I)V"⟩, 1) := ⟨⟨by decide +kernel, by decide +kernel⟩, List.mem_of_getElem? (i := 112) (by decide +kernel), List.mem_of_getElem? (i := 612) (by decide +kernel), List.mem_of_getElem? (i := 613) (by decide +kernel)⟩
theorem lw_p20 : lw_okq (⟨"ClubSmoke$Turns", "leastByWindow", "(LClubSmoke$Club;III)I"⟩, 1) := ⟨⟨by decide +kernel, by decide +kernel⟩, List.mem_of_getElem? (i := 112) (by decide +kernel), List.mem_of_getElem? (i := 617) (by decide +kernel), List.mem_of_getElem? (i := 618) (by decide +kernel)⟩
theorem lw_p21 : lw_okq (⟨"ClubSmoke", "tellWorth", "(II)V"⟩, 13) := ⟨⟨by decide +kernel, by decide +kernel⟩, List.mem_of_getElem? (i := 14) (by decide +kernel), List.mem_of_getElem? (i := 635) (by decide +kernel), List.mem_of_getElem? (i := 636) (by decide +kernel)⟩
theorem lw_p22 : lw_okq (⟨"ClubSmoke", "performLot", "(I)V"⟩, 13) := ⟨⟨by decide +kernel, by decide +kernel⟩, List.mem_of_getElem? (i := 14) (by decide +kernel), List.mem_of_getElem? (i := 651) (by decide +kernel), List.mem_of_getElem? (i := 652) (by decide +kernel)⟩
theorem lw_p23 : lw_okq (⟨"ClubSmoke", "keptClubs", "()I"⟩, 13) := ⟨⟨by decide +kernel, by decide +kernel⟩, List.mem_of_getElem? (i := 14) (by decide +kernel), List.mem_of_getElem? (i := 681) (by decide +kernel), List.mem_of_getElem? (i := 682) (by decide +kernel)⟩
theorem lw_p24 : lw_okq (⟨"ClubSmokeModel", "finds", "(I)I"⟩, 28) := ⟨⟨by decide +kernel, by decide +kernel⟩, List.mem_of_getElem? (i := 703) (by decide +kernel), List.mem_of_getElem? (i := 801) (by decide +kernel), List.mem_of_getElem? (i := 802) (by decide +kernel)⟩
theorem lw_p25 : lw_okq (⟨"ClubSmokeModel", "wrongAt", "(II)I"⟩, 28) := ⟨⟨by decide +kernel, by decide +kernel⟩, List.mem_of_getElem? (i := 703) (by decide +kernel), List.mem_of_getElem? (i := 809) (by decide +kernel), List.mem_of_getElem? (i := 810) (by decide +kernel)⟩
theorem lw_p26 : lw_okq (⟨"ClubSmokeModel", "tells", "(I)I"⟩, 28) := ⟨⟨by decide +kernel, by decide +kernel⟩, List.mem_of_getElem? (i := 703) (by decide +kernel), List.mem_of_getElem? (i := 813) (by decide +kernel), List.mem_of_getElem? (i := 814) (by decide +kernel)⟩
theorem lw_p27 : lw_okq (⟨"ClubSmokeModel", "read", "(I)I"⟩, 28) := ⟨⟨by decide +kernel, by decide +kernel⟩, List.mem_of_getElem? (i := 703) (by decide +kernel), List.mem_of_getElem? (i := 848) (by decide +kernel), List.mem_of_getElem? (i := 849) (by decide +kernel)⟩
theorem lw_p28 : lw_okq (⟨"ClubSmokeModel", "skip", "()V"⟩, 28) := ⟨⟨by decide +kernel, by decide +kernel⟩, List.mem_of_getElem? (i := 703) (by decide +kernel), List.mem_of_getElem? (i := 852) (by decide +kernel), List.mem_of_getElem? (i := 853) (by decide +kernel)⟩
theorem lw_p29 : lw_okq (⟨"ClubSmokeModel", "letterAt", "(I)I"⟩, 28) := ⟨⟨by decide +kernel, by decide +kernel⟩, List.mem_of_getElem? (i := 703) (by decide +kernel), List.mem_of_getElem? (i := 856) (by decide +kernel), List.mem_of_getElem? (i := 857) (by decide +kernel)⟩
theorem lw_p30 : lw_okq (⟨"ClubSmokeModel", "isCeiling", "()Z"⟩, 28) := ⟨⟨by decide +kernel, by decide +kernel⟩, List.mem_of_getElem? (i := 703) (by decide +kernel), List.mem_of_getElem? (i := 860) (by decide +kernel), List.mem_of_getElem? (i := 861) (by decide +kernel)⟩
theorem lw_p31 : lw_okq (⟨"ClubSmokeModel", "figure", "(II)I"⟩, 28) := ⟨⟨by decide +kernel, by decide +kernel⟩, List.mem_of_getElem? (i := 703) (by decide +kernel), List.mem_of_getElem? (i := 864) (by decide +kernel), List.mem_of_getElem? (i := 865) (by decide +kernel)⟩
def lw_privs_2 : List (MethodName × Nat) := [(⟨"ClubSmoke", "firstSet", "(I)I"⟩, 13), (⟨"ClubSmoke", "refusedNotes", "(LClubSmoke$Row;)I"⟩, 13), (⟨"ClubSmoke$Turns", "mostByTalk", "(LClubSmoke$Club;III)I"⟩, 1), (⟨"ClubSmoke$Turns", "takeAir", "(I)V"⟩, 1), (⟨"ClubSmoke$Turns", "leastByWindow", "(LClubSmoke$Club;III)I"⟩, 1), (⟨"ClubSmoke", "tellWorth", "(II)V"⟩, 13), (⟨"ClubSmoke", "performLot", "(I)V"⟩, 13), (⟨"ClubSmoke", "keptClubs", "()I"⟩, 13), (⟨"ClubSmokeModel", "finds", "(I)I"⟩, 28), (⟨"ClubSmokeModel", "wrongAt", "(II)I"⟩, 28), (⟨"ClubSmokeModel", "tells", "(I)I"⟩, 28), (⟨"ClubSmokeModel", "read", "(I)I"⟩, 28), (⟨"ClubSmokeModel", "skip", "()V"⟩, 28), (⟨"ClubSmokeModel", "letterAt", "(I)I"⟩, 28), (⟨"ClubSmokeModel", "isCeiling", "()Z"⟩, 28), (⟨"ClubSmokeModel", "figure", "(II)I"⟩, 28)]
theorem lw_r2 : ∀ q ∈ lw_privs_2, lw_okq q := List.forall_mem_cons.mpr ⟨lw_p16, List.forall_mem_cons.mpr ⟨lw_p17, List.forall_mem_cons.mpr ⟨lw_p18, List.forall_mem_cons.mpr ⟨lw_p19, List.forall_mem_cons.mpr ⟨lw_p20, List.forall_mem_cons.mpr ⟨lw_p21, List.forall_mem_cons.mpr ⟨lw_p22, List.forall_mem_cons.mpr ⟨lw_p23, List.forall_mem_cons.mpr ⟨lw_p24, List.forall_mem_cons.mpr ⟨lw_p25, List.forall_mem_cons.mpr ⟨lw_p26, List.forall_mem_cons.mpr ⟨lw_p27, List.forall_mem_cons.mpr ⟨lw_p28, List.forall_mem_cons.mpr ⟨lw_p29, List.forall_mem_cons.mpr ⟨lw_p30, List.forall_mem_cons.mpr ⟨lw_p31, fun _ h => absurd h List.not_mem_nil⟩⟩⟩⟩⟩⟩⟩⟩⟩⟩⟩⟩⟩⟩⟩⟩
theorem lw_p32 : lw_okq (⟨"ClubSmokeModel", "isMemberItem", "()Z"⟩, 28) := ⟨⟨by decide +kernel, by decide +kernel⟩, List.mem_of_getElem? (i := 703) (by decide +kernel), List.mem_of_getElem? (i := 868) (by decide +kernel), List.mem_of_getElem? (i := 869) (by decide +kernel)⟩
theorem lw_p33 : lw_okq (⟨"ClubSmokeModel", "isOne", "(I)Z"⟩, 28) := ⟨⟨by decide +kernel, by decide +kernel⟩, List.mem_of_getElem? (i := 703) (by decide +kernel), List.mem_of_getElem? (i := 883) (by decide +kernel), List.mem_of_getElem? (i := 884) (by decide +kernel)⟩
theorem lw_p34 : lw_okq (⟨"ClubSmokeModel", "memberTells", "(II)I"⟩, 28) := ⟨⟨by decide +kernel, by decide +kernel⟩, List.mem_of_getElem? (i := 703) (by decide +kernel), List.mem_of_getElem? (i := 887) (by decide +kernel), List.mem_of_getElem? (i := 888) (by decide +kernel)⟩
theorem lw_p35 : lw_okq (⟨"ClubSmokeModel", "behind", "(I)I"⟩, 28) := ⟨⟨by decide +kernel, by decide +kernel⟩, List.mem_of_getElem? (i := 703) (by decide +kernel), List.mem_of_getElem? (i := 898) (by decide +kernel), List.mem_of_getElem? (i := 899) (by decide +kernel)⟩
theorem lw_p36 : lw_okq (⟨"ClubSmokeModel", "ahead", "(I)I"⟩, 28) := ⟨⟨by decide +kernel, by decide +kernel⟩, List.mem_of_getElem? (i := 703) (by decide +kernel), List.mem_of_getElem? (i := 902) (by decide +kernel), List.mem_of_getElem? (i := 903) (by decide +kernel)⟩
theorem lw_p37 : lw_okq (⟨"ClubSmokeModel", "breath", "(II)I"⟩, 28) := ⟨⟨by decide +kernel, by decide +kernel⟩, List.mem_of_getElem? (i := 703) (by decide +kernel), List.mem_of_getElem? (i := 906) (by decide +kernel), List.mem_of_getElem? (i := 907) (by decide +kernel)⟩
theorem lw_p38 : lw_okq (⟨"ClubSmokeModel", "isCell", "(I)Z"⟩, 28) := ⟨⟨by decide +kernel, by decide +kernel⟩, List.mem_of_getElem? (i := 703) (by decide +kernel), List.mem_of_getElem? (i := 917) (by decide +kernel), List.mem_of_getElem? (i := 918) (by decide +kernel)⟩
theorem lw_p39 : lw_okq (⟨"ClubSmokeModel", "note", "()V"⟩, 28) := ⟨⟨by decide +kernel, by decide +kernel⟩, List.mem_of_getElem? (i := 703) (by decide +kernel), List.mem_of_getElem? (i := 925) (by decide +kernel), List.mem_of_getElem? (i := 926) (by decide +kernel)⟩
theorem lw_p40 : lw_okq (⟨"ClubSmokeModel", "talkIn", "([III)V"⟩, 28) := ⟨⟨by decide +kernel, by decide +kernel⟩, List.mem_of_getElem? (i := 703) (by decide +kernel), List.mem_of_getElem? (i := 932) (by decide +kernel), List.mem_of_getElem? (i := 933) (by decide +kernel)⟩
theorem lw_p41 : lw_okq (⟨"ClubSmokeModel", "hourIn", "([I)I"⟩, 28) := ⟨⟨by decide +kernel, by decide +kernel⟩, List.mem_of_getElem? (i := 703) (by decide +kernel), List.mem_of_getElem? (i := 943) (by decide +kernel), List.mem_of_getElem? (i := 944) (by decide +kernel)⟩
theorem lw_p42 : lw_okq (⟨"ClubSmokeModel", "allIn", "([I)I"⟩, 28) := ⟨⟨by decide +kernel, by decide +kernel⟩, List.mem_of_getElem? (i := 703) (by decide +kernel), List.mem_of_getElem? (i := 955) (by decide +kernel), List.mem_of_getElem? (i := 956) (by decide +kernel)⟩
theorem lw_p43 : lw_okq (⟨"ClubSmokeModel", "thunderIn", "([I)V"⟩, 28) := ⟨⟨by decide +kernel, by decide +kernel⟩, List.mem_of_getElem? (i := 703) (by decide +kernel), List.mem_of_getElem? (i := 959) (by decide +kernel), List.mem_of_getElem? (i := 960) (by decide +kernel)⟩
theorem lw_p44 : lw_okq (⟨"ClubSmokeModel", "begin", "()V"⟩, 28) := ⟨⟨by decide +kernel, by decide +kernel⟩, List.mem_of_getElem? (i := 703) (by decide +kernel), List.mem_of_getElem? (i := 995) (by decide +kernel), List.mem_of_getElem? (i := 996) (by decide +kernel)⟩
theorem lw_p45 : lw_okq (⟨"ClubSmokeModel", "hangsBy", "(IIIII)Z"⟩, 28) := ⟨⟨by decide +kernel, by decide +kernel⟩, List.mem_of_getElem? (i := 703) (by decide +kernel), List.mem_of_getElem? (i := 1017) (by decide +kernel), List.mem_of_getElem? (i := 1018) (by decide +kernel)⟩
theorem lw_p46 : lw_okq (⟨"ClubSmokeModel", "wrongSets", "(II)I"⟩, 28) := ⟨⟨by decide +kernel, by decide +kernel⟩, List.mem_of_getElem? (i := 703) (by decide +kernel), List.mem_of_getElem? (i := 1025) (by decide +kernel), List.mem_of_getElem? (i := 1026) (by decide +kernel)⟩
theorem lw_p47 : lw_okq (⟨"ClubSmokeModel", "isSo", "(III)Z"⟩, 28) := ⟨⟨by decide +kernel, by decide +kernel⟩, List.mem_of_getElem? (i := 703) (by decide +kernel), List.mem_of_getElem? (i := 1029) (by decide +kernel), List.mem_of_getElem? (i := 1030) (by decide +kernel)⟩
def lw_privs_3 : List (MethodName × Nat) := [(⟨"ClubSmokeModel", "isMemberItem", "()Z"⟩, 28), (⟨"ClubSmokeModel", "isOne", "(I)Z"⟩, 28), (⟨"ClubSmokeModel", "memberTells", "(II)I"⟩, 28), (⟨"ClubSmokeModel", "behind", "(I)I"⟩, 28), (⟨"ClubSmokeModel", "ahead", "(I)I"⟩, 28), (⟨"ClubSmokeModel", "breath", "(II)I"⟩, 28), (⟨"ClubSmokeModel", "isCell", "(I)Z"⟩, 28), (⟨"ClubSmokeModel", "note", "()V"⟩, 28), (⟨"ClubSmokeModel", "talkIn", "([III)V"⟩, 28), (⟨"ClubSmokeModel", "hourIn", "([I)I"⟩, 28), (⟨"ClubSmokeModel", "allIn", "([I)I"⟩, 28), (⟨"ClubSmokeModel", "thunderIn", "([I)V"⟩, 28), (⟨"ClubSmokeModel", "begin", "()V"⟩, 28), (⟨"ClubSmokeModel", "hangsBy", "(IIIII)Z"⟩, 28), (⟨"ClubSmokeModel", "wrongSets", "(II)I"⟩, 28), (⟨"ClubSmokeModel", "isSo", "(III)Z"⟩, 28)]
theorem lw_r3 : ∀ q ∈ lw_privs_3, lw_okq q := List.forall_mem_cons.mpr ⟨lw_p32, List.forall_mem_cons.mpr ⟨lw_p33, List.forall_mem_cons.mpr ⟨lw_p34, List.forall_mem_cons.mpr ⟨lw_p35, List.forall_mem_cons.mpr ⟨lw_p36, List.forall_mem_cons.mpr ⟨lw_p37, List.forall_mem_cons.mpr ⟨lw_p38, List.forall_mem_cons.mpr ⟨lw_p39, List.forall_mem_cons.mpr ⟨lw_p40, List.forall_mem_cons.mpr ⟨lw_p41, List.forall_mem_cons.mpr ⟨lw_p42, List.forall_mem_cons.mpr ⟨lw_p43, List.forall_mem_cons.mpr ⟨lw_p44, List.forall_mem_cons.mpr ⟨lw_p45, List.forall_mem_cons.mpr ⟨lw_p46, List.forall_mem_cons.mpr ⟨lw_p47, fun _ h => absurd h List.not_mem_nil⟩⟩⟩⟩⟩⟩⟩⟩⟩⟩⟩⟩⟩⟩⟩⟩
theorem lw_p48 : lw_okq (⟨"ClubSmokeModel", "manyBy", "(IIII)I"⟩, 28) := ⟨⟨by decide +kernel, by decide +kernel⟩, List.mem_of_getElem? (i := 703) (by decide +kernel), List.mem_of_getElem? (i := 1033) (by decide +kernel), List.mem_of_getElem? (i := 1034) (by decide +kernel)⟩
theorem lw_p49 : lw_okq (⟨"ClubSmokeModel", "wrongPairs", "(I)I"⟩, 28) := ⟨⟨by decide +kernel, by decide +kernel⟩, List.mem_of_getElem? (i := 703) (by decide +kernel), List.mem_of_getElem? (i := 1049) (by decide +kernel), List.mem_of_getElem? (i := 1050) (by decide +kernel)⟩
theorem lw_p50 : lw_okq (⟨"ClubSmokeModel", "saidSo", "(II)Z"⟩, 28) := ⟨⟨by decide +kernel, by decide +kernel⟩, List.mem_of_getElem? (i := 703) (by decide +kernel), List.mem_of_getElem? (i := 1053) (by decide +kernel), List.mem_of_getElem? (i := 1054) (by decide +kernel)⟩
theorem lw_p51 : lw_okq (⟨"ClubSmokeModel", "kindsBy", "(I)I"⟩, 28) := ⟨⟨by decide +kernel, by decide +kernel⟩, List.mem_of_getElem? (i := 703) (by decide +kernel), List.mem_of_getElem? (i := 1061) (by decide +kernel), List.mem_of_getElem? (i := 1062) (by decide +kernel)⟩
theorem lw_p52 : lw_okq (⟨"ClubSmokeModel", "lastTurn", "(II)I"⟩, 28) := ⟨⟨by decide +kernel, by decide +kernel⟩, List.mem_of_getElem? (i := 703) (by decide +kernel), List.mem_of_getElem? (i := 1077) (by decide +kernel), List.mem_of_getElem? (i := 1078) (by decide +kernel)⟩
theorem lw_p53 : lw_okq (⟨"ClubSmokeModel", "isTurn", "(I)Z"⟩, 28) := ⟨⟨by decide +kernel, by decide +kernel⟩, List.mem_of_getElem? (i := 703) (by decide +kernel), List.mem_of_getElem? (i := 1081) (by decide +kernel), List.mem_of_getElem? (i := 1082) (by decide +kernel)⟩
theorem lw_p54 : lw_okq (⟨"ClubSmokeModel", "eveningBy", "(III)I"⟩, 28) := ⟨⟨by decide +kernel, by decide +kernel⟩, List.mem_of_getElem? (i := 703) (by decide +kernel), List.mem_of_getElem? (i := 1085) (by decide +kernel), List.mem_of_getElem? (i := 1086) (by decide +kernel)⟩
theorem lw_p55 : lw_okq (⟨"ClubSmokeModel", "tellsPart", "(JJ)V"⟩, 28) := ⟨⟨by decide +kernel, by decide +kernel⟩, List.mem_of_getElem? (i := 703) (by decide +kernel), List.mem_of_getElem? (i := 1100) (by decide +kernel), List.mem_of_getElem? (i := 1101) (by decide +kernel)⟩
theorem lw_p56 : lw_okq (⟨"ClubSmokeModel", "kindMany", "(I)I"⟩, 28) := ⟨⟨by decide +kernel, by decide +kernel⟩, List.mem_of_getElem? (i := 703) (by decide +kernel), List.mem_of_getElem? (i := 1134) (by decide +kernel), List.mem_of_getElem? (i := 1135) (by decide +kernel)⟩
def lw_privs_4 : List (MethodName × Nat) := [(⟨"ClubSmokeModel", "manyBy", "(IIII)I"⟩, 28), (⟨"ClubSmokeModel", "wrongPairs", "(I)I"⟩, 28), (⟨"ClubSmokeModel", "saidSo", "(II)Z"⟩, 28), (⟨"ClubSmokeModel", "kindsBy", "(I)I"⟩, 28), (⟨"ClubSmokeModel", "lastTurn", "(II)I"⟩, 28), (⟨"ClubSmokeModel", "isTurn", "(I)Z"⟩, 28), (⟨"ClubSmokeModel", "eveningBy", "(III)I"⟩, 28), (⟨"ClubSmokeModel", "tellsPart", "(JJ)V"⟩, 28), (⟨"ClubSmokeModel", "kindMany", "(I)I"⟩, 28)]
theorem lw_r4 : ∀ q ∈ lw_privs_4, lw_okq q := List.forall_mem_cons.mpr ⟨lw_p48, List.forall_mem_cons.mpr ⟨lw_p49, List.forall_mem_cons.mpr ⟨lw_p50, List.forall_mem_cons.mpr ⟨lw_p51, List.forall_mem_cons.mpr ⟨lw_p52, List.forall_mem_cons.mpr ⟨lw_p53, List.forall_mem_cons.mpr ⟨lw_p54, List.forall_mem_cons.mpr ⟨lw_p55, List.forall_mem_cons.mpr ⟨lw_p56, fun _ h => absurd h List.not_mem_nil⟩⟩⟩⟩⟩⟩⟩⟩⟩
def lw_privs : List (MethodName × Nat) := lw_privs_1 ++ (lw_privs_2 ++ (lw_privs_3 ++ (lw_privs_4)))
def lw_tbl : List Cond := k2_sels lw_privs ++ tables_1
theorem lw_privs_ok : ∀ q ∈ lw_privs, lw_okq q := by
  show ∀ q ∈ lw_privs_1 ++ (lw_privs_2 ++ (lw_privs_3 ++ (lw_privs_4))), lw_okq q
  exact List.forall_mem_append.mpr ⟨lw_r1, List.forall_mem_append.mpr ⟨lw_r2, List.forall_mem_append.mpr ⟨lw_r3, lw_r4⟩⟩⟩
end
section
/-! ===== BEGIN words of one list among another's, by their places ===== -/
theorem goodIn_r {big : List Cond} (ws : List Cond) (ps : List Nat) (hp : ws = ps.filterMap (fun i => big[i]?)) (h : ws.all goodWord = true) : GoodIn big ws := by
  intro w hw
  have h1 := List.all_eq_true.mp h w hw
  rw [hp] at hw
  obtain ⟨i, -, hi⟩ := List.mem_filterMap.mp hw
  have hm : w ∈ big := by first | exact List.mem_of_getElem? hi | exact List.getElem?_mem hi
  exact ⟨hm, good_of_word h1⟩
theorem goodIn_app {big a b : List Cond} (ha : GoodIn big a) (hb : GoodIn big b) : GoodIn big (a ++ b) := fun w h => (List.mem_append.mp h).elim (ha w) (hb w)
theorem goodIn_ca {big a b : List Cond} {c : Cond} (ha : GoodIn big (c :: a)) (hb : GoodIn big b) : GoodIn big (c :: (a ++ b)) := fun w h => (List.mem_cons.mp h).elim (fun e => ha w (List.mem_cons.mpr (Or.inl e))) (fun h => (List.mem_append.mp h).elim (fun h => ha w (List.mem_cons.mpr (Or.inr h))) (hb w))
theorem goodIn_sub {big ws : List Cond} (hm : ∀ w ∈ ws, w ∈ big) (h : ws.all goodWord = true) : GoodIn big ws := fun w hw => ⟨hm w hw, good_of_word (List.all_eq_true.mp h w hw)⟩
/-! ===== END ===== -/
def RX0 : String := "ClubSmoke$Club"
def TX0 : u_T := fun k => match k with
  | 0 => ("ClubSmoke$Club", "kinds", "[I", true)
  | 1 => ("ClubSmoke$Club", "seats", "[I", true)
  | 2 => ("ClubSmoke$Club", "talked", "[I", true)
  | 3 => ("ClubSmoke$Club", "air", "[I", true)
  | 4 => ("ClubSmoke$Club", "leak", "I", false)
  | 5 => ("ClubSmoke$Club", "cells", "I", false)
  | 6 => ("ClubSmoke$Club", "members", "I", false)
  | 7 => ("ClubSmoke$Club", "hours", "I", false)
  | 8 => ("ClubSmoke$Club", "heard", "I", false)
  | _ => ("ClubSmoke$Club", "said", "I", false)
def tyX0 : Nat → FieldType := fun k => match k with
  | 0 => .array .int
  | 1 => .array .int
  | 2 => .array .int
  | 3 => .array .int
  | 4 => .int
  | 5 => .int
  | 6 => .int
  | 7 => .int
  | 8 => .int
  | _ => .int
theorem nmX0 : ∀ a, a < 10 → ∀ b, b < 10 → a ≠ b → (TX0 a).2.1 ≠ (TX0 b).2.1 := by decide +kernel
theorem tyX0_ok : ∀ k, k < 10 → parseFieldDescriptor (TX0 k).2.2.1 = some (tyX0 k) := by decide +kernel
abbrev cX0_init : ByteArray := prog_2_method_1_code
def yX0_init : MethodName := ⟨RX0, "<init>", "()V"⟩
abbrev cX0_hasMember : ByteArray := prog_2_method_2_code
def yX0_hasMember : MethodName := ⟨RX0, "hasMember", "(I)Z"⟩
abbrev cX0_hasCell : ByteArray := prog_2_method_3_code
def yX0_hasCell : MethodName := ⟨RX0, "hasCell", "(I)Z"⟩
abbrev cX0_join : ByteArray := prog_2_method_4_code
def yX0_join : MethodName := ⟨RX0, "join", "(I)V"⟩
abbrev cX0_seat : ByteArray := prog_2_method_5_code
def yX0_seat : MethodName := ⟨RX0, "seat", "(I)V"⟩
abbrev cX0_freshen : ByteArray := prog_2_method_6_code
def yX0_freshen : MethodName := ⟨RX0, "freshen", "()V"⟩
abbrev cX0_behind : ByteArray := prog_2_method_7_code
def yX0_behind : MethodName := ⟨RX0, "behind", "(I)I"⟩
abbrev cX0_ahead : ByteArray := prog_2_method_8_code
def yX0_ahead : MethodName := ⟨RX0, "ahead", "(I)I"⟩
abbrev cX0_share : ByteArray := prog_2_method_9_code
def yX0_share : MethodName := ⟨RX0, "share", "(III)I"⟩
abbrev cX0_breatheInto : ByteArray := prog_2_method_10_code
def yX0_breatheInto : MethodName := ⟨RX0, "breatheInto", "([III)V"⟩
abbrev cX0_letTalk : ByteArray := prog_2_method_11_code
def yX0_letTalk : MethodName := ⟨RX0, "letTalk", "(II)I"⟩
abbrev cX0_passHour : ByteArray := prog_2_method_12_code
def yX0_passHour : MethodName := ⟨RX0, "passHour", "()I"⟩
abbrev cX0_openCell : ByteArray := prog_2_method_13_code
def yX0_openCell : MethodName := ⟨RX0, "openCell", "(I)I"⟩
abbrev cX0_comeDown : ByteArray := prog_2_method_14_code
def yX0_comeDown : MethodName := ⟨RX0, "comeDown", "()I"⟩
abbrev cX0_smokeIn : ByteArray := prog_2_method_15_code
def yX0_smokeIn : MethodName := ⟨RX0, "smokeIn", "(II)I"⟩
abbrev cX0_allSmokeIn : ByteArray := prog_2_method_16_code
def yX0_allSmokeIn : MethodName := ⟨RX0, "allSmokeIn", "(I)I"⟩
abbrev cX0_allSmoke : ByteArray := prog_2_method_17_code
def yX0_allSmoke : MethodName := ⟨RX0, "allSmoke", "()I"⟩
abbrev cX0_sumOf : ByteArray := prog_2_method_18_code
def yX0_sumOf : MethodName := ⟨RX0, "sumOf", "([I)I"⟩
abbrev cX0_smokeOutside : ByteArray := prog_2_method_19_code
def yX0_smokeOutside : MethodName := ⟨RX0, "smokeOutside", "(I)I"⟩
abbrev cX0_fullestOf : ByteArray := prog_2_method_20_code
def yX0_fullestOf : MethodName := ⟨RX0, "fullestOf", "([I)I"⟩
abbrev cX0_ringSmoke : ByteArray := prog_2_method_21_code
def yX0_ringSmoke : MethodName := ⟨RX0, "ringSmoke", "(I)I"⟩
abbrev cX0_otherYoungBeside : ByteArray := prog_2_method_22_code
def yX0_otherYoungBeside : MethodName := ⟨RX0, "otherYoungBeside", "(I)I"⟩
abbrev cX0_othersWithoutBreath : ByteArray := prog_2_method_23_code
def yX0_othersWithoutBreath : MethodName := ⟨RX0, "othersWithoutBreath", "(II)I"⟩
abbrev cX0_membersOf : ByteArray := prog_2_method_24_code
def yX0_membersOf : MethodName := ⟨RX0, "membersOf", "(I)I"⟩
def RX1 : String := "ClubSmoke$Deeds"
def TX1 : u_T := fun k => match k with
  | 0 => ("ClubSmoke$Deeds", "codes", "[I", true)
  | _ => ("ClubSmoke$Deeds", "size", "I", false)
def tyX1 : Nat → FieldType := fun k => match k with
  | 0 => .array .int
  | _ => .int
theorem nmX1 : ∀ a, a < 2 → ∀ b, b < 2 → a ≠ b → (TX1 a).2.1 ≠ (TX1 b).2.1 := by decide +kernel
theorem tyX1_ok : ∀ k, k < 2 → parseFieldDescriptor (TX1 k).2.2.1 = some (tyX1 k) := by decide +kernel
abbrev cX1_init : ByteArray := prog_3_method_1_code
def yX1_init : MethodName := ⟨RX1, "<init>", "()V"⟩
abbrev cX1_isFull : ByteArray := prog_3_method_2_code
def yX1_isFull : MethodName := ⟨RX1, "isFull", "()Z"⟩
abbrev cX1_write : ByteArray := prog_3_method_3_code
def yX1_write : MethodName := ⟨RX1, "write", "(III)V"⟩
abbrev cX1_what : ByteArray := prog_3_method_4_code
def yX1_what : MethodName := ⟨RX1, "what", "(I)I"⟩
abbrev cX1_whom : ByteArray := prog_3_method_5_code
def yX1_whom : MethodName := ⟨RX1, "whom", "(I)I"⟩
abbrev cX1_meant : ByteArray := prog_3_method_6_code
def yX1_meant : MethodName := ⟨RX1, "meant", "(I)I"⟩
abbrev cX1_takeFrom : ByteArray := prog_3_method_7_code
def yX1_takeFrom : MethodName := ⟨RX1, "takeFrom", "(LClubSmoke$Deeds;)V"⟩
def RX2 : String := "ClubSmoke$Kind"
def TX2 : u_T := fun k => match k with
  | _ => ("", "", "", false)
def tyX2 : Nat → FieldType := fun k => match k with
  | _ => .int
theorem nmX2 : ∀ a, a < 0 → ∀ b, b < 0 → a ≠ b → (TX2 a).2.1 ≠ (TX2 b).2.1 := by decide +kernel
theorem tyX2_ok : ∀ k, k < 0 → parseFieldDescriptor (TX2 k).2.2.1 = some (tyX2 k) := by decide +kernel
abbrev cX2_byLetter : ByteArray := prog_4_method_2_code
def yX2_byLetter : MethodName := ⟨RX2, "byLetter", "(I)I"⟩
abbrev cX2_isOf : ByteArray := prog_4_method_3_code
def yX2_isOf : MethodName := ⟨RX2, "isOf", "(II)Z"⟩
abbrev cX2_spoken : ByteArray := prog_4_method_4_code
def yX2_spoken : MethodName := ⟨RX2, "spoken", "(II)I"⟩
abbrev cX2_breathed : ByteArray := prog_4_method_5_code
def yX2_breathed : MethodName := ⟨RX2, "breathed", "(II)I"⟩
abbrev cX2_meaningsOf : ByteArray := prog_4_method_6_code
def yX2_meaningsOf : MethodName := ⟨RX2, "meaningsOf", "(II)I"⟩
abbrev cX2_leastMeaningOf : ByteArray := prog_4_method_7_code
def yX2_leastMeaningOf : MethodName := ⟨RX2, "leastMeaningOf", "(II)I"⟩
def RX3 : String := "ClubSmoke$Notes"
def TX3 : u_T := fun k => match k with
  | _ => ("", "", "", false)
def tyX3 : Nat → FieldType := fun k => match k with
  | _ => .int
theorem nmX3 : ∀ a, a < 0 → ∀ b, b < 0 → a ≠ b → (TX3 a).2.1 ≠ (TX3 b).2.1 := by decide +kernel
theorem tyX3_ok : ∀ k, k < 0 → parseFieldDescriptor (TX3 k).2.2.1 = some (tyX3 k) := by decide +kernel
abbrev cX3_fit : ByteArray := prog_5_method_2_code
def yX3_fit : MethodName := ⟨RX3, "fit", "(LClubSmoke$Row;I)Z"⟩
abbrev cX3_fittingKinds : ByteArray := prog_5_method_3_code
def yX3_fittingKinds : MethodName := ⟨RX3, "fittingKinds", "(LClubSmoke$Row;)I"⟩
abbrev cX3_greatestPart : ByteArray := prog_5_method_4_code
def yX3_greatestPart : MethodName := ⟨RX3, "greatestPart", "(II)I"⟩
abbrev cX3_partLike : ByteArray := prog_5_method_5_code
def yX3_partLike : MethodName := ⟨RX3, "partLike", "(III)I"⟩
abbrev cX3_leaksBy : ByteArray := prog_5_method_6_code
def yX3_leaksBy : MethodName := ⟨RX3, "leaksBy", "(LClubSmoke$Row;I)Z"⟩
def RX4 : String := "ClubSmoke$Row"
def TX4 : u_T := fun k => match k with
  | 0 => ("ClubSmoke$Row", "places", "[I", true)
  | _ => ("ClubSmoke$Row", "size", "I", false)
def tyX4 : Nat → FieldType := fun k => match k with
  | 0 => .array .int
  | _ => .int
theorem nmX4 : ∀ a, a < 2 → ∀ b, b < 2 → a ≠ b → (TX4 a).2.1 ≠ (TX4 b).2.1 := by decide +kernel
theorem tyX4_ok : ∀ k, k < 2 → parseFieldDescriptor (TX4 k).2.2.1 = some (tyX4 k) := by decide +kernel
abbrev cX4_init : ByteArray := prog_6_method_1_code
def yX4_init : MethodName := ⟨RX4, "<init>", "(I)V"⟩
abbrev cX4_isThere : ByteArray := prog_6_method_2_code
def yX4_isThere : MethodName := ⟨RX4, "isThere", "()Z"⟩
abbrev cX4_has : ByteArray := prog_6_method_3_code
def yX4_has : MethodName := ⟨RX4, "has", "(I)Z"⟩
abbrev cX4_holds : ByteArray := prog_6_method_4_code
def yX4_holds : MethodName := ⟨RX4, "holds", "(II)Z"⟩
abbrev cX4_read : ByteArray := prog_6_method_5_code
def yX4_read : MethodName := ⟨RX4, "read", "(I)I"⟩
abbrev cX4_write : ByteArray := prog_6_method_6_code
def yX4_write : MethodName := ⟨RX4, "write", "(II)V"⟩
abbrev cX4_renew : ByteArray := prog_6_method_7_code
def yX4_renew : MethodName := ⟨RX4, "renew", "(II)V"⟩
abbrev cX4_isAllWithin : ByteArray := prog_6_method_8_code
def yX4_isAllWithin : MethodName := ⟨RX4, "isAllWithin", "(II)Z"⟩
def RX5 : String := "ClubSmoke$Script"
def TX5 : u_T := fun k => match k with
  | _ => ("", "", "", false)
def tyX5 : Nat → FieldType := fun k => match k with
  | _ => .int
theorem nmX5 : ∀ a, a < 0 → ∀ b, b < 0 → a ≠ b → (TX5 a).2.1 ≠ (TX5 b).2.1 := by decide +kernel
theorem tyX5_ok : ∀ k, k < 0 → parseFieldDescriptor (TX5 k).2.2.1 = some (tyX5 k) := by decide +kernel
abbrev cX5_faultOf : ByteArray := prog_7_method_2_code
def yX5_faultOf : MethodName := ⟨RX5, "faultOf", "(LClubSmoke$Row;)I"⟩
abbrev cX5_settle : ByteArray := prog_7_method_3_code
def yX5_settle : MethodName := ⟨RX5, "settle", "(LClubSmoke$Row;LClubSmoke$Club;)V"⟩
abbrev cX5_isBetweenItems : ByteArray := prog_7_method_4_code
def yX5_isBetweenItems : MethodName := ⟨RX5, "isBetweenItems", "(I)Z"⟩
abbrev cX5_fits : ByteArray := prog_7_method_5_code
def yX5_fits : MethodName := ⟨RX5, "fits", "(III)Z"⟩
def RX6 : String := "ClubSmoke$Turns"
def TX6 : u_T := fun k => match k with
  | _ => ("ClubSmoke$Turns", "airs", "[[I", true)
def tyX6 : Nat → FieldType := fun k => match k with
  | _ => .array (.array .int)
theorem nmX6 : ∀ a, a < 1 → ∀ b, b < 1 → a ≠ b → (TX6 a).2.1 ≠ (TX6 b).2.1 := by decide +kernel
theorem tyX6_ok : ∀ k, k < 1 → parseFieldDescriptor (TX6 k).2.2.1 = some (tyX6 k) := by decide +kernel
abbrev cX6_init : ByteArray := prog_8_method_1_code
def yX6_init : MethodName := ⟨RX6, "<init>", "()V"⟩
abbrev cX6_play : ByteArray := prog_8_method_2_code
def yX6_play : MethodName := ⟨RX6, "play", "(LClubSmoke$Club;II)I"⟩
abbrev cX6_mostByTalk : ByteArray := prog_8_method_3_code
def yX6_mostByTalk : MethodName := ⟨RX6, "mostByTalk", "(LClubSmoke$Club;III)I"⟩
abbrev cX6_leastByWindow : ByteArray := prog_8_method_4_code
def yX6_leastByWindow : MethodName := ⟨RX6, "leastByWindow", "(LClubSmoke$Club;III)I"⟩
abbrev cX6_takeAir : ByteArray := prog_8_method_5_code
def yX6_takeAir : MethodName := ⟨RX6, "takeAir", "(I)V"⟩
def RX7 : String := "ClubSmoke"
def TX7 : u_T := fun k => match k with
  | 0 => ("ClubSmoke", "rows", "[LClubSmoke$Row;", true)
  | 1 => ("ClubSmoke", "texts", "[LClubSmoke$Row;", true)
  | 2 => ("ClubSmoke", "club", "LClubSmoke$Club;", true)
  | 3 => ("ClubSmoke", "deeds", "LClubSmoke$Deeds;", true)
  | 4 => ("ClubSmoke", "kept", "[LClubSmoke$Deeds;", true)
  | 5 => ("ClubSmoke", "turns", "LClubSmoke$Turns;", true)
  | 6 => ("ClubSmoke", "breaths", "[I", true)
  | 7 => ("ClubSmoke", "worth", "[J", true)
  | 8 => ("ClubSmoke", "findingCounts", "[I", true)
  | 9 => ("ClubSmoke", "latestFinding", "I", false)
  | 10 => ("ClubSmoke", "told", "I", false)
  | 11 => ("ClubSmoke", "toldUpper", "J", false)
  | _ => ("ClubSmoke", "toldLower", "J", false)
def tyX7 : Nat → FieldType := fun k => match k with
  | 0 => .array (.object "ClubSmoke$Row")
  | 1 => .array (.object "ClubSmoke$Row")
  | 2 => .object "ClubSmoke$Club"
  | 3 => .object "ClubSmoke$Deeds"
  | 4 => .array (.object "ClubSmoke$Deeds")
  | 5 => .object "ClubSmoke$Turns"
  | 6 => .array .int
  | 7 => .array .long
  | 8 => .array .int
  | 9 => .int
  | 10 => .int
  | 11 => .long
  | _ => .long
theorem nmX7 : ∀ a, a < 13 → ∀ b, b < 13 → a ≠ b → (TX7 a).2.1 ≠ (TX7 b).2.1 := by decide +kernel
theorem tyX7_ok : ∀ k, k < 13 → parseFieldDescriptor (TX7 k).2.2.1 = some (tyX7 k) := by decide +kernel
abbrev cX7_init : ByteArray := prog_1_method_1_code
def yX7_init : MethodName := ⟨RX7, "<init>", "()V"⟩
abbrev cX7_row : ByteArray := prog_1_method_2_code
def yX7_row : MethodName := ⟨RX7, "row", "(II)I"⟩
abbrev cX7_lay : ByteArray := prog_1_method_3_code
def yX7_lay : MethodName := ⟨RX7, "lay", "(III)I"⟩
abbrev cX7_at : ByteArray := prog_1_method_4_code
def yX7_at : MethodName := ⟨RX7, "at", "(II)I"⟩
abbrev cX7_tear : ByteArray := prog_1_method_5_code
def yX7_tear : MethodName := ⟨RX7, "tear", "(I)I"⟩
abbrev cX7_copy : ByteArray := prog_1_method_6_code
def yX7_copy : MethodName := ⟨RX7, "copy", "(IIIII)I"⟩
abbrev cX7_mean : ByteArray := prog_1_method_7_code
def yX7_mean : MethodName := ⟨RX7, "mean", "(I)I"⟩
abbrev cX7_text : ByteArray := prog_1_method_8_code
def yX7_text : MethodName := ⟨RX7, "text", "(II)I"⟩
abbrev cX7_put : ByteArray := prog_1_method_9_code
def yX7_put : MethodName := ⟨RX7, "put", "(III)I"⟩
abbrev cX7_fault : ByteArray := prog_1_method_10_code
def yX7_fault : MethodName := ⟨RX7, "fault", "(I)I"⟩
abbrev cX7_club : ByteArray := prog_1_method_11_code
def yX7_club : MethodName := ⟨RX7, "club", "(I)I"⟩
abbrev cX7_member : ByteArray := prog_1_method_12_code
def yX7_member : MethodName := ⟨RX7, "member", "(II)I"⟩
abbrev cX7_mark : ByteArray := prog_1_method_13_code
def yX7_mark : MethodName := ⟨RX7, "mark", "(II)I"⟩
abbrev cX7_smoke : ByteArray := prog_1_method_14_code
def yX7_smoke : MethodName := ⟨RX7, "smoke", "(I)I"⟩
abbrev cX7_talk : ByteArray := prog_1_method_15_code
def yX7_talk : MethodName := ⟨RX7, "talk", "(II)I"⟩
abbrev cX7_hour : ByteArray := prog_1_method_16_code
def yX7_hour : MethodName := ⟨RX7, "hour", "()I"⟩
abbrev cX7_open : ByteArray := prog_1_method_17_code
def yX7_open : MethodName := ⟨RX7, "open", "(I)I"⟩
abbrev cX7_thunder : ByteArray := prog_1_method_18_code
def yX7_thunder : MethodName := ⟨RX7, "thunder", "()I"⟩
abbrev cX7_undo : ByteArray := prog_1_method_19_code
def yX7_undo : MethodName := ⟨RX7, "undo", "(I)I"⟩
abbrev cX7_keep : ByteArray := prog_1_method_20_code
def yX7_keep : MethodName := ⟨RX7, "keep", "(I)I"⟩
abbrev cX7_on : ByteArray := prog_1_method_21_code
def yX7_on : MethodName := ⟨RX7, "on", "(I)I"⟩
abbrev cX7_says : ByteArray := prog_1_method_22_code
def yX7_says : MethodName := ⟨RX7, "says", "(II)I"⟩
abbrev cX7_breathes : ByteArray := prog_1_method_23_code
def yX7_breathes : MethodName := ⟨RX7, "breathes", "(II)I"⟩
abbrev cX7_means : ByteArray := prog_1_method_24_code
def yX7_means : MethodName := ⟨RX7, "means", "(II)I"⟩
abbrev cX7_least : ByteArray := prog_1_method_25_code
def yX7_least : MethodName := ⟨RX7, "least", "(II)I"⟩
abbrev cX7_hangs : ByteArray := prog_1_method_26_code
def yX7_hangs : MethodName := ⟨RX7, "hangs", "(II)I"⟩
abbrev cX7_clear : ByteArray := prog_1_method_27_code
def yX7_clear : MethodName := ⟨RX7, "clear", "()I"⟩
abbrev cX7_window : ByteArray := prog_1_method_28_code
def yX7_window : MethodName := ⟨RX7, "window", "(I)I"⟩
abbrev cX7_talks : ByteArray := prog_1_method_29_code
def yX7_talks : MethodName := ⟨RX7, "talks", "(IIII)I"⟩
abbrev cX7_sets : ByteArray := prog_1_method_30_code
def yX7_sets : MethodName := ⟨RX7, "sets", "(II)I"⟩
abbrev cX7_sure : ByteArray := prog_1_method_31_code
def yX7_sure : MethodName := ⟨RX7, "sure", "(II)I"⟩
abbrev cX7_ask : ByteArray := prog_1_method_32_code
def yX7_ask : MethodName := ⟨RX7, "ask", "(II)I"⟩
abbrev cX7_who : ByteArray := prog_1_method_33_code
def yX7_who : MethodName := ⟨RX7, "who", "(I)I"⟩
abbrev cX7_kinds : ByteArray := prog_1_method_34_code
def yX7_kinds : MethodName := ⟨RX7, "kinds", "(I)I"⟩
abbrev cX7_test : ByteArray := prog_1_method_35_code
def yX7_test : MethodName := ⟨RX7, "test", "(I)I"⟩
abbrev cX7_leaks : ByteArray := prog_1_method_36_code
def yX7_leaks : MethodName := ⟨RX7, "leaks", "(I)I"⟩
abbrev cX7_evening : ByteArray := prog_1_method_37_code
def yX7_evening : MethodName := ⟨RX7, "evening", "(II)I"⟩
abbrev cX7_odds : ByteArray := prog_1_method_38_code
def yX7_odds : MethodName := ⟨RX7, "odds", "(III)I"⟩
abbrev cX7_mid : ByteArray := prog_1_method_39_code
def yX7_mid : MethodName := ⟨RX7, "mid", "(II)I"⟩
abbrev cX7_lots : ByteArray := prog_1_method_40_code
def yX7_lots : MethodName := ⟨RX7, "lots", "(II)I"⟩
abbrev cX7_asked : ByteArray := prog_1_method_41_code
def yX7_asked : MethodName := ⟨RX7, "asked", "()I"⟩
abbrev cX7_upper : ByteArray := prog_1_method_42_code
def yX7_upper : MethodName := ⟨RX7, "upper", "()J"⟩
abbrev cX7_lower : ByteArray := prog_1_method_43_code
def yX7_lower : MethodName := ⟨RX7, "lower", "()J"⟩
abbrev cX7_count : ByteArray := prog_1_method_44_code
def yX7_count : MethodName := ⟨RX7, "count", "(I)I"⟩
abbrev cX7_finding : ByteArray := prog_1_method_45_code
def yX7_finding : MethodName := ⟨RX7, "finding", "()I"⟩
abbrev cX7_findings : ByteArray := prog_1_method_46_code
def yX7_findings : MethodName := ⟨RX7, "findings", "(I)I"⟩
abbrev cX7_digest : ByteArray := prog_1_method_47_code
def yX7_digest : MethodName := ⟨RX7, "digest", "()J"⟩
abbrev cX7_found : ByteArray := prog_1_method_48_code
def yX7_found : MethodName := ⟨RX7, "found", "(I)I"⟩
abbrev cX7_refusedPlace : ByteArray := prog_1_method_49_code
def yX7_refusedPlace : MethodName := ⟨RX7, "refusedPlace", "(LClubSmoke$Row;I)I"⟩
abbrev cX7_refusedNotes : ByteArray := prog_1_method_50_code
def yX7_refusedNotes : MethodName := ⟨RX7, "refusedNotes", "(LClubSmoke$Row;)I"⟩
abbrev cX7_refusedSets : ByteArray := prog_1_method_51_code
def yX7_refusedSets : MethodName := ⟨RX7, "refusedSets", "(II)I"⟩
abbrev cX7_within : ByteArray := prog_1_method_52_code
def yX7_within : MethodName := ⟨RX7, "within", "(III)Z"⟩
abbrev cX7_isMeaning : ByteArray := prog_1_method_53_code
def yX7_isMeaning : MethodName := ⟨RX7, "isMeaning", "(I)Z"⟩
abbrev cX7_areChances : ByteArray := prog_1_method_54_code
def yX7_areChances : MethodName := ⟨RX7, "areChances", "(II)Z"⟩
abbrev cX7_shelf : ByteArray := prog_1_method_55_code
def yX7_shelf : MethodName := ⟨RX7, "shelf", "(II)[LClubSmoke$Row;"⟩
abbrev cX7_lookUp : ByteArray := prog_1_method_56_code
def yX7_lookUp : MethodName := ⟨RX7, "lookUp", "([LClubSmoke$Row;I)LClubSmoke$Row;"⟩
abbrev cX7_renewed : ByteArray := prog_1_method_57_code
def yX7_renewed : MethodName := ⟨RX7, "renewed", "(LClubSmoke$Row;III)I"⟩
abbrev cX7_thereOn : ByteArray := prog_1_method_58_code
def yX7_thereOn : MethodName := ⟨RX7, "thereOn", "([LClubSmoke$Row;)I"⟩
abbrev cX7_digestOf : ByteArray := prog_1_method_59_code
def yX7_digestOf : MethodName := ⟨RX7, "digestOf", "([LClubSmoke$Row;J)J"⟩
abbrev cX7_memberFact : ByteArray := prog_1_method_60_code
def yX7_memberFact : MethodName := ⟨RX7, "memberFact", "(II)I"⟩
abbrev cX7_keptClubs : ByteArray := prog_1_method_61_code
def yX7_keptClubs : MethodName := ⟨RX7, "keptClubs", "()I"⟩
abbrev cX7_perform : ByteArray := prog_1_method_62_code
def yX7_perform : MethodName := ⟨RX7, "perform", "(III)I"⟩
abbrev cX7_enact : ByteArray := prog_1_method_63_code
def yX7_enact : MethodName := ⟨RX7, "enact", "(III)I"⟩
abbrev cX7_relive : ByteArray := prog_1_method_64_code
def yX7_relive : MethodName := ⟨RX7, "relive", "()V"⟩
abbrev cX7_performLot : ByteArray := prog_1_method_65_code
def yX7_performLot : MethodName := ⟨RX7, "performLot", "(I)V"⟩
abbrev cX7_remainder : ByteArray := prog_1_method_66_code
def yX7_remainder : MethodName := ⟨RX7, "remainder", "(II)I"⟩
abbrev cX7_lineBreath : ByteArray := prog_1_method_67_code
def yX7_lineBreath : MethodName := ⟨RX7, "lineBreath", "(II)I"⟩
abbrev cX7_writeLine : ByteArray := prog_1_method_68_code
def yX7_writeLine : MethodName := ⟨RX7, "writeLine", "(LClubSmoke$Row;II)V"⟩
abbrev cX7_weighBreaths : ByteArray := prog_1_method_69_code
def yX7_weighBreaths : MethodName := ⟨RX7, "weighBreaths", "(I)V"⟩
abbrev cX7_setBreath : ByteArray := prog_1_method_70_code
def yX7_setBreath : MethodName := ⟨RX7, "setBreath", "(I)I"⟩
abbrev cX7_setsWith : ByteArray := prog_1_method_71_code
def yX7_setsWith : MethodName := ⟨RX7, "setsWith", "(II)I"⟩
abbrev cX7_firstSet : ByteArray := prog_1_method_72_code
def yX7_firstSet : MethodName := ⟨RX7, "firstSet", "(I)I"⟩
abbrev cX7_tellWorth : ByteArray := prog_1_method_73_code
def yX7_tellWorth : MethodName := ⟨RX7, "tellWorth", "(II)V"⟩
abbrev cX7_tell : ByteArray := prog_1_method_74_code
def yX7_tell : MethodName := ⟨RX7, "tell", "(JJ)V"⟩
abbrev cX7_commonDivisor : ByteArray := prog_1_method_75_code
def yX7_commonDivisor : MethodName := ⟨RX7, "commonDivisor", "(JJ)J"⟩
def RX8 : String := "ClubSmokeModel"
def TX8 : u_T := fun k => match k with
  | 0 => ("ClubSmokeModel", "rowSize", "[I", true)
  | 1 => ("ClubSmokeModel", "rowItem", "[I", true)
  | 2 => ("ClubSmokeModel", "textSize", "[I", true)
  | 3 => ("ClubSmokeModel", "textItem", "[I", true)
  | 4 => ("ClubSmokeModel", "findingNow", "I", false)
  | 5 => ("ClubSmokeModel", "findingMany", "[I", true)
  | 6 => ("ClubSmokeModel", "askedNow", "I", false)
  | 7 => ("ClubSmokeModel", "upperNow", "J", false)
  | 8 => ("ClubSmokeModel", "lowerNow", "J", false)
  | 9 => ("ClubSmokeModel", "position", "I", false)
  | 10 => ("ClubSmokeModel", "from", "I", false)
  | 11 => ("ClubSmokeModel", "all", "I", false)
  | 12 => ("ClubSmokeModel", "readLeak", "I", false)
  | 13 => ("ClubSmokeModel", "readCells", "I", false)
  | 14 => ("ClubSmokeModel", "readMembers", "I", false)
  | 15 => ("ClubSmokeModel", "readMember", "[I", true)
  | 16 => ("ClubSmokeModel", "leak", "I", false)
  | 17 => ("ClubSmokeModel", "cells", "I", false)
  | 18 => ("ClubSmokeModel", "members", "I", false)
  | 19 => ("ClubSmokeModel", "sort", "[I", true)
  | 20 => ("ClubSmokeModel", "under", "[I", true)
  | 21 => ("ClubSmokeModel", "now", "[I", true)
  | 22 => ("ClubSmokeModel", "tried", "[I", true)
  | 23 => ("ClubSmokeModel", "deed", "[I", true)
  | 24 => ("ClubSmokeModel", "deeds", "I", false)
  | 25 => ("ClubSmokeModel", "keptNow", "[I", true)
  | 26 => ("ClubSmokeModel", "keptDeed", "[I", true)
  | _ => ("ClubSmokeModel", "keptMany", "[I", true)
def tyX8 : Nat → FieldType := fun k => match k with
  | 0 => .array .int
  | 1 => .array .int
  | 2 => .array .int
  | 3 => .array .int
  | 4 => .int
  | 5 => .array .int
  | 6 => .int
  | 7 => .long
  | 8 => .long
  | 9 => .int
  | 10 => .int
  | 11 => .int
  | 12 => .int
  | 13 => .int
  | 14 => .int
  | 15 => .array .int
  | 16 => .int
  | 17 => .int
  | 18 => .int
  | 19 => .array .int
  | 20 => .array .int
  | 21 => .array .int
  | 22 => .array .int
  | 23 => .array .int
  | 24 => .int
  | 25 => .array .int
  | 26 => .array .int
  | _ => .array .int
theorem nmX8 : ∀ a, a < 28 → ∀ b, b < 28 → a ≠ b → (TX8 a).2.1 ≠ (TX8 b).2.1 := by decide +kernel
theorem tyX8_ok : ∀ k, k < 28 → parseFieldDescriptor (TX8 k).2.2.1 = some (tyX8 k) := by decide +kernel
abbrev cX8_init : ByteArray := prog_10_method_1_code
def yX8_init : MethodName := ⟨RX8, "<init>", "()V"⟩
abbrev cX8_in : ByteArray := prog_10_method_2_code
def yX8_in : MethodName := ⟨RX8, "in", "(III)Z"⟩
abbrev cX8_has : ByteArray := prog_10_method_3_code
def yX8_has : MethodName := ⟨RX8, "has", "(II)Z"⟩
abbrev cX8_bits : ByteArray := prog_10_method_4_code
def yX8_bits : MethodName := ⟨RX8, "bits", "(I)I"⟩
abbrev cX8_finds : ByteArray := prog_10_method_5_code
def yX8_finds : MethodName := ⟨RX8, "finds", "(I)I"⟩
abbrev cX8_tells : ByteArray := prog_10_method_6_code
def yX8_tells : MethodName := ⟨RX8, "tells", "(I)I"⟩
abbrev cX8_bring : ByteArray := prog_10_method_7_code
def yX8_bring : MethodName := ⟨RX8, "bring", "([II[III)V"⟩
abbrev cX8_isOne : ByteArray := prog_10_method_8_code
def yX8_isOne : MethodName := ⟨RX8, "isOne", "(I)Z"⟩
abbrev cX8_isCell : ByteArray := prog_10_method_9_code
def yX8_isCell : MethodName := ⟨RX8, "isCell", "(I)Z"⟩
abbrev cX8_row : ByteArray := prog_10_method_10_code
def yX8_row : MethodName := ⟨RX8, "row", "(II)I"⟩
abbrev cX8_wrongAt : ByteArray := prog_10_method_11_code
def yX8_wrongAt : MethodName := ⟨RX8, "wrongAt", "(II)I"⟩
abbrev cX8_lay : ByteArray := prog_10_method_12_code
def yX8_lay : MethodName := ⟨RX8, "lay", "(III)I"⟩
abbrev cX8_at : ByteArray := prog_10_method_13_code
def yX8_at : MethodName := ⟨RX8, "at", "(II)I"⟩
abbrev cX8_tear : ByteArray := prog_10_method_14_code
def yX8_tear : MethodName := ⟨RX8, "tear", "(I)I"⟩
abbrev cX8_isPart : ByteArray := prog_10_method_15_code
def yX8_isPart : MethodName := ⟨RX8, "isPart", "(III)Z"⟩
abbrev cX8_copy : ByteArray := prog_10_method_16_code
def yX8_copy : MethodName := ⟨RX8, "copy", "(IIIII)I"⟩
abbrev cX8_mean : ByteArray := prog_10_method_17_code
def yX8_mean : MethodName := ⟨RX8, "mean", "(I)I"⟩
abbrev cX8_text : ByteArray := prog_10_method_18_code
def yX8_text : MethodName := ⟨RX8, "text", "(II)I"⟩
abbrev cX8_put : ByteArray := prog_10_method_19_code
def yX8_put : MethodName := ⟨RX8, "put", "(III)I"⟩
abbrev cX8_letterAt : ByteArray := prog_10_method_20_code
def yX8_letterAt : MethodName := ⟨RX8, "letterAt", "(I)I"⟩
abbrev cX8_figure : ByteArray := prog_10_method_21_code
def yX8_figure : MethodName := ⟨RX8, "figure", "(II)I"⟩
abbrev cX8_skip : ByteArray := prog_10_method_22_code
def yX8_skip : MethodName := ⟨RX8, "skip", "()V"⟩
abbrev cX8_sortBy : ByteArray := prog_10_method_23_code
def yX8_sortBy : MethodName := ⟨RX8, "sortBy", "(I)I"⟩
abbrev cX8_isCeiling : ByteArray := prog_10_method_24_code
def yX8_isCeiling : MethodName := ⟨RX8, "isCeiling", "()Z"⟩
abbrev cX8_isMemberItem : ByteArray := prog_10_method_25_code
def yX8_isMemberItem : MethodName := ⟨RX8, "isMemberItem", "()Z"⟩
abbrev cX8_read : ByteArray := prog_10_method_26_code
def yX8_read : MethodName := ⟨RX8, "read", "(I)I"⟩
abbrev cX8_fault : ByteArray := prog_10_method_27_code
def yX8_fault : MethodName := ⟨RX8, "fault", "(I)I"⟩
abbrev cX8_club : ByteArray := prog_10_method_28_code
def yX8_club : MethodName := ⟨RX8, "club", "(I)I"⟩
abbrev cX8_memberTells : ByteArray := prog_10_method_29_code
def yX8_memberTells : MethodName := ⟨RX8, "memberTells", "(II)I"⟩
abbrev cX8_member : ByteArray := prog_10_method_30_code
def yX8_member : MethodName := ⟨RX8, "member", "(II)I"⟩
abbrev cX8_is : ByteArray := prog_10_method_31_code
def yX8_is : MethodName := ⟨RX8, "is", "(II)Z"⟩
abbrev cX8_saysBy : ByteArray := prog_10_method_32_code
def yX8_saysBy : MethodName := ⟨RX8, "saysBy", "(II)I"⟩
abbrev cX8_breath : ByteArray := prog_10_method_33_code
def yX8_breath : MethodName := ⟨RX8, "breath", "(II)I"⟩
abbrev cX8_behind : ByteArray := prog_10_method_34_code
def yX8_behind : MethodName := ⟨RX8, "behind", "(I)I"⟩
abbrev cX8_ahead : ByteArray := prog_10_method_35_code
def yX8_ahead : MethodName := ⟨RX8, "ahead", "(I)I"⟩
abbrev cX8_mark : ByteArray := prog_10_method_36_code
def yX8_mark : MethodName := ⟨RX8, "mark", "(II)I"⟩
abbrev cX8_smoke : ByteArray := prog_10_method_37_code
def yX8_smoke : MethodName := ⟨RX8, "smoke", "(I)I"⟩
abbrev cX8_allIn : ByteArray := prog_10_method_38_code
def yX8_allIn : MethodName := ⟨RX8, "allIn", "([I)I"⟩
abbrev cX8_note : ByteArray := prog_10_method_39_code
def yX8_note : MethodName := ⟨RX8, "note", "()V"⟩
abbrev cX8_comes : ByteArray := prog_10_method_40_code
def yX8_comes : MethodName := ⟨RX8, "comes", "([III)V"⟩
abbrev cX8_talkIn : ByteArray := prog_10_method_41_code
def yX8_talkIn : MethodName := ⟨RX8, "talkIn", "([III)V"⟩
abbrev cX8_hourIn : ByteArray := prog_10_method_42_code
def yX8_hourIn : MethodName := ⟨RX8, "hourIn", "([I)I"⟩
abbrev cX8_thunderIn : ByteArray := prog_10_method_43_code
def yX8_thunderIn : MethodName := ⟨RX8, "thunderIn", "([I)V"⟩
abbrev cX8_talk : ByteArray := prog_10_method_44_code
def yX8_talk : MethodName := ⟨RX8, "talk", "(II)I"⟩
abbrev cX8_hour : ByteArray := prog_10_method_45_code
def yX8_hour : MethodName := ⟨RX8, "hour", "()I"⟩
abbrev cX8_open : ByteArray := prog_10_method_46_code
def yX8_open : MethodName := ⟨RX8, "open", "(I)I"⟩
abbrev cX8_thunder : ByteArray := prog_10_method_47_code
def yX8_thunder : MethodName := ⟨RX8, "thunder", "()I"⟩
abbrev cX8_undo : ByteArray := prog_10_method_48_code
def yX8_undo : MethodName := ⟨RX8, "undo", "(I)I"⟩
abbrev cX8_keep : ByteArray := prog_10_method_49_code
def yX8_keep : MethodName := ⟨RX8, "keep", "(I)I"⟩
abbrev cX8_on : ByteArray := prog_10_method_50_code
def yX8_on : MethodName := ⟨RX8, "on", "(I)I"⟩
abbrev cX8_says : ByteArray := prog_10_method_51_code
def yX8_says : MethodName := ⟨RX8, "says", "(II)I"⟩
abbrev cX8_breathes : ByteArray := prog_10_method_52_code
def yX8_breathes : MethodName := ⟨RX8, "breathes", "(II)I"⟩
abbrev cX8_means : ByteArray := prog_10_method_53_code
def yX8_means : MethodName := ⟨RX8, "means", "(II)I"⟩
abbrev cX8_least : ByteArray := prog_10_method_54_code
def yX8_least : MethodName := ⟨RX8, "least", "(II)I"⟩
abbrev cX8_begin : ByteArray := prog_10_method_55_code
def yX8_begin : MethodName := ⟨RX8, "begin", "()V"⟩
abbrev cX8_hangs : ByteArray := prog_10_method_56_code
def yX8_hangs : MethodName := ⟨RX8, "hangs", "(II)I"⟩
abbrev cX8_clear : ByteArray := prog_10_method_57_code
def yX8_clear : MethodName := ⟨RX8, "clear", "()I"⟩
abbrev cX8_window : ByteArray := prog_10_method_58_code
def yX8_window : MethodName := ⟨RX8, "window", "(I)I"⟩
abbrev cX8_hangsBy : ByteArray := prog_10_method_59_code
def yX8_hangsBy : MethodName := ⟨RX8, "hangsBy", "(IIIII)Z"⟩
abbrev cX8_talks : ByteArray := prog_10_method_60_code
def yX8_talks : MethodName := ⟨RX8, "talks", "(IIII)I"⟩
abbrev cX8_isSo : ByteArray := prog_10_method_61_code
def yX8_isSo : MethodName := ⟨RX8, "isSo", "(III)Z"⟩
abbrev cX8_wrongSets : ByteArray := prog_10_method_62_code
def yX8_wrongSets : MethodName := ⟨RX8, "wrongSets", "(II)I"⟩
abbrev cX8_manyBy : ByteArray := prog_10_method_63_code
def yX8_manyBy : MethodName := ⟨RX8, "manyBy", "(IIII)I"⟩
abbrev cX8_sets : ByteArray := prog_10_method_64_code
def yX8_sets : MethodName := ⟨RX8, "sets", "(II)I"⟩
abbrev cX8_sure : ByteArray := prog_10_method_65_code
def yX8_sure : MethodName := ⟨RX8, "sure", "(II)I"⟩
abbrev cX8_ask : ByteArray := prog_10_method_66_code
def yX8_ask : MethodName := ⟨RX8, "ask", "(II)I"⟩
abbrev cX8_wrongPairs : ByteArray := prog_10_method_67_code
def yX8_wrongPairs : MethodName := ⟨RX8, "wrongPairs", "(I)I"⟩
abbrev cX8_saidSo : ByteArray := prog_10_method_68_code
def yX8_saidSo : MethodName := ⟨RX8, "saidSo", "(II)Z"⟩
abbrev cX8_kindsBy : ByteArray := prog_10_method_69_code
def yX8_kindsBy : MethodName := ⟨RX8, "kindsBy", "(I)I"⟩
abbrev cX8_who : ByteArray := prog_10_method_70_code
def yX8_who : MethodName := ⟨RX8, "who", "(I)I"⟩
abbrev cX8_kinds : ByteArray := prog_10_method_71_code
def yX8_kinds : MethodName := ⟨RX8, "kinds", "(I)I"⟩
abbrev cX8_test : ByteArray := prog_10_method_72_code
def yX8_test : MethodName := ⟨RX8, "test", "(I)I"⟩
abbrev cX8_leaks : ByteArray := prog_10_method_73_code
def yX8_leaks : MethodName := ⟨RX8, "leaks", "(I)I"⟩
abbrev cX8_eveningBy : ByteArray := prog_10_method_74_code
def yX8_eveningBy : MethodName := ⟨RX8, "eveningBy", "(III)I"⟩
abbrev cX8_isTurn : ByteArray := prog_10_method_75_code
def yX8_isTurn : MethodName := ⟨RX8, "isTurn", "(I)Z"⟩
abbrev cX8_lastTurn : ByteArray := prog_10_method_76_code
def yX8_lastTurn : MethodName := ⟨RX8, "lastTurn", "(II)I"⟩
abbrev cX8_evening : ByteArray := prog_10_method_77_code
def yX8_evening : MethodName := ⟨RX8, "evening", "(II)I"⟩
abbrev cX8_tellsPart : ByteArray := prog_10_method_78_code
def yX8_tellsPart : MethodName := ⟨RX8, "tellsPart", "(JJ)V"⟩
abbrev cX8_partOf : ByteArray := prog_10_method_79_code
def yX8_partOf : MethodName := ⟨RX8, "partOf", "(III)J"⟩
abbrev cX8_whole : ByteArray := prog_10_method_80_code
def yX8_whole : MethodName := ⟨RX8, "whole", "(I)J"⟩
abbrev cX8_odds : ByteArray := prog_10_method_81_code
def yX8_odds : MethodName := ⟨RX8, "odds", "(III)I"⟩
abbrev cX8_mid : ByteArray := prog_10_method_82_code
def yX8_mid : MethodName := ⟨RX8, "mid", "(II)I"⟩
abbrev cX8_lots : ByteArray := prog_10_method_83_code
def yX8_lots : MethodName := ⟨RX8, "lots", "(II)I"⟩
abbrev cX8_asked : ByteArray := prog_10_method_84_code
def yX8_asked : MethodName := ⟨RX8, "asked", "()I"⟩
abbrev cX8_upper : ByteArray := prog_10_method_85_code
def yX8_upper : MethodName := ⟨RX8, "upper", "()J"⟩
abbrev cX8_lower : ByteArray := prog_10_method_86_code
def yX8_lower : MethodName := ⟨RX8, "lower", "()J"⟩
abbrev cX8_thereOf : ByteArray := prog_10_method_87_code
def yX8_thereOf : MethodName := ⟨RX8, "thereOf", "([I)I"⟩
abbrev cX8_kindMany : ByteArray := prog_10_method_88_code
def yX8_kindMany : MethodName := ⟨RX8, "kindMany", "(I)I"⟩
abbrev cX8_count : ByteArray := prog_10_method_89_code
def yX8_count : MethodName := ⟨RX8, "count", "(I)I"⟩
abbrev cX8_finding : ByteArray := prog_10_method_90_code
def yX8_finding : MethodName := ⟨RX8, "finding", "()I"⟩
abbrev cX8_findings : ByteArray := prog_10_method_91_code
def yX8_findings : MethodName := ⟨RX8, "findings", "(I)I"⟩
abbrev cX8_digest : ByteArray := prog_10_method_92_code
def yX8_digest : MethodName := ⟨RX8, "digest", "()J"⟩
def RJ6 : String := "java/lang/Integer"
def TJ6 : u_T := fun k => match k with
  | _ => ("", "", "", false)
def tyJ6 : Nat → FieldType := fun k => match k with
  | _ => .int
theorem nmJ6 : ∀ a, a < 0 → ∀ b, b < 0 → a ≠ b → (TJ6 a).2.1 ≠ (TJ6 b).2.1 := by decide +kernel
theorem tyJ6_ok : ∀ k, k < 0 → parseFieldDescriptor (TJ6 k).2.2.1 = some (tyJ6 k) := by decide +kernel
abbrev cJ6_bitCount_0f7a4 : ByteArray := prog_11_method_49_code
def yJ6_bitCount_0f7a4 : MethodName := ⟨RJ6, "bitCount", "(I)I"⟩
def RJ9 : String := "java/lang/Math"
def TJ9 : u_T := fun k => match k with
  | _ => ("", "", "", false)
def tyJ9 : Nat → FieldType := fun k => match k with
  | _ => .int
theorem nmJ9 : ∀ a, a < 0 → ∀ b, b < 0 → a ≠ b → (TJ9 a).2.1 ≠ (TJ9 b).2.1 := by decide +kernel
theorem tyJ9_ok : ∀ k, k < 0 → parseFieldDescriptor (TJ9 k).2.2.1 = some (tyJ9 k) := by decide +kernel
abbrev cJ9_max_7cf53 : ByteArray := prog_12_method_65_code
def yJ9_max_7cf53 : MethodName := ⟨RJ9, "max", "(II)I"⟩
abbrev cJ9_min_7cf53 : ByteArray := prog_12_method_69_code
def yJ9_min_7cf53 : MethodName := ⟨RJ9, "min", "(II)I"⟩
def RJ10 : String := "java/lang/System"
def TJ10 : u_T := fun k => match k with
  | _ => ("", "", "", false)
def tyJ10 : Nat → FieldType := fun k => match k with
  | _ => .int
theorem nmJ10 : ∀ a, a < 0 → ∀ b, b < 0 → a ≠ b → (TJ10 a).2.1 ≠ (TJ10 b).2.1 := by decide +kernel
theorem tyJ10_ok : ∀ k, k < 0 → parseFieldDescriptor (TJ10 k).2.2.1 = some (tyJ10 k) := by decide +kernel
def RL : String := "ClubSmokeLaw"
abbrev cL_law : ByteArray := code
def yL_law : MethodName := ⟨RL, "law", "([I)Z"⟩
abbrev vwCl : List vw_C := [(RX0, TX0, 10), (RX1, TX1, 2), (RX4, TX4, 2), (RX6, TX6, 1), (RX7, TX7, 13), (RX8, TX8, 28)]
end
section
/-! ===== THE STATIC WORLD: behind the constructors no cell is made any more; what changes are ints (zk: mem) and longs; cells are numbered ===== -/
abbrev Mem : Type := Nat → Nat → Int32
abbrev MemL : Type := Nat → Nat → Int64
/-- the cells: (0, class, fields: 0 int, 1 long, c + 2 the cell c), (1, n, []) ints, (2, n, []) longs, (3 + t, n, cells) references -/
def zk_shp : List (Nat × Nat × List Nat) := [(0, 4, [3, 16, 25, 30, 32, 39, 45, 46, 47, 0, 0, 1, 1]), (3, 6, [2, 4, 6, 8, 10, 12]), (0, 2, [5, 0]), (1, 40, []), (0, 2, [7, 0]), (1, 40, []), (0, 2, [9, 0]), (1, 40, []), (0, 2, [11, 0]), (1, 40, []), (0, 2, [13, 0]), (1, 40, []), (0, 2, [15, 0]), (1, 40, []), (3, 4, [15, 17, 19, 21]), (0, 2, [18, 0]), (1, 60, []), (0, 2, [20, 0]), (1, 60, []), (0, 2, [22, 0]), (1, 60, []), (0, 2, [24, 0]), (1, 60, []), (0, 0, [26, 27, 28, 29, 0, 0, 0, 0, 0, 0]), (1, 6, []), (1, 6, []), (1, 6, []), (1, 8, []), (0, 1, [31, 0]), (1, 40, []), (4, 3, [31, 33, 35]), (0, 1, [34, 0]), (1, 40, []), (0, 1, [36, 0]), (1, 40, []), (0, 1, [38, 0]), (1, 40, []), (0, 3, [40]), (5, 4, [39, 40, 41, 42]), (1, 8, []), (1, 8, []), (1, 8, []), (1, 8, []), (1, 6, []), (2, 7, []), (1, 6, []), (0, 5, [49, 50, 51, 52, 0, 53, 0, 1, 1, 0, 0, 0, 0, 0, 0, 54, 0, 0, 0, 55, 56, 57, 58, 59, 0, 60, 61, 62]), (1, 6, []), (1, 240, []), (1, 4, []), (1, 240, []), (1, 6, []), (1, 12, []), (1, 6, []), (1, 6, []), (1, 17, []), (1, 17, []), (1, 680, []), (1, 51, []), (1, 2040, []), (1, 3, [])]
def zk_rv (ρ : Nat → Nat) (v : Value) : Value := match v with
  | .ref c => .ref (ρ c)
  | v => v
theorem zk_rv_cat (ρ : Nat → Nat) (v : Value) : (zk_rv ρ v).category = v.category := by cases v <;> rfl
def zk_fv (ρ : Nat → Nat) (mu : Nat → Int32) (lm : Nat → Int64) (k : Nat) (x : Nat) : Value := match x with
  | 0 => .int (mu k)
  | 1 => .long (lm k)
  | n + 2 => .ref (ρ n)
def zk_E (ρ : Nat → Nat) (γ : Nat → ClassId) (sh : Nat × Nat × List Nat) (mu : Nat → Int32) (lm : Nat → Int64) : va_E := match sh with
  | (0, ci, fs) => .inr (ci, fs.mapIdx (fun k x => zk_fv ρ mu lm k x))
  | (1, n, _) => .inl (γ 0, n, .inl mu)
  | (2, n, _) => .inl (γ 1, n, .inr (.inl lm))
  | (t + 3, n, rs) => .inl (γ (t + 2), n, .inr (.inr (.inr (.inr (fun j => (rs[j]?).map ρ)))))
def zk_ws (ρ : Nat → Nat) (γ : Nat → ClassId) (mu : Mem) (lm : MemL) : va_W := zk_shp.mapIdx (fun c sh => (ρ c, zk_E ρ γ sh (mu c) (lm c)))
def zk_ty (γ : Nat → ClassId) : List (ClassId × FieldType) := [(γ 0, .int), (γ 1, .long), (γ 2, .object RX4), (γ 3, .object RX1), (γ 4, .array .int)]
/-- the cell c holds f -/
def zk_uc {α : Type} (mu : Nat → Nat → α) (c : Nat) (f : Nat → α) : Nat → Nat → α := fun c' => if c' = c then f else mu c'
/-- place k of the cell c holds v -/
def zk_up {α : Type} (mu : Nat → Nat → α) (c k : Nat) (v : α) : Nat → Nat → α := fun c' k' => if c' = c ∧ k' = k then v else mu c' k'
theorem zk_up_uc {α : Type} (mu : Nat → Nat → α) (c k : Nat) (v : α) : zk_uc mu c (fun j => if j = k then v else mu c j) = zk_up mu c k v := by
  funext c' k'
  unfold zk_uc zk_up
  by_cases h : c' = c
  · subst h; by_cases h2 : k' = k <;> simp [h2]
  · simp [h]
theorem zk_ws_at {ρ : Nat → Nat} {γ : Nat → ClassId} {mu : Mem} {lm : MemL} {c : Nat} {sh : Nat × Nat × List Nat} (h : zk_shp[c]? = some sh) : (zk_ws ρ γ mu lm)[c]? = some (ρ c, zk_E ρ γ sh (mu c) (lm c)) := by
  unfold zk_ws
  rw [List.getElem?_mapIdx, h]; rfl
theorem zk_ws_set {ρ : Nat → Nat} {γ : Nat → ClassId} {mu : Mem} {lm : MemL} {c : Nat} {sh : Nat × Nat × List Nat} (h : zk_shp[c]? = some sh) (f : Nat → Int32) (g : Nat → Int64) : (zk_ws ρ γ mu lm).set c (ρ c, zk_E ρ γ sh f g) = zk_ws ρ γ (zk_uc mu c f) (zk_uc lm c g) := by
  apply List.ext_getElem?
  intro i
  rw [List.getElem?_set]
  unfold zk_ws zk_uc
  have hl : c < zk_shp.length := (List.getElem?_eq_some_iff.mp h).1
  by_cases e : c = i
  · subst e
    rw [if_pos rfl, List.getElem?_mapIdx, h]
    simp [hl]
  · rw [if_neg e, List.getElem?_mapIdx, List.getElem?_mapIdx]
    have e2 : ¬ i = c := fun q => e q.symm
    simp [e2]
theorem zk_uc_self {α : Type} (mu : Nat → Nat → α) (c : Nat) : zk_uc mu c (mu c) = mu := by
  funext c'
  unfold zk_uc
  by_cases h : c' = c
  · subst h; simp
  · simp [h]
theorem zk_D_any {ρ : Nat → Nat} {γ : Nat → ClassId} {mu mu' : Mem} {lm lm' : MemL} {A : Nat → Prop} (h : va_D A (zk_ws ρ γ mu lm)) : va_D A (zk_ws ρ γ mu' lm') := by
  have key : ∀ (k : Nat) (q : Nat × va_E), (zk_ws ρ γ mu' lm')[k]? = some q → ∃ q0, (zk_ws ρ γ mu lm)[k]? = some q0 ∧ q0.1 = q.1 := by
    intro k q hk
    unfold zk_ws at hk ⊢
    rw [List.getElem?_mapIdx] at hk ⊢
    cases hs : zk_shp[k]? with
    | none => rw [hs] at hk; cases hk
    | some sh => rw [hs] at hk; cases hk; exact ⟨_, rfl, rfl⟩
  refine ⟨fun i j x y hi hj hxy => ?_, fun k q hk => ?_⟩
  · obtain ⟨x0, h1, h2⟩ := key i x hi
    obtain ⟨y0, h3, h4⟩ := key j y hj
    exact h.1 i j x0 y0 h1 h3 (h2.trans (hxy.trans h4.symm))
  · obtain ⟨q0, h1, h2⟩ := key k q hk
    rw [← h2]
    exact h.2 k q0 h1
theorem zk_A_any {ρ : Nat → Nat} {γ : Nat → ClassId} {mu mu' : Mem} {lm lm' : MemL} {sz q : Nat} (h : va_A (zk_ws ρ γ mu lm) sz q) : va_A (zk_ws ρ γ mu' lm') sz q := by
  rcases h with ⟨k, e, h⟩ | h
  · left
    unfold zk_ws at h ⊢
    rw [List.getElem?_mapIdx] at h
    cases hs : zk_shp[k]? with
    | none => rw [hs] at h; cases h
    | some sh =>
      rw [hs] at h; cases h
      exact ⟨k, zk_E ρ γ sh (mu' k) (lm' k), by rw [List.getElem?_mapIdx, hs]; rfl⟩
  · exact Or.inr h
/-! ===== locals ===== -/
def zk_isV (v : Value) : Bool := match v with
  | .retAddr _ => false
  | _ => true
def zk_lv (ρ : Nat → Nat) (ls : List Value) : List (Nat × Value) := (List.range ls.length).filterMap (fun i => (ls[i]?).bind (fun v => if zk_isV v = true then some (i, zk_rv ρ v) else none))
theorem zk_mem_lv {ρ : Nat → Nat} {ls : List Value} {q : Nat × Value} : q ∈ zk_lv ρ ls ↔ ∃ v, ls[q.1]? = some v ∧ zk_isV v = true ∧ q.2 = zk_rv ρ v := by
  unfold zk_lv
  rw [List.mem_filterMap]
  constructor
  · rintro ⟨i, hi, h⟩
    cases hv : ls[i]? with
    | none => rw [hv] at h; cases h
    | some v =>
      rw [hv] at h
      simp only [Option.bind_some] at h
      by_cases hV : zk_isV v = true
      · rw [if_pos hV] at h; cases h; exact ⟨v, hv, hV, rfl⟩
      · rw [if_neg hV] at h; cases h
  · rintro ⟨v, hv, hV, e⟩
    refine ⟨q.1, List.mem_range.mpr (List.getElem?_eq_some_iff.mp hv).1, ?_⟩
    rw [hv]
    simp only [Option.bind_some]
    rw [if_pos hV, ← e]
def zk_kill (ls : List Value) (i : Nat) : List Value := match i with
  | 0 => ls
  | j + 1 => match ls[j]? with
    | some (.long _) => ls.set j (.retAddr 0)
    | some (.double _) => ls.set j (.retAddr 0)
    | _ => ls
def zk_set (ls : List Value) (i : Nat) (v : Value) : List Value := (zk_kill ls i).set i v
def zk_set2 (ls : List Value) (i : Nat) (v : Value) : List Value := (zk_set ls i v).set (i + 1) (.retAddr 0)
theorem zk_at {ρ : Nat → Nat} {ls : List Value} {lsr : Array Slot} {nL i : Nat} {v : Value} (h : lv_has lsr nL (zk_lv ρ ls)) (hv : ls[i]? = some v) (hV : zk_isV v = true) : lsr[i]? = some (.val (zk_rv ρ v)) := h.2.2 (i, zk_rv ρ v) (zk_mem_lv.mpr ⟨v, hv, hV, rfl⟩)
theorem zk_kill_at {ls : List Value} {i j : Nat} {w : Value} (h : (zk_kill ls i)[j]? = some w) (hV : zk_isV w = true) : ls[j]? = some w ∧ ¬ (j + 1 = i ∧ w.category = 2) := by
  unfold zk_kill at h
  match i with
  | 0 => exact ⟨h, fun q => by omega⟩
  | k + 1 =>
    simp only at h
    by_cases e : j = k
    · subst e
      cases hk : ls[j]? with
      | none => rw [hk] at h; simp only at h; rw [hk] at h; cases h
      | some v =>
        rw [hk] at h
        cases v with
        | long x =>
          simp only at h
          rw [List.getElem?_set_self (List.getElem?_eq_some_iff.mp hk).1] at h
          cases h; cases hV
        | double x =>
          simp only at h
          rw [List.getElem?_set_self (List.getElem?_eq_some_iff.mp hk).1] at h
          cases h; cases hV
        | _ => simp only at h; rw [hk] at h; cases h; exact ⟨rfl, fun q => by simp [Value.category] at q⟩
    · have h2 : ls[j]? = some w := by
        split at h
        · rwa [List.getElem?_set_ne (fun q => e q.symm)] at h
        · rwa [List.getElem?_set_ne (fun q => e q.symm)] at h
        · exact h
      exact ⟨h2, fun q => by omega⟩
theorem zk_has_set {ρ : Nat → Nat} {ls : List Value} {lsr : Array Slot} {nL i : Nat} {v : Value} (h : lv_has lsr nL ((i, zk_rv ρ v) :: (zk_lv ρ ls).filter (fun q => !(q.1 == i) && !(q.1 + 1 == i && q.2.category == 2)))) : lv_has lsr nL (zk_lv ρ (zk_set ls i v)) := by
  refine ⟨h.1, h.2.1, fun q hq => h.2.2 q ?_⟩
  obtain ⟨w, hw, hV, e⟩ := zk_mem_lv.mp hq
  obtain ⟨j, x⟩ := q
  simp only at hw e
  subst e
  unfold zk_set at hw
  by_cases ej : i = j
  · subst ej
    have hl := (List.getElem?_eq_some_iff.mp hw).1
    rw [List.length_set] at hl
    rw [List.getElem?_set_self hl] at hw
    cases hw
    exact List.mem_cons_self
  · rw [List.getElem?_set_ne ej] at hw
    obtain ⟨h1, h2⟩ := zk_kill_at hw hV
    refine List.mem_cons_of_mem _ (List.mem_filter.mpr ⟨zk_mem_lv.mpr ⟨w, h1, hV, rfl⟩, ?_⟩)
    have ej' : ¬ j = i := fun q => ej q.symm
    simp only [zk_rv_cat]
    by_cases q1 : j + 1 = i
    · have q2 : ¬ w.category = 2 := fun q => h2 ⟨q1, q⟩
      simp [ej', q2]
    · simp [ej', q1]
theorem zk_has_set2 {ρ : Nat → Nat} {ls : List Value} {lsr : Array Slot} {nL i : Nat} {v : Value} (h : lv_has lsr nL ((i, zk_rv ρ v) :: (zk_lv ρ ls).filter (fun q => !(q.1 == i) && (!(q.1 == i + 1) && !(q.1 + 1 == i && q.2.category == 2))))) : lv_has lsr nL (zk_lv ρ (zk_set2 ls i v)) := by
  refine ⟨h.1, h.2.1, fun q hq => h.2.2 q ?_⟩
  obtain ⟨w, hw, hV, e⟩ := zk_mem_lv.mp hq
  obtain ⟨j, x⟩ := q
  simp only at hw e
  subst e
  unfold zk_set2 at hw
  by_cases e1 : i + 1 = j
  · subst e1
    have hl := (List.getElem?_eq_some_iff.mp hw).1
    rw [List.length_set] at hl
    rw [List.getElem?_set_self hl] at hw
    cases hw
    cases hV
  rw [List.getElem?_set_ne e1] at hw
  unfold zk_set at hw
  by_cases ej : i = j
  · subst ej
    have hl := (List.getElem?_eq_some_iff.mp hw).1
    rw [List.length_set] at hl
    rw [List.getElem?_set_self hl] at hw
    cases hw
    exact List.mem_cons_self
  · rw [List.getElem?_set_ne ej] at hw
    obtain ⟨h1, h2⟩ := zk_kill_at hw hV
    refine List.mem_cons_of_mem _ (List.mem_filter.mpr ⟨zk_mem_lv.mpr ⟨w, h1, hV, rfl⟩, ?_⟩)
    have ej' : ¬ j = i := fun q => ej q.symm
    have e1' : ¬ j = i + 1 := fun q => e1 q.symm
    simp only [zk_rv_cat]
    by_cases q1 : j + 1 = i
    · have q2 : ¬ w.category = 2 := fun q => h2 ⟨q1, q⟩
      simp [ej', e1', q2]
    · simp [ej', e1', q1]
/-- a method's locals at its entry -/
def zk_ent (vs : List Value) : List Value := vs.flatMap (fun v => if v.category = 2 then [v, .retAddr 0] else [v])
def zk_loc (vs : List Value) (nL : Nat) : List Value := zk_ent vs ++ List.replicate (nL - (zk_ent vs).length) (.retAddr 0)
theorem zk_ent_args {ρ : Nat → Nat} : ∀ (vs : List Value) (b j : Nat) (v : Value), (zk_ent vs)[j]? = some v → zk_isV v = true → (b + j, zk_rv ρ v) ∈ lv_args b (vs.map (zk_rv ρ))
  | [], b, j, v, h, _ => by simp [zk_ent] at h
  | a :: vs, b, j, v, h, hV => by
    have ih := zk_ent_args (ρ := ρ) vs
    show _ ∈ (b, zk_rv ρ a) :: lv_args (if (zk_rv ρ a).category = 2 then b + 2 else b + 1) (vs.map (zk_rv ρ))
    rw [zk_rv_cat]
    have hs : zk_ent (a :: vs) = (if a.category = 2 then [a, .retAddr 0] else [a]) ++ zk_ent vs := by simp [zk_ent]
    rw [hs] at h
    by_cases hc : a.category = 2
    · rw [if_pos hc] at h ⊢
      match j, h with
      | 0, h => cases h; exact List.mem_cons_self
      | 1, h => cases h; cases hV
      | j + 2, h =>
        have := ih (b + 2) j v (by simpa using h) hV
        rw [show b + (j + 2) = b + 2 + j by omega]
        exact List.mem_cons_of_mem _ this
    · rw [if_neg hc] at h ⊢
      match j, h with
      | 0, h => cases h; exact List.mem_cons_self
      | j + 1, h =>
        have := ih (b + 1) j v (by simpa using h) hV
        rw [show b + (j + 1) = b + 1 + j by omega]
        exact List.mem_cons_of_mem _ this
theorem zk_has_loc {ρ : Nat → Nat} {vs : List Value} {lsr : Array Slot} {nL : Nat} (h : lv_has lsr nL (lv_args 0 (vs.map (zk_rv ρ)))) : lv_has lsr nL (zk_lv ρ (zk_loc vs nL)) := by
  refine ⟨h.1, h.2.1, fun q hq => h.2.2 q ?_⟩
  obtain ⟨w, hw, hV, e⟩ := zk_mem_lv.mp hq
  obtain ⟨j, x⟩ := q
  simp only at hw e
  subst e
  unfold zk_loc at hw
  by_cases hj : j < (zk_ent vs).length
  · rw [List.getElem?_append_left hj] at hw
    have := zk_ent_args (ρ := ρ) vs 0 j w hw hV
    rwa [Nat.zero_add] at this
  · rw [List.getElem?_append_right (by omega)] at hw
    have := List.mem_replicate.mp (List.mem_of_getElem? hw)
    rw [this.2] at hV
    cases hV
theorem zk_ent_len (ρ : Nat → Nat) (vs : List Value) : (lg_sl (vs.map (zk_rv ρ))).length = (zk_ent vs).length := by
  induction vs with
  | nil => rfl
  | cons a vs ih =>
    have h1 : lg_sl ((a :: vs).map (zk_rv ρ)) = (if (zk_rv ρ a).category = 2 then [Slot.val (zk_rv ρ a), .second] else [Slot.val (zk_rv ρ a)]) ++ lg_sl (vs.map (zk_rv ρ)) := by simp [lg_sl]
    have h2 : zk_ent (a :: vs) = (if a.category = 2 then [a, .retAddr 0] else [a]) ++ zk_ent vs := by simp [zk_ent]
    rw [h1, h2, zk_rv_cat, List.length_append, List.length_append, ih]
    by_cases hc : a.category = 2 <;> simp [hc]
end
section
/-! ===== THE JUDGEMENT: the machine, now at pc of a method with locals ls, stack st, memory mu, lm, comes to its return with Q ===== -/
/-- the tables' words that stay -/
def zk_tb : List Cond := lw_tbl.filter goodWord
theorem zk_in {w : Cond} (i : Nat) (h : lw_tbl[i]? = some w) (hg : goodWord w = true) : w ∈ zk_tb := List.mem_filter.mpr ⟨List.mem_of_getElem? h, hg⟩
theorem zk_gi {ws : List Cond} (h : ∀ w ∈ ws, w ∈ zk_tb) : GoodIn zk_tb ws := fun w hw => ⟨h w hw, good_of_word (List.mem_filter.mp (h w hw)).2⟩
/-- what stays through a method's body -/
def zk_Cx (d : Nat) (own : String) (cc : ByteArray) (nL : Nat) (ret : Option FieldType) (sx : Option (Nat × (Nat → Int32))) (p : Program) (R : Room) (s : State) (m : MethodId) (args : Array Value) (meth : Method) (c : Code) (D : va_G) (ρ : Nat → Nat) (γ : Nat → ClassId) (A : Nat → Prop) (cells slots : Nat) : Prop :=
  CallFix p m c cc nL s args zk_tb own ∧ (meth.sig.returnType = ret ∧ meth.locks = false) ∧ va_K D vwCl (zk_ty γ) s ∧ (∀ q, s.heap.size ≤ q → A q) ∧ (d ≤ R.frames ∧ d * 80 ≤ R.locals ∧ cells ≤ R.cells ∧ slots ≤ R.slots) ∧
  ∀ (L : Nat) (xs : Nat → Int32), sx = some (L, xs) → va_X (ρ 99) L xs s s.heap ∧ ρ 99 < s.heap.size ∧ ¬ A (ρ 99)
def zk_Wd (s : State) (D : va_G) (ρ : Nat → Nat) (γ : Nat → ClassId) (A : Nat → Prop) (H : Heap) (locs : List Loc) (mu : Mem) (lm : MemL) : Prop :=
  va_P D vwCl (zk_ws ρ γ mu lm) H ∧ va_D A (zk_ws ρ γ mu lm) ∧ va_S A s.heap H locs
def zk_Rt (cc : ByteArray) (ret : Option FieldType) (pc : Nat) (r : Option Value) : Prop := match r with
  | none => decode cc pc = .ok (.return_, 1) ∧ ret = none
  | some (.int v) => decode cc pc = .ok (.ireturn, 1) ∧ (ret = some .int ∨ (ret = some .boolean ∧ (v = 0 ∨ v = 1)))
  | some (.long _) => decode cc pc = .ok (.lreturn, 1) ∧ ret = some .long
  | some .null => decode cc pc = .ok (.areturn, 1) ∧ ∃ n, ret = some (.object n)
  | some (.ref _) => decode cc pc = .ok (.areturn, 1) ∧ ∃ n, ret = some (.object n)
  | _ => False
def zk_M (d : Nat) (own : String) (cc : ByteArray) (nL : Nat) (ret : Option FieldType) (sx : Option (Nat × (Nat → Int32))) (pc : Nat) (ls st : List Value) (mu : Mem) (lm : MemL) (Q : Option Value → Mem → MemL → Prop) : Prop :=
  ∀ (p : Program) (l : Launch) (e : Env) (R : Room) (s : State) (m : MethodId) (args : Array Value) (below : List Frame) (meth : Method) (c : Code) (D : va_G) (ρ : Nat → Nat) (γ : Nat → ClassId) (A : Nat → Prop) (cells slots : Nat) (H : Heap) (locs : List Loc) (Z : State → Prop) (lsr : Array Slot),
    zk_Cx d own cc nL ret sx p R s m args meth c D ρ γ A cells slots → zk_Wd s D ρ γ A H locs mu lm → lv_has lsr nL (zk_lv ρ ls) →
    (∀ (r : Option Value) (mu' : Mem) (lm' : MemL) (H' : Heap) (locs' : List Loc) (pc' : Nat) (lsr' : Array Slot), Q r mu' lm' → zk_Wd s D ρ γ A H' locs' mu' lm' → zk_Rt cc ret pc' r → W p l e R s m args below meth c H' locs' cells slots Z (F0 m pc' lsr' (r.toList.map (zk_rv ρ)))) →
    W p l e R s m args below meth c H locs cells slots Z (F0 m pc lsr (st.map (zk_rv ρ)))
section ZK
variable {d : Nat} {own : String} {cc : ByteArray} {nL : Nat} {ret : Option FieldType} {sx : Option (Nat × (Nat → Int32))} {ls st : List Value} {mu : Mem} {lm : MemL} {Q : Option Value → Mem → MemL → Prop} {pc : Nat}
theorem zk_post {Q' : Option Value → Mem → MemL → Prop} (h : zk_M d own cc nL ret sx pc ls st mu lm Q') (hQ : ∀ r mu' lm', Q' r mu' lm' → Q r mu' lm') : zk_M d own cc nL ret sx pc ls st mu lm Q := by
  intro p l e R s m args below meth c D ρ γ A cells slots H locs Z lsr C Wd hl K
  exact h p l e R s m args below meth c D ρ γ A cells slots H locs Z lsr C Wd hl (fun r mu' lm' H' locs' pc' lsr' q => K r mu' lm' H' locs' pc' lsr' (hQ r mu' lm' q))
theorem zk_deep {d' : Nat} (hd : d ≤ d') (h : zk_M d own cc nL ret sx pc ls st mu lm Q) : zk_M d' own cc nL ret sx pc ls st mu lm Q := by
  intro p l e R s m args below meth c D ρ γ A cells slots H locs Z lsr C Wd hl K
  obtain ⟨c1, c2, c3, c4, ⟨c5, c6, c7⟩, c8⟩ := C
  exact h p l e R s m args below meth c D ρ γ A cells slots H locs Z lsr ⟨c1, c2, c3, c4, ⟨by omega, by omega, c7⟩, c8⟩ Wd hl K
/-! returns -/
theorem zk_ireturn {v : Int32} (hd : decode cc pc = .ok (.ireturn, 1)) (hr : ret = some .int ∨ (ret = some .boolean ∧ (v = 0 ∨ v = 1))) (hq : Q (some (.int v)) mu lm) : zk_M d own cc nL ret sx pc ls [.int v] mu lm Q := by
  intro p l e R s m args below meth c D ρ γ A cells slots H locs Z lsr C Wd hl K
  exact K (some (.int v)) mu lm H locs pc lsr hq Wd ⟨hd, hr⟩
theorem zk_lreturn {v : Int64} (hd : decode cc pc = .ok (.lreturn, 1)) (hr : ret = some .long) (hq : Q (some (.long v)) mu lm) : zk_M d own cc nL ret sx pc ls [.long v] mu lm Q := by
  intro p l e R s m args below meth c D ρ γ A cells slots H locs Z lsr C Wd hl K
  exact K (some (.long v)) mu lm H locs pc lsr hq Wd ⟨hd, hr⟩
theorem zk_return (hd : decode cc pc = .ok (.return_, 1)) (hr : ret = none) (hq : Q none mu lm) : zk_M d own cc nL ret sx pc ls [] mu lm Q := by
  intro p l e R s m args below meth c D ρ γ A cells slots H locs Z lsr C Wd hl K
  exact K none mu lm H locs pc lsr hq Wd ⟨hd, hr⟩
theorem zk_areturn {x : Nat} (hd : decode cc pc = .ok (.areturn, 1)) (hr : ∃ n, ret = some (.object n)) (hq : Q (some (.ref x)) mu lm) : zk_M d own cc nL ret sx pc ls [.ref x] mu lm Q := by
  intro p l e R s m args below meth c D ρ γ A cells slots H locs Z lsr C Wd hl K
  exact K (some (.ref x)) mu lm H locs pc lsr hq Wd ⟨hd, hr⟩
theorem zk_areturnN (hd : decode cc pc = .ok (.areturn, 1)) (hr : ∃ n, ret = some (.object n)) (hq : Q (some .null) mu lm) : zk_M d own cc nL ret sx pc ls [.null] mu lm Q := by
  intro p l e R s m args below meth c D ρ γ A cells slots H locs Z lsr C Wd hl K
  exact K (some .null) mu lm H locs pc lsr hq Wd ⟨hd, hr⟩
end ZK
end
section
/-! ===== CALLS: a callee's judgement is a contract; the frame is the world's ===== -/
/-- a method of the tables -/
def zk_Mt (own : String) (y : MethodName) (cc : ByteArray) (nL : Nat) (ret : Option FieldType) (n : Nat) : Prop :=
  y.cls = own ∧ plainName y.cls = true ∧ y.cls ≠ "java/lang/invoke/MethodHandle" ∧ y.cls ≠ "java/lang/invoke/VarHandle" ∧ (parseMethodDescriptor y.desc).map (fun d => d.parameters.length) = some n ∧ nL ≤ 50 ∧ Cond.code y cc nL ret ∈ zk_tb ∧ Cond.initialized y.cls ∈ zk_tb
def zk_Pc (D : va_G) (ρ : Nat → Nat) (γ : Nat → ClassId) (mu : Mem) (lm : MemL) (sz : Nat) (as : List Value) : Array Value → State → Prop := va_Pc (as.map (zk_rv ρ)) (fun U => U.heap.size = sz ∧ va_P D vwCl (zk_ws ρ γ mu lm) U.heap ∧ va_K D vwCl (zk_ty γ) U ∧ va_D (fun _ => True) (zk_ws ρ γ mu lm))
def zk_Qc (D : va_G) (ρ : Nat → Nat) (γ : Nat → ClassId) (A : Nat → Prop) (Q : Option Value → Mem → MemL → Prop) : Array Value → State → Outcome → State → Prop := fun _ st oc t => (∃ (r : Option Value) (mu' : Mem) (lm' : MemL), oc = .returned (r.map (zk_rv ρ)) ∧ Q r mu' lm' ∧ va_P D vwCl (zk_ws ρ γ mu' lm') t.heap) ∧ va_F A st t
def zk_Rm (d : Nat) : Room := { frames := d, cells := 0, slots := 0, locals := d * 80 }
theorem zk_met (l : Launch) {d : Nat} {own : String} {y : MethodName} {cc : ByteArray} {nL n : Nat} {ret : Option FieldType} (hy : zk_Mt own y cc nL ret n) {as : List Value} (hlen : (zk_ent as).length ≤ nL) {mu : Mem} {lm : MemL} {Q : Option Value → Mem → MemL → Prop} (h : zk_M d own cc nL ret none 0 (zk_loc as nL) [] mu lm Q) (D : va_G) (ρ : Nat → Nat) (γ : Nat → ClassId) (sz : Nat) :
    Met l y (.code y cc nL ret :: zk_tb) (zk_Rm d) (zk_Pc D ρ γ mu lm sz as) (zk_Qc D ρ γ (va_A (zk_ws ρ γ mu lm) sz) Q) 0 0 (va_A (zk_ws ρ γ mu lm) sz) := by
  obtain ⟨hown0, hpl, -, -, -, -, -, -⟩ := hy
  refine Met.ofW (cc := cc) (maxL := nL) (ret := ret) hpl rfl ?_
  intro p e s m args below meth c s₁ B hml hv
  obtain ⟨rfl, hsz, hP, hK, hD0⟩ := hv
  have hts := atoms_spec (ws := .code y cc nL ret :: zk_tb) B.pre
  have hown : s.vm.findClass own = some m.cls := by rw [← hown0]; exact findClass_of_methodNamed B.named
  subst hsz
  have hD := hD0.self (sz := s.heap.size)
  rw [lg_entry_eq]
  have hl := lv_entry (as.map (zk_rv ρ)) (n := nL) (by rw [zk_ent_len]; exact hlen)
  refine h p l e (zk_Rm d) s m _ below meth c D ρ γ (va_A (zk_ws ρ γ mu lm) s.heap.size) 0 0 s.heap [] _ _ ⟨⟨B.exec, B.bytes, hml, hown, fun w hw => hts w (List.mem_cons_of_mem _ hw)⟩, ⟨B.returns, B.notSynchronized⟩, hK, fun q hq => Or.inr hq, ⟨Nat.le_refl _, Nat.le_refl _, Nat.le_refl _, Nat.le_refl _⟩, fun L xs q => by cases q⟩ ⟨hP, hD, va_S.rf⟩ (zk_has_loc hl) ?_
  intro r mu' lm' H' locs' pc' lsr' hQ hW hR
  obtain ⟨hP', hD', hS'⟩ := hW
  have hlocks := B.notSynchronized
  have hret := B.returns
  have key : ∀ t : State, t.heap = H' → s.WarmedH t.vm → zk_Qc D ρ γ (va_A (zk_ws ρ γ mu lm) s.heap.size) Q (as.map (zk_rv ρ)).toArray s (.returned (r.map (zk_rv ρ))) t := fun t ht hw => ⟨⟨r, mu', lm', rfl, hQ, by rw [ht]; exact hP'⟩, hS'.F ht⟩
  match r, hR, key with
  | none, hR, key => exact W.vret B.exec B.bytes (hret.trans hR.2) key (fun q hq => hS'.2.2 q hq) hR.1
  | some (.int v), hR, key =>
    rcases hR.2 with h1 | ⟨h1, h2⟩
    · exact W.iret B.exec B.bytes (hret.trans h1) key (fun q hq => hS'.2.2 q hq) hR.1
    · exact W.zret B.exec B.bytes (hret.trans h1) (by rcases h2 with rfl | rfl <;> rfl) key (fun q hq => hS'.2.2 q hq) hR.1
  | some (.long v), hR, key => exact W.lret B.exec B.bytes (hret.trans hR.2) key (fun q hq => hS'.2.2 q hq) hR.1
  | some .null, hR, key =>
    obtain ⟨h1, nm, h2⟩ := hR
    exact W.aret B.exec B.bytes (hret.trans h2) (Or.inl ⟨nm, rfl⟩) (Or.inl rfl) key (fun q hq => hS'.2.2 q hq) h1
  | some (.ref v), hR, key =>
    obtain ⟨h1, nm, h2⟩ := hR
    exact W.aret B.exec B.bytes (hret.trans h2) (Or.inl ⟨nm, rfl⟩) (Or.inr ⟨_, rfl⟩) key (fun q hq => hS'.2.2 q hq) h1
theorem zk_blind {D : va_G} {ρ : Nat → Nat} {γ : Nat → ClassId} {mu : Mem} {lm : MemL} {sz : Nat} {as : List Value} : FrameBlind (zk_Pc D ρ γ mu lm sz as) := by
  intro a U g mk q
  obtain ⟨h1, h2, h3, h4, h5⟩ := q
  exact ⟨h1, h2, h3, va_K.moved (u := U) (U := U.calling g mk a) (Vm.Alike.refl U.vm) h4, h5⟩
/-- behind a call: the machine goes on in the world that the callee left -/
theorem zk_back {p : Program} {l : Launch} {e : Env} {R : Room} {s : State} {m : MethodId} {args : Array Value} {below : List Frame} {meth : Method} {c : Code} {H : Heap} {locs : List Loc} {cells slots : Nat} {Z : State → Prop} {pc : Nat} {lsr : Array Slot} {st0 rest : List Value} {a : Array Value} {A : Nat → Prop} {D : va_G} {ρ : Nat → Nat} {γ : Nat → ClassId} {mu : Mem} {lm : MemL} {Q1 : Option Value → Mem → MemL → Prop}
    (hr : va_Run p l e R s m args below meth c H locs cells slots 0 0 (F0 m pc lsr st0) (rest.map (zk_rv ρ)) (zk_Qc D ρ γ (va_A (zk_ws ρ γ mu lm) H.size) Q1 a) (va_A (zk_ws ρ γ mu lm) H.size)) (hW : zk_Wd s D ρ γ A H locs mu lm) (hA : ∀ q, s.heap.size ≤ q → A q)
    (kk : ∀ (r : Option Value) (mu' : Mem) (lm' : MemL) (H1 : Heap) (locs1 : List Loc), Q1 r mu' lm' → zk_Wd s D ρ γ A H1 locs1 mu' lm' → W p l e R s m args below meth c H1 locs1 cells slots Z (F0 m (pc + 3) lsr ((r.toList ++ rest).map (zk_rv ρ)))) : W p l e R s m args below meth c H locs cells slots Z (F0 m pc lsr st0) := by
  obtain ⟨hP, hD, hS⟩ := hW
  have hF : ∀ q, va_A (zk_ws ρ γ mu lm) H.size q → A q := by
    intro q h
    rcases h with ⟨k, e, h⟩ | h
    · exact hD.2 k (q, e) h
    · exact hA q (Nat.le_trans hS.1 h)
  intro T hT X
  obtain ⟨v, st₀, t, T', L, h0, X', hL, e1, e2, ⟨⟨r, mu', lm', hv, hq, hb⟩, hz, hk⟩, st⟩ := hr T hT X
  cases hv
  rw [h0] at hz hk
  have hS' : va_S A s.heap T'.heap (locs ++ L) := ⟨Nat.le_trans hS.1 (by rw [e1]; exact hz), fun q h1 h2 => by rw [e1, hk q (Nat.lt_of_lt_of_le h1 hS.1) (fun z => h2 (hF q z))]; exact hS.2.1 q h1 h2, fun q hq => by
      rcases List.mem_append.mp hq with h | h
      · exact hS.2.2 q h
      · exact hF _ (hL q h)⟩
  obtain ⟨t2, a1, b1⟩ := kk r mu' lm' T'.heap (locs ++ L) hq ⟨by rw [e1]; exact hb, zk_D_any hD, hS'⟩ T' rfl X'
  refine ⟨t2, st t2 ?_, b1⟩
  have e3 : (r.map (zk_rv ρ)).toList ++ rest.map (zk_rv ρ) = (r.toList ++ rest).map (zk_rv ρ) := by cases r <;> simp
  have e4 : ({ F0 m pc lsr st0 with pc := pc + 3, stack := (r.map (zk_rv ρ)).toList ++ rest.map (zk_rv ρ) } : JFrame) = F0 m (pc + 3) lsr ((r.toList ++ rest).map (zk_rv ρ)) := by rw [e3]
  exact e4 ▸ a1
section ZC
variable {d : Nat} {own : String} {cc : ByteArray} {nL : Nat} {ret : Option FieldType} {sx : Option (Nat × (Nat → Int32))} {ls st : List Value} {mu : Mem} {lm : MemL} {Q : Option Value → Mem → MemL → Prop} {pc : Nat} {own' : String} {y : MethodName} {cc' : ByteArray} {nL' : Nat} {ret' : Option FieldType} {n idx : Nat} {Q1 : Option Value → Mem → MemL → Prop}
theorem zk_cat (ρ : Nat → Nat) (st : List Value) : ((st.map (zk_rv ρ)).map fun v => v.category).sum = (st.map fun v => v.category).sum := by
  rw [List.map_map]
  congr 1
  apply List.map_congr_left
  intro a _
  exact zk_rv_cat ρ a
theorem zk_callS (hd : decode cc pc = .ok (.invokestatic idx, 3)) (hy : zk_Mt own' y cc' nL' ret' n) (hl : Cond.methodLink own idx y ∈ zk_tb) (hs : Cond.static y ∈ zk_tb) (as st' : List Value) (hst : st = as.reverse ++ st') (hn : as.length = n) (hlen : (zk_ent as).length ≤ nL') (hc : (st'.map fun v => v.category).sum ≤ 8)
    (h : zk_M d own' cc' nL' ret' none 0 (zk_loc as nL') [] mu lm Q1) (kk : ∀ r mu' lm', Q1 r mu' lm' → zk_M (d + 1) own cc nL ret sx (pc + 3) ls (r.toList ++ st') mu' lm' Q) : zk_M (d + 1) own cc nL ret sx pc ls st mu lm Q := by
  subst hst
  intro p l e R s m args below meth c D ρ γ A cells slots H locs Z lsr C Wd hls K
  obtain ⟨F, c2, hK, hA, ⟨c5, c6, c7, c7'⟩, c8⟩ := id C
  obtain ⟨y1, y2, y3, y4, y5, y6, y7, y8⟩ := id hy
  have hts := F.2.2.2.2
  have hws : ∀ w ∈ (va_wsS own idx y (.code y cc' nL' ret' :: zk_tb)), w ∈ zk_tb := by
    intro w hw
    simp only [va_wsS, List.cons_append, List.nil_append, List.mem_cons] at hw
    rcases hw with rfl | rfl | rfl | rfl | hw
    · exact hl
    · exact hs
    · exact y8
    · exact y7
    · exact hw
  refine zk_back (D := D) (ρ := ρ) (γ := γ) (rest := st') (va_runS (As := as.map (zk_rv ρ)) (rest := st'.map (zk_rv ρ)) F (zk_met l hy hlen h D ρ γ H.size) (va_cwS n hts (zk_gi hws) rfl rfl rfl ⟨y3, y4, y5⟩ ⟨c5, by show 8 + (nL' + 11) + d * 80 ≤ R.locals; omega⟩) ⟨zk_blind, fun U hU hW => ⟨rfl, by rw [hU], by rw [hU]; exact Wd.1, va_K.moved hW.alike hK, Wd.2.1.weaken (fun _ _ _ _ => trivial)⟩⟩ rfl (by rw [List.length_map]; exact hn) hls.1 (by rw [List.map_append, List.map_reverse]) (lv_room (by rw [zk_cat]; exact hc)) hd ⟨c7, c7'⟩) Wd hA ?_
  intro r mu' lm' H1 locs1 q W1
  exact kk r mu' lm' q p l e R s m args below meth c D ρ γ A cells slots H1 locs1 Z lsr C W1 hls K
theorem zk_callSN {host : String} (hd : decode cc pc = .ok (.invokestatic idx, 3)) (hy : zk_Mt own' y cc' nL' ret' n) (hl : Cond.methodLinkNest own idx y host ∈ zk_tb) (hs : Cond.static y ∈ zk_tb) (as st' : List Value) (hst : st = as.reverse ++ st') (hn : as.length = n) (hlen : (zk_ent as).length ≤ nL') (hc : (st'.map fun v => v.category).sum ≤ 8)
    (h : zk_M d own' cc' nL' ret' none 0 (zk_loc as nL') [] mu lm Q1) (kk : ∀ r mu' lm', Q1 r mu' lm' → zk_M (d + 1) own cc nL ret sx (pc + 3) ls (r.toList ++ st') mu' lm' Q) : zk_M (d + 1) own cc nL ret sx pc ls st mu lm Q := by
  subst hst
  intro p l e R s m args below meth c D ρ γ A cells slots H locs Z lsr C Wd hls K
  obtain ⟨F, c2, hK, hA, ⟨c5, c6, c7, c7'⟩, c8⟩ := id C
  obtain ⟨y1, y2, y3, y4, y5, y6, y7, y8⟩ := id hy
  have hts := F.2.2.2.2
  have hws : ∀ w ∈ (.code y cc' nL' ret' :: zk_tb), w ∈ zk_tb := by
    intro w hw
    rcases List.mem_cons.mp hw with rfl | hw
    · exact y7
    · exact hw
  refine zk_back (D := D) (ρ := ρ) (γ := γ) (rest := st') (va_runSN (As := as.map (zk_rv ρ)) (rest := st'.map (zk_rv ρ)) F (zk_met l hy hlen h D ρ γ H.size) ⟨va_cnB n hts (zk_gi hws) rfl rfl rfl (va_Nw.of rfl (hts _ hl)) (hts _ y8) ⟨y3, y4, y5⟩ ⟨c5, by show 8 + (nL' + 11) + d * 80 ≤ R.locals; omega⟩, hts _ hs, trivial⟩ ⟨zk_blind, fun U hU hW => ⟨rfl, by rw [hU], by rw [hU]; exact Wd.1, va_K.moved hW.alike hK, Wd.2.1.weaken (fun _ _ _ _ => trivial)⟩⟩ rfl (by rw [List.length_map]; exact hn) hls.1 (by rw [List.map_append, List.map_reverse]) (lv_room (by rw [zk_cat]; exact hc)) hd ⟨c7, c7'⟩) Wd hA ?_
  intro r mu' lm' H1 locs1 q W1
  exact kk r mu' lm' q p l e R s m args below meth c D ρ γ A cells slots H1 locs1 Z lsr C W1 hls K
theorem zk_callV (hd : decode cc pc = .ok (.invokevirtual idx, 3)) (hy : zk_Mt own' y cc' nL' ret' n) (hl : Cond.methodLink own idx y ∈ zk_tb) (hs : Cond.instanceMethod y ∈ zk_tb ∧ Cond.selects own' y y ∈ zk_tb) {b ci N : Nat} {fs : List Nat} {T : u_T} (hb : zk_shp[b]? = some (0, ci, fs)) (hci : vwCl[ci]? = some (own', T, N)) (as st' : List Value) (hst : st = as.reverse ++ .ref b :: st') (hn : as.length = n) (hlen : (zk_ent (.ref b :: as)).length ≤ nL') (hc : (st'.map fun v => v.category).sum ≤ 8)
    (h : zk_M d own' cc' nL' ret' none 0 (zk_loc (.ref b :: as) nL') [] mu lm Q1) (kk : ∀ r mu' lm', Q1 r mu' lm' → zk_M (d + 1) own cc nL ret sx (pc + 3) ls (r.toList ++ st') mu' lm' Q) : zk_M (d + 1) own cc nL ret sx pc ls st mu lm Q := by
  subst hst
  intro p l e R s m args below meth c D ρ γ A cells slots H locs Z lsr C Wd hls K
  obtain ⟨F, c2, hK, hA, ⟨c5, c6, c7, c7'⟩, c8⟩ := id C
  obtain ⟨y1, y2, y3, y4, y5, y6, y7, y8⟩ := id hy
  have hts := F.2.2.2.2
  have hws : ∀ w ∈ (wsV own idx own' y (.code y cc' nL' ret' :: zk_tb)), w ∈ zk_tb := by
    intro w hw
    simp only [wsV, List.cons_append, List.nil_append, List.mem_cons] at hw
    rcases hw with rfl | rfl | rfl | rfl | rfl | hw
    · exact hl
    · exact hs.1
    · exact hs.2
    · rw [← y1]; exact y8
    · exact y7
    · exact hw
  refine zk_back (D := D) (ρ := ρ) (γ := γ) (rest := st') (va_runV (As := as.map (zk_rv ρ)) (rest := st'.map (zk_rv ρ)) (b := ρ b) F (zk_met l hy hlen h D ρ γ H.size) (cwV n hts (zk_gi hws) rfl rfl rfl ⟨y1, y3, y4, y5⟩ ⟨c5, by show 8 + (nL' + 11) + d * 80 ≤ R.locals; omega⟩) ⟨zk_blind, va_recv hK Wd.1 hci (q0 := b) (zk_ws_at hb), fun U hU hW => ⟨rfl, by rw [hU], by rw [hU]; exact Wd.1, va_K.moved hW.alike hK, Wd.2.1.weaken (fun _ _ _ _ => trivial)⟩⟩ rfl (by rw [List.length_map]; exact hn) hls.1 (by rw [List.map_append, List.map_reverse]; rfl) (lv_room (by rw [zk_cat]; exact hc)) hd ⟨c7, c7'⟩) Wd hA ?_
  intro r mu' lm' H1 locs1 q W1
  exact kk r mu' lm' q p l e R s m args below meth c D ρ γ A cells slots H1 locs1 Z lsr C W1 hls K
end ZC
end
section
/-! ===== INSTRUCTIONS: a rule each ===== -/
theorem zk_small : ∀ sh ∈ zk_shp, sh.2.1 < 2147483648 := by decide +kernel
theorem zk_sm {c : Nat} {sh : Nat × Nat × List Nat} (h : zk_shp[c]? = some sh) : sh.2.1 < 2 ^ 31 := zk_small sh (List.mem_of_getElem? h)
theorem zk_ix {i : Int32} {j n : Nat} (hi : i = nI j) (hj : j < n) (hn : n < 2 ^ 31) : vp_in i n ∧ i.toNatClampNeg = j := by
  subst hi
  exact ⟨vp_in_nI hj hn, nI_clamp (by omega)⟩
theorem zk_fs_set {ρ : Nat → Nat} {mu : Nat → Int32} {lm : Nat → Int64} {fs : List Nat} {k : Nat} (h : fs[k]? = some 0) (v : Int32) : (fs.mapIdx (fun k x => zk_fv ρ mu lm k x)).set k (.int v) = fs.mapIdx (fun j x => zk_fv ρ (fun j => if j = k then v else mu j) lm j x) := by
  apply List.ext_getElem?
  intro i
  have hl : k < fs.length := (List.getElem?_eq_some_iff.mp h).1
  rw [List.getElem?_set, List.getElem?_mapIdx, List.getElem?_mapIdx]
  by_cases e : k = i
  · subst e
    rw [if_pos rfl, if_pos (by rw [List.length_mapIdx]; exact hl), h]
    simp [zk_fv]
  · rw [if_neg e]
    have e2 : ¬ i = k := fun q => e q.symm
    cases hx : fs[i]? with
    | none => rfl
    | some x =>
      match x with
      | 0 => simp [zk_fv, e2]
      | 1 => simp [zk_fv]
      | n + 2 => simp [zk_fv]
theorem zk_fs_setL {ρ : Nat → Nat} {mu : Nat → Int32} {lm : Nat → Int64} {fs : List Nat} {k : Nat} (h : fs[k]? = some 1) (v : Int64) : (fs.mapIdx (fun k x => zk_fv ρ mu lm k x)).set k (.long v) = fs.mapIdx (fun j x => zk_fv ρ mu (fun j => if j = k then v else lm j) j x) := by
  apply List.ext_getElem?
  intro i
  have hl : k < fs.length := (List.getElem?_eq_some_iff.mp h).1
  rw [List.getElem?_set, List.getElem?_mapIdx, List.getElem?_mapIdx]
  by_cases e : k = i
  · subst e
    rw [if_pos rfl, if_pos (by rw [List.length_mapIdx]; exact hl), h]
    simp [zk_fv]
  · rw [if_neg e]
    have e2 : ¬ i = k := fun q => e q.symm
    cases hx : fs[i]? with
    | none => rfl
    | some x =>
      match x with
      | 0 => simp [zk_fv]
      | 1 => simp [zk_fv, e2]
      | n + 2 => simp [zk_fv]
/-- a field of the tables: own's constant idx is field k of class ci, of type ty, final or not -/
def zk_Fl (own : String) (idx ci k : Nat) (ty : FieldType) (fin : Bool) : Prop := ∃ (C : String) (T : u_T) (N : Nat) (ty0 : Nat → FieldType), vwCl[ci]? = some (C, T, N) ∧ k < N ∧ Cond.fieldLink own idx (T k).1 (T k).2.1 (T k).2.2.1 ∈ zk_tb ∧ (∀ w ∈ u_ws C T N, w ∈ zk_tb) ∧ (∀ k, k < N → parseFieldDescriptor (T k).2.2.1 = some (ty0 k)) ∧ (∀ a, a < N → ∀ b, b < N → a ≠ b → (T a).2.1 ≠ (T b).2.1) ∧ ty0 k = ty ∧ (T k).2.2.2 = fin
section ZI
variable {d : Nat} {own : String} {cc : ByteArray} {nL : Nat} {ret : Option FieldType} {sx : Option (Nat × (Nat → Int32))} {ls st : List Value} {mu : Mem} {lm : MemL} {Q : Option Value → Mem → MemL → Prop} {pc : Nat}
theorem zk_iconst {n : Int} {v : Int32} (hd : decode cc pc = .ok (.iconst n, 1)) (hv : Int32.ofInt n = v) (k : zk_M d own cc nL ret sx (pc + 1) ls (.int v :: st) mu lm Q) : zk_M d own cc nL ret sx pc ls st mu lm Q := by
  intro p l e R s m args below meth c D ρ γ A cells slots H locs Z lsr C Wd hls K
  obtain ⟨⟨hx, hb, hml, hown, hts⟩, c2, hK, hA, c5, c8⟩ := id C
  exact lv_iconst hx hb hd hv (k p l e R s m args below meth c D ρ γ A cells slots H locs Z lsr C Wd hls K)
theorem zk_bipush {n : Int} {v : Int32} (hd : decode cc pc = .ok (.bipush n, 2)) (hv : (Int8.ofInt n).toInt32 = v) (k : zk_M d own cc nL ret sx (pc + 2) ls (.int v :: st) mu lm Q) : zk_M d own cc nL ret sx pc ls st mu lm Q := by
  intro p l e R s m args below meth c D ρ γ A cells slots H locs Z lsr C Wd hls K
  obtain ⟨⟨hx, hb, hml, hown, hts⟩, c2, hK, hA, c5, c8⟩ := id C
  exact lv_bipush hx hb hd hv (k p l e R s m args below meth c D ρ γ A cells slots H locs Z lsr C Wd hls K)
theorem zk_sipush {n : Int} {v : Int32} (hd : decode cc pc = .ok (.sipush n, 3)) (hv : (Int16.ofInt n).toInt32 = v) (k : zk_M d own cc nL ret sx (pc + 3) ls (.int v :: st) mu lm Q) : zk_M d own cc nL ret sx pc ls st mu lm Q := by
  intro p l e R s m args below meth c D ρ γ A cells slots H locs Z lsr C Wd hls K
  obtain ⟨⟨hx, hb, hml, hown, hts⟩, c2, hK, hA, c5, c8⟩ := id C
  exact lv_sipush hx hb hd hv (k p l e R s m args below meth c D ρ γ A cells slots H locs Z lsr C Wd hls K)
theorem zk_lconst {n : Fin 2} {v : Int64} (hd : decode cc pc = .ok (.lconst n, 1)) (hv : Int64.ofNat (n : Nat) = v) (k : zk_M d own cc nL ret sx (pc + 1) ls (.long v :: st) mu lm Q) : zk_M d own cc nL ret sx pc ls st mu lm Q := by
  intro p l e R s m args below meth c D ρ γ A cells slots H locs Z lsr C Wd hls K
  obtain ⟨⟨hx, hb, hml, hown, hts⟩, c2, hK, hA, c5, c8⟩ := id C
  exact lv_lconst hx hb hd hv (k p l e R s m args below meth c D ρ γ A cells slots H locs Z lsr C Wd hls K)
theorem zk_null  (hd : decode cc pc = .ok (.aconst_null, 1)) (k : zk_M d own cc nL ret sx (pc + 1) ls (.null :: st) mu lm Q) : zk_M d own cc nL ret sx pc ls st mu lm Q := by
  intro p l e R s m args below meth c D ρ γ A cells slots H locs Z lsr C Wd hls K
  obtain ⟨⟨hx, hb, hml, hown, hts⟩, c2, hK, hA, c5, c8⟩ := id C
  exact lv_null hx hb hd (k p l e R s m args below meth c D ρ γ A cells slots H locs Z lsr C Wd hls K)
theorem zk_ldc {idx : Nat} {v : Int32} (hd : decode cc pc = .ok (.ldc idx, 2)) (hv : Cond.constant own idx v ∈ zk_tb) (k : zk_M d own cc nL ret sx (pc + 2) ls (.int v :: st) mu lm Q) : zk_M d own cc nL ret sx pc ls st mu lm Q := by
  intro p l e R s m args below meth c D ρ γ A cells slots H locs Z lsr C Wd hls K
  obtain ⟨⟨hx, hb, hml, hown, hts⟩, c2, hK, hA, c5, c8⟩ := id C
  exact lv_ldc hx hb hown (hts _ hv) hd (k p l e R s m args below meth c D ρ γ A cells slots H locs Z lsr C Wd hls K)
theorem zk_ldcw {idx : Nat} {v : Int32} (hd : decode cc pc = .ok (.ldc_w idx, 3)) (hv : Cond.constant own idx v ∈ zk_tb) (k : zk_M d own cc nL ret sx (pc + 3) ls (.int v :: st) mu lm Q) : zk_M d own cc nL ret sx pc ls st mu lm Q := by
  intro p l e R s m args below meth c D ρ γ A cells slots H locs Z lsr C Wd hls K
  obtain ⟨⟨hx, hb, hml, hown, hts⟩, c2, hK, hA, c5, c8⟩ := id C
  exact lv_ldcw hx hb hown (hts _ hv) hd (k p l e R s m args below meth c D ρ γ A cells slots H locs Z lsr C Wd hls K)
theorem zk_ldc2 {idx : Nat} {v : Int64} (hd : decode cc pc = .ok (.ldc2_w idx, 3)) (hv : Cond.constantLong own idx v ∈ zk_tb) (k : zk_M d own cc nL ret sx (pc + 3) ls (.long v :: st) mu lm Q) : zk_M d own cc nL ret sx pc ls st mu lm Q := by
  intro p l e R s m args below meth c D ρ γ A cells slots H locs Z lsr C Wd hls K
  obtain ⟨⟨hx, hb, hml, hown, hts⟩, c2, hK, hA, c5, c8⟩ := id C
  exact lv_ldc2 hx hb hown (hts _ hv) hd (k p l e R s m args below meth c D ρ γ A cells slots H locs Z lsr C Wd hls K)
theorem zk_iload_n {k : Fin 4} {x : Int32} (i : Nat) (hd : decode cc pc = .ok (.iload_n k, 1)) (hi : (k : Nat) = i) (hv : ls[i]? = some (.int x)) (k : zk_M d own cc nL ret sx (pc + 1) ls (.int x :: st) mu lm Q) : zk_M d own cc nL ret sx pc ls st mu lm Q := by
  intro p l e R s m args below meth c D ρ γ A cells slots H locs Z lsr C Wd hls K
  obtain ⟨⟨hx, hb, hml, hown, hts⟩, c2, hK, hA, c5, c8⟩ := id C
  exact lv_iload_n hx hb hd hi (zk_at hls hv rfl) (k p l e R s m args below meth c D ρ γ A cells slots H locs Z lsr C Wd hls K)
theorem zk_iload {i : Nat} {x : Int32} (hd : decode cc pc = .ok (.iload i, 2)) (hv : ls[i]? = some (.int x)) (k : zk_M d own cc nL ret sx (pc + 2) ls (.int x :: st) mu lm Q) : zk_M d own cc nL ret sx pc ls st mu lm Q := by
  intro p l e R s m args below meth c D ρ γ A cells slots H locs Z lsr C Wd hls K
  obtain ⟨⟨hx, hb, hml, hown, hts⟩, c2, hK, hA, c5, c8⟩ := id C
  exact lv_iload hx hb hd (zk_at hls hv rfl) (k p l e R s m args below meth c D ρ γ A cells slots H locs Z lsr C Wd hls K)
theorem zk_lload_n {k : Fin 4} {x : Int64} (i : Nat) (hd : decode cc pc = .ok (.lload_n k, 1)) (hi : (k : Nat) = i) (hv : ls[i]? = some (.long x)) (k : zk_M d own cc nL ret sx (pc + 1) ls (.long x :: st) mu lm Q) : zk_M d own cc nL ret sx pc ls st mu lm Q := by
  intro p l e R s m args below meth c D ρ γ A cells slots H locs Z lsr C Wd hls K
  obtain ⟨⟨hx, hb, hml, hown, hts⟩, c2, hK, hA, c5, c8⟩ := id C
  exact lv_lload_n hx hb hd hi (zk_at hls hv rfl) (k p l e R s m args below meth c D ρ γ A cells slots H locs Z lsr C Wd hls K)
theorem zk_lload {i : Nat} {x : Int64} (hd : decode cc pc = .ok (.lload i, 2)) (hv : ls[i]? = some (.long x)) (k : zk_M d own cc nL ret sx (pc + 2) ls (.long x :: st) mu lm Q) : zk_M d own cc nL ret sx pc ls st mu lm Q := by
  intro p l e R s m args below meth c D ρ γ A cells slots H locs Z lsr C Wd hls K
  obtain ⟨⟨hx, hb, hml, hown, hts⟩, c2, hK, hA, c5, c8⟩ := id C
  exact lv_lload hx hb hd (zk_at hls hv rfl) (k p l e R s m args below meth c D ρ γ A cells slots H locs Z lsr C Wd hls K)
theorem zk_aload_n {k : Fin 4} {x : Nat} (i : Nat) (hd : decode cc pc = .ok (.aload_n k, 1)) (hi : (k : Nat) = i) (hv : ls[i]? = some (.ref x)) (k : zk_M d own cc nL ret sx (pc + 1) ls (.ref x :: st) mu lm Q) : zk_M d own cc nL ret sx pc ls st mu lm Q := by
  intro p l e R s m args below meth c D ρ γ A cells slots H locs Z lsr C Wd hls K
  obtain ⟨⟨hx, hb, hml, hown, hts⟩, c2, hK, hA, c5, c8⟩ := id C
  exact lv_aload_n hx hb hd hi (zk_at hls hv rfl) (k p l e R s m args below meth c D ρ γ A cells slots H locs Z lsr C Wd hls K)
theorem zk_aload {i : Nat} {x : Nat} (hd : decode cc pc = .ok (.aload i, 2)) (hv : ls[i]? = some (.ref x)) (k : zk_M d own cc nL ret sx (pc + 2) ls (.ref x :: st) mu lm Q) : zk_M d own cc nL ret sx pc ls st mu lm Q := by
  intro p l e R s m args below meth c D ρ γ A cells slots H locs Z lsr C Wd hls K
  obtain ⟨⟨hx, hb, hml, hown, hts⟩, c2, hK, hA, c5, c8⟩ := id C
  exact lv_aload hx hb hd (zk_at hls hv rfl) (k p l e R s m args below meth c D ρ γ A cells slots H locs Z lsr C Wd hls K)
theorem zk_aload_nN {k : Fin 4} (i : Nat) (hd : decode cc pc = .ok (.aload_n k, 1)) (hi : (k : Nat) = i) (hv : ls[i]? = some .null) (k : zk_M d own cc nL ret sx (pc + 1) ls (.null :: st) mu lm Q) : zk_M d own cc nL ret sx pc ls st mu lm Q := by
  intro p l e R s m args below meth c D ρ γ A cells slots H locs Z lsr C Wd hls K
  obtain ⟨⟨hx, hb, hml, hown, hts⟩, c2, hK, hA, c5, c8⟩ := id C
  exact lv_aload_nN hx hb hd hi (zk_at hls hv rfl) (k p l e R s m args below meth c D ρ γ A cells slots H locs Z lsr C Wd hls K)
theorem zk_aloadN {i : Nat} (hd : decode cc pc = .ok (.aload i, 2)) (hv : ls[i]? = some .null) (k : zk_M d own cc nL ret sx (pc + 2) ls (.null :: st) mu lm Q) : zk_M d own cc nL ret sx pc ls st mu lm Q := by
  intro p l e R s m args below meth c D ρ γ A cells slots H locs Z lsr C Wd hls K
  obtain ⟨⟨hx, hb, hml, hown, hts⟩, c2, hK, hA, c5, c8⟩ := id C
  exact lv_aloadN hx hb hd (zk_at hls hv rfl) (k p l e R s m args below meth c D ρ γ A cells slots H locs Z lsr C Wd hls K)
theorem zk_istore_n {k : Fin 4} (i : Nat) {x : Int32} (hd : decode cc pc = .ok (.istore_n k, 1)) (hi : (k : Nat) = i) (hn : i < nL) (k : zk_M d own cc nL ret sx (pc + 1) (zk_set ls i (.int x)) st mu lm Q) : zk_M d own cc nL ret sx pc ls (.int x :: st) mu lm Q := by
  intro p l e R s m args below meth c D ρ γ A cells slots H locs Z lsr C Wd hls K
  obtain ⟨⟨hx, hb, hml, hown, hts⟩, c2, hK, hA, c5, c8⟩ := id C
  exact lv_istore_n hx hb hd hi hls hn rfl (fun lsr2 hl2 => (k p l e R s m args below meth c D ρ γ A cells slots H locs Z lsr2 C Wd (zk_has_set (v := .int x) hl2) K))
theorem zk_istore (i : Nat) {x : Int32} (hd : decode cc pc = .ok (.istore i, 2)) (hn : i < nL) (k : zk_M d own cc nL ret sx (pc + 2) (zk_set ls i (.int x)) st mu lm Q) : zk_M d own cc nL ret sx pc ls (.int x :: st) mu lm Q := by
  intro p l e R s m args below meth c D ρ γ A cells slots H locs Z lsr C Wd hls K
  obtain ⟨⟨hx, hb, hml, hown, hts⟩, c2, hK, hA, c5, c8⟩ := id C
  exact lv_istore hx hb hd hls hn rfl (fun lsr2 hl2 => (k p l e R s m args below meth c D ρ γ A cells slots H locs Z lsr2 C Wd (zk_has_set (v := .int x) hl2) K))
theorem zk_lstore_n {k : Fin 4} (i : Nat) {x : Int64} (hd : decode cc pc = .ok (.lstore_n k, 1)) (hi : (k : Nat) = i) (hn : i + 1 < nL) (k : zk_M d own cc nL ret sx (pc + 1) (zk_set2 ls i (.long x)) st mu lm Q) : zk_M d own cc nL ret sx pc ls (.long x :: st) mu lm Q := by
  intro p l e R s m args below meth c D ρ γ A cells slots H locs Z lsr C Wd hls K
  obtain ⟨⟨hx, hb, hml, hown, hts⟩, c2, hK, hA, c5, c8⟩ := id C
  exact lv_lstore_n hx hb hd hi hls hn rfl (fun lsr2 hl2 => (k p l e R s m args below meth c D ρ γ A cells slots H locs Z lsr2 C Wd (zk_has_set2 (v := .long x) hl2) K))
theorem zk_lstore (i : Nat) {x : Int64} (hd : decode cc pc = .ok (.lstore i, 2)) (hn : i + 1 < nL) (k : zk_M d own cc nL ret sx (pc + 2) (zk_set2 ls i (.long x)) st mu lm Q) : zk_M d own cc nL ret sx pc ls (.long x :: st) mu lm Q := by
  intro p l e R s m args below meth c D ρ γ A cells slots H locs Z lsr C Wd hls K
  obtain ⟨⟨hx, hb, hml, hown, hts⟩, c2, hK, hA, c5, c8⟩ := id C
  exact lv_lstore hx hb hd hls hn rfl (fun lsr2 hl2 => (k p l e R s m args below meth c D ρ γ A cells slots H locs Z lsr2 C Wd (zk_has_set2 (v := .long x) hl2) K))
theorem zk_astore_n {k : Fin 4} (i : Nat) {x : Nat} (hd : decode cc pc = .ok (.astore_n k, 1)) (hi : (k : Nat) = i) (hn : i < nL) (k : zk_M d own cc nL ret sx (pc + 1) (zk_set ls i (.ref x)) st mu lm Q) : zk_M d own cc nL ret sx pc ls (.ref x :: st) mu lm Q := by
  intro p l e R s m args below meth c D ρ γ A cells slots H locs Z lsr C Wd hls K
  obtain ⟨⟨hx, hb, hml, hown, hts⟩, c2, hK, hA, c5, c8⟩ := id C
  exact lv_astore_n hx hb hd hi hls hn rfl (fun lsr2 hl2 => (k p l e R s m args below meth c D ρ γ A cells slots H locs Z lsr2 C Wd (zk_has_set (v := .ref x) hl2) K))
theorem zk_astore (i : Nat) {x : Nat} (hd : decode cc pc = .ok (.astore i, 2)) (hn : i < nL) (k : zk_M d own cc nL ret sx (pc + 2) (zk_set ls i (.ref x)) st mu lm Q) : zk_M d own cc nL ret sx pc ls (.ref x :: st) mu lm Q := by
  intro p l e R s m args below meth c D ρ γ A cells slots H locs Z lsr C Wd hls K
  obtain ⟨⟨hx, hb, hml, hown, hts⟩, c2, hK, hA, c5, c8⟩ := id C
  exact lv_astore hx hb hd hls hn rfl (fun lsr2 hl2 => (k p l e R s m args below meth c D ρ γ A cells slots H locs Z lsr2 C Wd (zk_has_set (v := .ref x) hl2) K))
theorem zk_astore_nN {k : Fin 4} (i : Nat) (hd : decode cc pc = .ok (.astore_n k, 1)) (hi : (k : Nat) = i) (hn : i < nL) (k : zk_M d own cc nL ret sx (pc + 1) (zk_set ls i .null) st mu lm Q) : zk_M d own cc nL ret sx pc ls (.null :: st) mu lm Q := by
  intro p l e R s m args below meth c D ρ γ A cells slots H locs Z lsr C Wd hls K
  obtain ⟨⟨hx, hb, hml, hown, hts⟩, c2, hK, hA, c5, c8⟩ := id C
  exact lv_astore_nN hx hb hd hi hls hn rfl (fun lsr2 hl2 => (k p l e R s m args below meth c D ρ γ A cells slots H locs Z lsr2 C Wd (zk_has_set (v := .null) hl2) K))
theorem zk_astoreN (i : Nat) (hd : decode cc pc = .ok (.astore i, 2)) (hn : i < nL) (k : zk_M d own cc nL ret sx (pc + 2) (zk_set ls i .null) st mu lm Q) : zk_M d own cc nL ret sx pc ls (.null :: st) mu lm Q := by
  intro p l e R s m args below meth c D ρ γ A cells slots H locs Z lsr C Wd hls K
  obtain ⟨⟨hx, hb, hml, hown, hts⟩, c2, hK, hA, c5, c8⟩ := id C
  exact lv_astoreN hx hb hd hls hn rfl (fun lsr2 hl2 => (k p l e R s m args below meth c D ρ γ A cells slots H locs Z lsr2 C Wd (zk_has_set (v := .null) hl2) K))
theorem zk_iinc {i : Nat} {n : Int} {x v : Int32} (hd : decode cc pc = .ok (.iinc i n, 3)) (hv : ls[i]? = some (.int x)) (he : x + Int32.ofInt n = v) (hn : i < nL) (k : zk_M d own cc nL ret sx (pc + 3) (zk_set ls i (.int v)) st mu lm Q) : zk_M d own cc nL ret sx pc ls st mu lm Q := by
  intro p l e R s m args below meth c D ρ γ A cells slots H locs Z lsr C Wd hls K
  obtain ⟨⟨hx, hb, hml, hown, hts⟩, c2, hK, hA, c5, c8⟩ := id C
  obtain ⟨j, hj⟩ := List.getElem?_of_mem (zk_mem_lv (ρ := ρ) (q := (i, .int x)) |>.mpr ⟨.int x, hv, rfl, rfl⟩)
  exact lv_iinc hx hb hd hls hj he hn rfl (fun lsr2 hl2 => (k p l e R s m args below meth c D ρ γ A cells slots H locs Z lsr2 C Wd (zk_has_set (v := .int v) hl2) K))
theorem zk_iadd {x y : Int32} (hd : decode cc pc = .ok (.iadd, 1)) (k : zk_M d own cc nL ret sx (pc + 1) ls (.int (x + y) :: st) mu lm Q) : zk_M d own cc nL ret sx pc ls (.int y :: .int x :: st) mu lm Q := by
  intro p l e R s m args below meth c D ρ γ A cells slots H locs Z lsr C Wd hls K
  obtain ⟨⟨hx, hb, hml, hown, hts⟩, c2, hK, hA, c5, c8⟩ := id C
  exact lv_iadd hx hb hd (k p l e R s m args below meth c D ρ γ A cells slots H locs Z lsr C Wd hls K)
theorem zk_isub {x y : Int32} (hd : decode cc pc = .ok (.isub, 1)) (k : zk_M d own cc nL ret sx (pc + 1) ls (.int (x - y) :: st) mu lm Q) : zk_M d own cc nL ret sx pc ls (.int y :: .int x :: st) mu lm Q := by
  intro p l e R s m args below meth c D ρ γ A cells slots H locs Z lsr C Wd hls K
  obtain ⟨⟨hx, hb, hml, hown, hts⟩, c2, hK, hA, c5, c8⟩ := id C
  exact lv_isub hx hb hd (k p l e R s m args below meth c D ρ γ A cells slots H locs Z lsr C Wd hls K)
theorem zk_imul {x y : Int32} (hd : decode cc pc = .ok (.imul, 1)) (k : zk_M d own cc nL ret sx (pc + 1) ls (.int (x * y) :: st) mu lm Q) : zk_M d own cc nL ret sx pc ls (.int y :: .int x :: st) mu lm Q := by
  intro p l e R s m args below meth c D ρ γ A cells slots H locs Z lsr C Wd hls K
  obtain ⟨⟨hx, hb, hml, hown, hts⟩, c2, hK, hA, c5, c8⟩ := id C
  exact lv_imul hx hb hd (k p l e R s m args below meth c D ρ γ A cells slots H locs Z lsr C Wd hls K)
theorem zk_iand {x y : Int32} (hd : decode cc pc = .ok (.iand, 1)) (k : zk_M d own cc nL ret sx (pc + 1) ls (.int (x &&& y) :: st) mu lm Q) : zk_M d own cc nL ret sx pc ls (.int y :: .int x :: st) mu lm Q := by
  intro p l e R s m args below meth c D ρ γ A cells slots H locs Z lsr C Wd hls K
  obtain ⟨⟨hx, hb, hml, hown, hts⟩, c2, hK, hA, c5, c8⟩ := id C
  exact lv_iand hx hb hd (k p l e R s m args below meth c D ρ γ A cells slots H locs Z lsr C Wd hls K)
theorem zk_ior {x y : Int32} (hd : decode cc pc = .ok (.ior, 1)) (k : zk_M d own cc nL ret sx (pc + 1) ls (.int (x ||| y) :: st) mu lm Q) : zk_M d own cc nL ret sx pc ls (.int y :: .int x :: st) mu lm Q := by
  intro p l e R s m args below meth c D ρ γ A cells slots H locs Z lsr C Wd hls K
  obtain ⟨⟨hx, hb, hml, hown, hts⟩, c2, hK, hA, c5, c8⟩ := id C
  exact lv_ior hx hb hd (k p l e R s m args below meth c D ρ γ A cells slots H locs Z lsr C Wd hls K)
theorem zk_ishl {x y : Int32} (hd : decode cc pc = .ok (.ishl, 1)) (k : zk_M d own cc nL ret sx (pc + 1) ls (.int (x <<< (y &&& 31)) :: st) mu lm Q) : zk_M d own cc nL ret sx pc ls (.int y :: .int x :: st) mu lm Q := by
  intro p l e R s m args below meth c D ρ γ A cells slots H locs Z lsr C Wd hls K
  obtain ⟨⟨hx, hb, hml, hown, hts⟩, c2, hK, hA, c5, c8⟩ := id C
  exact lv_ishl hx hb hd (k p l e R s m args below meth c D ρ γ A cells slots H locs Z lsr C Wd hls K)
theorem zk_ishr {x y : Int32} (hd : decode cc pc = .ok (.ishr, 1)) (k : zk_M d own cc nL ret sx (pc + 1) ls (.int (x >>> (y &&& 31)) :: st) mu lm Q) : zk_M d own cc nL ret sx pc ls (.int y :: .int x :: st) mu lm Q := by
  intro p l e R s m args below meth c D ρ γ A cells slots H locs Z lsr C Wd hls K
  obtain ⟨⟨hx, hb, hml, hown, hts⟩, c2, hK, hA, c5, c8⟩ := id C
  exact lv_ishr hx hb hd (k p l e R s m args below meth c D ρ γ A cells slots H locs Z lsr C Wd hls K)
theorem zk_iushr {x y : Int32} (hd : decode cc pc = .ok (.iushr, 1)) (k : zk_M d own cc nL ret sx (pc + 1) ls (.int (x.toUInt32 >>> (y.toUInt32 &&& Int32.toUInt32 31)).toInt32 :: st) mu lm Q) : zk_M d own cc nL ret sx pc ls (.int y :: .int x :: st) mu lm Q := by
  intro p l e R s m args below meth c D ρ γ A cells slots H locs Z lsr C Wd hls K
  obtain ⟨⟨hx, hb, hml, hown, hts⟩, c2, hK, hA, c5, c8⟩ := id C
  exact lv_iushr hx hb hd rfl (k p l e R s m args below meth c D ρ γ A cells slots H locs Z lsr C Wd hls K)
theorem zk_idiv {x y : Int32} (hd : decode cc pc = .ok (.idiv, 1)) (hne : ¬ y = 0) (k : zk_M d own cc nL ret sx (pc + 1) ls (.int (x / y) :: st) mu lm Q) : zk_M d own cc nL ret sx pc ls (.int y :: .int x :: st) mu lm Q := by
  intro p l e R s m args below meth c D ρ γ A cells slots H locs Z lsr C Wd hls K
  obtain ⟨⟨hx, hb, hml, hown, hts⟩, c2, hK, hA, c5, c8⟩ := id C
  exact lv_idiv hx hb hd hne (k p l e R s m args below meth c D ρ γ A cells slots H locs Z lsr C Wd hls K)
theorem zk_irem {x y : Int32} (hd : decode cc pc = .ok (.irem, 1)) (hne : ¬ y = 0) (k : zk_M d own cc nL ret sx (pc + 1) ls (.int (x - x / y * y) :: st) mu lm Q) : zk_M d own cc nL ret sx pc ls (.int y :: .int x :: st) mu lm Q := by
  intro p l e R s m args below meth c D ρ γ A cells slots H locs Z lsr C Wd hls K
  obtain ⟨⟨hx, hb, hml, hown, hts⟩, c2, hK, hA, c5, c8⟩ := id C
  exact lv_irem hx hb hd hne (k p l e R s m args below meth c D ρ γ A cells slots H locs Z lsr C Wd hls K)
theorem zk_ladd {x y : Int64} (hd : decode cc pc = .ok (.ladd, 1)) (k : zk_M d own cc nL ret sx (pc + 1) ls (.long (x + y) :: st) mu lm Q) : zk_M d own cc nL ret sx pc ls (.long y :: .long x :: st) mu lm Q := by
  intro p l e R s m args below meth c D ρ γ A cells slots H locs Z lsr C Wd hls K
  obtain ⟨⟨hx, hb, hml, hown, hts⟩, c2, hK, hA, c5, c8⟩ := id C
  exact lv_ladd hx hb hd (k p l e R s m args below meth c D ρ γ A cells slots H locs Z lsr C Wd hls K)
theorem zk_lsub {x y : Int64} (hd : decode cc pc = .ok (.lsub, 1)) (k : zk_M d own cc nL ret sx (pc + 1) ls (.long (x - y) :: st) mu lm Q) : zk_M d own cc nL ret sx pc ls (.long y :: .long x :: st) mu lm Q := by
  intro p l e R s m args below meth c D ρ γ A cells slots H locs Z lsr C Wd hls K
  obtain ⟨⟨hx, hb, hml, hown, hts⟩, c2, hK, hA, c5, c8⟩ := id C
  exact lv_lsub hx hb hd (k p l e R s m args below meth c D ρ γ A cells slots H locs Z lsr C Wd hls K)
theorem zk_lmul {x y : Int64} (hd : decode cc pc = .ok (.lmul, 1)) (k : zk_M d own cc nL ret sx (pc + 1) ls (.long (x * y) :: st) mu lm Q) : zk_M d own cc nL ret sx pc ls (.long y :: .long x :: st) mu lm Q := by
  intro p l e R s m args below meth c D ρ γ A cells slots H locs Z lsr C Wd hls K
  obtain ⟨⟨hx, hb, hml, hown, hts⟩, c2, hK, hA, c5, c8⟩ := id C
  exact lv_lmul hx hb hd (k p l e R s m args below meth c D ρ γ A cells slots H locs Z lsr C Wd hls K)
theorem zk_ldiv {x y : Int64} (hd : decode cc pc = .ok (.ldiv, 1)) (hne : ¬ y = 0) (k : zk_M d own cc nL ret sx (pc + 1) ls (.long (x / y) :: st) mu lm Q) : zk_M d own cc nL ret sx pc ls (.long y :: .long x :: st) mu lm Q := by
  intro p l e R s m args below meth c D ρ γ A cells slots H locs Z lsr C Wd hls K
  obtain ⟨⟨hx, hb, hml, hown, hts⟩, c2, hK, hA, c5, c8⟩ := id C
  exact lv_ldiv hx hb hd hne (k p l e R s m args below meth c D ρ γ A cells slots H locs Z lsr C Wd hls K)
theorem zk_lrem {x y : Int64} (hd : decode cc pc = .ok (.lrem, 1)) (hne : ¬ y = 0) (k : zk_M d own cc nL ret sx (pc + 1) ls (.long (x - x / y * y) :: st) mu lm Q) : zk_M d own cc nL ret sx pc ls (.long y :: .long x :: st) mu lm Q := by
  intro p l e R s m args below meth c D ρ γ A cells slots H locs Z lsr C Wd hls K
  obtain ⟨⟨hx, hb, hml, hown, hts⟩, c2, hK, hA, c5, c8⟩ := id C
  exact lv_lrem hx hb hd hne (k p l e R s m args below meth c D ρ γ A cells slots H locs Z lsr C Wd hls K)
theorem zk_lcmp {x y : Int64} (hd : decode cc pc = .ok (.lcmp, 1)) (k : zk_M d own cc nL ret sx (pc + 1) ls (.int (lg_cmp x y) :: st) mu lm Q) : zk_M d own cc nL ret sx pc ls (.long y :: .long x :: st) mu lm Q := by
  intro p l e R s m args below meth c D ρ γ A cells slots H locs Z lsr C Wd hls K
  obtain ⟨⟨hx, hb, hml, hown, hts⟩, c2, hK, hA, c5, c8⟩ := id C
  exact W.lcmp hx hb hd (k p l e R s m args below meth c D ρ γ A cells slots H locs Z lsr C Wd hls K)
theorem zk_i2l {x : Int32} (hd : decode cc pc = .ok (.i2l, 1)) (k : zk_M d own cc nL ret sx (pc + 1) ls (.long x.toInt64 :: st) mu lm Q) : zk_M d own cc nL ret sx pc ls (.int x :: st) mu lm Q := by
  intro p l e R s m args below meth c D ρ γ A cells slots H locs Z lsr C Wd hls K
  obtain ⟨⟨hx, hb, hml, hown, hts⟩, c2, hK, hA, c5, c8⟩ := id C
  exact lv_i2l hx hb hd rfl (k p l e R s m args below meth c D ρ γ A cells slots H locs Z lsr C Wd hls K)
theorem zk_l2i {x : Int64} (hd : decode cc pc = .ok (.l2i, 1)) (k : zk_M d own cc nL ret sx (pc + 1) ls (.int x.toInt32 :: st) mu lm Q) : zk_M d own cc nL ret sx pc ls (.long x :: st) mu lm Q := by
  intro p l e R s m args below meth c D ρ γ A cells slots H locs Z lsr C Wd hls K
  obtain ⟨⟨hx, hb, hml, hown, hts⟩, c2, hK, hA, c5, c8⟩ := id C
  exact lv_l2i hx hb hd rfl (k p l e R s m args below meth c D ρ γ A cells slots H locs Z lsr C Wd hls K)
theorem zk_i2b {x : Int32} (hd : decode cc pc = .ok (.i2b, 1)) (k : zk_M d own cc nL ret sx (pc + 1) ls (.int x.toInt8.toInt32 :: st) mu lm Q) : zk_M d own cc nL ret sx pc ls (.int x :: st) mu lm Q := by
  intro p l e R s m args below meth c D ρ γ A cells slots H locs Z lsr C Wd hls K
  obtain ⟨⟨hx, hb, hml, hown, hts⟩, c2, hK, hA, c5, c8⟩ := id C
  exact lv_i2b hx hb hd rfl (k p l e R s m args below meth c D ρ γ A cells slots H locs Z lsr C Wd hls K)
theorem zk_dup {v : Value} (hd : decode cc pc = .ok (.dup, 1)) (hv : v.category = 1) (k : zk_M d own cc nL ret sx (pc + 1) ls (v :: v :: st) mu lm Q) : zk_M d own cc nL ret sx pc ls (v :: st) mu lm Q := by
  intro p l e R s m args below meth c D ρ γ A cells slots H locs Z lsr C Wd hls K
  obtain ⟨⟨hx, hb, hml, hown, hts⟩, c2, hK, hA, c5, c8⟩ := id C
  exact lv_dup hx hb hd (by rw [zk_rv_cat]; exact hv) (k p l e R s m args below meth c D ρ γ A cells slots H locs Z lsr C Wd hls K)
theorem zk_dup2 {v w : Value} (hd : decode cc pc = .ok (.dup2, 1)) (hv : v.category = 1) (hw : w.category = 1) (k : zk_M d own cc nL ret sx (pc + 1) ls (v :: w :: v :: w :: st) mu lm Q) : zk_M d own cc nL ret sx pc ls (v :: w :: st) mu lm Q := by
  intro p l e R s m args below meth c D ρ γ A cells slots H locs Z lsr C Wd hls K
  obtain ⟨⟨hx, hb, hml, hown, hts⟩, c2, hK, hA, c5, c8⟩ := id C
  exact lv_dup2_11 hx hb hd (by rw [zk_rv_cat]; exact hv) (by rw [zk_rv_cat]; exact hw) (k p l e R s m args below meth c D ρ γ A cells slots H locs Z lsr C Wd hls K)
theorem zk_pop {v : Value} (hd : decode cc pc = .ok (.pop, 1)) (hv : v.category = 1) (k : zk_M d own cc nL ret sx (pc + 1) ls st mu lm Q) : zk_M d own cc nL ret sx pc ls (v :: st) mu lm Q := by
  intro p l e R s m args below meth c D ρ γ A cells slots H locs Z lsr C Wd hls K
  obtain ⟨⟨hx, hb, hml, hown, hts⟩, c2, hK, hA, c5, c8⟩ := id C
  exact lv_pop hx hb hd (by rw [zk_rv_cat]; exact hv) (k p l e R s m args below meth c D ρ γ A cells slots H locs Z lsr C Wd hls K)
theorem zk_if_eq {x : Int32} {off : Int} (tgt : Nat) (hd : decode cc pc = .ok (.ifCond .eq off, 3)) (ht : (pc : Int) + off = (tgt : Int)) (kt : x = 0 → zk_M d own cc nL ret sx tgt ls st mu lm Q) (kf : ¬ x = 0 → zk_M d own cc nL ret sx (pc + 3) ls st mu lm Q) : zk_M d own cc nL ret sx pc ls (.int x :: st) mu lm Q := by
  intro p l e R s m args below meth cd D ρ γ A cells slots H locs Z lsr C Wd hls K
  obtain ⟨⟨hx, hb, hml, hown, hts⟩, c2, hK, hA, c5, c8⟩ := id C
  exact lv_if_eq hx hb hd ht (fun q => (kt q p l e R s m args below meth cd D ρ γ A cells slots H locs Z lsr C Wd hls K)) (fun q => (kf q p l e R s m args below meth cd D ρ γ A cells slots H locs Z lsr C Wd hls K))
theorem zk_icmp_eq {x y : Int32} {off : Int} (tgt : Nat) (hd : decode cc pc = .ok (.if_icmp .eq off, 3)) (ht : (pc : Int) + off = (tgt : Int)) (kt : x = y → zk_M d own cc nL ret sx tgt ls st mu lm Q) (kf : ¬ x = y → zk_M d own cc nL ret sx (pc + 3) ls st mu lm Q) : zk_M d own cc nL ret sx pc ls (.int y :: .int x :: st) mu lm Q := by
  intro p l e R s m args below meth cd D ρ γ A cells slots H locs Z lsr C Wd hls K
  obtain ⟨⟨hx, hb, hml, hown, hts⟩, c2, hK, hA, c5, c8⟩ := id C
  exact lv_icmp_eq hx hb hd ht (fun q => (kt q p l e R s m args below meth cd D ρ γ A cells slots H locs Z lsr C Wd hls K)) (fun q => (kf q p l e R s m args below meth cd D ρ γ A cells slots H locs Z lsr C Wd hls K))
theorem zk_if_ne {x : Int32} {off : Int} (tgt : Nat) (hd : decode cc pc = .ok (.ifCond .ne off, 3)) (ht : (pc : Int) + off = (tgt : Int)) (kt : ¬ x = 0 → zk_M d own cc nL ret sx tgt ls st mu lm Q) (kf : x = 0 → zk_M d own cc nL ret sx (pc + 3) ls st mu lm Q) : zk_M d own cc nL ret sx pc ls (.int x :: st) mu lm Q := by
  intro p l e R s m args below meth cd D ρ γ A cells slots H locs Z lsr C Wd hls K
  obtain ⟨⟨hx, hb, hml, hown, hts⟩, c2, hK, hA, c5, c8⟩ := id C
  exact lv_if_ne hx hb hd ht (fun q => (kt q p l e R s m args below meth cd D ρ γ A cells slots H locs Z lsr C Wd hls K)) (fun q => (kf q p l e R s m args below meth cd D ρ γ A cells slots H locs Z lsr C Wd hls K))
theorem zk_icmp_ne {x y : Int32} {off : Int} (tgt : Nat) (hd : decode cc pc = .ok (.if_icmp .ne off, 3)) (ht : (pc : Int) + off = (tgt : Int)) (kt : ¬ x = y → zk_M d own cc nL ret sx tgt ls st mu lm Q) (kf : x = y → zk_M d own cc nL ret sx (pc + 3) ls st mu lm Q) : zk_M d own cc nL ret sx pc ls (.int y :: .int x :: st) mu lm Q := by
  intro p l e R s m args below meth cd D ρ γ A cells slots H locs Z lsr C Wd hls K
  obtain ⟨⟨hx, hb, hml, hown, hts⟩, c2, hK, hA, c5, c8⟩ := id C
  exact lv_icmp_ne hx hb hd ht (fun q => (kt q p l e R s m args below meth cd D ρ γ A cells slots H locs Z lsr C Wd hls K)) (fun q => (kf q p l e R s m args below meth cd D ρ γ A cells slots H locs Z lsr C Wd hls K))
theorem zk_if_lt {x : Int32} {off : Int} (tgt : Nat) (hd : decode cc pc = .ok (.ifCond .lt off, 3)) (ht : (pc : Int) + off = (tgt : Int)) (kt : x < 0 → zk_M d own cc nL ret sx tgt ls st mu lm Q) (kf : ¬ x < 0 → zk_M d own cc nL ret sx (pc + 3) ls st mu lm Q) : zk_M d own cc nL ret sx pc ls (.int x :: st) mu lm Q := by
  intro p l e R s m args below meth cd D ρ γ A cells slots H locs Z lsr C Wd hls K
  obtain ⟨⟨hx, hb, hml, hown, hts⟩, c2, hK, hA, c5, c8⟩ := id C
  exact lv_if_lt hx hb hd ht (fun q => (kt q p l e R s m args below meth cd D ρ γ A cells slots H locs Z lsr C Wd hls K)) (fun q => (kf q p l e R s m args below meth cd D ρ γ A cells slots H locs Z lsr C Wd hls K))
theorem zk_icmp_lt {x y : Int32} {off : Int} (tgt : Nat) (hd : decode cc pc = .ok (.if_icmp .lt off, 3)) (ht : (pc : Int) + off = (tgt : Int)) (kt : x < y → zk_M d own cc nL ret sx tgt ls st mu lm Q) (kf : ¬ x < y → zk_M d own cc nL ret sx (pc + 3) ls st mu lm Q) : zk_M d own cc nL ret sx pc ls (.int y :: .int x :: st) mu lm Q := by
  intro p l e R s m args below meth cd D ρ γ A cells slots H locs Z lsr C Wd hls K
  obtain ⟨⟨hx, hb, hml, hown, hts⟩, c2, hK, hA, c5, c8⟩ := id C
  exact lv_icmp_lt hx hb hd ht (fun q => (kt q p l e R s m args below meth cd D ρ γ A cells slots H locs Z lsr C Wd hls K)) (fun q => (kf q p l e R s m args below meth cd D ρ γ A cells slots H locs Z lsr C Wd hls K))
theorem zk_if_ge {x : Int32} {off : Int} (tgt : Nat) (hd : decode cc pc = .ok (.ifCond .ge off, 3)) (ht : (pc : Int) + off = (tgt : Int)) (kt : 0 ≤ x → zk_M d own cc nL ret sx tgt ls st mu lm Q) (kf : ¬ 0 ≤ x → zk_M d own cc nL ret sx (pc + 3) ls st mu lm Q) : zk_M d own cc nL ret sx pc ls (.int x :: st) mu lm Q := by
  intro p l e R s m args below meth cd D ρ γ A cells slots H locs Z lsr C Wd hls K
  obtain ⟨⟨hx, hb, hml, hown, hts⟩, c2, hK, hA, c5, c8⟩ := id C
  exact lv_if_ge hx hb hd ht (fun q => (kt q p l e R s m args below meth cd D ρ γ A cells slots H locs Z lsr C Wd hls K)) (fun q => (kf q p l e R s m args below meth cd D ρ γ A cells slots H locs Z lsr C Wd hls K))
theorem zk_icmp_ge {x y : Int32} {off : Int} (tgt : Nat) (hd : decode cc pc = .ok (.if_icmp .ge off, 3)) (ht : (pc : Int) + off = (tgt : Int)) (kt : y ≤ x → zk_M d own cc nL ret sx tgt ls st mu lm Q) (kf : ¬ y ≤ x → zk_M d own cc nL ret sx (pc + 3) ls st mu lm Q) : zk_M d own cc nL ret sx pc ls (.int y :: .int x :: st) mu lm Q := by
  intro p l e R s m args below meth cd D ρ γ A cells slots H locs Z lsr C Wd hls K
  obtain ⟨⟨hx, hb, hml, hown, hts⟩, c2, hK, hA, c5, c8⟩ := id C
  exact lv_icmp_ge hx hb hd ht (fun q => (kt q p l e R s m args below meth cd D ρ γ A cells slots H locs Z lsr C Wd hls K)) (fun q => (kf q p l e R s m args below meth cd D ρ γ A cells slots H locs Z lsr C Wd hls K))
theorem zk_if_gt {x : Int32} {off : Int} (tgt : Nat) (hd : decode cc pc = .ok (.ifCond .gt off, 3)) (ht : (pc : Int) + off = (tgt : Int)) (kt : 0 < x → zk_M d own cc nL ret sx tgt ls st mu lm Q) (kf : ¬ 0 < x → zk_M d own cc nL ret sx (pc + 3) ls st mu lm Q) : zk_M d own cc nL ret sx pc ls (.int x :: st) mu lm Q := by
  intro p l e R s m args below meth cd D ρ γ A cells slots H locs Z lsr C Wd hls K
  obtain ⟨⟨hx, hb, hml, hown, hts⟩, c2, hK, hA, c5, c8⟩ := id C
  exact lv_if_gt hx hb hd ht (fun q => (kt q p l e R s m args below meth cd D ρ γ A cells slots H locs Z lsr C Wd hls K)) (fun q => (kf q p l e R s m args below meth cd D ρ γ A cells slots H locs Z lsr C Wd hls K))
theorem zk_icmp_gt {x y : Int32} {off : Int} (tgt : Nat) (hd : decode cc pc = .ok (.if_icmp .gt off, 3)) (ht : (pc : Int) + off = (tgt : Int)) (kt : y < x → zk_M d own cc nL ret sx tgt ls st mu lm Q) (kf : ¬ y < x → zk_M d own cc nL ret sx (pc + 3) ls st mu lm Q) : zk_M d own cc nL ret sx pc ls (.int y :: .int x :: st) mu lm Q := by
  intro p l e R s m args below meth cd D ρ γ A cells slots H locs Z lsr C Wd hls K
  obtain ⟨⟨hx, hb, hml, hown, hts⟩, c2, hK, hA, c5, c8⟩ := id C
  exact lv_icmp_gt hx hb hd ht (fun q => (kt q p l e R s m args below meth cd D ρ γ A cells slots H locs Z lsr C Wd hls K)) (fun q => (kf q p l e R s m args below meth cd D ρ γ A cells slots H locs Z lsr C Wd hls K))
theorem zk_if_le {x : Int32} {off : Int} (tgt : Nat) (hd : decode cc pc = .ok (.ifCond .le off, 3)) (ht : (pc : Int) + off = (tgt : Int)) (kt : x ≤ 0 → zk_M d own cc nL ret sx tgt ls st mu lm Q) (kf : ¬ x ≤ 0 → zk_M d own cc nL ret sx (pc + 3) ls st mu lm Q) : zk_M d own cc nL ret sx pc ls (.int x :: st) mu lm Q := by
  intro p l e R s m args below meth cd D ρ γ A cells slots H locs Z lsr C Wd hls K
  obtain ⟨⟨hx, hb, hml, hown, hts⟩, c2, hK, hA, c5, c8⟩ := id C
  exact lv_if_le hx hb hd ht (fun q => (kt q p l e R s m args below meth cd D ρ γ A cells slots H locs Z lsr C Wd hls K)) (fun q => (kf q p l e R s m args below meth cd D ρ γ A cells slots H locs Z lsr C Wd hls K))
theorem zk_icmp_le {x y : Int32} {off : Int} (tgt : Nat) (hd : decode cc pc = .ok (.if_icmp .le off, 3)) (ht : (pc : Int) + off = (tgt : Int)) (kt : x ≤ y → zk_M d own cc nL ret sx tgt ls st mu lm Q) (kf : ¬ x ≤ y → zk_M d own cc nL ret sx (pc + 3) ls st mu lm Q) : zk_M d own cc nL ret sx pc ls (.int y :: .int x :: st) mu lm Q := by
  intro p l e R s m args below meth cd D ρ γ A cells slots H locs Z lsr C Wd hls K
  obtain ⟨⟨hx, hb, hml, hown, hts⟩, c2, hK, hA, c5, c8⟩ := id C
  exact lv_icmp_le hx hb hd ht (fun q => (kt q p l e R s m args below meth cd D ρ γ A cells slots H locs Z lsr C Wd hls K)) (fun q => (kf q p l e R s m args below meth cd D ρ γ A cells slots H locs Z lsr C Wd hls K))
theorem zk_goto {off : Int} (tgt : Nat) (hd : decode cc pc = .ok (.goto off, 3)) (ht : (pc : Int) + off = (tgt : Int)) (k : zk_M d own cc nL ret sx tgt ls st mu lm Q) : zk_M d own cc nL ret sx pc ls st mu lm Q := by
  intro p l e R s m args below meth cd D ρ γ A cells slots H locs Z lsr C Wd hls K
  obtain ⟨⟨hx, hb, hml, hown, hts⟩, c2, hK, hA, c5, c8⟩ := id C
  exact lv_goto hx hb hd ht (k p l e R s m args below meth cd D ρ γ A cells slots H locs Z lsr C Wd hls K)
theorem zk_ifnull {x : Nat} {off : Int} (hd : decode cc pc = .ok (.ifnull off, 3)) (k : zk_M d own cc nL ret sx (pc + 3) ls st mu lm Q) : zk_M d own cc nL ret sx pc ls (.ref x :: st) mu lm Q := by
  intro p l e R s m args below meth cd D ρ γ A cells slots H locs Z lsr C Wd hls K
  obtain ⟨⟨hx, hb, hml, hown, hts⟩, c2, hK, hA, c5, c8⟩ := id C
  exact lv_ifnull hx hb hd (k p l e R s m args below meth cd D ρ γ A cells slots H locs Z lsr C Wd hls K)
theorem zk_ifnullN {off : Int} (tgt : Nat) (hd : decode cc pc = .ok (.ifnull off, 3)) (ht : (pc : Int) + off = (tgt : Int)) (k : zk_M d own cc nL ret sx tgt ls st mu lm Q) : zk_M d own cc nL ret sx pc ls (.null :: st) mu lm Q := by
  intro p l e R s m args below meth cd D ρ γ A cells slots H locs Z lsr C Wd hls K
  obtain ⟨⟨hx, hb, hml, hown, hts⟩, c2, hK, hA, c5, c8⟩ := id C
  exact lv_ifnullN hx hb hd ht (k p l e R s m args below meth cd D ρ γ A cells slots H locs Z lsr C Wd hls K)
theorem zk_ifnonnull {x : Nat} {off : Int} (tgt : Nat) (hd : decode cc pc = .ok (.ifnonnull off, 3)) (ht : (pc : Int) + off = (tgt : Int)) (k : zk_M d own cc nL ret sx tgt ls st mu lm Q) : zk_M d own cc nL ret sx pc ls (.ref x :: st) mu lm Q := by
  intro p l e R s m args below meth cd D ρ γ A cells slots H locs Z lsr C Wd hls K
  obtain ⟨⟨hx, hb, hml, hown, hts⟩, c2, hK, hA, c5, c8⟩ := id C
  exact lv_ifnonnull hx hb hd ht (k p l e R s m args below meth cd D ρ γ A cells slots H locs Z lsr C Wd hls K)
theorem zk_ifnonnullN {off : Int} (hd : decode cc pc = .ok (.ifnonnull off, 3)) (k : zk_M d own cc nL ret sx (pc + 3) ls st mu lm Q) : zk_M d own cc nL ret sx pc ls (.null :: st) mu lm Q := by
  intro p l e R s m args below meth cd D ρ γ A cells slots H locs Z lsr C Wd hls K
  obtain ⟨⟨hx, hb, hml, hown, hts⟩, c2, hK, hA, c5, c8⟩ := id C
  exact lv_ifnonnullN hx hb hd (k p l e R s m args below meth cd D ρ γ A cells slots H locs Z lsr C Wd hls K)
theorem zk_tabIn {dflt lo hi : Int} {offs : Array Int} {len : Nat} {x : Int32} {off : Int} (tgt : Nat) (hd : decode cc pc = .ok (.tableswitch dflt lo hi offs, len)) (h1 : ¬ x.toInt < lo) (h2 : ¬ hi < x.toInt) (ho : offs[(x.toInt - lo).toNat]? = some off) (ht : (pc : Int) + off = (tgt : Int)) (k : zk_M d own cc nL ret sx tgt ls st mu lm Q) : zk_M d own cc nL ret sx pc ls (.int x :: st) mu lm Q := by
  intro p l e R s m args below meth cd D ρ γ A cells slots H locs Z lsr C Wd hls K
  obtain ⟨⟨hx, hb, hml, hown, hts⟩, c2, hK, hA, c5, c8⟩ := id C
  exact lv_tableIn hx hb hd h1 h2 ho ht (k p l e R s m args below meth cd D ρ γ A cells slots H locs Z lsr C Wd hls K)
theorem zk_tabOut {dflt lo hi : Int} {offs : Array Int} {len : Nat} {x : Int32} (tgt : Nat) (hd : decode cc pc = .ok (.tableswitch dflt lo hi offs, len)) (h : x.toInt < lo ∨ hi < x.toInt) (ht : (pc : Int) + dflt = (tgt : Int)) (k : zk_M d own cc nL ret sx tgt ls st mu lm Q) : zk_M d own cc nL ret sx pc ls (.int x :: st) mu lm Q := by
  intro p l e R s m args below meth cd D ρ γ A cells slots H locs Z lsr C Wd hls K
  obtain ⟨⟨hx, hb, hml, hown, hts⟩, c2, hK, hA, c5, c8⟩ := id C
  exact lv_tableOut hx hb hd h ht (k p l e R s m args below meth cd D ρ γ A cells slots H locs Z lsr C Wd hls K)
theorem zk_lookup {dflt : Int} {ps : Array (Int × Int)} {len : Nat} {x : Int32} {off : Int} (tgt : Nat) (hd : decode cc pc = .ok (.lookupswitch dflt ps, len)) (hp : (ps.toList.zip (ps.toList.drop 1)).all (fun (a, next) => a.1 < next.1) = true) (ho : Op.lookupswitch.offset ps.toList dflt x.toInt = off) (ht : (pc : Int) + off = (tgt : Int)) (k : zk_M d own cc nL ret sx tgt ls st mu lm Q) : zk_M d own cc nL ret sx pc ls (.int x :: st) mu lm Q := by
  intro p l e R s m args below meth cd D ρ γ A cells slots H locs Z lsr C Wd hls K
  obtain ⟨⟨hx, hb, hml, hown, hts⟩, c2, hK, hA, c5, c8⟩ := id C
  exact lv_lookup hx hb hd hp ho ht (k p l e R s m args below meth cd D ρ γ A cells slots H locs Z lsr C Wd hls K)
end ZI
end
section
section ZI2
variable {d : Nat} {own : String} {cc : ByteArray} {nL : Nat} {ret : Option FieldType} {sx : Option (Nat × (Nat → Int32))} {ls st : List Value} {mu : Mem} {lm : MemL} {Q : Option Value → Mem → MemL → Prop} {pc : Nat}
theorem zk_getV {idx ci kf c x : Nat} {fs : List Nat} {ty : FieldType} {fin : Bool} (v : Value) (hd : decode cc pc = .ok (.getfield idx, 3)) (hf : zk_Fl own idx ci kf ty fin) (hs : zk_shp[c]? = some (0, ci, fs)) (hk : fs[kf]? = some x) (hv : ∀ ρ : Nat → Nat, zk_fv ρ (mu c) (lm c) kf x = zk_rv ρ v) (k : zk_M d own cc nL ret sx (pc + 3) ls (v :: st) mu lm Q) : zk_M d own cc nL ret sx pc ls (.ref c :: st) mu lm Q := by
  intro p l e R s m args below meth cd D ρ γ A cells slots H locs Z lsr C Wd hls K
  obtain ⟨⟨hx, hb, hml, hown, hts⟩, c2, hK, hA, c5, c8⟩ := id C
  obtain ⟨C0, T0, N0, ty0, f1, f2, f3, f4, f5, f6, f7, f8⟩ := hf
  refine va_get hx hb hts f4 hown hK Wd.1 c (fs := fs.mapIdx (fun k x => zk_fv ρ (mu c) (lm c) k x)) (ci := ci) (zk_ws_at hs) f1 kf f2 (hts _ f3) (fun x h => h) (v := zk_rv ρ v) ?_ hd (k p l e R s m args below meth cd D ρ γ A cells slots H locs Z lsr C Wd hls K)
  rw [List.getElem?_mapIdx, hk, ← hv]; rfl
set_option maxHeartbeats 200000 in
theorem zk_getI {idx ci kf c : Nat} {fs : List Nat} {ty : FieldType} {fin : Bool} (hd : decode cc pc = .ok (.getfield idx, 3)) (hf : zk_Fl own idx ci kf ty fin) (hs : zk_shp[c]? = some (0, ci, fs)) (hk : fs[kf]? = some 0) (k : zk_M d own cc nL ret sx (pc + 3) ls (.int (mu c kf) :: st) mu lm Q) : zk_M d own cc nL ret sx pc ls (.ref c :: st) mu lm Q := zk_getV (.int (mu c kf)) hd hf hs hk (fun _ => rfl) k
set_option maxHeartbeats 200000 in
theorem zk_getL {idx ci kf c : Nat} {fs : List Nat} {ty : FieldType} {fin : Bool} (hd : decode cc pc = .ok (.getfield idx, 3)) (hf : zk_Fl own idx ci kf ty fin) (hs : zk_shp[c]? = some (0, ci, fs)) (hk : fs[kf]? = some 1) (k : zk_M d own cc nL ret sx (pc + 3) ls (.long (lm c kf) :: st) mu lm Q) : zk_M d own cc nL ret sx pc ls (.ref c :: st) mu lm Q := zk_getV (.long (lm c kf)) hd hf hs hk (fun _ => rfl) k
set_option maxHeartbeats 200000 in
theorem zk_getR {idx ci kf c r : Nat} {fs : List Nat} {ty : FieldType} {fin : Bool} (hd : decode cc pc = .ok (.getfield idx, 3)) (hf : zk_Fl own idx ci kf ty fin) (hs : zk_shp[c]? = some (0, ci, fs)) (hk : fs[kf]? = some (r + 2)) (k : zk_M d own cc nL ret sx (pc + 3) ls (.ref r :: st) mu lm Q) : zk_M d own cc nL ret sx pc ls (.ref c :: st) mu lm Q := zk_getV (.ref r) hd hf hs hk (fun _ => rfl) k
set_option maxHeartbeats 200000 in
theorem zk_putI {idx ci kf c : Nat} {fs : List Nat} {v : Int32} (hd : decode cc pc = .ok (.putfield idx, 3)) (hf : zk_Fl own idx ci kf .int false) (hs : zk_shp[c]? = some (0, ci, fs)) (hk : fs[kf]? = some 0) (k : zk_M d own cc nL ret sx (pc + 3) ls st (zk_up mu c kf v) lm Q) : zk_M d own cc nL ret sx pc ls (.int v :: .ref c :: st) mu lm Q := by
  intro p l e R s m args below meth cd D ρ γ A cells slots H locs Z lsr C Wd hls K
  obtain ⟨⟨hx, hb, hml, hown, hts⟩, c2, hK, hA, c5, c8⟩ := id C
  obtain ⟨C0, T0, N0, ty0, f1, f2, f3, f4, f5, f6, f7, f8⟩ := hf
  refine va_put hx hb hts f4 ty0 f5 f6 hown hK Wd.1 Wd.2.1 Wd.2.2 c (fs := fs.mapIdx (fun k x => zk_fv ρ (mu c) (lm c) k x)) (ci := ci) (zk_ws_at hs) f1 kf f2 (hts _ f3) (fun x h => h) f8 (ty := .int) (v := .int v) (by rw [f5 kf f2, f7]) rfl rfl (by rw [List.length_mapIdx]; exact (List.getElem?_eq_some_iff.mp hk).1) hd (fun H1 locs1 hP1 hD1 hS1 => ?_)
  have ews : (zk_ws ρ γ mu lm).set c (ρ c, .inr (ci, (fs.mapIdx (fun k x => zk_fv ρ (mu c) (lm c) k x)).set kf (.int v))) = zk_ws ρ γ (zk_up mu c kf v) lm := by
    rw [zk_fs_set hk, ← zk_up_uc, ← congrArg (fun z => zk_ws ρ γ (zk_uc mu c fun j => if j = kf then v else mu c j) z) (zk_uc_self lm c)]
    exact zk_ws_set hs _ _
  rw [ews] at hP1 hD1
  exact (k p l e R s m args below meth cd D ρ γ A cells slots H1 locs1 Z lsr C ⟨hP1, hD1, hS1⟩ hls K)
set_option maxHeartbeats 200000 in
theorem zk_putL {idx ci kf c : Nat} {fs : List Nat} {v : Int64} (hd : decode cc pc = .ok (.putfield idx, 3)) (hf : zk_Fl own idx ci kf .long false) (hs : zk_shp[c]? = some (0, ci, fs)) (hk : fs[kf]? = some 1) (k : zk_M d own cc nL ret sx (pc + 3) ls st mu (zk_up lm c kf v) Q) : zk_M d own cc nL ret sx pc ls (.long v :: .ref c :: st) mu lm Q := by
  intro p l e R s m args below meth cd D ρ γ A cells slots H locs Z lsr C Wd hls K
  obtain ⟨⟨hx, hb, hml, hown, hts⟩, c2, hK, hA, c5, c8⟩ := id C
  obtain ⟨C0, T0, N0, ty0, f1, f2, f3, f4, f5, f6, f7, f8⟩ := hf
  refine va_put hx hb hts f4 ty0 f5 f6 hown hK Wd.1 Wd.2.1 Wd.2.2 c (fs := fs.mapIdx (fun k x => zk_fv ρ (mu c) (lm c) k x)) (ci := ci) (zk_ws_at hs) f1 kf f2 (hts _ f3) (fun x h => h) f8 (ty := .long) (v := .long v) (by rw [f5 kf f2, f7]) rfl rfl (by rw [List.length_mapIdx]; exact (List.getElem?_eq_some_iff.mp hk).1) hd (fun H1 locs1 hP1 hD1 hS1 => ?_)
  have ews : (zk_ws ρ γ mu lm).set c (ρ c, .inr (ci, (fs.mapIdx (fun k x => zk_fv ρ (mu c) (lm c) k x)).set kf (.long v))) = zk_ws ρ γ mu (zk_up lm c kf v) := by
    rw [zk_fs_setL hk, ← zk_up_uc, ← congrArg (fun z => zk_ws ρ γ z (zk_uc lm c fun j => if j = kf then v else lm c j)) (zk_uc_self mu c)]
    exact zk_ws_set hs _ _
  rw [ews] at hP1 hD1
  exact (k p l e R s m args below meth cd D ρ γ A cells slots H1 locs1 Z lsr C ⟨hP1, hD1, hS1⟩ hls K)
set_option maxHeartbeats 200000 in
theorem zk_iaload {c n : Nat} {rs : List Nat} {i : Int32} (j : Nat) (hd : decode cc pc = .ok (.iaload, 1)) (hs : zk_shp[c]? = some (1, n, rs)) (hi : i = nI j) (hj : j < n) (k : zk_M d own cc nL ret sx (pc + 1) ls (.int (mu c j) :: st) mu lm Q) : zk_M d own cc nL ret sx pc ls (.int i :: .ref c :: st) mu lm Q := by
  intro p l e R s m args below meth cd D ρ γ A cells slots H locs Z lsr C Wd hls K
  obtain ⟨⟨hx, hb, hml, hown, hts⟩, c2, hK, hA, c5, c8⟩ := id C
  obtain ⟨g1, g2⟩ := zk_ix hi hj (zk_sm hs)
  refine va_iald hx hb hK Wd.1 c 0 (cA := γ 0) (n := n) (f := mu c) (zk_ws_at hs) rfl g1 hd ?_
  rw [g2]
  exact (k p l e R s m args below meth cd D ρ γ A cells slots H locs Z lsr C Wd hls K)
set_option maxHeartbeats 200000 in
theorem zk_laload {c n : Nat} {rs : List Nat} {i : Int32} (j : Nat) (hd : decode cc pc = .ok (.laload, 1)) (hs : zk_shp[c]? = some (2, n, rs)) (hi : i = nI j) (hj : j < n) (k : zk_M d own cc nL ret sx (pc + 1) ls (.long (lm c j) :: st) mu lm Q) : zk_M d own cc nL ret sx pc ls (.int i :: .ref c :: st) mu lm Q := by
  intro p l e R s m args below meth cd D ρ γ A cells slots H locs Z lsr C Wd hls K
  obtain ⟨⟨hx, hb, hml, hown, hts⟩, c2, hK, hA, c5, c8⟩ := id C
  obtain ⟨g1, g2⟩ := zk_ix hi hj (zk_sm hs)
  refine va_lald hx hb hK Wd.1 c 1 (cA := γ 1) (n := n) (f := lm c) (zk_ws_at hs) rfl g1 hd ?_
  rw [g2]
  exact (k p l e R s m args below meth cd D ρ γ A cells slots H locs Z lsr C Wd hls K)
set_option maxHeartbeats 200000 in
theorem zk_iastore {c n : Nat} {rs : List Nat} {i v : Int32} (j : Nat) (hd : decode cc pc = .ok (.iastore, 1)) (hs : zk_shp[c]? = some (1, n, rs)) (hi : i = nI j) (hj : j < n) (k : zk_M d own cc nL ret sx (pc + 1) ls st (zk_up mu c j v) lm Q) : zk_M d own cc nL ret sx pc ls (.int v :: .int i :: .ref c :: st) mu lm Q := by
  intro p l e R s m args below meth cd D ρ γ A cells slots H locs Z lsr C Wd hls K
  obtain ⟨⟨hx, hb, hml, hown, hts⟩, c2, hK, hA, c5, c8⟩ := id C
  obtain ⟨g1, g2⟩ := zk_ix hi hj (zk_sm hs)
  refine va_iast hx hb hK Wd.1 Wd.2.1 Wd.2.2 c 0 (cA := γ 0) (n := n) (f := mu c) (zk_ws_at hs) rfl g1 hd (fun H1 locs1 hP1 hD1 hS1 => ?_)
  have ews : (zk_ws ρ γ mu lm).set c (ρ c, .inl (γ 0, n, .inl (upd (mu c) i.toNatClampNeg v))) = zk_ws ρ γ (zk_up mu c j v) lm := by
    rw [g2, ← zk_up_uc, ← congrArg (fun z => zk_ws ρ γ (zk_uc mu c fun q => if q = j then v else mu c q) z) (zk_uc_self lm c)]
    exact zk_ws_set hs _ _
  rw [ews] at hP1 hD1
  exact (k p l e R s m args below meth cd D ρ γ A cells slots H1 locs1 Z lsr C ⟨hP1, hD1, hS1⟩ hls K)
set_option maxHeartbeats 200000 in
theorem zk_lastore {c n : Nat} {rs : List Nat} {i : Int32} {v : Int64} (j : Nat) (hd : decode cc pc = .ok (.lastore, 1)) (hs : zk_shp[c]? = some (2, n, rs)) (hi : i = nI j) (hj : j < n) (k : zk_M d own cc nL ret sx (pc + 1) ls st mu (zk_up lm c j v) Q) : zk_M d own cc nL ret sx pc ls (.long v :: .int i :: .ref c :: st) mu lm Q := by
  intro p l e R s m args below meth cd D ρ γ A cells slots H locs Z lsr C Wd hls K
  obtain ⟨⟨hx, hb, hml, hown, hts⟩, c2, hK, hA, c5, c8⟩ := id C
  obtain ⟨g1, g2⟩ := zk_ix hi hj (zk_sm hs)
  refine va_last hx hb hK Wd.1 Wd.2.1 Wd.2.2 c 1 (cA := γ 1) (n := n) (f := lm c) (zk_ws_at hs) rfl g1 hd (fun H1 locs1 hP1 hD1 hS1 => ?_)
  have ews : (zk_ws ρ γ mu lm).set c (ρ c, .inl (γ 1, n, .inr (.inl (vp_updL (lm c) i.toNatClampNeg v)))) = zk_ws ρ γ mu (zk_up lm c j v) := by
    rw [g2, ← zk_up_uc, ← congrArg (fun z => zk_ws ρ γ z (zk_uc lm c fun q => if q = j then v else lm c q)) (zk_uc_self mu c)]
    exact zk_ws_set hs _ _
  rw [ews] at hP1 hD1
  exact (k p l e R s m args below meth cd D ρ γ A cells slots H1 locs1 Z lsr C ⟨hP1, hD1, hS1⟩ hls K)
set_option maxHeartbeats 200000 in
theorem zk_aaload {c n t r : Nat} {rs : List Nat} {i : Int32} (j : Nat) (hd : decode cc pc = .ok (.aaload, 1)) (hs : zk_shp[c]? = some (t + 3, n, rs)) (ht : t < 2) (hi : i = nI j) (hj : j < n) (hr : rs[j]? = some r) (k : zk_M d own cc nL ret sx (pc + 1) ls (.ref r :: st) mu lm Q) : zk_M d own cc nL ret sx pc ls (.int i :: .ref c :: st) mu lm Q := by
  intro p l e R s m args below meth cd D ρ γ A cells slots H locs Z lsr C Wd hls K
  obtain ⟨⟨hx, hb, hml, hown, hts⟩, c2, hK, hA, c5, c8⟩ := id C
  obtain ⟨g1, g2⟩ := zk_ix hi hj (zk_sm hs)
  have key := (k p l e R s m args below meth cd D ρ γ A cells slots H locs Z lsr C Wd hls K)
  have e : va_rf ((fun j => (rs[j]?).map ρ) i.toNatClampNeg) :: st.map (zk_rv ρ) = (Value.ref r :: st).map (zk_rv ρ) := by
    simp only [g2, hr]; rfl
  rw [← e] at key
  match t, ht, hs with
  | 0, _, hs => exact va_aldq hx hb hK Wd.1 c 2 (cA := γ 2) (C := RX4) (n := n) (f := fun j => (rs[j]?).map ρ) (zk_ws_at hs) rfl g1 hd key
  | 1, _, hs => exact va_aldq hx hb hK Wd.1 c 3 (cA := γ 3) (C := RX1) (n := n) (f := fun j => (rs[j]?).map ρ) (zk_ws_at hs) rfl g1 hd key
set_option maxHeartbeats 200000 in
theorem zk_aaload2 {c n r : Nat} {rs : List Nat} {i : Int32} (j : Nat) (hd : decode cc pc = .ok (.aaload, 1)) (hs : zk_shp[c]? = some (5, n, rs)) (hi : i = nI j) (hj : j < n) (hr : rs[j]? = some r) (k : zk_M d own cc nL ret sx (pc + 1) ls (.ref r :: st) mu lm Q) : zk_M d own cc nL ret sx pc ls (.int i :: .ref c :: st) mu lm Q := by
  intro p l e R s m args below meth cd D ρ γ A cells slots H locs Z lsr C Wd hls K
  obtain ⟨⟨hx, hb, hml, hown, hts⟩, c2, hK, hA, c5, c8⟩ := id C
  obtain ⟨g1, g2⟩ := zk_ix hi hj (zk_sm hs)
  have key := (k p l e R s m args below meth cd D ρ γ A cells slots H locs Z lsr C Wd hls K)
  have e : va_rf ((fun j => (rs[j]?).map ρ) i.toNatClampNeg) :: st.map (zk_rv ρ) = (Value.ref r :: st).map (zk_rv ρ) := by
    simp only [g2, hr]; rfl
  rw [← e] at key
  have hlt : i.toNatClampNeg < n := Nat.not_le.mp fun q => g1 (Or.inr q)
  exact W.aald (v := va_rf ((fun j => (rs[j]?).map ρ) i.toNatClampNeg)) (ty := .array .int) hx hb (Wd.1 c _ (zk_ws_at hs)) ((hK.2 4 _ rfl).1 n (fun j => va_rf ((fun j => (rs[j]?).map ρ) j))) rfl (fun q => by cases q) (by show ¬ (i < 0 ∨ (arrV _ _ _).slots.size ≤ _); rw [arrV_size]; exact g1) (by show (arrV _ _ _).slots[_]? = _; rw [arrV_read _ _ hlt]) rfl rfl hd key
set_option maxHeartbeats 200000 in
theorem zk_alen {c t n : Nat} {rs : List Nat} (hd : decode cc pc = .ok (.arraylength, 1)) (hs : zk_shp[c]? = some (t + 1, n, rs)) (ht : t < 5) (k : zk_M d own cc nL ret sx (pc + 1) ls (.int (nI n) :: st) mu lm Q) : zk_M d own cc nL ret sx pc ls (.ref c :: st) mu lm Q := by
  intro p l e R s m args below meth cd D ρ γ A cells slots H locs Z lsr C Wd hls K
  obtain ⟨⟨hx, hb, hml, hown, hts⟩, c2, hK, hA, c5, c8⟩ := id C
  have key := (k p l e R s m args below meth cd D ρ γ A cells slots H locs Z lsr C Wd hls K)
  match t, ht, hs with
  | 0, _, hs => exact va_alen hx hb hK Wd.1 c 0 (zk_ws_at hs) (ty := .int) rfl rfl hd key
  | 1, _, hs => exact va_alen hx hb hK Wd.1 c 1 (zk_ws_at hs) (ty := .long) rfl rfl hd key
  | 2, _, hs => exact va_alen hx hb hK Wd.1 c 2 (zk_ws_at hs) (ty := .object RX4) rfl rfl hd key
  | 3, _, hs => exact va_alen hx hb hK Wd.1 c 3 (zk_ws_at hs) (ty := .object RX1) rfl rfl hd key
  | 4, _, hs => exact va_alen hx hb hK Wd.1 c 4 (zk_ws_at hs) (ty := .array .int) rfl rfl hd key
set_option maxHeartbeats 200000 in
theorem zk_acopy {idx a a0 n0 n1 : Nat} {r0 r1 : List Nat} {sp dp n : Int32} (jsp jdp jn : Nat) (hd : decode cc pc = .ok (.invokestatic idx, 3)) (hl : Cond.methodLink own idx arraycopyName ∈ zk_tb) (hnat : Cond.native arraycopyName ∈ zk_tb) (hstat : Cond.static arraycopyName ∈ zk_tb) (hini : Cond.initialized "java/lang/System" ∈ zk_tb) (h0 : zk_shp[a0]? = some (1, n0, r0)) (h1 : zk_shp[a]? = some (1, n1, r1)) (hsp : sp = nI jsp) (hdp : dp = nI jdp) (hn : n = nI jn) (b0 : jsp + jn ≤ n0) (b1 : jdp + jn ≤ n1) (hc : (st.map fun v => v.category).sum ≤ 8) (hw : nativeFrameWords "java/lang/System" "arraycopy" 5 ≤ 40) (k : zk_M (d + 1) own cc nL ret sx (pc + 3) ls st (zk_uc mu a (va_cpy (mu a0) (mu a) jsp jdp jn)) lm Q) : zk_M (d + 1) own cc nL ret sx pc ls (.int n :: .int dp :: .ref a :: .int sp :: .ref a0 :: st) mu lm Q := by
  intro p l e R s m args below meth cd D ρ γ A cells slots H locs Z lsr C Wd hls K
  obtain ⟨⟨hx, hb, hml, hown, hts⟩, c2, hK, hA, ⟨c5, c6, c7⟩, c8⟩ := id C
  have s0 := zk_sm h0
  have s1 := zk_sm h1
  simp only at s0 s1
  have g1 : sp.toNatClampNeg = jsp := by rw [hsp]; exact nI_clamp (by omega)
  have g2 : dp.toNatClampNeg = jdp := by rw [hdp]; exact nI_clamp (by omega)
  have g3 : n.toNatClampNeg = jn := by rw [hn]; exact nI_clamp (by omega)
  refine va_copyi hx hb (hml.trans hls.1.symm) hown (hts _ hl) (hts _ hnat) (hts _ hstat) (hts _ hini) hK Wd.1 Wd.2.1 Wd.2.2 a0 a 0 0 (c0 := γ 0) (c1 := γ 0) (n0 := n0) (n1 := n1) (f := mu a0) (g := mu a) (zk_ws_at h0) (zk_ws_at h1) rfl rfl rfl (by rw [hsp]; exact nI_pos (by omega)) (by rw [hdp]; exact nI_pos (by omega)) (by rw [hn]; exact nI_pos (by omega)) (by rw [g1, g3]; exact b0) (by rw [g2, g3]; exact b1) (fun i hi => rfl) (by omega) (by rw [zk_cat]; omega) hd (fun H1 locs1 hP1 hD1 hS1 => ?_)
  have ews : (zk_ws ρ γ mu lm).set a (ρ a, .inl (γ 0, n1, .inl (va_cpy (mu a0) (mu a) sp.toNatClampNeg dp.toNatClampNeg n.toNatClampNeg))) = zk_ws ρ γ (zk_uc mu a (va_cpy (mu a0) (mu a) jsp jdp jn)) lm := by
    rw [g1, g2, g3, ← congrArg (fun z => zk_ws ρ γ (zk_uc mu a (va_cpy (mu a0) (mu a) jsp jdp jn)) z) (zk_uc_self lm a)]
    exact zk_ws_set h1 _ _
  rw [ews] at hP1 hD1
  exact (k p l e R s m args below meth cd D ρ γ A cells slots H1 locs1 Z lsr C ⟨hP1, hD1, hS1⟩ hls K)
set_option maxHeartbeats 200000 in
theorem zk_sload {L : Nat} {xs : Nat → Int32} {i : Int32} (j : Nat) (hd : decode cc pc = .ok (.iaload, 1)) (hsx : sx = some (L, xs)) (hi : i = nI j) (hj : j < L) (hL : L < 2 ^ 31) (k : zk_M d own cc nL ret sx (pc + 1) ls (.int (xs j) :: st) mu lm Q) : zk_M d own cc nL ret sx pc ls (.int i :: .ref 99 :: st) mu lm Q := by
  intro p l e R s m args below meth cd D ρ γ A cells slots H locs Z lsr C Wd hls K
  obtain ⟨⟨hx, hb, hml, hown, hts⟩, c2, hK, hA, c5, c8⟩ := id C
  obtain ⟨g1, g2⟩ := zk_ix hi hj hL
  obtain ⟨x1, x2, x3⟩ := c8 L xs hsx
  refine va_sld hx hb x1 x2 x3 Wd.2.2 g1 hd ?_
  rw [g2]
  exact (k p l e R s m args below meth cd D ρ γ A cells slots H locs Z lsr C Wd hls K)
set_option maxHeartbeats 200000 in
theorem zk_slen {L : Nat} {xs : Nat → Int32} (hd : decode cc pc = .ok (.arraylength, 1)) (hsx : sx = some (L, xs)) (k : zk_M d own cc nL ret sx (pc + 1) ls (.int (nI L) :: st) mu lm Q) : zk_M d own cc nL ret sx pc ls (.ref 99 :: st) mu lm Q := by
  intro p l e R s m args below meth cd D ρ γ A cells slots H locs Z lsr C Wd hls K
  obtain ⟨⟨hx, hb, hml, hown, hts⟩, c2, hK, hA, c5, c8⟩ := id C
  obtain ⟨x1, x2, x3⟩ := c8 L xs hsx
  exact va_slen hx hb x1 x2 x3 Wd.2.2 hd (k p l e R s m args below meth cd D ρ γ A cells slots H locs Z lsr C Wd hls K)
end ZI2
end
