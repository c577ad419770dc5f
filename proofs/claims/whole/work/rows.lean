section
-- ===== PART A: goes FIRST, ahead of the names: the tables' words, and 'selects' of the private methods out of them =====
/-- a private method of a class that the tables say can be made, by its rows of tables_1 -/
def lw_okq (q : MethodName × Nat) : Prop := (q.1.cls ≠ "java/lang/invoke/MethodHandle" ∧ q.1.cls ≠ "java/lang/invoke/VarHandle") ∧ Cond.instantiable q.1.cls q.2 ∈ tables_1 ∧ Cond.privateMethod q.1 ∈ tables_1 ∧ Cond.instanceMethod q.1 ∈ tables_1
theorem lw_p0 : lw_okq (⟨"WishSharer$Roll", "firstProjectWith", "(I[I)I"⟩, 5) := ⟨⟨by decide +kernel, by decide +kernel⟩, List.mem_of_getElem? (i := 26) (by decide +kernel), List.mem_of_getElem? (i := 356) (by decide +kernel), List.mem_of_getElem? (i := 357) (by decide +kernel)⟩
theorem lw_p1 : lw_okq (⟨"WishSharer$Roll", "groupOf", "([II)I"⟩, 5) := ⟨⟨by decide +kernel, by decide +kernel⟩, List.mem_of_getElem? (i := 26) (by decide +kernel), List.mem_of_getElem? (i := 360) (by decide +kernel), List.mem_of_getElem? (i := 361) (by decide +kernel)⟩
theorem lw_p2 : lw_okq (⟨"WishSharer$Roll", "groupHas", "(III)Z"⟩, 5) := ⟨⟨by decide +kernel, by decide +kernel⟩, List.mem_of_getElem? (i := 26) (by decide +kernel), List.mem_of_getElem? (i := 364) (by decide +kernel), List.mem_of_getElem? (i := 365) (by decide +kernel)⟩
theorem lw_p3 : lw_okq (⟨"WishSharer$Roll", "lacksSkill", "(LWishSharer$Project;I)Z"⟩, 5) := ⟨⟨by decide +kernel, by decide +kernel⟩, List.mem_of_getElem? (i := 26) (by decide +kernel), List.mem_of_getElem? (i := 381) (by decide +kernel), List.mem_of_getElem? (i := 382) (by decide +kernel)⟩
theorem lw_p4 : lw_okq (⟨"WishSharer$Roll", "firstPupilWith", "(I[I)I"⟩, 5) := ⟨⟨by decide +kernel, by decide +kernel⟩, List.mem_of_getElem? (i := 26) (by decide +kernel), List.mem_of_getElem? (i := 386) (by decide +kernel), List.mem_of_getElem? (i := 387) (by decide +kernel)⟩
theorem lw_p5 : lw_okq (⟨"WishSharer$Roll", "pupilHas", "(II[I)Z"⟩, 5) := ⟨⟨by decide +kernel, by decide +kernel⟩, List.mem_of_getElem? (i := 26) (by decide +kernel), List.mem_of_getElem? (i := 390) (by decide +kernel), List.mem_of_getElem? (i := 391) (by decide +kernel)⟩
theorem lw_p6 : lw_okq (⟨"WishSharer$Search", "begin", "(JJZ)V"⟩, 12) := ⟨⟨by decide +kernel, by decide +kernel⟩, List.mem_of_getElem? (i := 125) (by decide +kernel), List.mem_of_getElem? (i := 437) (by decide +kernel), List.mem_of_getElem? (i := 438) (by decide +kernel)⟩
theorem lw_p7 : lw_okq (⟨"WishSharer$Search", "judge", "(JJ)V"⟩, 12) := ⟨⟨by decide +kernel, by decide +kernel⟩, List.mem_of_getElem? (i := 125) (by decide +kernel), List.mem_of_getElem? (i := 445) (by decide +kernel), List.mem_of_getElem? (i := 446) (by decide +kernel)⟩
theorem lw_p8 : lw_okq (⟨"WishSharer$Search", "isPresent", "(I)Z"⟩, 12) := ⟨⟨by decide +kernel, by decide +kernel⟩, List.mem_of_getElem? (i := 125) (by decide +kernel), List.mem_of_getElem? (i := 456) (by decide +kernel), List.mem_of_getElem? (i := 457) (by decide +kernel)⟩
theorem lw_p9 : lw_okq (⟨"WishSharer$Search", "friendsBefore", "(I[I)I"⟩, 12) := ⟨⟨by decide +kernel, by decide +kernel⟩, List.mem_of_getElem? (i := 125) (by decide +kernel), List.mem_of_getElem? (i := 489) (by decide +kernel), List.mem_of_getElem? (i := 490) (by decide +kernel)⟩
theorem lw_p10 : lw_okq (⟨"WishSharer", "countRanks", "(I)I"⟩, 8) := ⟨⟨by decide +kernel, by decide +kernel⟩, List.mem_of_getElem? (i := 18) (by decide +kernel), List.mem_of_getElem? (i := 497) (by decide +kernel), List.mem_of_getElem? (i := 498) (by decide +kernel)⟩
theorem lw_p11 : lw_okq (⟨"WishSharer", "isPlaced", "(I)Z"⟩, 8) := ⟨⟨by decide +kernel, by decide +kernel⟩, List.mem_of_getElem? (i := 18) (by decide +kernel), List.mem_of_getElem? (i := 501) (by decide +kernel), List.mem_of_getElem? (i := 502) (by decide +kernel)⟩
theorem lw_p12 : lw_okq (⟨"WishSharer", "rankByPlan", "(I)I"⟩, 8) := ⟨⟨by decide +kernel, by decide +kernel⟩, List.mem_of_getElem? (i := 18) (by decide +kernel), List.mem_of_getElem? (i := 505) (by decide +kernel), List.mem_of_getElem? (i := 506) (by decide +kernel)⟩
theorem lw_p13 : lw_okq (⟨"WishSharer", "grief", "()I"⟩, 8) := ⟨⟨by decide +kernel, by decide +kernel⟩, List.mem_of_getElem? (i := 18) (by decide +kernel), List.mem_of_getElem? (i := 509) (by decide +kernel), List.mem_of_getElem? (i := 510) (by decide +kernel)⟩
theorem lw_p14 : lw_okq (⟨"WishSharer", "friendPairs", "()I"⟩, 8) := ⟨⟨by decide +kernel, by decide +kernel⟩, List.mem_of_getElem? (i := 18) (by decide +kernel), List.mem_of_getElem? (i := 518) (by decide +kernel), List.mem_of_getElem? (i := 519) (by decide +kernel)⟩
theorem lw_p15 : lw_okq (⟨"WishSharer", "projectsUsed", "()I"⟩, 8) := ⟨⟨by decide +kernel, by decide +kernel⟩, List.mem_of_getElem? (i := 18) (by decide +kernel), List.mem_of_getElem? (i := 526) (by decide +kernel), List.mem_of_getElem? (i := 527) (by decide +kernel)⟩
def lw_privs_1 : List (MethodName × Nat) := [(⟨"WishSharer$Roll", "firstProjectWith", "(I[I)I"⟩, 5), (⟨"WishSharer$Roll", "groupOf", "([II)I"⟩, 5), (⟨"WishSharer$Roll", "groupHas", "(III)Z"⟩, 5), (⟨"WishSharer$Roll", "lacksSkill", "(LWishSharer$Project;I)Z"⟩, 5), (⟨"WishSharer$Roll", "firstPupilWith", "(I[I)I"⟩, 5), (⟨"WishSharer$Roll", "pupilHas", "(II[I)Z"⟩, 5), (⟨"WishSharer$Search", "begin", "(JJZ)V"⟩, 12), (⟨"WishSharer$Search", "judge", "(JJ)V"⟩, 12), (⟨"WishSharer$Search", "isPresent", "(I)Z"⟩, 12), (⟨"WishSharer$Search", "friendsBefore", "(I[I)I"⟩, 12), (⟨"WishSharer", "countRanks", "(I)I"⟩, 8), (⟨"WishSharer", "isPlaced", "(I)Z"⟩, 8), (⟨"WishSharer", "rankByPlan", "(I)I"⟩, 8), (⟨"WishSharer", "grief", "()I"⟩, 8), (⟨"WishSharer", "friendPairs", "()I"⟩, 8), (⟨"WishSharer", "projectsUsed", "()I"⟩, 8)]
theorem lw_r1 : ∀ q ∈ lw_privs_1, lw_okq q := List.forall_mem_cons.mpr ⟨lw_p0, List.forall_mem_cons.mpr ⟨lw_p1, List.forall_mem_cons.mpr ⟨lw_p2, List.forall_mem_cons.mpr ⟨lw_p3, List.forall_mem_cons.mpr ⟨lw_p4, List.forall_mem_cons.mpr ⟨lw_p5, List.forall_mem_cons.mpr ⟨lw_p6, List.forall_mem_cons.mpr ⟨lw_p7, List.forall_mem_cons.mpr ⟨lw_p8, List.forall_mem_cons.mpr ⟨lw_p9, List.forall_mem_cons.mpr ⟨lw_p10, List.forall_mem_cons.mpr ⟨lw_p11, List.forall_mem_cons.mpr ⟨lw_p12, List.forall_mem_cons.mpr ⟨lw_p13, List.forall_mem_cons.mpr ⟨lw_p14, List.forall_mem_cons.mpr ⟨lw_p15, fun _ h => absurd h List.not_mem_nil⟩⟩⟩⟩⟩⟩⟩⟩⟩⟩⟩⟩⟩⟩⟩⟩
theorem lw_p16 : lw_okq (⟨"WishSharer", "bothGain", "(II)Z"⟩, 8) := ⟨⟨by decide +kernel, by decide +kernel⟩, List.mem_of_getElem? (i := 18) (by decide +kernel), List.mem_of_getElem? (i := 534) (by decide +kernel), List.mem_of_getElem? (i := 535) (by decide +kernel)⟩
theorem lw_p17 : lw_okq (⟨"WishSharer", "gains", "(II)Z"⟩, 8) := ⟨⟨by decide +kernel, by decide +kernel⟩, List.mem_of_getElem? (i := 18) (by decide +kernel), List.mem_of_getElem? (i := 538) (by decide +kernel), List.mem_of_getElem? (i := 539) (by decide +kernel)⟩
theorem lw_p18 : lw_okq (⟨"WishSharer", "rightAfterExchange", "(II)Z"⟩, 8) := ⟨⟨by decide +kernel, by decide +kernel⟩, List.mem_of_getElem? (i := 18) (by decide +kernel), List.mem_of_getElem? (i := 542) (by decide +kernel), List.mem_of_getElem? (i := 543) (by decide +kernel)⟩
theorem lw_p19 : lw_okq (⟨"WishSharer", "findPayingTale", "(ILWishSharer$Pupil;I)Z"⟩, 8) := ⟨⟨by decide +kernel, by decide +kernel⟩, List.mem_of_getElem? (i := 18) (by decide +kernel), List.mem_of_getElem? (i := 572) (by decide +kernel), List.mem_of_getElem? (i := 573) (by decide +kernel)⟩
theorem lw_p20 : lw_okq (⟨"WishSharer", "rankByTale", "(I)V"⟩, 8) := ⟨⟨by decide +kernel, by decide +kernel⟩, List.mem_of_getElem? (i := 18) (by decide +kernel), List.mem_of_getElem? (i := 576) (by decide +kernel), List.mem_of_getElem? (i := 577) (by decide +kernel)⟩
theorem lw_p21 : lw_okq (⟨"java/lang/Throwable", "fillInStackTrace", "(I)Ljava/lang/Throwable;"⟩, 6) := ⟨⟨by decide +kernel, by decide +kernel⟩, List.mem_of_getElem? (i := 665) (by decide +kernel), List.mem_of_getElem? (i := 663) (by decide +kernel), List.mem_of_getElem? (i := 664) (by decide +kernel)⟩
theorem lw_p22 : lw_okq (⟨"WishSharerModel", "isPupil", "(I)Z"⟩, 37) := ⟨⟨by decide +kernel, by decide +kernel⟩, List.mem_of_getElem? (i := 697) (by decide +kernel), List.mem_of_getElem? (i := 834) (by decide +kernel), List.mem_of_getElem? (i := 835) (by decide +kernel)⟩
theorem lw_p23 : lw_okq (⟨"WishSharerModel", "isProject", "(I)Z"⟩, 37) := ⟨⟨by decide +kernel, by decide +kernel⟩, List.mem_of_getElem? (i := 697) (by decide +kernel), List.mem_of_getElem? (i := 842) (by decide +kernel), List.mem_of_getElem? (i := 843) (by decide +kernel)⟩
theorem lw_p24 : lw_okq (⟨"WishSharerModel", "hasWish", "(II)Z"⟩, 37) := ⟨⟨by decide +kernel, by decide +kernel⟩, List.mem_of_getElem? (i := 697) (by decide +kernel), List.mem_of_getElem? (i := 846) (by decide +kernel), List.mem_of_getElem? (i := 847) (by decide +kernel)⟩
theorem lw_p25 : lw_okq (⟨"WishSharerModel", "add", "(II)V"⟩, 37) := ⟨⟨by decide +kernel, by decide +kernel⟩, List.mem_of_getElem? (i := 697) (by decide +kernel), List.mem_of_getElem? (i := 850) (by decide +kernel), List.mem_of_getElem? (i := 851) (by decide +kernel)⟩
theorem lw_p26 : lw_okq (⟨"WishSharerModel", "areTwo", "(II)Z"⟩, 37) := ⟨⟨by decide +kernel, by decide +kernel⟩, List.mem_of_getElem? (i := 697) (by decide +kernel), List.mem_of_getElem? (i := 863) (by decide +kernel), List.mem_of_getElem? (i := 864) (by decide +kernel)⟩
theorem lw_p27 : lw_okq (⟨"WishSharerModel", "present", "()I"⟩, 37) := ⟨⟨by decide +kernel, by decide +kernel⟩, List.mem_of_getElem? (i := 697) (by decide +kernel), List.mem_of_getElem? (i := 888) (by decide +kernel), List.mem_of_getElem? (i := 889) (by decide +kernel)⟩
theorem lw_p28 : lw_okq (⟨"WishSharerModel", "refuse", "()I"⟩, 37) := ⟨⟨by decide +kernel, by decide +kernel⟩, List.mem_of_getElem? (i := 697) (by decide +kernel), List.mem_of_getElem? (i := 897) (by decide +kernel), List.mem_of_getElem? (i := 898) (by decide +kernel)⟩
theorem lw_p29 : lw_okq (⟨"WishSharerModel", "rankOf", "(II)I"⟩, 37) := ⟨⟨by decide +kernel, by decide +kernel⟩, List.mem_of_getElem? (i := 697) (by decide +kernel), List.mem_of_getElem? (i := 901) (by decide +kernel), List.mem_of_getElem? (i := 902) (by decide +kernel)⟩
theorem lw_p30 : lw_okq (⟨"WishSharerModel", "wrongOf", "([I)I"⟩, 37) := ⟨⟨by decide +kernel, by decide +kernel⟩, List.mem_of_getElem? (i := 697) (by decide +kernel), List.mem_of_getElem? (i := 917) (by decide +kernel), List.mem_of_getElem? (i := 918) (by decide +kernel)⟩
theorem lw_p31 : lw_okq (⟨"WishSharerModel", "isSize", "(II)Z"⟩, 37) := ⟨⟨by decide +kernel, by decide +kernel⟩, List.mem_of_getElem? (i := 697) (by decide +kernel), List.mem_of_getElem? (i := 924) (by decide +kernel), List.mem_of_getElem? (i := 925) (by decide +kernel)⟩
def lw_privs_2 : List (MethodName × Nat) := [(⟨"WishSharer", "bothGain", "(II)Z"⟩, 8), (⟨"WishSharer", "gains", "(II)Z"⟩, 8), (⟨"WishSharer", "rightAfterExchange", "(II)Z"⟩, 8), (⟨"WishSharer", "findPayingTale", "(ILWishSharer$Pupil;I)Z"⟩, 8), (⟨"WishSharer", "rankByTale", "(I)V"⟩, 8), (⟨"java/lang/Throwable", "fillInStackTrace", "(I)Ljava/lang/Throwable;"⟩, 6), (⟨"WishSharerModel", "isPupil", "(I)Z"⟩, 37), (⟨"WishSharerModel", "isProject", "(I)Z"⟩, 37), (⟨"WishSharerModel", "hasWish", "(II)Z"⟩, 37), (⟨"WishSharerModel", "add", "(II)V"⟩, 37), (⟨"WishSharerModel", "areTwo", "(II)Z"⟩, 37), (⟨"WishSharerModel", "present", "()I"⟩, 37), (⟨"WishSharerModel", "refuse", "()I"⟩, 37), (⟨"WishSharerModel", "rankOf", "(II)I"⟩, 37), (⟨"WishSharerModel", "wrongOf", "([I)I"⟩, 37), (⟨"WishSharerModel", "isSize", "(II)Z"⟩, 37)]
theorem lw_r2 : ∀ q ∈ lw_privs_2, lw_okq q := List.forall_mem_cons.mpr ⟨lw_p16, List.forall_mem_cons.mpr ⟨lw_p17, List.forall_mem_cons.mpr ⟨lw_p18, List.forall_mem_cons.mpr ⟨lw_p19, List.forall_mem_cons.mpr ⟨lw_p20, List.forall_mem_cons.mpr ⟨lw_p21, List.forall_mem_cons.mpr ⟨lw_p22, List.forall_mem_cons.mpr ⟨lw_p23, List.forall_mem_cons.mpr ⟨lw_p24, List.forall_mem_cons.mpr ⟨lw_p25, List.forall_mem_cons.mpr ⟨lw_p26, List.forall_mem_cons.mpr ⟨lw_p27, List.forall_mem_cons.mpr ⟨lw_p28, List.forall_mem_cons.mpr ⟨lw_p29, List.forall_mem_cons.mpr ⟨lw_p30, List.forall_mem_cons.mpr ⟨lw_p31, fun _ h => absurd h List.not_mem_nil⟩⟩⟩⟩⟩⟩⟩⟩⟩⟩⟩⟩⟩⟩⟩⟩
theorem lw_p32 : lw_okq (⟨"WishSharerModel", "isTwice", "(II)Z"⟩, 37) := ⟨⟨by decide +kernel, by decide +kernel⟩, List.mem_of_getElem? (i := 697) (by decide +kernel), List.mem_of_getElem? (i := 928) (by decide +kernel), List.mem_of_getElem? (i := 929) (by decide +kernel)⟩
theorem lw_p33 : lw_okq (⟨"WishSharerModel", "isLed", "([III)Z"⟩, 37) := ⟨⟨by decide +kernel, by decide +kernel⟩, List.mem_of_getElem? (i := 697) (by decide +kernel), List.mem_of_getElem? (i := 932) (by decide +kernel), List.mem_of_getElem? (i := 933) (by decide +kernel)⟩
theorem lw_p34 : lw_okq (⟨"WishSharerModel", "hasSkills", "([III)Z"⟩, 37) := ⟨⟨by decide +kernel, by decide +kernel⟩, List.mem_of_getElem? (i := 697) (by decide +kernel), List.mem_of_getElem? (i := 936) (by decide +kernel), List.mem_of_getElem? (i := 937) (by decide +kernel)⟩
theorem lw_p35 : lw_okq (⟨"WishSharerModel", "all", "(I)V"⟩, 37) := ⟨⟨by decide +kernel, by decide +kernel⟩, List.mem_of_getElem? (i := 697) (by decide +kernel), List.mem_of_getElem? (i := 944) (by decide +kernel), List.mem_of_getElem? (i := 945) (by decide +kernel)⟩
theorem lw_p36 : lw_okq (⟨"WishSharerModel", "goes", "(I)V"⟩, 37) := ⟨⟨by decide +kernel, by decide +kernel⟩, List.mem_of_getElem? (i := 697) (by decide +kernel), List.mem_of_getElem? (i := 949) (by decide +kernel), List.mem_of_getElem? (i := 950) (by decide +kernel)⟩
theorem lw_p37 : lw_okq (⟨"WishSharerModel", "finds", "()V"⟩, 37) := ⟨⟨by decide +kernel, by decide +kernel⟩, List.mem_of_getElem? (i := 697) (by decide +kernel), List.mem_of_getElem? (i := 953) (by decide +kernel), List.mem_of_getElem? (i := 954) (by decide +kernel)⟩
theorem lw_p38 : lw_okq (⟨"WishSharerModel", "movesOf", "([I)I"⟩, 37) := ⟨⟨by decide +kernel, by decide +kernel⟩, List.mem_of_getElem? (i := 697) (by decide +kernel), List.mem_of_getElem? (i := 957) (by decide +kernel), List.mem_of_getElem? (i := 958) (by decide +kernel)⟩
theorem lw_p39 : lw_okq (⟨"WishSharerModel", "isBetter", "([I)Z"⟩, 37) := ⟨⟨by decide +kernel, by decide +kernel⟩, List.mem_of_getElem? (i := 697) (by decide +kernel), List.mem_of_getElem? (i := 961) (by decide +kernel), List.mem_of_getElem? (i := 962) (by decide +kernel)⟩
theorem lw_p40 : lw_okq (⟨"WishSharerModel", "weigh", "([I)V"⟩, 37) := ⟨⟨by decide +kernel, by decide +kernel⟩, List.mem_of_getElem? (i := 697) (by decide +kernel), List.mem_of_getElem? (i := 965) (by decide +kernel), List.mem_of_getElem? (i := 966) (by decide +kernel)⟩
theorem lw_p41 : lw_okq (⟨"WishSharerModel", "rankBy", "(II)I"⟩, 37) := ⟨⟨by decide +kernel, by decide +kernel⟩, List.mem_of_getElem? (i := 697) (by decide +kernel), List.mem_of_getElem? (i := 969) (by decide +kernel), List.mem_of_getElem? (i := 970) (by decide +kernel)⟩
theorem lw_p42 : lw_okq (⟨"WishSharerModel", "isAhead", "([I[I)Z"⟩, 37) := ⟨⟨by decide +kernel, by decide +kernel⟩, List.mem_of_getElem? (i := 697) (by decide +kernel), List.mem_of_getElem? (i := 976) (by decide +kernel), List.mem_of_getElem? (i := 977) (by decide +kernel)⟩
theorem lw_p43 : lw_okq (⟨"WishSharerModel", "keeps", "([I)V"⟩, 37) := ⟨⟨by decide +kernel, by decide +kernel⟩, List.mem_of_getElem? (i := 697) (by decide +kernel), List.mem_of_getElem? (i := 980) (by decide +kernel), List.mem_of_getElem? (i := 981) (by decide +kernel)⟩
theorem lw_p44 : lw_okq (⟨"WishSharerModel", "may", "(II)Z"⟩, 37) := ⟨⟨by decide +kernel, by decide +kernel⟩, List.mem_of_getElem? (i := 697) (by decide +kernel), List.mem_of_getElem? (i := 984) (by decide +kernel), List.mem_of_getElem? (i := 985) (by decide +kernel)⟩
theorem lw_p45 : lw_okq (⟨"WishSharerModel", "takes", "()V"⟩, 37) := ⟨⟨by decide +kernel, by decide +kernel⟩, List.mem_of_getElem? (i := 697) (by decide +kernel), List.mem_of_getElem? (i := 988) (by decide +kernel), List.mem_of_getElem? (i := 989) (by decide +kernel)⟩
theorem lw_p46 : lw_okq (⟨"WishSharerModel", "wouldSwap", "(II)Z"⟩, 37) := ⟨⟨by decide +kernel, by decide +kernel⟩, List.mem_of_getElem? (i := 697) (by decide +kernel), List.mem_of_getElem? (i := 1006) (by decide +kernel), List.mem_of_getElem? (i := 1007) (by decide +kernel)⟩
theorem lw_p47 : lw_okq (⟨"WishSharerModel", "nextOrder", "()Z"⟩, 37) := ⟨⟨by decide +kernel, by decide +kernel⟩, List.mem_of_getElem? (i := 697) (by decide +kernel), List.mem_of_getElem? (i := 1018) (by decide +kernel), List.mem_of_getElem? (i := 1019) (by decide +kernel)⟩
def lw_privs_3 : List (MethodName × Nat) := [(⟨"WishSharerModel", "isTwice", "(II)Z"⟩, 37), (⟨"WishSharerModel", "isLed", "([III)Z"⟩, 37), (⟨"WishSharerModel", "hasSkills", "([III)Z"⟩, 37), (⟨"WishSharerModel", "all", "(I)V"⟩, 37), (⟨"WishSharerModel", "goes", "(I)V"⟩, 37), (⟨"WishSharerModel", "finds", "()V"⟩, 37), (⟨"WishSharerModel", "movesOf", "([I)I"⟩, 37), (⟨"WishSharerModel", "isBetter", "([I)Z"⟩, 37), (⟨"WishSharerModel", "weigh", "([I)V"⟩, 37), (⟨"WishSharerModel", "rankBy", "(II)I"⟩, 37), (⟨"WishSharerModel", "isAhead", "([I[I)Z"⟩, 37), (⟨"WishSharerModel", "keeps", "([I)V"⟩, 37), (⟨"WishSharerModel", "may", "(II)Z"⟩, 37), (⟨"WishSharerModel", "takes", "()V"⟩, 37), (⟨"WishSharerModel", "wouldSwap", "(II)Z"⟩, 37), (⟨"WishSharerModel", "nextOrder", "()Z"⟩, 37)]
theorem lw_r3 : ∀ q ∈ lw_privs_3, lw_okq q := List.forall_mem_cons.mpr ⟨lw_p32, List.forall_mem_cons.mpr ⟨lw_p33, List.forall_mem_cons.mpr ⟨lw_p34, List.forall_mem_cons.mpr ⟨lw_p35, List.forall_mem_cons.mpr ⟨lw_p36, List.forall_mem_cons.mpr ⟨lw_p37, List.forall_mem_cons.mpr ⟨lw_p38, List.forall_mem_cons.mpr ⟨lw_p39, List.forall_mem_cons.mpr ⟨lw_p40, List.forall_mem_cons.mpr ⟨lw_p41, List.forall_mem_cons.mpr ⟨lw_p42, List.forall_mem_cons.mpr ⟨lw_p43, List.forall_mem_cons.mpr ⟨lw_p44, List.forall_mem_cons.mpr ⟨lw_p45, List.forall_mem_cons.mpr ⟨lw_p46, List.forall_mem_cons.mpr ⟨lw_p47, fun _ h => absurd h List.not_mem_nil⟩⟩⟩⟩⟩⟩⟩⟩⟩⟩⟩⟩⟩⟩⟩⟩
theorem lw_p48 : lw_okq (⟨"WishSharerModel", "exchange", "(II)V"⟩, 37) := ⟨⟨by decide +kernel, by decide +kernel⟩, List.mem_of_getElem? (i := 697) (by decide +kernel), List.mem_of_getElem? (i := 1022) (by decide +kernel), List.mem_of_getElem? (i := 1023) (by decide +kernel)⟩
def lw_privs_4 : List (MethodName × Nat) := [(⟨"WishSharerModel", "exchange", "(II)V"⟩, 37)]
theorem lw_r4 : ∀ q ∈ lw_privs_4, lw_okq q := List.forall_mem_cons.mpr ⟨lw_p48, fun _ h => absurd h List.not_mem_nil⟩
def lw_privs : List (MethodName × Nat) := lw_privs_1 ++ (lw_privs_2 ++ (lw_privs_3 ++ (lw_privs_4)))
def lw_tbl : List Cond := k2_sels lw_privs ++ tables_1
theorem lw_privs_ok : ∀ q ∈ lw_privs, lw_okq q := by
  show ∀ q ∈ lw_privs_1 ++ (lw_privs_2 ++ (lw_privs_3 ++ (lw_privs_4))), lw_okq q
  exact List.forall_mem_append.mpr ⟨lw_r1, List.forall_mem_append.mpr ⟨lw_r2, List.forall_mem_append.mpr ⟨lw_r3, lw_r4⟩⟩⟩
-- ===== end of PART A; then your names; then what follows =====
end
section
-- names (begun from the task's printed names)
def RX0 : String := "WishSharer$Groups"
def TX0 : u_T := fun k => match k with
  | 0 => ("WishSharer$Groups", "fitting", "[I", true)
  | _ => ("WishSharer$Groups", "open", "[I", true)
def tyX0 : Nat → FieldType := fun k => match k with
  | 0 => .array .int
  | _ => .array .int
abbrev wsX00 : List Cond := u_ws RX0 TX0 2
theorem nmX0 : ∀ a, a < 2 → ∀ b, b < 2 → a ≠ b → (TX0 a).2.1 ≠ (TX0 b).2.1 := by decide +kernel
theorem tyX0_ok : ∀ k, k < 2 → parseFieldDescriptor (TX0 k).2.2.1 = some (tyX0 k) := by decide +kernel
abbrev cX0_init : ByteArray := prog_2_method_1_code
def yX0_init : MethodName := ⟨RX0, "<init>", "()V"⟩
abbrev cX0_fill : ByteArray := prog_2_method_2_code
def yX0_fill : MethodName := ⟨RX0, "fill", "(LWishSharer$Roll;)V"⟩
abbrev cX0_fits : ByteArray := prog_2_method_3_code
def yX0_fits : MethodName := ⟨RX0, "fits", "(II)Z"⟩
abbrev cX0_canGrow : ByteArray := prog_2_method_4_code
def yX0_canGrow : MethodName := ⟨RX0, "canGrow", "(II)Z"⟩
def RX1 : String := "WishSharer$Ledger"
def TX1 : u_T := fun k => match k with
  | 0 => ("WishSharer$Ledger", "projects", "[I", true)
  | 1 => ("WishSharer$Ledger", "ranks", "[I", true)
  | _ => ("WishSharer$Ledger", "years", "I", false)
def tyX1 : Nat → FieldType := fun k => match k with
  | 0 => .array .int
  | 1 => .array .int
  | _ => .int
abbrev wsX10 : List Cond := u_ws RX1 TX1 3
theorem nmX1 : ∀ a, a < 3 → ∀ b, b < 3 → a ≠ b → (TX1 a).2.1 ≠ (TX1 b).2.1 := by decide +kernel
theorem tyX1_ok : ∀ k, k < 3 → parseFieldDescriptor (TX1 k).2.2.1 = some (tyX1 k) := by decide +kernel
abbrev cX1_init : ByteArray := prog_3_method_1_code
def yX1_init : MethodName := ⟨RX1, "<init>", "()V"⟩
abbrev cX1_note : ByteArray := prog_3_method_2_code
def yX1_note : MethodName := ⟨RX1, "note", "(III)V"⟩
abbrev cX1_projectOf : ByteArray := prog_3_method_3_code
def yX1_projectOf : MethodName := ⟨RX1, "projectOf", "(II)I"⟩
abbrev cX1_rankOf : ByteArray := prog_3_method_4_code
def yX1_rankOf : MethodName := ⟨RX1, "rankOf", "(II)I"⟩
abbrev cX1_cellOf : ByteArray := prog_3_method_5_code
def yX1_cellOf : MethodName := ⟨RX1, "cellOf", "(II)I"⟩
def RX2 : String := "WishSharer$Project"
def TX2 : u_T := fun k => match k with
  | 0 => ("WishSharer$Project", "kind", "I", false)
  | 1 => ("WishSharer$Project", "least", "I", false)
  | 2 => ("WishSharer$Project", "most", "I", false)
  | 3 => ("WishSharer$Project", "skills", "I", false)
  | 4 => ("WishSharer$Project", "leader", "I", false)
  | _ => ("WishSharer$Project", "onOffer", "Z", false)
def tyX2 : Nat → FieldType := fun k => match k with
  | 0 => .int
  | 1 => .int
  | 2 => .int
  | 3 => .int
  | 4 => .int
  | _ => .boolean
abbrev wsX20 : List Cond := u_ws RX2 TX2 6
theorem nmX2 : ∀ a, a < 6 → ∀ b, b < 6 → a ≠ b → (TX2 a).2.1 ≠ (TX2 b).2.1 := by decide +kernel
theorem tyX2_ok : ∀ k, k < 6 → parseFieldDescriptor (TX2 k).2.2.1 = some (tyX2 k) := by decide +kernel
abbrev cX2_init : ByteArray := prog_4_method_1_code
def yX2_init : MethodName := ⟨RX2, "<init>", "()V"⟩
abbrev cX2_takes : ByteArray := prog_4_method_2_code
def yX2_takes : MethodName := ⟨RX2, "takes", "(I)Z"⟩
abbrev cX2_runsTwice : ByteArray := prog_4_method_3_code
def yX2_runsTwice : MethodName := ⟨RX2, "runsTwice", "(I)Z"⟩
abbrev cX2_lacksLeader : ByteArray := prog_4_method_4_code
def yX2_lacksLeader : MethodName := ⟨RX2, "lacksLeader", "(I)Z"⟩
def RX3 : String := "WishSharer$Pupil"
def TX3 : u_T := fun k => match k with
  | 0 => ("WishSharer$Pupil", "ranks", "[I", true)
  | 1 => ("WishSharer$Pupil", "skills", "I", false)
  | 2 => ("WishSharer$Pupil", "wished", "I", false)
  | 3 => ("WishSharer$Pupil", "score", "I", false)
  | 4 => ("WishSharer$Pupil", "friendBits", "I", false)
  | 5 => ("WishSharer$Pupil", "apartBits", "I", false)
  | _ => ("WishSharer$Pupil", "present", "Z", false)
def tyX3 : Nat → FieldType := fun k => match k with
  | 0 => .array .int
  | 1 => .int
  | 2 => .int
  | 3 => .int
  | 4 => .int
  | 5 => .int
  | _ => .boolean
abbrev wsX30 : List Cond := u_ws RX3 TX3 7
theorem nmX3 : ∀ a, a < 7 → ∀ b, b < 7 → a ≠ b → (TX3 a).2.1 ≠ (TX3 b).2.1 := by decide +kernel
theorem tyX3_ok : ∀ k, k < 7 → parseFieldDescriptor (TX3 k).2.2.1 = some (tyX3 k) := by decide +kernel
abbrev cX3_init : ByteArray := prog_5_method_1_code
def yX3_init : MethodName := ⟨RX3, "<init>", "()V"⟩
abbrev cX3_addWish : ByteArray := prog_5_method_2_code
def yX3_addWish : MethodName := ⟨RX3, "addWish", "(I)Z"⟩
abbrev cX3_clearWishes : ByteArray := prog_5_method_3_code
def yX3_clearWishes : MethodName := ⟨RX3, "clearWishes", "()V"⟩
abbrev cX3_rankIn : ByteArray := prog_5_method_4_code
def yX3_rankIn : MethodName := ⟨RX3, "rankIn", "(I)I"⟩
def RX4 : String := "WishSharer$Roll"
def TX4 : u_T := fun k => match k with
  | 0 => ("WishSharer$Roll", "pupils", "[LWishSharer$Pupil;", true)
  | 1 => ("WishSharer$Roll", "projects", "[LWishSharer$Project;", true)
  | 2 => ("WishSharer$Roll", "order", "[I", true)
  | 3 => ("WishSharer$Roll", "pupilCount", "I", false)
  | _ => ("WishSharer$Roll", "projectCount", "I", false)
def tyX4 : Nat → FieldType := fun k => match k with
  | 0 => .array (.object "WishSharer$Pupil")
  | 1 => .array (.object "WishSharer$Project")
  | 2 => .array .int
  | 3 => .int
  | _ => .int
abbrev wsX40 : List Cond := u_ws RX4 TX4 5
theorem nmX4 : ∀ a, a < 5 → ∀ b, b < 5 → a ≠ b → (TX4 a).2.1 ≠ (TX4 b).2.1 := by decide +kernel
theorem tyX4_ok : ∀ k, k < 5 → parseFieldDescriptor (TX4 k).2.2.1 = some (tyX4 k) := by decide +kernel
abbrev cX4_init : ByteArray := prog_6_method_1_code
def yX4_init : MethodName := ⟨RX4, "<init>", "()V"⟩
abbrev cX4_addPupil : ByteArray := prog_6_method_2_code
def yX4_addPupil : MethodName := ⟨RX4, "addPupil", "(I)I"⟩
abbrev cX4_addProject : ByteArray := prog_6_method_3_code
def yX4_addProject : MethodName := ⟨RX4, "addProject", "(IIIII)I"⟩
abbrev cX4_isPupil : ByteArray := prog_6_method_4_code
def yX4_isPupil : MethodName := ⟨RX4, "isPupil", "(I)Z"⟩
abbrev cX4_isProject : ByteArray := prog_6_method_5_code
def yX4_isProject : MethodName := ⟨RX4, "isProject", "(I)Z"⟩
abbrev cX4_pupilOf : ByteArray := prog_6_method_6_code
def yX4_pupilOf : MethodName := ⟨RX4, "pupilOf", "(I)LWishSharer$Pupil;"⟩
abbrev cX4_projectOf : ByteArray := prog_6_method_7_code
def yX4_projectOf : MethodName := ⟨RX4, "projectOf", "(I)LWishSharer$Project;"⟩
abbrev cX4_scoreOf : ByteArray := prog_6_method_8_code
def yX4_scoreOf : MethodName := ⟨RX4, "scoreOf", "(I)I"⟩
abbrev cX4_addScore : ByteArray := prog_6_method_9_code
def yX4_addScore : MethodName := ⟨RX4, "addScore", "(II)V"⟩
abbrev cX4_areFriends : ByteArray := prog_6_method_10_code
def yX4_areFriends : MethodName := ⟨RX4, "areFriends", "(II)Z"⟩
abbrev cX4_presentBits : ByteArray := prog_6_method_11_code
def yX4_presentBits : MethodName := ⟨RX4, "presentBits", "()I"⟩
abbrev cX4_offeredCount : ByteArray := prog_6_method_12_code
def yX4_offeredCount : MethodName := ⟨RX4, "offeredCount", "()I"⟩
abbrev cX4_drawLots : ByteArray := prog_6_method_13_code
def yX4_drawLots : MethodName := ⟨RX4, "drawLots", "(I)V"⟩
abbrev cX4_placeOf : ByteArray := prog_6_method_14_code
def yX4_placeOf : MethodName := ⟨RX4, "placeOf", "(I)I"⟩
abbrev cX4_faultOf : ByteArray := prog_6_method_15_code
def yX4_faultOf : MethodName := ⟨RX4, "faultOf", "([I)I"⟩
abbrev cX4_firstPupilWith : ByteArray := prog_6_method_16_code
def yX4_firstPupilWith : MethodName := ⟨RX4, "firstPupilWith", "(I[I)I"⟩
abbrev cX4_pupilHas : ByteArray := prog_6_method_17_code
def yX4_pupilHas : MethodName := ⟨RX4, "pupilHas", "(II[I)Z"⟩
abbrev cX4_firstProjectWith : ByteArray := prog_6_method_18_code
def yX4_firstProjectWith : MethodName := ⟨RX4, "firstProjectWith", "(I[I)I"⟩
abbrev cX4_groupHas : ByteArray := prog_6_method_19_code
def yX4_groupHas : MethodName := ⟨RX4, "groupHas", "(III)Z"⟩
abbrev cX4_lacksSkill : ByteArray := prog_6_method_20_code
def yX4_lacksSkill : MethodName := ⟨RX4, "lacksSkill", "(LWishSharer$Project;I)Z"⟩
abbrev cX4_groupOf : ByteArray := prog_6_method_21_code
def yX4_groupOf : MethodName := ⟨RX4, "groupOf", "([II)I"⟩
abbrev cX4_allows : ByteArray := prog_6_method_22_code
def yX4_allows : MethodName := ⟨RX4, "allows", "(II)Z"⟩
def RX5 : String := "WishSharer$Scale"
def TX5 : u_T := fun k => match k with
  | 0 => ("WishSharer$Scale", "costs", "[J", true)
  | _ => ("WishSharer$Scale", "digits", "[J", true)
def tyX5 : Nat → FieldType := fun k => match k with
  | 0 => .array .long
  | _ => .array .long
abbrev wsX50 : List Cond := u_ws RX5 TX5 2
theorem nmX5 : ∀ a, a < 2 → ∀ b, b < 2 → a ≠ b → (TX5 a).2.1 ≠ (TX5 b).2.1 := by decide +kernel
theorem tyX5_ok : ∀ k, k < 2 → parseFieldDescriptor (TX5 k).2.2.1 = some (tyX5 k) := by decide +kernel
abbrev cX5_init : ByteArray := prog_7_method_1_code
def yX5_init : MethodName := ⟨RX5, "<init>", "()V"⟩
abbrev cX5_fill : ByteArray := prog_7_method_2_code
def yX5_fill : MethodName := ⟨RX5, "fill", "(LWishSharer$Roll;)V"⟩
abbrev cX5_fillPupil : ByteArray := prog_7_method_3_code
def yX5_fillPupil : MethodName := ⟨RX5, "fillPupil", "(III[I)V"⟩
abbrev cX5_costOfRank : ByteArray := prog_7_method_4_code
def yX5_costOfRank : MethodName := ⟨RX5, "costOfRank", "(II)J"⟩
abbrev cX5_chargeMove : ByteArray := prog_7_method_5_code
def yX5_chargeMove : MethodName := ⟨RX5, "chargeMove", "(II)V"⟩
abbrev cX5_costOf : ByteArray := prog_7_method_6_code
def yX5_costOf : MethodName := ⟨RX5, "costOf", "(II)J"⟩
abbrev cX5_digitOf : ByteArray := prog_7_method_7_code
def yX5_digitOf : MethodName := ⟨RX5, "digitOf", "(II)J"⟩
abbrev cX5_cellOf : ByteArray := prog_7_method_8_code
def yX5_cellOf : MethodName := ⟨RX5, "cellOf", "(II)I"⟩
def RX6 : String := "WishSharer$Search"
def TX6 : u_T := fun k => match k with
  | 0 => ("WishSharer$Search", "groups", "LWishSharer$Groups;", true)
  | 1 => ("WishSharer$Search", "scale", "LWishSharer$Scale;", true)
  | 2 => ("WishSharer$Search", "friendBits", "[I", true)
  | 3 => ("WishSharer$Search", "groupOf", "[I", true)
  | 4 => ("WishSharer$Search", "trial", "[I", true)
  | 5 => ("WishSharer$Search", "found", "[I", true)
  | 6 => ("WishSharer$Search", "presentBits", "I", false)
  | 7 => ("WishSharer$Search", "projectCount", "I", false)
  | 8 => ("WishSharer$Search", "bar", "J", false)
  | 9 => ("WishSharer$Search", "lotBar", "J", false)
  | 10 => ("WishSharer$Search", "lowersBar", "Z", false)
  | _ => ("WishSharer$Search", "hits", "I", false)
def tyX6 : Nat → FieldType := fun k => match k with
  | 0 => .object "WishSharer$Groups"
  | 1 => .object "WishSharer$Scale"
  | 2 => .array .int
  | 3 => .array .int
  | 4 => .array .int
  | 5 => .array .int
  | 6 => .int
  | 7 => .int
  | 8 => .long
  | 9 => .long
  | 10 => .boolean
  | _ => .int
abbrev wsX60 : List Cond := u_ws RX6 TX6 12
theorem nmX6 : ∀ a, a < 12 → ∀ b, b < 12 → a ≠ b → (TX6 a).2.1 ≠ (TX6 b).2.1 := by decide +kernel
theorem tyX6_ok : ∀ k, k < 12 → parseFieldDescriptor (TX6 k).2.2.1 = some (tyX6 k) := by decide +kernel
abbrev cX6_init : ByteArray := prog_8_method_1_code
def yX6_init : MethodName := ⟨RX6, "<init>", "()V"⟩
abbrev cX6_prepare : ByteArray := prog_8_method_2_code
def yX6_prepare : MethodName := ⟨RX6, "prepare", "(LWishSharer$Roll;)V"⟩
abbrev cX6_tellRanks : ByteArray := prog_8_method_3_code
def yX6_tellRanks : MethodName := ⟨RX6, "tellRanks", "(III[I)V"⟩
abbrev cX6_chargeMove : ByteArray := prog_8_method_4_code
def yX6_chargeMove : MethodName := ⟨RX6, "chargeMove", "(II)V"⟩
abbrev cX6_findBest : ByteArray := prog_8_method_5_code
def yX6_findBest : MethodName := ⟨RX6, "findBest", "()Z"⟩
abbrev cX6_countRight : ByteArray := prog_8_method_6_code
def yX6_countRight : MethodName := ⟨RX6, "countRight", "()I"⟩
abbrev cX6_countBetter : ByteArray := prog_8_method_7_code
def yX6_countBetter : MethodName := ⟨RX6, "countBetter", "([I)I"⟩
abbrev cX6_isPresent : ByteArray := prog_8_method_8_code
def yX6_isPresent : MethodName := ⟨RX6, "isPresent", "(I)Z"⟩
abbrev cX6_friendsBefore : ByteArray := prog_8_method_9_code
def yX6_friendsBefore : MethodName := ⟨RX6, "friendsBefore", "(I[I)I"⟩
abbrev cX6_begin : ByteArray := prog_8_method_10_code
def yX6_begin : MethodName := ⟨RX6, "begin", "(JJZ)V"⟩
abbrev cX6_extend : ByteArray := prog_8_method_11_code
def yX6_extend : MethodName := ⟨RX6, "extend", "(LWishSharer$Search;IJJ)V"⟩
abbrev cX6_judge : ByteArray := prog_8_method_12_code
def yX6_judge : MethodName := ⟨RX6, "judge", "(JJ)V"⟩
abbrev cX6_foundFor : ByteArray := prog_8_method_13_code
def yX6_foundFor : MethodName := ⟨RX6, "foundFor", "(I)I"⟩
abbrev cX6_copyFound : ByteArray := prog_8_method_14_code
def yX6_copyFound : MethodName := ⟨RX6, "copyFound", "([I)V"⟩
abbrev cX6_movedFrom : ByteArray := prog_8_method_15_code
def yX6_movedFrom : MethodName := ⟨RX6, "movedFrom", "([I)I"⟩
def RX7 : String := "WishSharer"
def TX7 : u_T := fun k => match k with
  | 0 => ("WishSharer", "roll", "LWishSharer$Roll;", true)
  | 1 => ("WishSharer", "search", "LWishSharer$Search;", true)
  | 2 => ("WishSharer", "ledger", "LWishSharer$Ledger;", true)
  | 3 => ("WishSharer", "plan", "[I", true)
  | 4 => ("WishSharer", "told", "[I", true)
  | 5 => ("WishSharer", "tale", "[I", true)
  | 6 => ("WishSharer", "taleRanks", "[I", true)
  | _ => ("WishSharer", "toldCount", "I", false)
def tyX7 : Nat → FieldType := fun k => match k with
  | 0 => .object "WishSharer$Roll"
  | 1 => .object "WishSharer$Search"
  | 2 => .object "WishSharer$Ledger"
  | 3 => .array .int
  | 4 => .array .int
  | 5 => .array .int
  | 6 => .array .int
  | _ => .int
abbrev wsX70 : List Cond := u_ws RX7 TX7 8
theorem nmX7 : ∀ a, a < 8 → ∀ b, b < 8 → a ≠ b → (TX7 a).2.1 ≠ (TX7 b).2.1 := by decide +kernel
theorem tyX7_ok : ∀ k, k < 8 → parseFieldDescriptor (TX7 k).2.2.1 = some (tyX7 k) := by decide +kernel
abbrev cX7_init : ByteArray := prog_1_method_1_code
def yX7_init : MethodName := ⟨RX7, "<init>", "()V"⟩
abbrev cX7_pupil : ByteArray := prog_1_method_2_code
def yX7_pupil : MethodName := ⟨RX7, "pupil", "(I)I"⟩
abbrev cX7_project : ByteArray := prog_1_method_3_code
def yX7_project : MethodName := ⟨RX7, "project", "(IIIII)I"⟩
abbrev cX7_wish : ByteArray := prog_1_method_4_code
def yX7_wish : MethodName := ⟨RX7, "wish", "(II)I"⟩
abbrev cX7_wishes : ByteArray := prog_1_method_5_code
def yX7_wishes : MethodName := ⟨RX7, "wishes", "(IIIII)I"⟩
abbrev cX7_friends : ByteArray := prog_1_method_6_code
def yX7_friends : MethodName := ⟨RX7, "friends", "(IIZ)Z"⟩
abbrev cX7_apart : ByteArray := prog_1_method_7_code
def yX7_apart : MethodName := ⟨RX7, "apart", "(IIZ)Z"⟩
abbrev cX7_here : ByteArray := prog_1_method_8_code
def yX7_here : MethodName := ⟨RX7, "here", "(IZ)Z"⟩
abbrev cX7_offered : ByteArray := prog_1_method_9_code
def yX7_offered : MethodName := ⟨RX7, "offered", "(IZ)Z"⟩
abbrev cX7_lots : ByteArray := prog_1_method_10_code
def yX7_lots : MethodName := ⟨RX7, "lots", "(I)Z"⟩
abbrev cX7_count : ByteArray := prog_1_method_11_code
def yX7_count : MethodName := ⟨RX7, "count", "(I)I"⟩
abbrev cX7_of : ByteArray := prog_1_method_12_code
def yX7_of : MethodName := ⟨RX7, "of", "(II)I"⟩
abbrev cX7_rank : ByteArray := prog_1_method_13_code
def yX7_rank : MethodName := ⟨RX7, "rank", "(II)I"⟩
abbrev cX7_put : ByteArray := prog_1_method_14_code
def yX7_put : MethodName := ⟨RX7, "put", "(II)Z"⟩
abbrev cX7_wrong : ByteArray := prog_1_method_15_code
def yX7_wrong : MethodName := ⟨RX7, "wrong", "()I"⟩
abbrev cX7_best : ByteArray := prog_1_method_16_code
def yX7_best : MethodName := ⟨RX7, "best", "()I"⟩
abbrev cX7_plans : ByteArray := prog_1_method_17_code
def yX7_plans : MethodName := ⟨RX7, "plans", "(I)I"⟩
abbrev cX7_worth : ByteArray := prog_1_method_18_code
def yX7_worth : MethodName := ⟨RX7, "worth", "(I)I"⟩
abbrev cX7_swap : ByteArray := prog_1_method_19_code
def yX7_swap : MethodName := ⟨RX7, "swap", "()I"⟩
abbrev cX7_change : ByteArray := prog_1_method_20_code
def yX7_change : MethodName := ⟨RX7, "change", "()I"⟩
abbrev cX7_lie : ByteArray := prog_1_method_21_code
def yX7_lie : MethodName := ⟨RX7, "lie", "(I)I"⟩
abbrev cX7_book : ByteArray := prog_1_method_22_code
def yX7_book : MethodName := ⟨RX7, "book", "()I"⟩
abbrev cX7_year : ByteArray := prog_1_method_23_code
def yX7_year : MethodName := ⟨RX7, "year", "(II)I"⟩
abbrev cX7_undo : ByteArray := prog_1_method_24_code
def yX7_undo : MethodName := ⟨RX7, "undo", "()I"⟩
abbrev cX7_row : ByteArray := prog_1_method_25_code
def yX7_row : MethodName := ⟨RX7, "row", "(I)I"⟩
abbrev cX7_withBit : ByteArray := prog_1_method_26_code
def yX7_withBit : MethodName := ⟨RX7, "withBit", "(IIZ)I"⟩
abbrev cX7_isPlaced : ByteArray := prog_1_method_27_code
def yX7_isPlaced : MethodName := ⟨RX7, "isPlaced", "(I)Z"⟩
abbrev cX7_rankByPlan : ByteArray := prog_1_method_28_code
def yX7_rankByPlan : MethodName := ⟨RX7, "rankByPlan", "(I)I"⟩
abbrev cX7_countRanks : ByteArray := prog_1_method_29_code
def yX7_countRanks : MethodName := ⟨RX7, "countRanks", "(I)I"⟩
abbrev cX7_grief : ByteArray := prog_1_method_30_code
def yX7_grief : MethodName := ⟨RX7, "grief", "()I"⟩
abbrev cX7_friendPairs : ByteArray := prog_1_method_31_code
def yX7_friendPairs : MethodName := ⟨RX7, "friendPairs", "()I"⟩
abbrev cX7_projectsUsed : ByteArray := prog_1_method_32_code
def yX7_projectsUsed : MethodName := ⟨RX7, "projectsUsed", "()I"⟩
abbrev cX7_bothGain : ByteArray := prog_1_method_33_code
def yX7_bothGain : MethodName := ⟨RX7, "bothGain", "(II)Z"⟩
abbrev cX7_gains : ByteArray := prog_1_method_34_code
def yX7_gains : MethodName := ⟨RX7, "gains", "(II)Z"⟩
abbrev cX7_rightAfterExchange : ByteArray := prog_1_method_35_code
def yX7_rightAfterExchange : MethodName := ⟨RX7, "rightAfterExchange", "(II)Z"⟩
abbrev cX7_findPayingTale : ByteArray := prog_1_method_36_code
def yX7_findPayingTale : MethodName := ⟨RX7, "findPayingTale", "(ILWishSharer$Pupil;I)Z"⟩
abbrev cX7_rankByTale : ByteArray := prog_1_method_37_code
def yX7_rankByTale : MethodName := ⟨RX7, "rankByTale", "(I)V"⟩
abbrev cX7_turnToNext : ByteArray := prog_1_method_38_code
def yX7_turnToNext : MethodName := ⟨RX7, "turnToNext", "([II)Z"⟩
abbrev cX7_exchangePlaces : ByteArray := prog_1_method_39_code
def yX7_exchangePlaces : MethodName := ⟨RX7, "exchangePlaces", "([III)V"⟩
def RX8 : String := "WishSharerModel"
def TX8 : u_T := fun k => match k with
  | 0 => ("WishSharerModel", "thrown", "I", false)
  | 1 => ("WishSharerModel", "pupils", "I", false)
  | 2 => ("WishSharerModel", "skills", "[I", true)
  | 3 => ("WishSharerModel", "isHere", "[Z", true)
  | 4 => ("WishSharerModel", "wishes", "[I", true)
  | 5 => ("WishSharerModel", "wish", "[I", true)
  | 6 => ("WishSharerModel", "score", "[I", true)
  | 7 => ("WishSharerModel", "plan", "[I", true)
  | 8 => ("WishSharerModel", "areFriends", "[Z", true)
  | 9 => ("WishSharerModel", "areApart", "[Z", true)
  | 10 => ("WishSharerModel", "lot", "[I", true)
  | 11 => ("WishSharerModel", "projects", "I", false)
  | 12 => ("WishSharerModel", "kind", "[I", true)
  | 13 => ("WishSharerModel", "least", "[I", true)
  | 14 => ("WishSharerModel", "most", "[I", true)
  | 15 => ("WishSharerModel", "wanted", "[I", true)
  | 16 => ("WishSharerModel", "leader", "[I", true)
  | 17 => ("WishSharerModel", "isOffered", "[Z", true)
  | 18 => ("WishSharerModel", "ranks", "I", false)
  | 19 => ("WishSharerModel", "grief", "I", false)
  | 20 => ("WishSharerModel", "pals", "I", false)
  | 21 => ("WishSharerModel", "trial", "[I", true)
  | 22 => ("WishSharerModel", "best", "[I", true)
  | 23 => ("WishSharerModel", "found", "I", false)
  | 24 => ("WishSharerModel", "bestRanks", "I", false)
  | 25 => ("WishSharerModel", "bestGrief", "I", false)
  | 26 => ("WishSharerModel", "bestFriends", "I", false)
  | 27 => ("WishSharerModel", "bestMoves", "I", false)
  | 28 => ("WishSharerModel", "aim", "I", false)
  | 29 => ("WishSharerModel", "order", "[I", true)
  | 30 => ("WishSharerModel", "true1", "[I", true)
  | 31 => ("WishSharerModel", "years", "I", false)
  | 32 => ("WishSharerModel", "yearPlan", "[I", true)
  | 33 => ("WishSharerModel", "yearRank", "[I", true)
  | 34 => ("WishSharerModel", "yearPupils", "[I", true)
  | 35 => ("WishSharerModel", "row", "[I", true)
  | _ => ("WishSharerModel", "rows", "I", false)
def tyX8 : Nat → FieldType := fun k => match k with
  | 0 => .int
  | 1 => .int
  | 2 => .array .int
  | 3 => .array .boolean
  | 4 => .array .int
  | 5 => .array .int
  | 6 => .array .int
  | 7 => .array .int
  | 8 => .array .boolean
  | 9 => .array .boolean
  | 10 => .array .int
  | 11 => .int
  | 12 => .array .int
  | 13 => .array .int
  | 14 => .array .int
  | 15 => .array .int
  | 16 => .array .int
  | 17 => .array .boolean
  | 18 => .int
  | 19 => .int
  | 20 => .int
  | 21 => .array .int
  | 22 => .array .int
  | 23 => .int
  | 24 => .int
  | 25 => .int
  | 26 => .int
  | 27 => .int
  | 28 => .int
  | 29 => .array .int
  | 30 => .array .int
  | 31 => .int
  | 32 => .array .int
  | 33 => .array .int
  | 34 => .array .int
  | 35 => .array .int
  | _ => .int
abbrev wsX80 : List Cond := u_ws RX8 TX8 37
theorem nmX8 : ∀ a, a < 37 → ∀ b, b < 37 → a ≠ b → (TX8 a).2.1 ≠ (TX8 b).2.1 := by decide +kernel
theorem tyX8_ok : ∀ k, k < 37 → parseFieldDescriptor (TX8 k).2.2.1 = some (tyX8 k) := by decide +kernel
abbrev cX8_init : ByteArray := prog_10_method_1_code
def yX8_init : MethodName := ⟨RX8, "<init>", "()V"⟩
abbrev cX8_thrown : ByteArray := prog_10_method_2_code
def yX8_thrown : MethodName := ⟨RX8, "thrown", "()I"⟩
abbrev cX8_in : ByteArray := prog_10_method_3_code
def yX8_in : MethodName := ⟨RX8, "in", "(JJJ)Z"⟩
abbrev cX8_refuse : ByteArray := prog_10_method_4_code
def yX8_refuse : MethodName := ⟨RX8, "refuse", "()I"⟩
abbrev cX8_isPupil : ByteArray := prog_10_method_5_code
def yX8_isPupil : MethodName := ⟨RX8, "isPupil", "(I)Z"⟩
abbrev cX8_isProject : ByteArray := prog_10_method_6_code
def yX8_isProject : MethodName := ⟨RX8, "isProject", "(I)Z"⟩
abbrev cX8_pupil : ByteArray := prog_10_method_7_code
def yX8_pupil : MethodName := ⟨RX8, "pupil", "(I)I"⟩
abbrev cX8_project : ByteArray := prog_10_method_8_code
def yX8_project : MethodName := ⟨RX8, "project", "(IIIII)I"⟩
abbrev cX8_hasWish : ByteArray := prog_10_method_9_code
def yX8_hasWish : MethodName := ⟨RX8, "hasWish", "(II)Z"⟩
abbrev cX8_add : ByteArray := prog_10_method_10_code
def yX8_add : MethodName := ⟨RX8, "add", "(II)V"⟩
abbrev cX8_wish : ByteArray := prog_10_method_11_code
def yX8_wish : MethodName := ⟨RX8, "wish", "(II)I"⟩
abbrev cX8_wishes : ByteArray := prog_10_method_12_code
def yX8_wishes : MethodName := ⟨RX8, "wishes", "(IIIII)I"⟩
abbrev cX8_areTwo : ByteArray := prog_10_method_13_code
def yX8_areTwo : MethodName := ⟨RX8, "areTwo", "(II)Z"⟩
abbrev cX8_friends : ByteArray := prog_10_method_14_code
def yX8_friends : MethodName := ⟨RX8, "friends", "(IIZ)Z"⟩
abbrev cX8_apart : ByteArray := prog_10_method_15_code
def yX8_apart : MethodName := ⟨RX8, "apart", "(IIZ)Z"⟩
abbrev cX8_here : ByteArray := prog_10_method_16_code
def yX8_here : MethodName := ⟨RX8, "here", "(IZ)Z"⟩
abbrev cX8_offered : ByteArray := prog_10_method_17_code
def yX8_offered : MethodName := ⟨RX8, "offered", "(IZ)Z"⟩
abbrev cX8_lots : ByteArray := prog_10_method_18_code
def yX8_lots : MethodName := ⟨RX8, "lots", "(I)Z"⟩
abbrev cX8_present : ByteArray := prog_10_method_19_code
def yX8_present : MethodName := ⟨RX8, "present", "()I"⟩
abbrev cX8_count : ByteArray := prog_10_method_20_code
def yX8_count : MethodName := ⟨RX8, "count", "(I)I"⟩
abbrev cX8_rankOf : ByteArray := prog_10_method_21_code
def yX8_rankOf : MethodName := ⟨RX8, "rankOf", "(II)I"⟩
abbrev cX8_of : ByteArray := prog_10_method_22_code
def yX8_of : MethodName := ⟨RX8, "of", "(II)I"⟩
abbrev cX8_rank : ByteArray := prog_10_method_23_code
def yX8_rank : MethodName := ⟨RX8, "rank", "(II)I"⟩
abbrev cX8_put : ByteArray := prog_10_method_24_code
def yX8_put : MethodName := ⟨RX8, "put", "(II)Z"⟩
abbrev cX8_sizeOf : ByteArray := prog_10_method_25_code
def yX8_sizeOf : MethodName := ⟨RX8, "sizeOf", "([III)I"⟩
abbrev cX8_isTwice : ByteArray := prog_10_method_26_code
def yX8_isTwice : MethodName := ⟨RX8, "isTwice", "(II)Z"⟩
abbrev cX8_isSize : ByteArray := prog_10_method_27_code
def yX8_isSize : MethodName := ⟨RX8, "isSize", "(II)Z"⟩
abbrev cX8_hasSkills : ByteArray := prog_10_method_28_code
def yX8_hasSkills : MethodName := ⟨RX8, "hasSkills", "([III)Z"⟩
abbrev cX8_isLed : ByteArray := prog_10_method_29_code
def yX8_isLed : MethodName := ⟨RX8, "isLed", "([III)Z"⟩
abbrev cX8_wrongOf : ByteArray := prog_10_method_30_code
def yX8_wrongOf : MethodName := ⟨RX8, "wrongOf", "([I)I"⟩
abbrev cX8_wrong : ByteArray := prog_10_method_31_code
def yX8_wrong : MethodName := ⟨RX8, "wrong", "()I"⟩
abbrev cX8_nines : ByteArray := prog_10_method_32_code
def yX8_nines : MethodName := ⟨RX8, "nines", "(I)I"⟩
abbrev cX8_rankBy : ByteArray := prog_10_method_33_code
def yX8_rankBy : MethodName := ⟨RX8, "rankBy", "(II)I"⟩
abbrev cX8_weigh : ByteArray := prog_10_method_34_code
def yX8_weigh : MethodName := ⟨RX8, "weigh", "([I)V"⟩
abbrev cX8_isAhead : ByteArray := prog_10_method_35_code
def yX8_isAhead : MethodName := ⟨RX8, "isAhead", "([I[I)Z"⟩
abbrev cX8_isBetter : ByteArray := prog_10_method_36_code
def yX8_isBetter : MethodName := ⟨RX8, "isBetter", "([I)Z"⟩
abbrev cX8_keeps : ByteArray := prog_10_method_37_code
def yX8_keeps : MethodName := ⟨RX8, "keeps", "([I)V"⟩
abbrev cX8_movesOf : ByteArray := prog_10_method_38_code
def yX8_movesOf : MethodName := ⟨RX8, "movesOf", "([I)I"⟩
abbrev cX8_finds : ByteArray := prog_10_method_39_code
def yX8_finds : MethodName := ⟨RX8, "finds", "()V"⟩
abbrev cX8_may : ByteArray := prog_10_method_40_code
def yX8_may : MethodName := ⟨RX8, "may", "(II)Z"⟩
abbrev cX8_goes : ByteArray := prog_10_method_41_code
def yX8_goes : MethodName := ⟨RX8, "goes", "(I)V"⟩
abbrev cX8_all : ByteArray := prog_10_method_42_code
def yX8_all : MethodName := ⟨RX8, "all", "(I)V"⟩
abbrev cX8_takes : ByteArray := prog_10_method_43_code
def yX8_takes : MethodName := ⟨RX8, "takes", "()V"⟩
abbrev cX8_best : ByteArray := prog_10_method_44_code
def yX8_best : MethodName := ⟨RX8, "best", "()I"⟩
abbrev cX8_plans : ByteArray := prog_10_method_45_code
def yX8_plans : MethodName := ⟨RX8, "plans", "(I)I"⟩
abbrev cX8_worth : ByteArray := prog_10_method_46_code
def yX8_worth : MethodName := ⟨RX8, "worth", "(I)I"⟩
abbrev cX8_wouldSwap : ByteArray := prog_10_method_47_code
def yX8_wouldSwap : MethodName := ⟨RX8, "wouldSwap", "(II)Z"⟩
abbrev cX8_swap : ByteArray := prog_10_method_48_code
def yX8_swap : MethodName := ⟨RX8, "swap", "()I"⟩
abbrev cX8_change : ByteArray := prog_10_method_49_code
def yX8_change : MethodName := ⟨RX8, "change", "()I"⟩
abbrev cX8_nextOrder : ByteArray := prog_10_method_50_code
def yX8_nextOrder : MethodName := ⟨RX8, "nextOrder", "()Z"⟩
abbrev cX8_exchange : ByteArray := prog_10_method_51_code
def yX8_exchange : MethodName := ⟨RX8, "exchange", "(II)V"⟩
abbrev cX8_lie : ByteArray := prog_10_method_52_code
def yX8_lie : MethodName := ⟨RX8, "lie", "(I)I"⟩
abbrev cX8_book : ByteArray := prog_10_method_53_code
def yX8_book : MethodName := ⟨RX8, "book", "()I"⟩
abbrev cX8_year : ByteArray := prog_10_method_54_code
def yX8_year : MethodName := ⟨RX8, "year", "(II)I"⟩
abbrev cX8_undo : ByteArray := prog_10_method_55_code
def yX8_undo : MethodName := ⟨RX8, "undo", "()I"⟩
abbrev cX8_row : ByteArray := prog_10_method_56_code
def yX8_row : MethodName := ⟨RX8, "row", "(I)I"⟩
def RJx145de : String := "java/io/Serializable"
def TJx145de : u_T := fun k => match k with
  | _ => ("", "", "", false)
def tyJx145de : Nat → FieldType := fun k => match k with
  | _ => .int
abbrev wsJx145de0 : List Cond := u_ws RJx145de TJx145de 0
theorem nmJx145de : ∀ a, a < 0 → ∀ b, b < 0 → a ≠ b → (TJx145de a).2.1 ≠ (TJx145de b).2.1 := by decide +kernel
theorem tyJx145de_ok : ∀ k, k < 0 → parseFieldDescriptor (TJx145de k).2.2.1 = some (tyJx145de k) := by decide +kernel
def RJ6 : String := "java/lang/Integer"
def TJ6 : u_T := fun k => match k with
  | _ => ("", "", "", false)
def tyJ6 : Nat → FieldType := fun k => match k with
  | _ => .int
abbrev wsJ60 : List Cond := u_ws RJ6 TJ6 0
theorem nmJ6 : ∀ a, a < 0 → ∀ b, b < 0 → a ≠ b → (TJ6 a).2.1 ≠ (TJ6 b).2.1 := by decide +kernel
theorem tyJ6_ok : ∀ k, k < 0 → parseFieldDescriptor (TJ6 k).2.2.1 = some (tyJ6 k) := by decide +kernel
abbrev cJ6_bitCount_0f7a4 : ByteArray := prog_13_method_49_code
def yJ6_bitCount_0f7a4 : MethodName := ⟨RJ6, "bitCount", "(I)I"⟩
def RJ9 : String := "java/lang/Math"
def TJ9 : u_T := fun k => match k with
  | _ => ("", "", "", false)
def tyJ9 : Nat → FieldType := fun k => match k with
  | _ => .int
abbrev wsJ90 : List Cond := u_ws RJ9 TJ9 0
theorem nmJ9 : ∀ a, a < 0 → ∀ b, b < 0 → a ≠ b → (TJ9 a).2.1 ≠ (TJ9 b).2.1 := by decide +kernel
theorem tyJ9_ok : ∀ k, k < 0 → parseFieldDescriptor (TJ9 k).2.2.1 = some (tyJ9 k) := by decide +kernel
abbrev cJ9_max_7cf53 : ByteArray := prog_14_method_65_code
def yJ9_max_7cf53 : MethodName := ⟨RJ9, "max", "(II)I"⟩
def RJ10 : String := "java/lang/System"
def TJ10 : u_T := fun k => match k with
  | _ => ("", "", "", false)
def tyJ10 : Nat → FieldType := fun k => match k with
  | _ => .int
abbrev wsJ100 : List Cond := u_ws RJ10 TJ10 0
theorem nmJ10 : ∀ a, a < 0 → ∀ b, b < 0 → a ≠ b → (TJ10 a).2.1 ≠ (TJ10 b).2.1 := by decide +kernel
theorem tyJ10_ok : ∀ k, k < 0 → parseFieldDescriptor (TJ10 k).2.2.1 = some (tyJ10 k) := by decide +kernel
def RL : String := "WishSharerLaw"
abbrev cL_of : ByteArray := method_3_code
def yL_of : MethodName := ⟨RL, "of", "(LWishSharer;II[J)I"⟩
abbrev cL_row : ByteArray := method_4_code
def yL_row : MethodName := ⟨RL, "row", "(LWishSharer;I[J)I"⟩
abbrev cL_law : ByteArray := code
def yL_law : MethodName := ⟨RL, "law", "([I)Z"⟩
def wsX0_init : List Cond := .code yX0_init cX0_init 1 none :: ([.methodLink RX0 3 objectInit, .instanceMethod objectInit, .code objectInit ⟨#[0xb1]⟩ 1 none, .arrayClass .int, .fieldLink RX0 9 "WishSharer$Groups" "fitting" "[I", .fieldLink RX0 15 "WishSharer$Groups" "open" "[I"] ++ wsX00)
def wsX4_presentBits : List Cond := .code yX4_presentBits cX4_presentBits 3 (some .int) :: ([.fieldLink RX4 29 "WishSharer$Roll" "pupilCount" "I", .fieldLink RX4 11 "WishSharer$Roll" "pupils" "[LWishSharer$Pupil;", .fieldLink RX4 69 "WishSharer$Pupil" "present" "Z"] ++ wsX40 ++ wsX30)
abbrev vwCl : List vw_C := [(RX0, TX0, 2), (RX1, TX1, 3), (RX2, TX2, 6), (RX3, TX3, 7), (RX4, TX4, 5), (RX5, TX5, 2), (RX6, TX6, 12), (RX7, TX7, 8), (RX8, TX8, 37)]
def TB : List Cond := lw_tbl.filter goodWord
theorem tbm (i : Nat) {w : Cond} (h : lw_tbl[i]? = some w) (g : goodWord w = true) : w ∈ TB := List.mem_filter.mpr ⟨List.mem_of_getElem? h, g⟩
theorem tb_good : ∀ w ∈ TB, goodWord w = true := fun _ h => (List.mem_filter.mp h).2
abbrev MT : Type := MethodName × ByteArray × Nat × Option FieldType × Nat
def MOK (M : MT) : Prop := plainName M.1.cls = true ∧ Cond.code M.1 M.2.1 M.2.2.1 M.2.2.2.1 ∈ TB ∧ M.2.2.1 ≤ 40 ∧ M.1.cls ≠ "java/lang/invoke/MethodHandle" ∧ M.1.cls ≠ "java/lang/invoke/VarHandle" ∧ (parseMethodDescriptor M.1.desc).map (fun d => d.parameters.length) = some M.2.2.2.2
def MX0_init : MT := (yX0_init, cX0_init, 1, none, 0)
def MX0_fill : MT := (yX0_fill, cX0_fill, 7, none, 1)
theorem ok_MX0_fill : MOK MX0_fill := ⟨by decide +kernel, tbm 453 (by decide +kernel) (by decide +kernel), by decide +kernel, by decide +kernel, by decide +kernel, by decide +kernel⟩
def MX0_fits : MT := (yX0_fits, cX0_fits, 3, (some FieldType.boolean), 2)
theorem ok_MX0_fits : MOK MX0_fits := ⟨by decide +kernel, tbm 500 (by decide +kernel) (by decide +kernel), by decide +kernel, by decide +kernel, by decide +kernel, by decide +kernel⟩
def MX0_canGrow : MT := (yX0_canGrow, cX0_canGrow, 3, (some FieldType.boolean), 2)
theorem ok_MX0_canGrow : MOK MX0_canGrow := ⟨by decide +kernel, tbm 511 (by decide +kernel) (by decide +kernel), by decide +kernel, by decide +kernel, by decide +kernel, by decide +kernel⟩
def MX1_init : MT := (yX1_init, cX1_init, 1, none, 0)
def MX1_note : MT := (yX1_note, cX1_note, 5, none, 3)
theorem ok_MX1_note : MOK MX1_note := ⟨by decide +kernel, tbm 645 (by decide +kernel) (by decide +kernel), by decide +kernel, by decide +kernel, by decide +kernel, by decide +kernel⟩
def MX1_projectOf : MT := (yX1_projectOf, cX1_projectOf, 4, (some FieldType.int), 2)
theorem ok_MX1_projectOf : MOK MX1_projectOf := ⟨by decide +kernel, tbm 668 (by decide +kernel) (by decide +kernel), by decide +kernel, by decide +kernel, by decide +kernel, by decide +kernel⟩
def MX1_rankOf : MT := (yX1_rankOf, cX1_rankOf, 4, (some FieldType.int), 2)
theorem ok_MX1_rankOf : MOK MX1_rankOf := ⟨by decide +kernel, tbm 660 (by decide +kernel) (by decide +kernel), by decide +kernel, by decide +kernel, by decide +kernel, by decide +kernel⟩
def MX1_cellOf : MT := (yX1_cellOf, cX1_cellOf, 3, (some FieldType.int), 2)
theorem ok_MX1_cellOf : MOK MX1_cellOf := ⟨by decide +kernel, tbm 648 (by decide +kernel) (by decide +kernel), by decide +kernel, by decide +kernel, by decide +kernel, by decide +kernel⟩
def MX2_init : MT := (yX2_init, cX2_init, 1, none, 0)
def MX2_takes : MT := (yX2_takes, cX2_takes, 2, (some FieldType.boolean), 1)
theorem ok_MX2_takes : MOK MX2_takes := ⟨by decide +kernel, tbm 420 (by decide +kernel) (by decide +kernel), by decide +kernel, by decide +kernel, by decide +kernel, by decide +kernel⟩
def MX2_runsTwice : MT := (yX2_runsTwice, cX2_runsTwice, 2, (some FieldType.boolean), 1)
theorem ok_MX2_runsTwice : MOK MX2_runsTwice := ⟨by decide +kernel, tbm 424 (by decide +kernel) (by decide +kernel), by decide +kernel, by decide +kernel, by decide +kernel, by decide +kernel⟩
def MX2_lacksLeader : MT := (yX2_lacksLeader, cX2_lacksLeader, 2, (some FieldType.boolean), 1)
theorem ok_MX2_lacksLeader : MOK MX2_lacksLeader := ⟨by decide +kernel, tbm 428 (by decide +kernel) (by decide +kernel), by decide +kernel, by decide +kernel, by decide +kernel, by decide +kernel⟩
def MX3_init : MT := (yX3_init, cX3_init, 2, none, 0)
def MX3_addWish : MT := (yX3_addWish, cX3_addWish, 2, (some FieldType.boolean), 1)
theorem ok_MX3_addWish : MOK MX3_addWish := ⟨by decide +kernel, tbm 321 (by decide +kernel) (by decide +kernel), by decide +kernel, by decide +kernel, by decide +kernel, by decide +kernel⟩
def MX3_clearWishes : MT := (yX3_clearWishes, cX3_clearWishes, 2, none, 0)
theorem ok_MX3_clearWishes : MOK MX3_clearWishes := ⟨by decide +kernel, tbm 329 (by decide +kernel) (by decide +kernel), by decide +kernel, by decide +kernel, by decide +kernel, by decide +kernel⟩
def MX3_rankIn : MT := (yX3_rankIn, cX3_rankIn, 2, (some FieldType.int), 1)
theorem ok_MX3_rankIn : MOK MX3_rankIn := ⟨by decide +kernel, tbm 391 (by decide +kernel) (by decide +kernel), by decide +kernel, by decide +kernel, by decide +kernel, by decide +kernel⟩
def MX4_init : MT := (yX4_init, cX4_init, 2, none, 0)
def MX4_addPupil : MT := (yX4_addPupil, cX4_addPupil, 3, (some FieldType.int), 1)
theorem ok_MX4_addPupil : MOK MX4_addPupil := ⟨by decide +kernel, tbm 292 (by decide +kernel) (by decide +kernel), by decide +kernel, by decide +kernel, by decide +kernel, by decide +kernel⟩
def MX4_addProject : MT := (yX4_addProject, cX4_addProject, 8, (some FieldType.int), 5)
theorem ok_MX4_addProject : MOK MX4_addProject := ⟨by decide +kernel, tbm 304 (by decide +kernel) (by decide +kernel), by decide +kernel, by decide +kernel, by decide +kernel, by decide +kernel⟩
def MX4_isPupil : MT := (yX4_isPupil, cX4_isPupil, 2, (some FieldType.boolean), 1)
theorem ok_MX4_isPupil : MOK MX4_isPupil := ⟨by decide +kernel, tbm 300 (by decide +kernel) (by decide +kernel), by decide +kernel, by decide +kernel, by decide +kernel, by decide +kernel⟩
def MX4_isProject : MT := (yX4_isProject, cX4_isProject, 2, (some FieldType.boolean), 1)
theorem ok_MX4_isProject : MOK MX4_isProject := ⟨by decide +kernel, tbm 317 (by decide +kernel) (by decide +kernel), by decide +kernel, by decide +kernel, by decide +kernel, by decide +kernel⟩
def MX4_pupilOf : MT := (yX4_pupilOf, cX4_pupilOf, 2, (some (FieldType.object "WishSharer$Pupil")), 1)
theorem ok_MX4_pupilOf : MOK MX4_pupilOf := ⟨by decide +kernel, tbm 312 (by decide +kernel) (by decide +kernel), by decide +kernel, by decide +kernel, by decide +kernel, by decide +kernel⟩
def MX4_projectOf : MT := (yX4_projectOf, cX4_projectOf, 2, (some (FieldType.object "WishSharer$Project")), 1)
theorem ok_MX4_projectOf : MOK MX4_projectOf := ⟨by decide +kernel, tbm 352 (by decide +kernel) (by decide +kernel), by decide +kernel, by decide +kernel, by decide +kernel, by decide +kernel⟩
def MX4_scoreOf : MT := (yX4_scoreOf, cX4_scoreOf, 3, (some FieldType.int), 1)
theorem ok_MX4_scoreOf : MOK MX4_scoreOf := ⟨by decide +kernel, tbm 564 (by decide +kernel) (by decide +kernel), by decide +kernel, by decide +kernel, by decide +kernel, by decide +kernel⟩
def MX4_addScore : MT := (yX4_addScore, cX4_addScore, 4, none, 2)
theorem ok_MX4_addScore : MOK MX4_addScore := ⟨by decide +kernel, tbm 652 (by decide +kernel) (by decide +kernel), by decide +kernel, by decide +kernel, by decide +kernel, by decide +kernel⟩
def MX4_areFriends : MT := (yX4_areFriends, cX4_areFriends, 4, (some FieldType.boolean), 2)
theorem ok_MX4_areFriends : MOK MX4_areFriends := ⟨by decide +kernel, tbm 573 (by decide +kernel) (by decide +kernel), by decide +kernel, by decide +kernel, by decide +kernel, by decide +kernel⟩
def MX4_presentBits : MT := (yX4_presentBits, cX4_presentBits, 3, (some FieldType.int), 0)
theorem ok_MX4_presentBits : MOK MX4_presentBits := ⟨by decide +kernel, tbm 373 (by decide +kernel) (by decide +kernel), by decide +kernel, by decide +kernel, by decide +kernel, by decide +kernel⟩
def MX4_offeredCount : MT := (yX4_offeredCount, cX4_offeredCount, 3, (some FieldType.int), 0)
theorem ok_MX4_offeredCount : MOK MX4_offeredCount := ⟨by decide +kernel, tbm 383 (by decide +kernel) (by decide +kernel), by decide +kernel, by decide +kernel, by decide +kernel, by decide +kernel⟩
def MX4_drawLots : MT := (yX4_drawLots, cX4_drawLots, 4, none, 1)
theorem ok_MX4_drawLots : MOK MX4_drawLots := ⟨by decide +kernel, tbm 361 (by decide +kernel) (by decide +kernel), by decide +kernel, by decide +kernel, by decide +kernel, by decide +kernel⟩
def MX4_placeOf : MT := (yX4_placeOf, cX4_placeOf, 3, (some FieldType.int), 1)
theorem ok_MX4_placeOf : MOK MX4_placeOf := ⟨by decide +kernel, tbm 467 (by decide +kernel) (by decide +kernel), by decide +kernel, by decide +kernel, by decide +kernel, by decide +kernel⟩
def MX4_faultOf : MT := (yX4_faultOf, cX4_faultOf, 5, (some FieldType.int), 1)
theorem ok_MX4_faultOf : MOK MX4_faultOf := ⟨by decide +kernel, tbm 403 (by decide +kernel) (by decide +kernel), by decide +kernel, by decide +kernel, by decide +kernel, by decide +kernel⟩
def MX4_firstPupilWith : MT := (yX4_firstPupilWith, cX4_firstPupilWith, 4, (some FieldType.int), 2)
theorem ok_MX4_firstPupilWith : MOK MX4_firstPupilWith := ⟨by decide +kernel, tbm 437 (by decide +kernel) (by decide +kernel), by decide +kernel, by decide +kernel, by decide +kernel, by decide +kernel⟩
def MX4_pupilHas : MT := (yX4_pupilHas, cX4_pupilHas, 6, (some FieldType.boolean), 3)
theorem ok_MX4_pupilHas : MOK MX4_pupilHas := ⟨by decide +kernel, tbm 441 (by decide +kernel) (by decide +kernel), by decide +kernel, by decide +kernel, by decide +kernel, by decide +kernel⟩
def MX4_firstProjectWith : MT := (yX4_firstProjectWith, cX4_firstProjectWith, 4, (some FieldType.int), 2)
theorem ok_MX4_firstProjectWith : MOK MX4_firstProjectWith := ⟨by decide +kernel, tbm 407 (by decide +kernel) (by decide +kernel), by decide +kernel, by decide +kernel, by decide +kernel, by decide +kernel⟩
def MX4_groupHas : MT := (yX4_groupHas, cX4_groupHas, 5, (some FieldType.boolean), 3)
theorem ok_MX4_groupHas : MOK MX4_groupHas := ⟨by decide +kernel, tbm 415 (by decide +kernel) (by decide +kernel), by decide +kernel, by decide +kernel, by decide +kernel, by decide +kernel⟩
def MX4_lacksSkill : MT := (yX4_lacksSkill, cX4_lacksSkill, 6, (some FieldType.boolean), 2)
theorem ok_MX4_lacksSkill : MOK MX4_lacksSkill := ⟨by decide +kernel, tbm 432 (by decide +kernel) (by decide +kernel), by decide +kernel, by decide +kernel, by decide +kernel, by decide +kernel⟩
def MX4_groupOf : MT := (yX4_groupOf, cX4_groupOf, 5, (some FieldType.int), 2)
theorem ok_MX4_groupOf : MOK MX4_groupOf := ⟨by decide +kernel, tbm 411 (by decide +kernel) (by decide +kernel), by decide +kernel, by decide +kernel, by decide +kernel, by decide +kernel⟩
def MX4_allows : MT := (yX4_allows, cX4_allows, 4, (some FieldType.boolean), 2)
theorem ok_MX4_allows : MOK MX4_allows := ⟨by decide +kernel, tbm 458 (by decide +kernel) (by decide +kernel), by decide +kernel, by decide +kernel, by decide +kernel, by decide +kernel⟩
def MX5_init : MT := (yX5_init, cX5_init, 1, none, 0)
def MX5_fill : MT := (yX5_fill, cX5_fill, 4, none, 1)
theorem ok_MX5_fill : MOK MX5_fill := ⟨by decide +kernel, tbm 462 (by decide +kernel) (by decide +kernel), by decide +kernel, by decide +kernel, by decide +kernel, by decide +kernel⟩
def MX5_fillPupil : MT := (yX5_fillPupil, cX5_fillPupil, 10, none, 4)
theorem ok_MX5_fillPupil : MOK MX5_fillPupil := ⟨by decide +kernel, tbm 471 (by decide +kernel) (by decide +kernel), by decide +kernel, by decide +kernel, by decide +kernel, by decide +kernel⟩
def MX5_costOfRank : MT := (yX5_costOfRank, cX5_costOfRank, 4, (some FieldType.long), 2)
theorem ok_MX5_costOfRank : MOK MX5_costOfRank := ⟨by decide +kernel, tbm 477 (by decide +kernel) (by decide +kernel), by decide +kernel, by decide +kernel, by decide +kernel, by decide +kernel⟩
def MX5_chargeMove : MT := (yX5_chargeMove, cX5_chargeMove, 4, none, 2)
theorem ok_MX5_chargeMove : MOK MX5_chargeMove := ⟨by decide +kernel, tbm 606 (by decide +kernel) (by decide +kernel), by decide +kernel, by decide +kernel, by decide +kernel, by decide +kernel⟩
def MX5_costOf : MT := (yX5_costOf, cX5_costOf, 3, (some FieldType.long), 2)
theorem ok_MX5_costOf : MOK MX5_costOf := ⟨by decide +kernel, tbm 516 (by decide +kernel) (by decide +kernel), by decide +kernel, by decide +kernel, by decide +kernel, by decide +kernel⟩
def MX5_digitOf : MT := (yX5_digitOf, cX5_digitOf, 3, (some FieldType.long), 2)
theorem ok_MX5_digitOf : MOK MX5_digitOf := ⟨by decide +kernel, tbm 520 (by decide +kernel) (by decide +kernel), by decide +kernel, by decide +kernel, by decide +kernel, by decide +kernel⟩
def MX5_cellOf : MT := (yX5_cellOf, cX5_cellOf, 4, (some FieldType.int), 2)
theorem ok_MX5_cellOf : MOK MX5_cellOf := ⟨by decide +kernel, tbm 474 (by decide +kernel) (by decide +kernel), by decide +kernel, by decide +kernel, by decide +kernel, by decide +kernel⟩
def MX6_init : MT := (yX6_init, cX6_init, 1, none, 0)
def MX6_prepare : MT := (yX6_prepare, cX6_prepare, 4, none, 1)
theorem ok_MX6_prepare : MOK MX6_prepare := ⟨by decide +kernel, tbm 449 (by decide +kernel) (by decide +kernel), by decide +kernel, by decide +kernel, by decide +kernel, by decide +kernel⟩
def MX6_tellRanks : MT := (yX6_tellRanks, cX6_tellRanks, 5, none, 4)
theorem ok_MX6_tellRanks : MOK MX6_tellRanks := ⟨by decide +kernel, tbm 632 (by decide +kernel) (by decide +kernel), by decide +kernel, by decide +kernel, by decide +kernel, by decide +kernel⟩
def MX6_chargeMove : MT := (yX6_chargeMove, cX6_chargeMove, 3, none, 2)
theorem ok_MX6_chargeMove : MOK MX6_chargeMove := ⟨by decide +kernel, tbm 602 (by decide +kernel) (by decide +kernel), by decide +kernel, by decide +kernel, by decide +kernel, by decide +kernel⟩
def MX6_findBest : MT := (yX6_findBest, cX6_findBest, 1, (some FieldType.boolean), 0)
theorem ok_MX6_findBest : MOK MX6_findBest := ⟨by decide +kernel, tbm 483 (by decide +kernel) (by decide +kernel), by decide +kernel, by decide +kernel, by decide +kernel, by decide +kernel⟩
def MX6_countRight : MT := (yX6_countRight, cX6_countRight, 1, (some FieldType.int), 0)
theorem ok_MX6_countRight : MOK MX6_countRight := ⟨by decide +kernel, tbm 532 (by decide +kernel) (by decide +kernel), by decide +kernel, by decide +kernel, by decide +kernel, by decide +kernel⟩
def MX6_countBetter : MT := (yX6_countBetter, cX6_countBetter, 7, (some FieldType.int), 1)
theorem ok_MX6_countBetter : MOK MX6_countBetter := ⟨by decide +kernel, tbm 536 (by decide +kernel) (by decide +kernel), by decide +kernel, by decide +kernel, by decide +kernel, by decide +kernel⟩
def MX6_isPresent : MT := (yX6_isPresent, cX6_isPresent, 2, (some FieldType.boolean), 1)
theorem ok_MX6_isPresent : MOK MX6_isPresent := ⟨by decide +kernel, tbm 507 (by decide +kernel) (by decide +kernel), by decide +kernel, by decide +kernel, by decide +kernel, by decide +kernel⟩
def MX6_friendsBefore : MT := (yX6_friendsBefore, cX6_friendsBefore, 6, (some FieldType.int), 2)
theorem ok_MX6_friendsBefore : MOK MX6_friendsBefore := ⟨by decide +kernel, tbm 540 (by decide +kernel) (by decide +kernel), by decide +kernel, by decide +kernel, by decide +kernel, by decide +kernel⟩
def MX6_begin : MT := (yX6_begin, cX6_begin, 7, none, 3)
theorem ok_MX6_begin : MOK MX6_begin := ⟨by decide +kernel, tbm 488 (by decide +kernel) (by decide +kernel), by decide +kernel, by decide +kernel, by decide +kernel, by decide +kernel⟩
def MX6_extend : MT := (yX6_extend, cX6_extend, 11, none, 4)
theorem ok_MX6_extend : MOK MX6_extend := ⟨by decide +kernel, tbm 492 (by decide +kernel) (by decide +kernel), by decide +kernel, by decide +kernel, by decide +kernel, by decide +kernel⟩
def MX6_judge : MT := (yX6_judge, cX6_judge, 6, none, 2)
theorem ok_MX6_judge : MOK MX6_judge := ⟨by decide +kernel, tbm 496 (by decide +kernel) (by decide +kernel), by decide +kernel, by decide +kernel, by decide +kernel, by decide +kernel⟩
def MX6_foundFor : MT := (yX6_foundFor, cX6_foundFor, 2, (some FieldType.int), 1)
theorem ok_MX6_foundFor : MOK MX6_foundFor := ⟨by decide +kernel, tbm 619 (by decide +kernel) (by decide +kernel), by decide +kernel, by decide +kernel, by decide +kernel, by decide +kernel⟩
def MX6_copyFound : MT := (yX6_copyFound, cX6_copyFound, 3, none, 1)
theorem ok_MX6_copyFound : MOK MX6_copyFound := ⟨by decide +kernel, tbm 524 (by decide +kernel) (by decide +kernel), by decide +kernel, by decide +kernel, by decide +kernel, by decide +kernel⟩
def MX6_movedFrom : MT := (yX6_movedFrom, cX6_movedFrom, 4, (some FieldType.int), 1)
theorem ok_MX6_movedFrom : MOK MX6_movedFrom := ⟨by decide +kernel, tbm 611 (by decide +kernel) (by decide +kernel), by decide +kernel, by decide +kernel, by decide +kernel, by decide +kernel⟩
def MX7_init : MT := (yX7_init, cX7_init, 2, none, 0)
def MX7_pupil : MT := (yX7_pupil, cX7_pupil, 2, (some FieldType.int), 1)
theorem ok_MX7_pupil : MOK MX7_pupil := ⟨by decide +kernel, tbm 288 (by decide +kernel) (by decide +kernel), by decide +kernel, by decide +kernel, by decide +kernel, by decide +kernel⟩
def MX7_project : MT := (yX7_project, cX7_project, 6, (some FieldType.int), 5)
theorem ok_MX7_project : MOK MX7_project := ⟨by decide +kernel, tbm 296 (by decide +kernel) (by decide +kernel), by decide +kernel, by decide +kernel, by decide +kernel, by decide +kernel⟩
def MX7_wish : MT := (yX7_wish, cX7_wish, 4, (some FieldType.int), 2)
theorem ok_MX7_wish : MOK MX7_wish := ⟨by decide +kernel, tbm 308 (by decide +kernel) (by decide +kernel), by decide +kernel, by decide +kernel, by decide +kernel, by decide +kernel⟩
def MX7_wishes : MT := (yX7_wishes, cX7_wishes, 11, (some FieldType.int), 5)
theorem ok_MX7_wishes : MOK MX7_wishes := ⟨by decide +kernel, tbm 325 (by decide +kernel) (by decide +kernel), by decide +kernel, by decide +kernel, by decide +kernel, by decide +kernel⟩
def MX7_friends : MT := (yX7_friends, cX7_friends, 6, (some FieldType.boolean), 3)
theorem ok_MX7_friends : MOK MX7_friends := ⟨by decide +kernel, tbm 333 (by decide +kernel) (by decide +kernel), by decide +kernel, by decide +kernel, by decide +kernel, by decide +kernel⟩
def MX7_apart : MT := (yX7_apart, cX7_apart, 6, (some FieldType.boolean), 3)
theorem ok_MX7_apart : MOK MX7_apart := ⟨by decide +kernel, tbm 340 (by decide +kernel) (by decide +kernel), by decide +kernel, by decide +kernel, by decide +kernel, by decide +kernel⟩
def MX7_here : MT := (yX7_here, cX7_here, 4, (some FieldType.boolean), 2)
theorem ok_MX7_here : MOK MX7_here := ⟨by decide +kernel, tbm 344 (by decide +kernel) (by decide +kernel), by decide +kernel, by decide +kernel, by decide +kernel, by decide +kernel⟩
def MX7_offered : MT := (yX7_offered, cX7_offered, 4, (some FieldType.boolean), 2)
theorem ok_MX7_offered : MOK MX7_offered := ⟨by decide +kernel, tbm 348 (by decide +kernel) (by decide +kernel), by decide +kernel, by decide +kernel, by decide +kernel, by decide +kernel⟩
def MX7_lots : MT := (yX7_lots, cX7_lots, 2, (some FieldType.boolean), 1)
theorem ok_MX7_lots : MOK MX7_lots := ⟨by decide +kernel, tbm 357 (by decide +kernel) (by decide +kernel), by decide +kernel, by decide +kernel, by decide +kernel, by decide +kernel⟩
def MX7_count : MT := (yX7_count, cX7_count, 2, (some FieldType.int), 1)
theorem ok_MX7_count : MOK MX7_count := ⟨by decide +kernel, tbm 369 (by decide +kernel) (by decide +kernel), by decide +kernel, by decide +kernel, by decide +kernel, by decide +kernel⟩
def MX7_of : MT := (yX7_of, cX7_of, 4, (some FieldType.int), 2)
theorem ok_MX7_of : MOK MX7_of := ⟨by decide +kernel, tbm 676 (by decide +kernel) (by decide +kernel), by decide +kernel, by decide +kernel, by decide +kernel, by decide +kernel⟩
def MX7_rank : MT := (yX7_rank, cX7_rank, 4, (some FieldType.int), 2)
theorem ok_MX7_rank : MOK MX7_rank := ⟨by decide +kernel, tbm 387 (by decide +kernel) (by decide +kernel), by decide +kernel, by decide +kernel, by decide +kernel, by decide +kernel⟩
def MX7_put : MT := (yX7_put, cX7_put, 3, (some FieldType.boolean), 2)
theorem ok_MX7_put : MOK MX7_put := ⟨by decide +kernel, tbm 395 (by decide +kernel) (by decide +kernel), by decide +kernel, by decide +kernel, by decide +kernel, by decide +kernel⟩
def MX7_wrong : MT := (yX7_wrong, cX7_wrong, 1, (some FieldType.int), 0)
theorem ok_MX7_wrong : MOK MX7_wrong := ⟨by decide +kernel, tbm 399 (by decide +kernel) (by decide +kernel), by decide +kernel, by decide +kernel, by decide +kernel, by decide +kernel⟩
def MX7_best : MT := (yX7_best, cX7_best, 1, (some FieldType.int), 0)
theorem ok_MX7_best : MOK MX7_best := ⟨by decide +kernel, tbm 445 (by decide +kernel) (by decide +kernel), by decide +kernel, by decide +kernel, by decide +kernel, by decide +kernel⟩
def MX7_plans : MT := (yX7_plans, cX7_plans, 2, (some FieldType.int), 1)
theorem ok_MX7_plans : MOK MX7_plans := ⟨by decide +kernel, tbm 528 (by decide +kernel) (by decide +kernel), by decide +kernel, by decide +kernel, by decide +kernel, by decide +kernel⟩
def MX7_worth : MT := (yX7_worth, cX7_worth, 2, (some FieldType.int), 1)
theorem ok_MX7_worth : MOK MX7_worth := ⟨by decide +kernel, tbm 544 (by decide +kernel) (by decide +kernel), by decide +kernel, by decide +kernel, by decide +kernel, by decide +kernel⟩
def MX7_swap : MT := (yX7_swap, cX7_swap, 3, (some FieldType.int), 0)
theorem ok_MX7_swap : MOK MX7_swap := ⟨by decide +kernel, tbm 581 (by decide +kernel) (by decide +kernel), by decide +kernel, by decide +kernel, by decide +kernel, by decide +kernel⟩
def MX7_change : MT := (yX7_change, cX7_change, 2, (some FieldType.int), 0)
theorem ok_MX7_change : MOK MX7_change := ⟨by decide +kernel, tbm 598 (by decide +kernel) (by decide +kernel), by decide +kernel, by decide +kernel, by decide +kernel, by decide +kernel⟩
def MX7_lie : MT := (yX7_lie, cX7_lie, 4, (some FieldType.int), 1)
theorem ok_MX7_lie : MOK MX7_lie := ⟨by decide +kernel, tbm 615 (by decide +kernel) (by decide +kernel), by decide +kernel, by decide +kernel, by decide +kernel, by decide +kernel⟩
def MX7_book : MT := (yX7_book, cX7_book, 3, (some FieldType.int), 0)
theorem ok_MX7_book : MOK MX7_book := ⟨by decide +kernel, tbm 641 (by decide +kernel) (by decide +kernel), by decide +kernel, by decide +kernel, by decide +kernel, by decide +kernel⟩
def MX7_year : MT := (yX7_year, cX7_year, 3, (some FieldType.int), 2)
theorem ok_MX7_year : MOK MX7_year := ⟨by decide +kernel, tbm 656 (by decide +kernel) (by decide +kernel), by decide +kernel, by decide +kernel, by decide +kernel, by decide +kernel⟩
def MX7_undo : MT := (yX7_undo, cX7_undo, 3, (some FieldType.int), 0)
theorem ok_MX7_undo : MOK MX7_undo := ⟨by decide +kernel, tbm 664 (by decide +kernel) (by decide +kernel), by decide +kernel, by decide +kernel, by decide +kernel, by decide +kernel⟩
def MX7_row : MT := (yX7_row, cX7_row, 2, (some FieldType.int), 1)
theorem ok_MX7_row : MOK MX7_row := ⟨by decide +kernel, tbm 744 (by decide +kernel) (by decide +kernel), by decide +kernel, by decide +kernel, by decide +kernel, by decide +kernel⟩
def MX7_withBit : MT := (yX7_withBit, cX7_withBit, 3, (some FieldType.int), 3)
theorem ok_MX7_withBit : MOK MX7_withBit := ⟨by decide +kernel, tbm 336 (by decide +kernel) (by decide +kernel), by decide +kernel, by decide +kernel, by decide +kernel, by decide +kernel⟩
def MX7_isPlaced : MT := (yX7_isPlaced, cX7_isPlaced, 3, (some FieldType.boolean), 1)
theorem ok_MX7_isPlaced : MOK MX7_isPlaced := ⟨by decide +kernel, tbm 552 (by decide +kernel) (by decide +kernel), by decide +kernel, by decide +kernel, by decide +kernel, by decide +kernel⟩
def MX7_rankByPlan : MT := (yX7_rankByPlan, cX7_rankByPlan, 3, (some FieldType.int), 1)
theorem ok_MX7_rankByPlan : MOK MX7_rankByPlan := ⟨by decide +kernel, tbm 556 (by decide +kernel) (by decide +kernel), by decide +kernel, by decide +kernel, by decide +kernel, by decide +kernel⟩
def MX7_countRanks : MT := (yX7_countRanks, cX7_countRanks, 4, (some FieldType.int), 1)
theorem ok_MX7_countRanks : MOK MX7_countRanks := ⟨by decide +kernel, tbm 548 (by decide +kernel) (by decide +kernel), by decide +kernel, by decide +kernel, by decide +kernel, by decide +kernel⟩
def MX7_grief : MT := (yX7_grief, cX7_grief, 3, (some FieldType.int), 0)
theorem ok_MX7_grief : MOK MX7_grief := ⟨by decide +kernel, tbm 560 (by decide +kernel) (by decide +kernel), by decide +kernel, by decide +kernel, by decide +kernel, by decide +kernel⟩
def MX7_friendPairs : MT := (yX7_friendPairs, cX7_friendPairs, 4, (some FieldType.int), 0)
theorem ok_MX7_friendPairs : MOK MX7_friendPairs := ⟨by decide +kernel, tbm 569 (by decide +kernel) (by decide +kernel), by decide +kernel, by decide +kernel, by decide +kernel, by decide +kernel⟩
def MX7_projectsUsed : MT := (yX7_projectsUsed, cX7_projectsUsed, 3, (some FieldType.int), 0)
theorem ok_MX7_projectsUsed : MOK MX7_projectsUsed := ⟨by decide +kernel, tbm 577 (by decide +kernel) (by decide +kernel), by decide +kernel, by decide +kernel, by decide +kernel, by decide +kernel⟩
def MX7_bothGain : MT := (yX7_bothGain, cX7_bothGain, 3, (some FieldType.boolean), 2)
theorem ok_MX7_bothGain : MOK MX7_bothGain := ⟨by decide +kernel, tbm 585 (by decide +kernel) (by decide +kernel), by decide +kernel, by decide +kernel, by decide +kernel, by decide +kernel⟩
def MX7_gains : MT := (yX7_gains, cX7_gains, 4, (some FieldType.boolean), 2)
theorem ok_MX7_gains : MOK MX7_gains := ⟨by decide +kernel, tbm 589 (by decide +kernel) (by decide +kernel), by decide +kernel, by decide +kernel, by decide +kernel, by decide +kernel⟩
def MX7_rightAfterExchange : MT := (yX7_rightAfterExchange, cX7_rightAfterExchange, 4, (some FieldType.boolean), 2)
theorem ok_MX7_rightAfterExchange : MOK MX7_rightAfterExchange := ⟨by decide +kernel, tbm 593 (by decide +kernel) (by decide +kernel), by decide +kernel, by decide +kernel, by decide +kernel, by decide +kernel⟩
def MX7_findPayingTale : MT := (yX7_findPayingTale, cX7_findPayingTale, 6, (some FieldType.boolean), 3)
theorem ok_MX7_findPayingTale : MOK MX7_findPayingTale := ⟨by decide +kernel, tbm 623 (by decide +kernel) (by decide +kernel), by decide +kernel, by decide +kernel, by decide +kernel, by decide +kernel⟩
def MX7_rankByTale : MT := (yX7_rankByTale, cX7_rankByTale, 4, none, 1)
theorem ok_MX7_rankByTale : MOK MX7_rankByTale := ⟨by decide +kernel, tbm 627 (by decide +kernel) (by decide +kernel), by decide +kernel, by decide +kernel, by decide +kernel, by decide +kernel⟩
def MX7_turnToNext : MT := (yX7_turnToNext, cX7_turnToNext, 6, (some FieldType.boolean), 2)
theorem ok_MX7_turnToNext : MOK MX7_turnToNext := ⟨by decide +kernel, tbm 637 (by decide +kernel) (by decide +kernel), by decide +kernel, by decide +kernel, by decide +kernel, by decide +kernel⟩
def MX7_exchangePlaces : MT := (yX7_exchangePlaces, cX7_exchangePlaces, 4, none, 3)
theorem ok_MX7_exchangePlaces : MOK MX7_exchangePlaces := ⟨by decide +kernel, tbm 365 (by decide +kernel) (by decide +kernel), by decide +kernel, by decide +kernel, by decide +kernel, by decide +kernel⟩
def MX8_init : MT := (yX8_init, cX8_init, 1, none, 0)
def MX8_thrown : MT := (yX8_thrown, cX8_thrown, 1, (some FieldType.int), 0)
theorem ok_MX8_thrown : MOK MX8_thrown := ⟨by decide +kernel, tbm 867 (by decide +kernel) (by decide +kernel), by decide +kernel, by decide +kernel, by decide +kernel, by decide +kernel⟩
def MX8_in : MT := (yX8_in, cX8_in, 6, (some FieldType.boolean), 3)
theorem ok_MX8_in : MOK MX8_in := ⟨by decide +kernel, tbm 875 (by decide +kernel) (by decide +kernel), by decide +kernel, by decide +kernel, by decide +kernel, by decide +kernel⟩
def MX8_refuse : MT := (yX8_refuse, cX8_refuse, 1, (some FieldType.int), 0)
theorem ok_MX8_refuse : MOK MX8_refuse := ⟨by decide +kernel, tbm 948 (by decide +kernel) (by decide +kernel), by decide +kernel, by decide +kernel, by decide +kernel, by decide +kernel⟩
def MX8_isPupil : MT := (yX8_isPupil, cX8_isPupil, 2, (some FieldType.boolean), 1)
theorem ok_MX8_isPupil : MOK MX8_isPupil := ⟨by decide +kernel, tbm 885 (by decide +kernel) (by decide +kernel), by decide +kernel, by decide +kernel, by decide +kernel, by decide +kernel⟩
def MX8_isProject : MT := (yX8_isProject, cX8_isProject, 2, (some FieldType.boolean), 1)
theorem ok_MX8_isProject : MOK MX8_isProject := ⟨by decide +kernel, tbm 893 (by decide +kernel) (by decide +kernel), by decide +kernel, by decide +kernel, by decide +kernel, by decide +kernel⟩
def MX8_pupil : MT := (yX8_pupil, cX8_pupil, 3, (some FieldType.int), 1)
theorem ok_MX8_pupil : MOK MX8_pupil := ⟨by decide +kernel, tbm 871 (by decide +kernel) (by decide +kernel), by decide +kernel, by decide +kernel, by decide +kernel, by decide +kernel⟩
def MX8_project : MT := (yX8_project, cX8_project, 8, (some FieldType.int), 5)
theorem ok_MX8_project : MOK MX8_project := ⟨by decide +kernel, tbm 879 (by decide +kernel) (by decide +kernel), by decide +kernel, by decide +kernel, by decide +kernel, by decide +kernel⟩
def MX8_hasWish : MT := (yX8_hasWish, cX8_hasWish, 5, (some FieldType.boolean), 2)
theorem ok_MX8_hasWish : MOK MX8_hasWish := ⟨by decide +kernel, tbm 897 (by decide +kernel) (by decide +kernel), by decide +kernel, by decide +kernel, by decide +kernel, by decide +kernel⟩
def MX8_add : MT := (yX8_add, cX8_add, 3, none, 2)
theorem ok_MX8_add : MOK MX8_add := ⟨by decide +kernel, tbm 901 (by decide +kernel) (by decide +kernel), by decide +kernel, by decide +kernel, by decide +kernel, by decide +kernel⟩
def MX8_wish : MT := (yX8_wish, cX8_wish, 3, (some FieldType.int), 2)
theorem ok_MX8_wish : MOK MX8_wish := ⟨by decide +kernel, tbm 889 (by decide +kernel) (by decide +kernel), by decide +kernel, by decide +kernel, by decide +kernel, by decide +kernel⟩
def MX8_wishes : MT := (yX8_wishes, cX8_wishes, 8, (some FieldType.int), 5)
theorem ok_MX8_wishes : MOK MX8_wishes := ⟨by decide +kernel, tbm 905 (by decide +kernel) (by decide +kernel), by decide +kernel, by decide +kernel, by decide +kernel, by decide +kernel⟩
def MX8_areTwo : MT := (yX8_areTwo, cX8_areTwo, 3, (some FieldType.boolean), 2)
theorem ok_MX8_areTwo : MOK MX8_areTwo := ⟨by decide +kernel, tbm 914 (by decide +kernel) (by decide +kernel), by decide +kernel, by decide +kernel, by decide +kernel, by decide +kernel⟩
def MX8_friends : MT := (yX8_friends, cX8_friends, 4, (some FieldType.boolean), 3)
theorem ok_MX8_friends : MOK MX8_friends := ⟨by decide +kernel, tbm 910 (by decide +kernel) (by decide +kernel), by decide +kernel, by decide +kernel, by decide +kernel, by decide +kernel⟩
def MX8_apart : MT := (yX8_apart, cX8_apart, 4, (some FieldType.boolean), 3)
theorem ok_MX8_apart : MOK MX8_apart := ⟨by decide +kernel, tbm 918 (by decide +kernel) (by decide +kernel), by decide +kernel, by decide +kernel, by decide +kernel, by decide +kernel⟩
def MX8_here : MT := (yX8_here, cX8_here, 3, (some FieldType.boolean), 2)
theorem ok_MX8_here : MOK MX8_here := ⟨by decide +kernel, tbm 922 (by decide +kernel) (by decide +kernel), by decide +kernel, by decide +kernel, by decide +kernel, by decide +kernel⟩
def MX8_offered : MT := (yX8_offered, cX8_offered, 3, (some FieldType.boolean), 2)
theorem ok_MX8_offered : MOK MX8_offered := ⟨by decide +kernel, tbm 926 (by decide +kernel) (by decide +kernel), by decide +kernel, by decide +kernel, by decide +kernel, by decide +kernel⟩
def MX8_lots : MT := (yX8_lots, cX8_lots, 6, (some FieldType.boolean), 1)
theorem ok_MX8_lots : MOK MX8_lots := ⟨by decide +kernel, tbm 930 (by decide +kernel) (by decide +kernel), by decide +kernel, by decide +kernel, by decide +kernel, by decide +kernel⟩
def MX8_present : MT := (yX8_present, cX8_present, 3, (some FieldType.int), 0)
theorem ok_MX8_present : MOK MX8_present := ⟨by decide +kernel, tbm 939 (by decide +kernel) (by decide +kernel), by decide +kernel, by decide +kernel, by decide +kernel, by decide +kernel⟩
def MX8_count : MT := (yX8_count, cX8_count, 4, (some FieldType.int), 1)
theorem ok_MX8_count : MOK MX8_count := ⟨by decide +kernel, tbm 935 (by decide +kernel) (by decide +kernel), by decide +kernel, by decide +kernel, by decide +kernel, by decide +kernel⟩
def MX8_rankOf : MT := (yX8_rankOf, cX8_rankOf, 4, (some FieldType.int), 2)
theorem ok_MX8_rankOf : MOK MX8_rankOf := ⟨by decide +kernel, tbm 952 (by decide +kernel) (by decide +kernel), by decide +kernel, by decide +kernel, by decide +kernel, by decide +kernel⟩
def MX8_of : MT := (yX8_of, cX8_of, 4, (some FieldType.int), 2)
theorem ok_MX8_of : MOK MX8_of := ⟨by decide +kernel, tbm 943 (by decide +kernel) (by decide +kernel), by decide +kernel, by decide +kernel, by decide +kernel, by decide +kernel⟩
def MX8_rank : MT := (yX8_rank, cX8_rank, 3, (some FieldType.int), 2)
theorem ok_MX8_rank : MOK MX8_rank := ⟨by decide +kernel, tbm 956 (by decide +kernel) (by decide +kernel), by decide +kernel, by decide +kernel, by decide +kernel, by decide +kernel⟩
def MX8_put : MT := (yX8_put, cX8_put, 3, (some FieldType.boolean), 2)
theorem ok_MX8_put : MOK MX8_put := ⟨by decide +kernel, tbm 960 (by decide +kernel) (by decide +kernel), by decide +kernel, by decide +kernel, by decide +kernel, by decide +kernel⟩
def MX8_sizeOf : MT := (yX8_sizeOf, cX8_sizeOf, 5, (some FieldType.int), 3)
theorem ok_MX8_sizeOf : MOK MX8_sizeOf := ⟨by decide +kernel, tbm 971 (by decide +kernel) (by decide +kernel), by decide +kernel, by decide +kernel, by decide +kernel, by decide +kernel⟩
def MX8_isTwice : MT := (yX8_isTwice, cX8_isTwice, 3, (some FieldType.boolean), 2)
theorem ok_MX8_isTwice : MOK MX8_isTwice := ⟨by decide +kernel, tbm 979 (by decide +kernel) (by decide +kernel), by decide +kernel, by decide +kernel, by decide +kernel, by decide +kernel⟩
def MX8_isSize : MT := (yX8_isSize, cX8_isSize, 3, (some FieldType.boolean), 2)
theorem ok_MX8_isSize : MOK MX8_isSize := ⟨by decide +kernel, tbm 975 (by decide +kernel) (by decide +kernel), by decide +kernel, by decide +kernel, by decide +kernel, by decide +kernel⟩
def MX8_hasSkills : MT := (yX8_hasSkills, cX8_hasSkills, 7, (some FieldType.boolean), 3)
theorem ok_MX8_hasSkills : MOK MX8_hasSkills := ⟨by decide +kernel, tbm 987 (by decide +kernel) (by decide +kernel), by decide +kernel, by decide +kernel, by decide +kernel, by decide +kernel⟩
def MX8_isLed : MT := (yX8_isLed, cX8_isLed, 4, (some FieldType.boolean), 3)
theorem ok_MX8_isLed : MOK MX8_isLed := ⟨by decide +kernel, tbm 983 (by decide +kernel) (by decide +kernel), by decide +kernel, by decide +kernel, by decide +kernel, by decide +kernel⟩
def MX8_wrongOf : MT := (yX8_wrongOf, cX8_wrongOf, 6, (some FieldType.int), 1)
theorem ok_MX8_wrongOf : MOK MX8_wrongOf := ⟨by decide +kernel, tbm 968 (by decide +kernel) (by decide +kernel), by decide +kernel, by decide +kernel, by decide +kernel, by decide +kernel⟩
def MX8_wrong : MT := (yX8_wrong, cX8_wrong, 1, (some FieldType.int), 0)
theorem ok_MX8_wrong : MOK MX8_wrong := ⟨by decide +kernel, tbm 964 (by decide +kernel) (by decide +kernel), by decide +kernel, by decide +kernel, by decide +kernel, by decide +kernel⟩
def MX8_nines : MT := (yX8_nines, cX8_nines, 3, (some FieldType.int), 1)
theorem ok_MX8_nines : MOK MX8_nines := ⟨by decide +kernel, tbm 1023 (by decide +kernel) (by decide +kernel), by decide +kernel, by decide +kernel, by decide +kernel, by decide +kernel⟩
def MX8_rankBy : MT := (yX8_rankBy, cX8_rankBy, 3, (some FieldType.int), 2)
theorem ok_MX8_rankBy : MOK MX8_rankBy := ⟨by decide +kernel, tbm 1020 (by decide +kernel) (by decide +kernel), by decide +kernel, by decide +kernel, by decide +kernel, by decide +kernel⟩
def MX8_weigh : MT := (yX8_weigh, cX8_weigh, 5, none, 1)
theorem ok_MX8_weigh : MOK MX8_weigh := ⟨by decide +kernel, tbm 1016 (by decide +kernel) (by decide +kernel), by decide +kernel, by decide +kernel, by decide +kernel, by decide +kernel⟩
def MX8_isAhead : MT := (yX8_isAhead, cX8_isAhead, 7, (some FieldType.boolean), 2)
theorem ok_MX8_isAhead : MOK MX8_isAhead := ⟨by decide +kernel, tbm 1027 (by decide +kernel) (by decide +kernel), by decide +kernel, by decide +kernel, by decide +kernel, by decide +kernel⟩
def MX8_isBetter : MT := (yX8_isBetter, cX8_isBetter, 2, (some FieldType.boolean), 1)
theorem ok_MX8_isBetter : MOK MX8_isBetter := ⟨by decide +kernel, tbm 1012 (by decide +kernel) (by decide +kernel), by decide +kernel, by decide +kernel, by decide +kernel, by decide +kernel⟩
def MX8_keeps : MT := (yX8_keeps, cX8_keeps, 3, none, 1)
theorem ok_MX8_keeps : MOK MX8_keeps := ⟨by decide +kernel, tbm 1031 (by decide +kernel) (by decide +kernel), by decide +kernel, by decide +kernel, by decide +kernel, by decide +kernel⟩
def MX8_movesOf : MT := (yX8_movesOf, cX8_movesOf, 4, (some FieldType.int), 1)
theorem ok_MX8_movesOf : MOK MX8_movesOf := ⟨by decide +kernel, tbm 1008 (by decide +kernel) (by decide +kernel), by decide +kernel, by decide +kernel, by decide +kernel, by decide +kernel⟩
def MX8_finds : MT := (yX8_finds, cX8_finds, 3, none, 0)
theorem ok_MX8_finds : MOK MX8_finds := ⟨by decide +kernel, tbm 1004 (by decide +kernel) (by decide +kernel), by decide +kernel, by decide +kernel, by decide +kernel, by decide +kernel⟩
def MX8_may : MT := (yX8_may, cX8_may, 5, (some FieldType.boolean), 2)
theorem ok_MX8_may : MOK MX8_may := ⟨by decide +kernel, tbm 1035 (by decide +kernel) (by decide +kernel), by decide +kernel, by decide +kernel, by decide +kernel, by decide +kernel⟩
def MX8_goes : MT := (yX8_goes, cX8_goes, 3, none, 1)
theorem ok_MX8_goes : MOK MX8_goes := ⟨by decide +kernel, tbm 1000 (by decide +kernel) (by decide +kernel), by decide +kernel, by decide +kernel, by decide +kernel, by decide +kernel⟩
def MX8_all : MT := (yX8_all, cX8_all, 2, none, 1)
theorem ok_MX8_all : MOK MX8_all := ⟨by decide +kernel, tbm 995 (by decide +kernel) (by decide +kernel), by decide +kernel, by decide +kernel, by decide +kernel, by decide +kernel⟩
def MX8_takes : MT := (yX8_takes, cX8_takes, 2, none, 0)
theorem ok_MX8_takes : MOK MX8_takes := ⟨by decide +kernel, tbm 1039 (by decide +kernel) (by decide +kernel), by decide +kernel, by decide +kernel, by decide +kernel, by decide +kernel⟩
def MX8_best : MT := (yX8_best, cX8_best, 1, (some FieldType.int), 0)
theorem ok_MX8_best : MOK MX8_best := ⟨by decide +kernel, tbm 991 (by decide +kernel) (by decide +kernel), by decide +kernel, by decide +kernel, by decide +kernel, by decide +kernel⟩
def MX8_plans : MT := (yX8_plans, cX8_plans, 2, (some FieldType.int), 1)
theorem ok_MX8_plans : MOK MX8_plans := ⟨by decide +kernel, tbm 1043 (by decide +kernel) (by decide +kernel), by decide +kernel, by decide +kernel, by decide +kernel, by decide +kernel⟩
def MX8_worth : MT := (yX8_worth, cX8_worth, 9, (some FieldType.int), 1)
theorem ok_MX8_worth : MOK MX8_worth := ⟨by decide +kernel, tbm 1047 (by decide +kernel) (by decide +kernel), by decide +kernel, by decide +kernel, by decide +kernel, by decide +kernel⟩
def MX8_wouldSwap : MT := (yX8_wouldSwap, cX8_wouldSwap, 4, (some FieldType.boolean), 2)
theorem ok_MX8_wouldSwap : MOK MX8_wouldSwap := ⟨by decide +kernel, tbm 1057 (by decide +kernel) (by decide +kernel), by decide +kernel, by decide +kernel, by decide +kernel, by decide +kernel⟩
def MX8_swap : MT := (yX8_swap, cX8_swap, 3, (some FieldType.int), 0)
theorem ok_MX8_swap : MOK MX8_swap := ⟨by decide +kernel, tbm 1053 (by decide +kernel) (by decide +kernel), by decide +kernel, by decide +kernel, by decide +kernel, by decide +kernel⟩
def MX8_change : MT := (yX8_change, cX8_change, 1, (some FieldType.int), 0)
theorem ok_MX8_change : MOK MX8_change := ⟨by decide +kernel, tbm 1061 (by decide +kernel) (by decide +kernel), by decide +kernel, by decide +kernel, by decide +kernel, by decide +kernel⟩
def MX8_nextOrder : MT := (yX8_nextOrder, cX8_nextOrder, 5, (some FieldType.boolean), 0)
theorem ok_MX8_nextOrder : MOK MX8_nextOrder := ⟨by decide +kernel, tbm 1069 (by decide +kernel) (by decide +kernel), by decide +kernel, by decide +kernel, by decide +kernel, by decide +kernel⟩
def MX8_exchange : MT := (yX8_exchange, cX8_exchange, 4, none, 2)
theorem ok_MX8_exchange : MOK MX8_exchange := ⟨by decide +kernel, tbm 1073 (by decide +kernel) (by decide +kernel), by decide +kernel, by decide +kernel, by decide +kernel, by decide +kernel⟩
def MX8_lie : MT := (yX8_lie, cX8_lie, 8, (some FieldType.int), 1)
theorem ok_MX8_lie : MOK MX8_lie := ⟨by decide +kernel, tbm 1065 (by decide +kernel) (by decide +kernel), by decide +kernel, by decide +kernel, by decide +kernel, by decide +kernel⟩
def MX8_book : MT := (yX8_book, cX8_book, 3, (some FieldType.int), 0)
theorem ok_MX8_book : MOK MX8_book := ⟨by decide +kernel, tbm 1077 (by decide +kernel) (by decide +kernel), by decide +kernel, by decide +kernel, by decide +kernel, by decide +kernel⟩
def MX8_year : MT := (yX8_year, cX8_year, 3, (some FieldType.int), 2)
theorem ok_MX8_year : MOK MX8_year := ⟨by decide +kernel, tbm 1084 (by decide +kernel) (by decide +kernel), by decide +kernel, by decide +kernel, by decide +kernel, by decide +kernel⟩
def MX8_undo : MT := (yX8_undo, cX8_undo, 3, (some FieldType.int), 0)
theorem ok_MX8_undo : MOK MX8_undo := ⟨by decide +kernel, tbm 1088 (by decide +kernel) (by decide +kernel), by decide +kernel, by decide +kernel, by decide +kernel, by decide +kernel⟩
def MX8_row : MT := (yX8_row, cX8_row, 2, (some FieldType.int), 1)
theorem ok_MX8_row : MOK MX8_row := ⟨by decide +kernel, tbm 1092 (by decide +kernel) (by decide +kernel), by decide +kernel, by decide +kernel, by decide +kernel, by decide +kernel⟩
def MJ6_bitCount_0f7a4 : MT := (yJ6_bitCount_0f7a4, cJ6_bitCount_0f7a4, 1, (some FieldType.int), 1)
theorem ok_MJ6_bitCount_0f7a4 : MOK MJ6_bitCount_0f7a4 := ⟨by decide +kernel, tbm 376 (by decide +kernel) (by decide +kernel), by decide +kernel, by decide +kernel, by decide +kernel, by decide +kernel⟩
def MJ9_max_7cf53 : MT := (yJ9_max_7cf53, cJ9_max_7cf53, 2, (some FieldType.int), 2)
def LVk (own : String) (idx : Nat) (M : MT) : Prop := Cond.methodLink own idx M.1 ∈ TB ∧ Cond.instanceMethod M.1 ∈ TB ∧ Cond.selects M.1.cls M.1 M.1 ∈ TB ∧ Cond.initialized M.1.cls ∈ TB
def LSk (own : String) (idx : Nat) (M : MT) : Prop := Cond.methodLink own idx M.1 ∈ TB ∧ Cond.static M.1 ∈ TB ∧ Cond.initialized M.1.cls ∈ TB
theorem lV_L_23 : LVk RL 23 MX7_pupil := ⟨tbm 285 (by decide +kernel) (by decide +kernel), tbm 286 (by decide +kernel) (by decide +kernel), tbm 287 (by decide +kernel) (by decide +kernel), tbm 50 (by decide +kernel) (by decide +kernel)⟩
theorem lV_X7_43 : LVk RX7 43 MX4_addPupil := ⟨tbm 289 (by decide +kernel) (by decide +kernel), tbm 290 (by decide +kernel) (by decide +kernel), tbm 291 (by decide +kernel) (by decide +kernel), tbm 51 (by decide +kernel) (by decide +kernel)⟩
theorem lV_L_27 : LVk RL 27 MX7_project := ⟨tbm 293 (by decide +kernel) (by decide +kernel), tbm 294 (by decide +kernel) (by decide +kernel), tbm 295 (by decide +kernel) (by decide +kernel), tbm 50 (by decide +kernel) (by decide +kernel)⟩
theorem lV_X7_47 : LVk RX7 47 MX4_isPupil := ⟨tbm 297 (by decide +kernel) (by decide +kernel), tbm 298 (by decide +kernel) (by decide +kernel), tbm 299 (by decide +kernel) (by decide +kernel), tbm 51 (by decide +kernel) (by decide +kernel)⟩
theorem lV_X7_51 : LVk RX7 51 MX4_addProject := ⟨tbm 301 (by decide +kernel) (by decide +kernel), tbm 302 (by decide +kernel) (by decide +kernel), tbm 303 (by decide +kernel) (by decide +kernel), tbm 51 (by decide +kernel) (by decide +kernel)⟩
theorem lV_L_32 : LVk RL 32 MX7_wish := ⟨tbm 305 (by decide +kernel) (by decide +kernel), tbm 306 (by decide +kernel) (by decide +kernel), tbm 307 (by decide +kernel) (by decide +kernel), tbm 50 (by decide +kernel) (by decide +kernel)⟩
theorem lV_X7_55 : LVk RX7 55 MX4_pupilOf := ⟨tbm 309 (by decide +kernel) (by decide +kernel), tbm 310 (by decide +kernel) (by decide +kernel), tbm 311 (by decide +kernel) (by decide +kernel), tbm 51 (by decide +kernel) (by decide +kernel)⟩
theorem lV_X4_52 : LVk RX4 52 MX4_isPupil := ⟨tbm 313 (by decide +kernel) (by decide +kernel), tbm 298 (by decide +kernel) (by decide +kernel), tbm 299 (by decide +kernel) (by decide +kernel), tbm 51 (by decide +kernel) (by decide +kernel)⟩
theorem lV_X7_59 : LVk RX7 59 MX4_isProject := ⟨tbm 314 (by decide +kernel) (by decide +kernel), tbm 315 (by decide +kernel) (by decide +kernel), tbm 316 (by decide +kernel) (by decide +kernel), tbm 51 (by decide +kernel) (by decide +kernel)⟩
theorem lV_X7_62 : LVk RX7 62 MX3_addWish := ⟨tbm 318 (by decide +kernel) (by decide +kernel), tbm 319 (by decide +kernel) (by decide +kernel), tbm 320 (by decide +kernel) (by decide +kernel), tbm 52 (by decide +kernel) (by decide +kernel)⟩
theorem lV_L_36 : LVk RL 36 MX7_wishes := ⟨tbm 322 (by decide +kernel) (by decide +kernel), tbm 323 (by decide +kernel) (by decide +kernel), tbm 324 (by decide +kernel) (by decide +kernel), tbm 50 (by decide +kernel) (by decide +kernel)⟩
theorem lV_X7_71 : LVk RX7 71 MX3_clearWishes := ⟨tbm 326 (by decide +kernel) (by decide +kernel), tbm 327 (by decide +kernel) (by decide +kernel), tbm 328 (by decide +kernel) (by decide +kernel), tbm 52 (by decide +kernel) (by decide +kernel)⟩
theorem lV_L_40 : LVk RL 40 MX7_friends := ⟨tbm 330 (by decide +kernel) (by decide +kernel), tbm 331 (by decide +kernel) (by decide +kernel), tbm 332 (by decide +kernel) (by decide +kernel), tbm 50 (by decide +kernel) (by decide +kernel)⟩
theorem lS_X7_77 : LSk RX7 77 MX7_withBit := ⟨tbm 334 (by decide +kernel) (by decide +kernel), tbm 335 (by decide +kernel) (by decide +kernel), tbm 50 (by decide +kernel) (by decide +kernel)⟩
theorem lV_L_45 : LVk RL 45 MX7_apart := ⟨tbm 337 (by decide +kernel) (by decide +kernel), tbm 338 (by decide +kernel) (by decide +kernel), tbm 339 (by decide +kernel) (by decide +kernel), tbm 50 (by decide +kernel) (by decide +kernel)⟩
theorem lV_L_49 : LVk RL 49 MX7_here := ⟨tbm 341 (by decide +kernel) (by decide +kernel), tbm 342 (by decide +kernel) (by decide +kernel), tbm 343 (by decide +kernel) (by decide +kernel), tbm 50 (by decide +kernel) (by decide +kernel)⟩
theorem lV_L_54 : LVk RL 54 MX7_offered := ⟨tbm 345 (by decide +kernel) (by decide +kernel), tbm 346 (by decide +kernel) (by decide +kernel), tbm 347 (by decide +kernel) (by decide +kernel), tbm 50 (by decide +kernel) (by decide +kernel)⟩
theorem lV_X7_88 : LVk RX7 88 MX4_projectOf := ⟨tbm 349 (by decide +kernel) (by decide +kernel), tbm 350 (by decide +kernel) (by decide +kernel), tbm 351 (by decide +kernel) (by decide +kernel), tbm 51 (by decide +kernel) (by decide +kernel)⟩
theorem lV_X4_56 : LVk RX4 56 MX4_isProject := ⟨tbm 353 (by decide +kernel) (by decide +kernel), tbm 315 (by decide +kernel) (by decide +kernel), tbm 316 (by decide +kernel) (by decide +kernel), tbm 51 (by decide +kernel) (by decide +kernel)⟩
theorem lV_L_58 : LVk RL 58 MX7_lots := ⟨tbm 354 (by decide +kernel) (by decide +kernel), tbm 355 (by decide +kernel) (by decide +kernel), tbm 356 (by decide +kernel) (by decide +kernel), tbm 50 (by decide +kernel) (by decide +kernel)⟩
theorem lV_X7_97 : LVk RX7 97 MX4_drawLots := ⟨tbm 358 (by decide +kernel) (by decide +kernel), tbm 359 (by decide +kernel) (by decide +kernel), tbm 360 (by decide +kernel) (by decide +kernel), tbm 51 (by decide +kernel) (by decide +kernel)⟩
theorem lV_L_63 : LVk RL 63 MX7_count := ⟨tbm 366 (by decide +kernel) (by decide +kernel), tbm 367 (by decide +kernel) (by decide +kernel), tbm 368 (by decide +kernel) (by decide +kernel), tbm 50 (by decide +kernel) (by decide +kernel)⟩
theorem lV_X7_107 : LVk RX7 107 MX4_presentBits := ⟨tbm 370 (by decide +kernel) (by decide +kernel), tbm 371 (by decide +kernel) (by decide +kernel), tbm 372 (by decide +kernel) (by decide +kernel), tbm 51 (by decide +kernel) (by decide +kernel)⟩
theorem lS_X7_111 : LSk RX7 111 MJ6_bitCount_0f7a4 := ⟨tbm 374 (by decide +kernel) (by decide +kernel), tbm 375 (by decide +kernel) (by decide +kernel), tbm 59 (by decide +kernel) (by decide +kernel)⟩
theorem lV_X7_122 : LVk RX7 122 MX4_offeredCount := ⟨tbm 380 (by decide +kernel) (by decide +kernel), tbm 381 (by decide +kernel) (by decide +kernel), tbm 382 (by decide +kernel) (by decide +kernel), tbm 51 (by decide +kernel) (by decide +kernel)⟩
theorem lV_L_77 : LVk RL 77 MX7_rank := ⟨tbm 384 (by decide +kernel) (by decide +kernel), tbm 385 (by decide +kernel) (by decide +kernel), tbm 386 (by decide +kernel) (by decide +kernel), tbm 50 (by decide +kernel) (by decide +kernel)⟩
theorem lV_X7_134 : LVk RX7 134 MX3_rankIn := ⟨tbm 388 (by decide +kernel) (by decide +kernel), tbm 389 (by decide +kernel) (by decide +kernel), tbm 390 (by decide +kernel) (by decide +kernel), tbm 52 (by decide +kernel) (by decide +kernel)⟩
theorem lV_L_81 : LVk RL 81 MX7_put := ⟨tbm 392 (by decide +kernel) (by decide +kernel), tbm 393 (by decide +kernel) (by decide +kernel), tbm 394 (by decide +kernel) (by decide +kernel), tbm 50 (by decide +kernel) (by decide +kernel)⟩
theorem lV_L_86 : LVk RL 86 MX7_wrong := ⟨tbm 396 (by decide +kernel) (by decide +kernel), tbm 397 (by decide +kernel) (by decide +kernel), tbm 398 (by decide +kernel) (by decide +kernel), tbm 50 (by decide +kernel) (by decide +kernel)⟩
theorem lV_X7_140 : LVk RX7 140 MX4_faultOf := ⟨tbm 400 (by decide +kernel) (by decide +kernel), tbm 401 (by decide +kernel) (by decide +kernel), tbm 402 (by decide +kernel) (by decide +kernel), tbm 51 (by decide +kernel) (by decide +kernel)⟩
theorem lV_X4_81 : LVk RX4 81 MX4_firstProjectWith := ⟨tbm 404 (by decide +kernel) (by decide +kernel), tbm 406 (by decide +kernel) (by decide +kernel), tbm 0 (by decide +kernel) (by decide +kernel), tbm 51 (by decide +kernel) (by decide +kernel)⟩
theorem lV_X4_95 : LVk RX4 95 MX4_groupOf := ⟨tbm 408 (by decide +kernel) (by decide +kernel), tbm 410 (by decide +kernel) (by decide +kernel), tbm 1 (by decide +kernel) (by decide +kernel), tbm 51 (by decide +kernel) (by decide +kernel)⟩
theorem lV_X4_99 : LVk RX4 99 MX4_groupHas := ⟨tbm 412 (by decide +kernel) (by decide +kernel), tbm 414 (by decide +kernel) (by decide +kernel), tbm 2 (by decide +kernel) (by decide +kernel), tbm 51 (by decide +kernel) (by decide +kernel)⟩
theorem lS_X4_103 : LSk RX4 103 MJ6_bitCount_0f7a4 := ⟨tbm 416 (by decide +kernel) (by decide +kernel), tbm 375 (by decide +kernel) (by decide +kernel), tbm 59 (by decide +kernel) (by decide +kernel)⟩
theorem lV_X4_109 : LVk RX4 109 MX2_takes := ⟨tbm 417 (by decide +kernel) (by decide +kernel), tbm 418 (by decide +kernel) (by decide +kernel), tbm 419 (by decide +kernel) (by decide +kernel), tbm 53 (by decide +kernel) (by decide +kernel)⟩
theorem lV_X2_15 : LVk RX2 15 MX2_runsTwice := ⟨tbm 421 (by decide +kernel) (by decide +kernel), tbm 422 (by decide +kernel) (by decide +kernel), tbm 423 (by decide +kernel) (by decide +kernel), tbm 53 (by decide +kernel) (by decide +kernel)⟩
theorem lV_X4_112 : LVk RX4 112 MX2_lacksLeader := ⟨tbm 425 (by decide +kernel) (by decide +kernel), tbm 426 (by decide +kernel) (by decide +kernel), tbm 427 (by decide +kernel) (by decide +kernel), tbm 53 (by decide +kernel) (by decide +kernel)⟩
theorem lV_X4_115 : LVk RX4 115 MX4_lacksSkill := ⟨tbm 429 (by decide +kernel) (by decide +kernel), tbm 431 (by decide +kernel) (by decide +kernel), tbm 3 (by decide +kernel) (by decide +kernel), tbm 51 (by decide +kernel) (by decide +kernel)⟩
theorem lV_X4_119 : LVk RX4 119 MX2_runsTwice := ⟨tbm 433 (by decide +kernel) (by decide +kernel), tbm 422 (by decide +kernel) (by decide +kernel), tbm 423 (by decide +kernel) (by decide +kernel), tbm 53 (by decide +kernel) (by decide +kernel)⟩
theorem lV_X4_85 : LVk RX4 85 MX4_firstPupilWith := ⟨tbm 434 (by decide +kernel) (by decide +kernel), tbm 436 (by decide +kernel) (by decide +kernel), tbm 4 (by decide +kernel) (by decide +kernel), tbm 51 (by decide +kernel) (by decide +kernel)⟩
theorem lV_X4_88 : LVk RX4 88 MX4_pupilHas := ⟨tbm 438 (by decide +kernel) (by decide +kernel), tbm 440 (by decide +kernel) (by decide +kernel), tbm 5 (by decide +kernel) (by decide +kernel), tbm 51 (by decide +kernel) (by decide +kernel)⟩
theorem lV_L_90 : LVk RL 90 MX7_best := ⟨tbm 442 (by decide +kernel) (by decide +kernel), tbm 443 (by decide +kernel) (by decide +kernel), tbm 444 (by decide +kernel) (by decide +kernel), tbm 50 (by decide +kernel) (by decide +kernel)⟩
theorem lV_X7_144 : LVk RX7 144 MX6_prepare := ⟨tbm 446 (by decide +kernel) (by decide +kernel), tbm 447 (by decide +kernel) (by decide +kernel), tbm 448 (by decide +kernel) (by decide +kernel), tbm 54 (by decide +kernel) (by decide +kernel)⟩
theorem lV_X6_38 : LVk RX6 38 MX0_fill := ⟨tbm 450 (by decide +kernel) (by decide +kernel), tbm 451 (by decide +kernel) (by decide +kernel), tbm 452 (by decide +kernel) (by decide +kernel), tbm 55 (by decide +kernel) (by decide +kernel)⟩
theorem lV_X0_18 : LVk RX0 18 MX4_presentBits := ⟨tbm 454 (by decide +kernel) (by decide +kernel), tbm 371 (by decide +kernel) (by decide +kernel), tbm 372 (by decide +kernel) (by decide +kernel), tbm 51 (by decide +kernel) (by decide +kernel)⟩
theorem lV_X0_28 : LVk RX0 28 MX4_allows := ⟨tbm 455 (by decide +kernel) (by decide +kernel), tbm 456 (by decide +kernel) (by decide +kernel), tbm 457 (by decide +kernel) (by decide +kernel), tbm 51 (by decide +kernel) (by decide +kernel)⟩
theorem lV_X6_42 : LVk RX6 42 MX5_fill := ⟨tbm 459 (by decide +kernel) (by decide +kernel), tbm 460 (by decide +kernel) (by decide +kernel), tbm 461 (by decide +kernel) (by decide +kernel), tbm 56 (by decide +kernel) (by decide +kernel)⟩
theorem lV_X5_24 : LVk RX5 24 MX4_pupilOf := ⟨tbm 463 (by decide +kernel) (by decide +kernel), tbm 310 (by decide +kernel) (by decide +kernel), tbm 311 (by decide +kernel) (by decide +kernel), tbm 51 (by decide +kernel) (by decide +kernel)⟩
theorem lV_X5_28 : LVk RX5 28 MX4_placeOf := ⟨tbm 464 (by decide +kernel) (by decide +kernel), tbm 465 (by decide +kernel) (by decide +kernel), tbm 466 (by decide +kernel) (by decide +kernel), tbm 51 (by decide +kernel) (by decide +kernel)⟩
theorem lV_X5_41 : LVk RX5 41 MX5_fillPupil := ⟨tbm 468 (by decide +kernel) (by decide +kernel), tbm 469 (by decide +kernel) (by decide +kernel), tbm 470 (by decide +kernel) (by decide +kernel), tbm 56 (by decide +kernel) (by decide +kernel)⟩
theorem lS_X5_45 : LSk RX5 45 MX5_cellOf := ⟨tbm 472 (by decide +kernel) (by decide +kernel), tbm 473 (by decide +kernel) (by decide +kernel), tbm 56 (by decide +kernel) (by decide +kernel)⟩
theorem lS_X5_49 : LSk RX5 49 MX5_costOfRank := ⟨tbm 475 (by decide +kernel) (by decide +kernel), tbm 476 (by decide +kernel) (by decide +kernel), tbm 56 (by decide +kernel) (by decide +kernel)⟩
theorem lV_X6_43 : LVk RX6 43 MX4_presentBits := ⟨tbm 478 (by decide +kernel) (by decide +kernel), tbm 371 (by decide +kernel) (by decide +kernel), tbm 372 (by decide +kernel) (by decide +kernel), tbm 51 (by decide +kernel) (by decide +kernel)⟩
theorem lV_X6_56 : LVk RX6 56 MX4_pupilOf := ⟨tbm 479 (by decide +kernel) (by decide +kernel), tbm 310 (by decide +kernel) (by decide +kernel), tbm 311 (by decide +kernel) (by decide +kernel), tbm 51 (by decide +kernel) (by decide +kernel)⟩
theorem lV_X7_148 : LVk RX7 148 MX6_findBest := ⟨tbm 480 (by decide +kernel) (by decide +kernel), tbm 481 (by decide +kernel) (by decide +kernel), tbm 482 (by decide +kernel) (by decide +kernel), tbm 54 (by decide +kernel) (by decide +kernel)⟩
theorem lV_X6_74 : LVk RX6 74 MX6_begin := ⟨tbm 485 (by decide +kernel) (by decide +kernel), tbm 487 (by decide +kernel) (by decide +kernel), tbm 6 (by decide +kernel) (by decide +kernel), tbm 54 (by decide +kernel) (by decide +kernel)⟩
theorem lS_X6_109 : LSk RX6 109 MX6_extend := ⟨tbm 490 (by decide +kernel) (by decide +kernel), tbm 491 (by decide +kernel) (by decide +kernel), tbm 54 (by decide +kernel) (by decide +kernel)⟩
theorem lV_X6_113 : LVk RX6 113 MX6_judge := ⟨tbm 493 (by decide +kernel) (by decide +kernel), tbm 495 (by decide +kernel) (by decide +kernel), tbm 7 (by decide +kernel) (by decide +kernel), tbm 54 (by decide +kernel) (by decide +kernel)⟩
theorem lV_X6_127 : LVk RX6 127 MX0_fits := ⟨tbm 497 (by decide +kernel) (by decide +kernel), tbm 498 (by decide +kernel) (by decide +kernel), tbm 499 (by decide +kernel) (by decide +kernel), tbm 55 (by decide +kernel) (by decide +kernel)⟩
theorem lV_X6_83 : LVk RX6 83 MX6_isPresent := ⟨tbm 504 (by decide +kernel) (by decide +kernel), tbm 506 (by decide +kernel) (by decide +kernel), tbm 8 (by decide +kernel) (by decide +kernel), tbm 54 (by decide +kernel) (by decide +kernel)⟩
theorem lV_X6_117 : LVk RX6 117 MX0_canGrow := ⟨tbm 508 (by decide +kernel) (by decide +kernel), tbm 509 (by decide +kernel) (by decide +kernel), tbm 510 (by decide +kernel) (by decide +kernel), tbm 55 (by decide +kernel) (by decide +kernel)⟩
theorem lS_X6_121 : LSk RX6 121 MJ6_bitCount_0f7a4 := ⟨tbm 512 (by decide +kernel) (by decide +kernel), tbm 375 (by decide +kernel) (by decide +kernel), tbm 59 (by decide +kernel) (by decide +kernel)⟩
theorem lV_X6_87 : LVk RX6 87 MX5_costOf := ⟨tbm 513 (by decide +kernel) (by decide +kernel), tbm 514 (by decide +kernel) (by decide +kernel), tbm 515 (by decide +kernel) (by decide +kernel), tbm 56 (by decide +kernel) (by decide +kernel)⟩
theorem lV_X6_95 : LVk RX6 95 MX5_digitOf := ⟨tbm 517 (by decide +kernel) (by decide +kernel), tbm 518 (by decide +kernel) (by decide +kernel), tbm 519 (by decide +kernel) (by decide +kernel), tbm 56 (by decide +kernel) (by decide +kernel)⟩
theorem lV_X7_152 : LVk RX7 152 MX6_copyFound := ⟨tbm 521 (by decide +kernel) (by decide +kernel), tbm 522 (by decide +kernel) (by decide +kernel), tbm 523 (by decide +kernel) (by decide +kernel), tbm 54 (by decide +kernel) (by decide +kernel)⟩
theorem lV_L_94 : LVk RL 94 MX7_plans := ⟨tbm 525 (by decide +kernel) (by decide +kernel), tbm 526 (by decide +kernel) (by decide +kernel), tbm 527 (by decide +kernel) (by decide +kernel), tbm 50 (by decide +kernel) (by decide +kernel)⟩
theorem lV_X7_156 : LVk RX7 156 MX6_countRight := ⟨tbm 529 (by decide +kernel) (by decide +kernel), tbm 530 (by decide +kernel) (by decide +kernel), tbm 531 (by decide +kernel) (by decide +kernel), tbm 54 (by decide +kernel) (by decide +kernel)⟩
theorem lV_X7_159 : LVk RX7 159 MX6_countBetter := ⟨tbm 533 (by decide +kernel) (by decide +kernel), tbm 534 (by decide +kernel) (by decide +kernel), tbm 535 (by decide +kernel) (by decide +kernel), tbm 54 (by decide +kernel) (by decide +kernel)⟩
theorem lV_X6_91 : LVk RX6 91 MX6_friendsBefore := ⟨tbm 537 (by decide +kernel) (by decide +kernel), tbm 539 (by decide +kernel) (by decide +kernel), tbm 9 (by decide +kernel) (by decide +kernel), tbm 54 (by decide +kernel) (by decide +kernel)⟩
theorem lV_L_98 : LVk RL 98 MX7_worth := ⟨tbm 541 (by decide +kernel) (by decide +kernel), tbm 542 (by decide +kernel) (by decide +kernel), tbm 543 (by decide +kernel) (by decide +kernel), tbm 50 (by decide +kernel) (by decide +kernel)⟩
theorem lV_X7_162 : LVk RX7 162 MX7_countRanks := ⟨tbm 545 (by decide +kernel) (by decide +kernel), tbm 547 (by decide +kernel) (by decide +kernel), tbm 10 (by decide +kernel) (by decide +kernel), tbm 50 (by decide +kernel) (by decide +kernel)⟩
theorem lV_X7_211 : LVk RX7 211 MX7_isPlaced := ⟨tbm 549 (by decide +kernel) (by decide +kernel), tbm 551 (by decide +kernel) (by decide +kernel), tbm 11 (by decide +kernel) (by decide +kernel), tbm 50 (by decide +kernel) (by decide +kernel)⟩
theorem lV_X7_195 : LVk RX7 195 MX7_rankByPlan := ⟨tbm 553 (by decide +kernel) (by decide +kernel), tbm 555 (by decide +kernel) (by decide +kernel), tbm 12 (by decide +kernel) (by decide +kernel), tbm 50 (by decide +kernel) (by decide +kernel)⟩
theorem lV_X7_165 : LVk RX7 165 MX7_grief := ⟨tbm 557 (by decide +kernel) (by decide +kernel), tbm 559 (by decide +kernel) (by decide +kernel), tbm 13 (by decide +kernel) (by decide +kernel), tbm 50 (by decide +kernel) (by decide +kernel)⟩
theorem lV_X7_214 : LVk RX7 214 MX4_scoreOf := ⟨tbm 561 (by decide +kernel) (by decide +kernel), tbm 562 (by decide +kernel) (by decide +kernel), tbm 563 (by decide +kernel) (by decide +kernel), tbm 51 (by decide +kernel) (by decide +kernel)⟩
theorem lV_X4_59 : LVk RX4 59 MX4_pupilOf := ⟨tbm 565 (by decide +kernel) (by decide +kernel), tbm 310 (by decide +kernel) (by decide +kernel), tbm 311 (by decide +kernel) (by decide +kernel), tbm 51 (by decide +kernel) (by decide +kernel)⟩
theorem lV_X7_168 : LVk RX7 168 MX7_friendPairs := ⟨tbm 566 (by decide +kernel) (by decide +kernel), tbm 568 (by decide +kernel) (by decide +kernel), tbm 14 (by decide +kernel) (by decide +kernel), tbm 50 (by decide +kernel) (by decide +kernel)⟩
theorem lV_X7_217 : LVk RX7 217 MX4_areFriends := ⟨tbm 570 (by decide +kernel) (by decide +kernel), tbm 571 (by decide +kernel) (by decide +kernel), tbm 572 (by decide +kernel) (by decide +kernel), tbm 51 (by decide +kernel) (by decide +kernel)⟩
theorem lV_X7_171 : LVk RX7 171 MX7_projectsUsed := ⟨tbm 574 (by decide +kernel) (by decide +kernel), tbm 576 (by decide +kernel) (by decide +kernel), tbm 15 (by decide +kernel) (by decide +kernel), tbm 50 (by decide +kernel) (by decide +kernel)⟩
theorem lV_L_102 : LVk RL 102 MX7_swap := ⟨tbm 578 (by decide +kernel) (by decide +kernel), tbm 579 (by decide +kernel) (by decide +kernel), tbm 580 (by decide +kernel) (by decide +kernel), tbm 50 (by decide +kernel) (by decide +kernel)⟩
theorem lV_X7_174 : LVk RX7 174 MX7_bothGain := ⟨tbm 582 (by decide +kernel) (by decide +kernel), tbm 584 (by decide +kernel) (by decide +kernel), tbm 16 (by decide +kernel) (by decide +kernel), tbm 50 (by decide +kernel) (by decide +kernel)⟩
theorem lV_X7_220 : LVk RX7 220 MX7_gains := ⟨tbm 586 (by decide +kernel) (by decide +kernel), tbm 588 (by decide +kernel) (by decide +kernel), tbm 17 (by decide +kernel) (by decide +kernel), tbm 50 (by decide +kernel) (by decide +kernel)⟩
theorem lV_X7_178 : LVk RX7 178 MX7_rightAfterExchange := ⟨tbm 590 (by decide +kernel) (by decide +kernel), tbm 592 (by decide +kernel) (by decide +kernel), tbm 18 (by decide +kernel) (by decide +kernel), tbm 50 (by decide +kernel) (by decide +kernel)⟩
theorem lS_X7_223 : LSk RX7 223 MX7_exchangePlaces := ⟨tbm 594 (by decide +kernel) (by decide +kernel), tbm 364 (by decide +kernel) (by decide +kernel), tbm 50 (by decide +kernel) (by decide +kernel)⟩
theorem lV_L_106 : LVk RL 106 MX7_change := ⟨tbm 595 (by decide +kernel) (by decide +kernel), tbm 596 (by decide +kernel) (by decide +kernel), tbm 597 (by decide +kernel) (by decide +kernel), tbm 50 (by decide +kernel) (by decide +kernel)⟩
theorem lV_X7_181 : LVk RX7 181 MX6_chargeMove := ⟨tbm 599 (by decide +kernel) (by decide +kernel), tbm 600 (by decide +kernel) (by decide +kernel), tbm 601 (by decide +kernel) (by decide +kernel), tbm 54 (by decide +kernel) (by decide +kernel)⟩
theorem lV_X6_68 : LVk RX6 68 MX5_chargeMove := ⟨tbm 603 (by decide +kernel) (by decide +kernel), tbm 604 (by decide +kernel) (by decide +kernel), tbm 605 (by decide +kernel) (by decide +kernel), tbm 56 (by decide +kernel) (by decide +kernel)⟩
theorem lV_X7_185 : LVk RX7 185 MX6_movedFrom := ⟨tbm 608 (by decide +kernel) (by decide +kernel), tbm 609 (by decide +kernel) (by decide +kernel), tbm 610 (by decide +kernel) (by decide +kernel), tbm 54 (by decide +kernel) (by decide +kernel)⟩
theorem lV_L_110 : LVk RL 110 MX7_lie := ⟨tbm 612 (by decide +kernel) (by decide +kernel), tbm 613 (by decide +kernel) (by decide +kernel), tbm 614 (by decide +kernel) (by decide +kernel), tbm 50 (by decide +kernel) (by decide +kernel)⟩
theorem lV_X7_188 : LVk RX7 188 MX6_foundFor := ⟨tbm 616 (by decide +kernel) (by decide +kernel), tbm 617 (by decide +kernel) (by decide +kernel), tbm 618 (by decide +kernel) (by decide +kernel), tbm 54 (by decide +kernel) (by decide +kernel)⟩
theorem lV_X7_191 : LVk RX7 191 MX7_findPayingTale := ⟨tbm 620 (by decide +kernel) (by decide +kernel), tbm 622 (by decide +kernel) (by decide +kernel), tbm 19 (by decide +kernel) (by decide +kernel), tbm 50 (by decide +kernel) (by decide +kernel)⟩
theorem lV_X7_227 : LVk RX7 227 MX7_rankByTale := ⟨tbm 624 (by decide +kernel) (by decide +kernel), tbm 626 (by decide +kernel) (by decide +kernel), tbm 20 (by decide +kernel) (by decide +kernel), tbm 50 (by decide +kernel) (by decide +kernel)⟩
theorem lV_X7_137 : LVk RX7 137 MX4_placeOf := ⟨tbm 628 (by decide +kernel) (by decide +kernel), tbm 465 (by decide +kernel) (by decide +kernel), tbm 466 (by decide +kernel) (by decide +kernel), tbm 51 (by decide +kernel) (by decide +kernel)⟩
theorem lV_X7_230 : LVk RX7 230 MX6_tellRanks := ⟨tbm 629 (by decide +kernel) (by decide +kernel), tbm 630 (by decide +kernel) (by decide +kernel), tbm 631 (by decide +kernel) (by decide +kernel), tbm 54 (by decide +kernel) (by decide +kernel)⟩
theorem lV_X6_64 : LVk RX6 64 MX5_fillPupil := ⟨tbm 633 (by decide +kernel) (by decide +kernel), tbm 469 (by decide +kernel) (by decide +kernel), tbm 470 (by decide +kernel) (by decide +kernel), tbm 56 (by decide +kernel) (by decide +kernel)⟩
theorem lS_X7_240 : LSk RX7 240 MX7_turnToNext := ⟨tbm 635 (by decide +kernel) (by decide +kernel), tbm 636 (by decide +kernel) (by decide +kernel), tbm 50 (by decide +kernel) (by decide +kernel)⟩
theorem lV_L_114 : LVk RL 114 MX7_book := ⟨tbm 638 (by decide +kernel) (by decide +kernel), tbm 639 (by decide +kernel) (by decide +kernel), tbm 640 (by decide +kernel) (by decide +kernel), tbm 50 (by decide +kernel) (by decide +kernel)⟩
theorem lV_X7_198 : LVk RX7 198 MX1_note := ⟨tbm 642 (by decide +kernel) (by decide +kernel), tbm 643 (by decide +kernel) (by decide +kernel), tbm 644 (by decide +kernel) (by decide +kernel), tbm 57 (by decide +kernel) (by decide +kernel)⟩
theorem lS_X1_22 : LSk RX1 22 MX1_cellOf := ⟨tbm 646 (by decide +kernel) (by decide +kernel), tbm 647 (by decide +kernel) (by decide +kernel), tbm 57 (by decide +kernel) (by decide +kernel)⟩
theorem lV_X7_202 : LVk RX7 202 MX4_addScore := ⟨tbm 649 (by decide +kernel) (by decide +kernel), tbm 650 (by decide +kernel) (by decide +kernel), tbm 651 (by decide +kernel) (by decide +kernel), tbm 51 (by decide +kernel) (by decide +kernel)⟩
theorem lV_L_118 : LVk RL 118 MX7_year := ⟨tbm 653 (by decide +kernel) (by decide +kernel), tbm 654 (by decide +kernel) (by decide +kernel), tbm 655 (by decide +kernel) (by decide +kernel), tbm 50 (by decide +kernel) (by decide +kernel)⟩
theorem lV_X7_205 : LVk RX7 205 MX1_rankOf := ⟨tbm 657 (by decide +kernel) (by decide +kernel), tbm 658 (by decide +kernel) (by decide +kernel), tbm 659 (by decide +kernel) (by decide +kernel), tbm 57 (by decide +kernel) (by decide +kernel)⟩
theorem lV_L_122 : LVk RL 122 MX7_undo := ⟨tbm 661 (by decide +kernel) (by decide +kernel), tbm 662 (by decide +kernel) (by decide +kernel), tbm 663 (by decide +kernel) (by decide +kernel), tbm 50 (by decide +kernel) (by decide +kernel)⟩
theorem lV_X7_209 : LVk RX7 209 MX1_projectOf := ⟨tbm 665 (by decide +kernel) (by decide +kernel), tbm 666 (by decide +kernel) (by decide +kernel), tbm 667 (by decide +kernel) (by decide +kernel), tbm 57 (by decide +kernel) (by decide +kernel)⟩
theorem lV_L_7 : LVk RL 7 MX7_of := ⟨tbm 673 (by decide +kernel) (by decide +kernel), tbm 674 (by decide +kernel) (by decide +kernel), tbm 675 (by decide +kernel) (by decide +kernel), tbm 50 (by decide +kernel) (by decide +kernel)⟩
theorem lV_L_15 : LVk RL 15 MX7_row := ⟨tbm 741 (by decide +kernel) (by decide +kernel), tbm 742 (by decide +kernel) (by decide +kernel), tbm 743 (by decide +kernel) (by decide +kernel), tbm 50 (by decide +kernel) (by decide +kernel)⟩
theorem lV_L_73 : LVk RL 73 MX8_thrown := ⟨tbm 864 (by decide +kernel) (by decide +kernel), tbm 865 (by decide +kernel) (by decide +kernel), tbm 866 (by decide +kernel) (by decide +kernel), tbm 58 (by decide +kernel) (by decide +kernel)⟩
theorem lV_L_26 : LVk RL 26 MX8_pupil := ⟨tbm 868 (by decide +kernel) (by decide +kernel), tbm 869 (by decide +kernel) (by decide +kernel), tbm 870 (by decide +kernel) (by decide +kernel), tbm 58 (by decide +kernel) (by decide +kernel)⟩
theorem lS_X8_87 : LSk RX8 87 MX8_in := ⟨tbm 873 (by decide +kernel) (by decide +kernel), tbm 874 (by decide +kernel) (by decide +kernel), tbm 58 (by decide +kernel) (by decide +kernel)⟩
theorem lV_L_31 : LVk RL 31 MX8_project := ⟨tbm 876 (by decide +kernel) (by decide +kernel), tbm 877 (by decide +kernel) (by decide +kernel), tbm 878 (by decide +kernel) (by decide +kernel), tbm 58 (by decide +kernel) (by decide +kernel)⟩
theorem lV_X8_100 : LVk RX8 100 MX8_isPupil := ⟨tbm 882 (by decide +kernel) (by decide +kernel), tbm 884 (by decide +kernel) (by decide +kernel), tbm 22 (by decide +kernel) (by decide +kernel), tbm 58 (by decide +kernel) (by decide +kernel)⟩
theorem lV_L_35 : LVk RL 35 MX8_wish := ⟨tbm 886 (by decide +kernel) (by decide +kernel), tbm 887 (by decide +kernel) (by decide +kernel), tbm 888 (by decide +kernel) (by decide +kernel), tbm 58 (by decide +kernel) (by decide +kernel)⟩
theorem lV_X8_104 : LVk RX8 104 MX8_isProject := ⟨tbm 890 (by decide +kernel) (by decide +kernel), tbm 892 (by decide +kernel) (by decide +kernel), tbm 23 (by decide +kernel) (by decide +kernel), tbm 58 (by decide +kernel) (by decide +kernel)⟩
theorem lV_X8_107 : LVk RX8 107 MX8_hasWish := ⟨tbm 894 (by decide +kernel) (by decide +kernel), tbm 896 (by decide +kernel) (by decide +kernel), tbm 24 (by decide +kernel) (by decide +kernel), tbm 58 (by decide +kernel) (by decide +kernel)⟩
theorem lV_X8_111 : LVk RX8 111 MX8_add := ⟨tbm 898 (by decide +kernel) (by decide +kernel), tbm 900 (by decide +kernel) (by decide +kernel), tbm 25 (by decide +kernel) (by decide +kernel), tbm 58 (by decide +kernel) (by decide +kernel)⟩
theorem lV_L_39 : LVk RL 39 MX8_wishes := ⟨tbm 902 (by decide +kernel) (by decide +kernel), tbm 903 (by decide +kernel) (by decide +kernel), tbm 904 (by decide +kernel) (by decide +kernel), tbm 58 (by decide +kernel) (by decide +kernel)⟩
theorem lV_L_44 : LVk RL 44 MX8_friends := ⟨tbm 907 (by decide +kernel) (by decide +kernel), tbm 908 (by decide +kernel) (by decide +kernel), tbm 909 (by decide +kernel) (by decide +kernel), tbm 58 (by decide +kernel) (by decide +kernel)⟩
theorem lV_X8_117 : LVk RX8 117 MX8_areTwo := ⟨tbm 911 (by decide +kernel) (by decide +kernel), tbm 913 (by decide +kernel) (by decide +kernel), tbm 26 (by decide +kernel) (by decide +kernel), tbm 58 (by decide +kernel) (by decide +kernel)⟩
theorem lV_L_48 : LVk RL 48 MX8_apart := ⟨tbm 915 (by decide +kernel) (by decide +kernel), tbm 916 (by decide +kernel) (by decide +kernel), tbm 917 (by decide +kernel) (by decide +kernel), tbm 58 (by decide +kernel) (by decide +kernel)⟩
theorem lV_L_53 : LVk RL 53 MX8_here := ⟨tbm 919 (by decide +kernel) (by decide +kernel), tbm 920 (by decide +kernel) (by decide +kernel), tbm 921 (by decide +kernel) (by decide +kernel), tbm 58 (by decide +kernel) (by decide +kernel)⟩
theorem lV_L_57 : LVk RL 57 MX8_offered := ⟨tbm 923 (by decide +kernel) (by decide +kernel), tbm 924 (by decide +kernel) (by decide +kernel), tbm 925 (by decide +kernel) (by decide +kernel), tbm 58 (by decide +kernel) (by decide +kernel)⟩
theorem lV_L_62 : LVk RL 62 MX8_lots := ⟨tbm 927 (by decide +kernel) (by decide +kernel), tbm 928 (by decide +kernel) (by decide +kernel), tbm 929 (by decide +kernel) (by decide +kernel), tbm 58 (by decide +kernel) (by decide +kernel)⟩
theorem lV_L_66 : LVk RL 66 MX8_count := ⟨tbm 932 (by decide +kernel) (by decide +kernel), tbm 933 (by decide +kernel) (by decide +kernel), tbm 934 (by decide +kernel) (by decide +kernel), tbm 58 (by decide +kernel) (by decide +kernel)⟩
theorem lV_X8_121 : LVk RX8 121 MX8_present := ⟨tbm 936 (by decide +kernel) (by decide +kernel), tbm 938 (by decide +kernel) (by decide +kernel), tbm 27 (by decide +kernel) (by decide +kernel), tbm 58 (by decide +kernel) (by decide +kernel)⟩
theorem lV_L_72 : LVk RL 72 MX8_of := ⟨tbm 940 (by decide +kernel) (by decide +kernel), tbm 941 (by decide +kernel) (by decide +kernel), tbm 942 (by decide +kernel) (by decide +kernel), tbm 58 (by decide +kernel) (by decide +kernel)⟩
theorem lV_X8_133 : LVk RX8 133 MX8_refuse := ⟨tbm 945 (by decide +kernel) (by decide +kernel), tbm 947 (by decide +kernel) (by decide +kernel), tbm 28 (by decide +kernel) (by decide +kernel), tbm 58 (by decide +kernel) (by decide +kernel)⟩
theorem lV_X8_136 : LVk RX8 136 MX8_rankOf := ⟨tbm 949 (by decide +kernel) (by decide +kernel), tbm 951 (by decide +kernel) (by decide +kernel), tbm 29 (by decide +kernel) (by decide +kernel), tbm 58 (by decide +kernel) (by decide +kernel)⟩
theorem lV_L_80 : LVk RL 80 MX8_rank := ⟨tbm 953 (by decide +kernel) (by decide +kernel), tbm 954 (by decide +kernel) (by decide +kernel), tbm 955 (by decide +kernel) (by decide +kernel), tbm 58 (by decide +kernel) (by decide +kernel)⟩
theorem lV_L_85 : LVk RL 85 MX8_put := ⟨tbm 957 (by decide +kernel) (by decide +kernel), tbm 958 (by decide +kernel) (by decide +kernel), tbm 959 (by decide +kernel) (by decide +kernel), tbm 58 (by decide +kernel) (by decide +kernel)⟩
theorem lV_L_89 : LVk RL 89 MX8_wrong := ⟨tbm 961 (by decide +kernel) (by decide +kernel), tbm 962 (by decide +kernel) (by decide +kernel), tbm 963 (by decide +kernel) (by decide +kernel), tbm 58 (by decide +kernel) (by decide +kernel)⟩
theorem lV_X8_157 : LVk RX8 157 MX8_wrongOf := ⟨tbm 965 (by decide +kernel) (by decide +kernel), tbm 967 (by decide +kernel) (by decide +kernel), tbm 30 (by decide +kernel) (by decide +kernel), tbm 58 (by decide +kernel) (by decide +kernel)⟩
theorem lS_X8_143 : LSk RX8 143 MX8_sizeOf := ⟨tbm 969 (by decide +kernel) (by decide +kernel), tbm 970 (by decide +kernel) (by decide +kernel), tbm 58 (by decide +kernel) (by decide +kernel)⟩
theorem lV_X8_147 : LVk RX8 147 MX8_isSize := ⟨tbm 972 (by decide +kernel) (by decide +kernel), tbm 974 (by decide +kernel) (by decide +kernel), tbm 31 (by decide +kernel) (by decide +kernel), tbm 58 (by decide +kernel) (by decide +kernel)⟩
theorem lV_X8_140 : LVk RX8 140 MX8_isTwice := ⟨tbm 976 (by decide +kernel) (by decide +kernel), tbm 978 (by decide +kernel) (by decide +kernel), tbm 32 (by decide +kernel) (by decide +kernel), tbm 58 (by decide +kernel) (by decide +kernel)⟩
theorem lV_X8_150 : LVk RX8 150 MX8_isLed := ⟨tbm 980 (by decide +kernel) (by decide +kernel), tbm 982 (by decide +kernel) (by decide +kernel), tbm 33 (by decide +kernel) (by decide +kernel), tbm 58 (by decide +kernel) (by decide +kernel)⟩
theorem lV_X8_154 : LVk RX8 154 MX8_hasSkills := ⟨tbm 984 (by decide +kernel) (by decide +kernel), tbm 986 (by decide +kernel) (by decide +kernel), tbm 34 (by decide +kernel) (by decide +kernel), tbm 58 (by decide +kernel) (by decide +kernel)⟩
theorem lV_L_93 : LVk RL 93 MX8_best := ⟨tbm 988 (by decide +kernel) (by decide +kernel), tbm 989 (by decide +kernel) (by decide +kernel), tbm 990 (by decide +kernel) (by decide +kernel), tbm 58 (by decide +kernel) (by decide +kernel)⟩
theorem lV_X8_224 : LVk RX8 224 MX8_all := ⟨tbm 992 (by decide +kernel) (by decide +kernel), tbm 994 (by decide +kernel) (by decide +kernel), tbm 35 (by decide +kernel) (by decide +kernel), tbm 58 (by decide +kernel) (by decide +kernel)⟩
theorem lV_X8_216 : LVk RX8 216 MX8_goes := ⟨tbm 997 (by decide +kernel) (by decide +kernel), tbm 999 (by decide +kernel) (by decide +kernel), tbm 36 (by decide +kernel) (by decide +kernel), tbm 58 (by decide +kernel) (by decide +kernel)⟩
theorem lV_X8_213 : LVk RX8 213 MX8_finds := ⟨tbm 1001 (by decide +kernel) (by decide +kernel), tbm 1003 (by decide +kernel) (by decide +kernel), tbm 37 (by decide +kernel) (by decide +kernel), tbm 58 (by decide +kernel) (by decide +kernel)⟩
theorem lV_X8_197 : LVk RX8 197 MX8_movesOf := ⟨tbm 1005 (by decide +kernel) (by decide +kernel), tbm 1007 (by decide +kernel) (by decide +kernel), tbm 38 (by decide +kernel) (by decide +kernel), tbm 58 (by decide +kernel) (by decide +kernel)⟩
theorem lV_X8_203 : LVk RX8 203 MX8_isBetter := ⟨tbm 1009 (by decide +kernel) (by decide +kernel), tbm 1011 (by decide +kernel) (by decide +kernel), tbm 39 (by decide +kernel) (by decide +kernel), tbm 58 (by decide +kernel) (by decide +kernel)⟩
theorem lV_X8_177 : LVk RX8 177 MX8_weigh := ⟨tbm 1013 (by decide +kernel) (by decide +kernel), tbm 1015 (by decide +kernel) (by decide +kernel), tbm 40 (by decide +kernel) (by decide +kernel), tbm 58 (by decide +kernel) (by decide +kernel)⟩
theorem lV_X8_170 : LVk RX8 170 MX8_rankBy := ⟨tbm 1017 (by decide +kernel) (by decide +kernel), tbm 1019 (by decide +kernel) (by decide +kernel), tbm 41 (by decide +kernel) (by decide +kernel), tbm 58 (by decide +kernel) (by decide +kernel)⟩
theorem lS_X8_173 : LSk RX8 173 MX8_nines := ⟨tbm 1021 (by decide +kernel) (by decide +kernel), tbm 1022 (by decide +kernel) (by decide +kernel), tbm 58 (by decide +kernel) (by decide +kernel)⟩
theorem lV_X8_190 : LVk RX8 190 MX8_isAhead := ⟨tbm 1024 (by decide +kernel) (by decide +kernel), tbm 1026 (by decide +kernel) (by decide +kernel), tbm 42 (by decide +kernel) (by decide +kernel), tbm 58 (by decide +kernel) (by decide +kernel)⟩
theorem lV_X8_210 : LVk RX8 210 MX8_keeps := ⟨tbm 1028 (by decide +kernel) (by decide +kernel), tbm 1030 (by decide +kernel) (by decide +kernel), tbm 43 (by decide +kernel) (by decide +kernel), tbm 58 (by decide +kernel) (by decide +kernel)⟩
theorem lV_X8_220 : LVk RX8 220 MX8_may := ⟨tbm 1032 (by decide +kernel) (by decide +kernel), tbm 1034 (by decide +kernel) (by decide +kernel), tbm 44 (by decide +kernel) (by decide +kernel), tbm 58 (by decide +kernel) (by decide +kernel)⟩
theorem lV_X8_227 : LVk RX8 227 MX8_takes := ⟨tbm 1036 (by decide +kernel) (by decide +kernel), tbm 1038 (by decide +kernel) (by decide +kernel), tbm 45 (by decide +kernel) (by decide +kernel), tbm 58 (by decide +kernel) (by decide +kernel)⟩
theorem lV_L_97 : LVk RL 97 MX8_plans := ⟨tbm 1040 (by decide +kernel) (by decide +kernel), tbm 1041 (by decide +kernel) (by decide +kernel), tbm 1042 (by decide +kernel) (by decide +kernel), tbm 58 (by decide +kernel) (by decide +kernel)⟩
theorem lV_L_101 : LVk RL 101 MX8_worth := ⟨tbm 1044 (by decide +kernel) (by decide +kernel), tbm 1045 (by decide +kernel) (by decide +kernel), tbm 1046 (by decide +kernel) (by decide +kernel), tbm 58 (by decide +kernel) (by decide +kernel)⟩
theorem lS_X8_232 : LSk RX8 232 MJ6_bitCount_0f7a4 := ⟨tbm 1049 (by decide +kernel) (by decide +kernel), tbm 375 (by decide +kernel) (by decide +kernel), tbm 59 (by decide +kernel) (by decide +kernel)⟩
theorem lV_L_105 : LVk RL 105 MX8_swap := ⟨tbm 1050 (by decide +kernel) (by decide +kernel), tbm 1051 (by decide +kernel) (by decide +kernel), tbm 1052 (by decide +kernel) (by decide +kernel), tbm 58 (by decide +kernel) (by decide +kernel)⟩
theorem lV_X8_237 : LVk RX8 237 MX8_wouldSwap := ⟨tbm 1054 (by decide +kernel) (by decide +kernel), tbm 1056 (by decide +kernel) (by decide +kernel), tbm 46 (by decide +kernel) (by decide +kernel), tbm 58 (by decide +kernel) (by decide +kernel)⟩
theorem lV_L_109 : LVk RL 109 MX8_change := ⟨tbm 1058 (by decide +kernel) (by decide +kernel), tbm 1059 (by decide +kernel) (by decide +kernel), tbm 1060 (by decide +kernel) (by decide +kernel), tbm 58 (by decide +kernel) (by decide +kernel)⟩
theorem lV_L_113 : LVk RL 113 MX8_lie := ⟨tbm 1062 (by decide +kernel) (by decide +kernel), tbm 1063 (by decide +kernel) (by decide +kernel), tbm 1064 (by decide +kernel) (by decide +kernel), tbm 58 (by decide +kernel) (by decide +kernel)⟩
theorem lV_X8_243 : LVk RX8 243 MX8_nextOrder := ⟨tbm 1066 (by decide +kernel) (by decide +kernel), tbm 1068 (by decide +kernel) (by decide +kernel), tbm 47 (by decide +kernel) (by decide +kernel), tbm 58 (by decide +kernel) (by decide +kernel)⟩
theorem lV_X8_240 : LVk RX8 240 MX8_exchange := ⟨tbm 1070 (by decide +kernel) (by decide +kernel), tbm 1072 (by decide +kernel) (by decide +kernel), tbm 48 (by decide +kernel) (by decide +kernel), tbm 58 (by decide +kernel) (by decide +kernel)⟩
theorem lV_L_117 : LVk RL 117 MX8_book := ⟨tbm 1074 (by decide +kernel) (by decide +kernel), tbm 1075 (by decide +kernel) (by decide +kernel), tbm 1076 (by decide +kernel) (by decide +kernel), tbm 58 (by decide +kernel) (by decide +kernel)⟩
theorem lV_L_121 : LVk RL 121 MX8_year := ⟨tbm 1081 (by decide +kernel) (by decide +kernel), tbm 1082 (by decide +kernel) (by decide +kernel), tbm 1083 (by decide +kernel) (by decide +kernel), tbm 58 (by decide +kernel) (by decide +kernel)⟩
theorem lV_L_125 : LVk RL 125 MX8_undo := ⟨tbm 1085 (by decide +kernel) (by decide +kernel), tbm 1086 (by decide +kernel) (by decide +kernel), tbm 1087 (by decide +kernel) (by decide +kernel), tbm 58 (by decide +kernel) (by decide +kernel)⟩
theorem lV_L_129 : LVk RL 129 MX8_row := ⟨tbm 1089 (by decide +kernel) (by decide +kernel), tbm 1090 (by decide +kernel) (by decide +kernel), tbm 1091 (by decide +kernel) (by decide +kernel), tbm 58 (by decide +kernel) (by decide +kernel)⟩
def FKL : List (List Nat) := [[2, 2], [2, 2, 0], [0, 0, 0, 0, 0, 3], [2, 0, 0, 0, 0, 0, 3], [2, 2, 2, 0, 0], [2, 2], [2, 2, 2, 2, 2, 2, 0, 0, 1, 1, 3, 0], [2, 2, 2, 2, 2, 2, 2, 0], [0, 0, 2, 2, 2, 2, 2, 2, 2, 2, 2, 0, 2, 2, 2, 2, 2, 2, 0, 0, 0, 2, 2, 0, 0, 0, 0, 0, 0, 2, 2, 0, 2, 2, 2, 2, 0]]
def FK (ci j : Nat) : Nat := (FKL.getD ci []).getD j 0
def NF (ci : Nat) : Nat := (FKL.getD ci []).length
def kty : Nat → FieldType := fun k => match k with
  | 0 => .int
  | 1 => .long
  | 3 => .boolean
  | _ => .int
def FI (own : String) (idx ci j kd : Nat) : Prop := ∃ (C : String) (T : u_T) (N : Nat), vwCl[ci]? = some (C, T, N) ∧ j < N ∧ N = NF ci ∧ FK ci j = kd ∧ Cond.fieldLink own idx (T j).1 (T j).2.1 (T j).2.2.1 ∈ TB ∧ (kd ≠ 2 → (T j).2.2.2 = false ∧ parseFieldDescriptor (T j).2.2.1 = some (kty kd))
theorem fi_X3_9 : FI RX3 9 3 0 2 := ⟨RX3, TX3, 7, rfl, by decide +kernel, by decide +kernel, by decide +kernel, tbm 89 (by decide +kernel) (by decide +kernel), (fun h => absurd rfl h)⟩
theorem fi_X5_37 : FI RX5 37 3 0 2 := ⟨RX3, TX3, 7, rfl, by decide +kernel, by decide +kernel, by decide +kernel, tbm 90 (by decide +kernel) (by decide +kernel), (fun h => absurd rfl h)⟩
theorem fi_X4_33 : FI RX4 33 3 1 0 := ⟨RX3, TX3, 7, rfl, by decide +kernel, by decide +kernel, by decide +kernel, tbm 91 (by decide +kernel) (by decide +kernel), (fun _ => ⟨rfl, by decide +kernel⟩)⟩
theorem fi_X7_128 : FI RX7 128 3 1 0 := ⟨RX3, TX3, 7, rfl, by decide +kernel, by decide +kernel, by decide +kernel, tbm 92 (by decide +kernel) (by decide +kernel), (fun _ => ⟨rfl, by decide +kernel⟩)⟩
theorem fi_X3_19 : FI RX3 19 3 2 0 := ⟨RX3, TX3, 7, rfl, by decide +kernel, by decide +kernel, by decide +kernel, tbm 93 (by decide +kernel) (by decide +kernel), (fun _ => ⟨rfl, by decide +kernel⟩)⟩
theorem fi_X7_67 : FI RX7 67 3 2 0 := ⟨RX3, TX3, 7, rfl, by decide +kernel, by decide +kernel, by decide +kernel, tbm 94 (by decide +kernel) (by decide +kernel), (fun _ => ⟨rfl, by decide +kernel⟩)⟩
theorem fi_X5_32 : FI RX5 32 3 3 0 := ⟨RX3, TX3, 7, rfl, by decide +kernel, by decide +kernel, by decide +kernel, tbm 95 (by decide +kernel) (by decide +kernel), (fun _ => ⟨rfl, by decide +kernel⟩)⟩
theorem fi_X4_63 : FI RX4 63 3 3 0 := ⟨RX3, TX3, 7, rfl, by decide +kernel, by decide +kernel, by decide +kernel, tbm 96 (by decide +kernel) (by decide +kernel), (fun _ => ⟨rfl, by decide +kernel⟩)⟩
theorem fi_X7_131 : FI RX7 131 3 3 0 := ⟨RX3, TX3, 7, rfl, by decide +kernel, by decide +kernel, by decide +kernel, tbm 97 (by decide +kernel) (by decide +kernel), (fun _ => ⟨rfl, by decide +kernel⟩)⟩
theorem fi_X6_60 : FI RX6 60 3 4 0 := ⟨RX3, TX3, 7, rfl, by decide +kernel, by decide +kernel, by decide +kernel, tbm 98 (by decide +kernel) (by decide +kernel), (fun _ => ⟨rfl, by decide +kernel⟩)⟩
theorem fi_X7_74 : FI RX7 74 3 4 0 := ⟨RX3, TX3, 7, rfl, by decide +kernel, by decide +kernel, by decide +kernel, tbm 99 (by decide +kernel) (by decide +kernel), (fun _ => ⟨rfl, by decide +kernel⟩)⟩
theorem fi_X4_66 : FI RX4 66 3 4 0 := ⟨RX3, TX3, 7, rfl, by decide +kernel, by decide +kernel, by decide +kernel, tbm 100 (by decide +kernel) (by decide +kernel), (fun _ => ⟨rfl, by decide +kernel⟩)⟩
theorem fi_X7_81 : FI RX7 81 3 5 0 := ⟨RX3, TX3, 7, rfl, by decide +kernel, by decide +kernel, by decide +kernel, tbm 101 (by decide +kernel) (by decide +kernel), (fun _ => ⟨rfl, by decide +kernel⟩)⟩
theorem fi_X4_92 : FI RX4 92 3 5 0 := ⟨RX3, TX3, 7, rfl, by decide +kernel, by decide +kernel, by decide +kernel, tbm 102 (by decide +kernel) (by decide +kernel), (fun _ => ⟨rfl, by decide +kernel⟩)⟩
theorem fi_X3_15 : FI RX3 15 3 6 3 := ⟨RX3, TX3, 7, rfl, by decide +kernel, by decide +kernel, by decide +kernel, tbm 103 (by decide +kernel) (by decide +kernel), (fun _ => ⟨rfl, by decide +kernel⟩)⟩
theorem fi_X7_84 : FI RX7 84 3 6 3 := ⟨RX3, TX3, 7, rfl, by decide +kernel, by decide +kernel, by decide +kernel, tbm 104 (by decide +kernel) (by decide +kernel), (fun _ => ⟨rfl, by decide +kernel⟩)⟩
theorem fi_X4_69 : FI RX4 69 3 6 3 := ⟨RX3, TX3, 7, rfl, by decide +kernel, by decide +kernel, by decide +kernel, tbm 105 (by decide +kernel) (by decide +kernel), (fun _ => ⟨rfl, by decide +kernel⟩)⟩
theorem fi_X2_26 : FI RX2 26 2 0 0 := ⟨RX2, TX2, 6, rfl, by decide +kernel, by decide +kernel, by decide +kernel, tbm 127 (by decide +kernel) (by decide +kernel), (fun _ => ⟨rfl, by decide +kernel⟩)⟩
theorem fi_X4_39 : FI RX4 39 2 0 0 := ⟨RX2, TX2, 6, rfl, by decide +kernel, by decide +kernel, by decide +kernel, tbm 128 (by decide +kernel) (by decide +kernel), (fun _ => ⟨rfl, by decide +kernel⟩)⟩
theorem fi_X2_19 : FI RX2 19 2 1 0 := ⟨RX2, TX2, 6, rfl, by decide +kernel, by decide +kernel, by decide +kernel, tbm 129 (by decide +kernel) (by decide +kernel), (fun _ => ⟨rfl, by decide +kernel⟩)⟩
theorem fi_X4_42 : FI RX4 42 2 1 0 := ⟨RX2, TX2, 6, rfl, by decide +kernel, by decide +kernel, by decide +kernel, tbm 130 (by decide +kernel) (by decide +kernel), (fun _ => ⟨rfl, by decide +kernel⟩)⟩
theorem fi_X2_23 : FI RX2 23 2 2 0 := ⟨RX2, TX2, 6, rfl, by decide +kernel, by decide +kernel, by decide +kernel, tbm 131 (by decide +kernel) (by decide +kernel), (fun _ => ⟨rfl, by decide +kernel⟩)⟩
theorem fi_X4_45 : FI RX4 45 2 2 0 := ⟨RX2, TX2, 6, rfl, by decide +kernel, by decide +kernel, by decide +kernel, tbm 132 (by decide +kernel) (by decide +kernel), (fun _ => ⟨rfl, by decide +kernel⟩)⟩
theorem fi_X4_48 : FI RX4 48 2 3 0 := ⟨RX2, TX2, 6, rfl, by decide +kernel, by decide +kernel, by decide +kernel, tbm 133 (by decide +kernel) (by decide +kernel), (fun _ => ⟨rfl, by decide +kernel⟩)⟩
theorem fi_X4_49 : FI RX4 49 2 4 0 := ⟨RX2, TX2, 6, rfl, by decide +kernel, by decide +kernel, by decide +kernel, tbm 134 (by decide +kernel) (by decide +kernel), (fun _ => ⟨rfl, by decide +kernel⟩)⟩
theorem fi_X2_29 : FI RX2 29 2 4 0 := ⟨RX2, TX2, 6, rfl, by decide +kernel, by decide +kernel, by decide +kernel, tbm 135 (by decide +kernel) (by decide +kernel), (fun _ => ⟨rfl, by decide +kernel⟩)⟩
theorem fi_X2_9 : FI RX2 9 2 5 3 := ⟨RX2, TX2, 6, rfl, by decide +kernel, by decide +kernel, by decide +kernel, tbm 136 (by decide +kernel) (by decide +kernel), (fun _ => ⟨rfl, by decide +kernel⟩)⟩
theorem fi_X7_92 : FI RX7 92 2 5 3 := ⟨RX2, TX2, 6, rfl, by decide +kernel, by decide +kernel, by decide +kernel, tbm 137 (by decide +kernel) (by decide +kernel), (fun _ => ⟨rfl, by decide +kernel⟩)⟩
theorem fi_X4_73 : FI RX4 73 2 5 3 := ⟨RX2, TX2, 6, rfl, by decide +kernel, by decide +kernel, by decide +kernel, tbm 138 (by decide +kernel) (by decide +kernel), (fun _ => ⟨rfl, by decide +kernel⟩)⟩
theorem fi_X4_11 : FI RX4 11 4 0 2 := ⟨RX4, TX4, 5, rfl, by decide +kernel, by decide +kernel, by decide +kernel, tbm 152 (by decide +kernel) (by decide +kernel), (fun h => absurd rfl h)⟩
theorem fi_X4_19 : FI RX4 19 4 1 2 := ⟨RX4, TX4, 5, rfl, by decide +kernel, by decide +kernel, by decide +kernel, tbm 153 (by decide +kernel) (by decide +kernel), (fun h => absurd rfl h)⟩
theorem fi_X4_23 : FI RX4 23 4 2 2 := ⟨RX4, TX4, 5, rfl, by decide +kernel, by decide +kernel, by decide +kernel, tbm 154 (by decide +kernel) (by decide +kernel), (fun h => absurd rfl h)⟩
theorem fi_X4_29 : FI RX4 29 4 3 0 := ⟨RX4, TX4, 5, rfl, by decide +kernel, by decide +kernel, by decide +kernel, tbm 155 (by decide +kernel) (by decide +kernel), (fun _ => ⟨rfl, by decide +kernel⟩)⟩
theorem fi_X5_18 : FI RX5 18 4 3 0 := ⟨RX4, TX4, 5, rfl, by decide +kernel, by decide +kernel, by decide +kernel, tbm 156 (by decide +kernel) (by decide +kernel), (fun _ => ⟨rfl, by decide +kernel⟩)⟩
theorem fi_X7_101 : FI RX7 101 4 3 0 := ⟨RX4, TX4, 5, rfl, by decide +kernel, by decide +kernel, by decide +kernel, tbm 157 (by decide +kernel) (by decide +kernel), (fun _ => ⟨rfl, by decide +kernel⟩)⟩
theorem fi_X6_52 : FI RX6 52 4 4 0 := ⟨RX4, TX4, 5, rfl, by decide +kernel, by decide +kernel, by decide +kernel, tbm 158 (by decide +kernel) (by decide +kernel), (fun _ => ⟨rfl, by decide +kernel⟩)⟩
theorem fi_X0_24 : FI RX0 24 4 4 0 := ⟨RX4, TX4, 5, rfl, by decide +kernel, by decide +kernel, by decide +kernel, tbm 159 (by decide +kernel) (by decide +kernel), (fun _ => ⟨rfl, by decide +kernel⟩)⟩
theorem fi_X4_36 : FI RX4 36 4 4 0 := ⟨RX4, TX4, 5, rfl, by decide +kernel, by decide +kernel, by decide +kernel, tbm 160 (by decide +kernel) (by decide +kernel), (fun _ => ⟨rfl, by decide +kernel⟩)⟩
theorem fi_X7_104 : FI RX7 104 4 4 0 := ⟨RX4, TX4, 5, rfl, by decide +kernel, by decide +kernel, by decide +kernel, tbm 161 (by decide +kernel) (by decide +kernel), (fun _ => ⟨rfl, by decide +kernel⟩)⟩
theorem fi_X0_9 : FI RX0 9 0 0 2 := ⟨RX0, TX0, 2, rfl, by decide +kernel, by decide +kernel, by decide +kernel, tbm 185 (by decide +kernel) (by decide +kernel), (fun h => absurd rfl h)⟩
theorem fi_X0_15 : FI RX0 15 0 1 2 := ⟨RX0, TX0, 2, rfl, by decide +kernel, by decide +kernel, by decide +kernel, tbm 186 (by decide +kernel) (by decide +kernel), (fun h => absurd rfl h)⟩
theorem fi_X5_11 : FI RX5 11 5 0 2 := ⟨RX5, TX5, 2, rfl, by decide +kernel, by decide +kernel, by decide +kernel, tbm 198 (by decide +kernel) (by decide +kernel), (fun h => absurd rfl h)⟩
theorem fi_X5_15 : FI RX5 15 5 1 2 := ⟨RX5, TX5, 2, rfl, by decide +kernel, by decide +kernel, by decide +kernel, tbm 199 (by decide +kernel) (by decide +kernel), (fun h => absurd rfl h)⟩
theorem fi_X6_12 : FI RX6 12 6 0 2 := ⟨RX6, TX6, 12, rfl, by decide +kernel, by decide +kernel, by decide +kernel, tbm 206 (by decide +kernel) (by decide +kernel), (fun h => absurd rfl h)⟩
theorem fi_X6_21 : FI RX6 21 6 1 2 := ⟨RX6, TX6, 12, rfl, by decide +kernel, by decide +kernel, by decide +kernel, tbm 207 (by decide +kernel) (by decide +kernel), (fun h => absurd rfl h)⟩
theorem fi_X6_25 : FI RX6 25 6 2 2 := ⟨RX6, TX6, 12, rfl, by decide +kernel, by decide +kernel, by decide +kernel, tbm 208 (by decide +kernel) (by decide +kernel), (fun h => absurd rfl h)⟩
theorem fi_X6_29 : FI RX6 29 6 3 2 := ⟨RX6, TX6, 12, rfl, by decide +kernel, by decide +kernel, by decide +kernel, tbm 209 (by decide +kernel) (by decide +kernel), (fun h => absurd rfl h)⟩
theorem fi_X6_32 : FI RX6 32 6 4 2 := ⟨RX6, TX6, 12, rfl, by decide +kernel, by decide +kernel, by decide +kernel, tbm 210 (by decide +kernel) (by decide +kernel), (fun h => absurd rfl h)⟩
theorem fi_X6_35 : FI RX6 35 6 5 2 := ⟨RX6, TX6, 12, rfl, by decide +kernel, by decide +kernel, by decide +kernel, tbm 211 (by decide +kernel) (by decide +kernel), (fun h => absurd rfl h)⟩
theorem fi_X6_49 : FI RX6 49 6 6 0 := ⟨RX6, TX6, 12, rfl, by decide +kernel, by decide +kernel, by decide +kernel, tbm 212 (by decide +kernel) (by decide +kernel), (fun _ => ⟨rfl, by decide +kernel⟩)⟩
theorem fi_X6_55 : FI RX6 55 6 7 0 := ⟨RX6, TX6, 12, rfl, by decide +kernel, by decide +kernel, by decide +kernel, tbm 213 (by decide +kernel) (by decide +kernel), (fun _ => ⟨rfl, by decide +kernel⟩)⟩
theorem fi_X6_98 : FI RX6 98 6 8 1 := ⟨RX6, TX6, 12, rfl, by decide +kernel, by decide +kernel, by decide +kernel, tbm 214 (by decide +kernel) (by decide +kernel), (fun _ => ⟨rfl, by decide +kernel⟩)⟩
theorem fi_X6_102 : FI RX6 102 6 9 1 := ⟨RX6, TX6, 12, rfl, by decide +kernel, by decide +kernel, by decide +kernel, tbm 215 (by decide +kernel) (by decide +kernel), (fun _ => ⟨rfl, by decide +kernel⟩)⟩
theorem fi_X6_105 : FI RX6 105 6 10 3 := ⟨RX6, TX6, 12, rfl, by decide +kernel, by decide +kernel, by decide +kernel, tbm 216 (by decide +kernel) (by decide +kernel), (fun _ => ⟨rfl, by decide +kernel⟩)⟩
theorem fi_X6_78 : FI RX6 78 6 11 0 := ⟨RX6, TX6, 12, rfl, by decide +kernel, by decide +kernel, by decide +kernel, tbm 217 (by decide +kernel) (by decide +kernel), (fun _ => ⟨rfl, by decide +kernel⟩)⟩
theorem fi_X1_9 : FI RX1 9 1 0 2 := ⟨RX1, TX1, 3, rfl, by decide +kernel, by decide +kernel, by decide +kernel, tbm 249 (by decide +kernel) (by decide +kernel), (fun h => absurd rfl h)⟩
theorem fi_X1_15 : FI RX1 15 1 1 2 := ⟨RX1, TX1, 3, rfl, by decide +kernel, by decide +kernel, by decide +kernel, tbm 250 (by decide +kernel) (by decide +kernel), (fun h => absurd rfl h)⟩
theorem fi_X1_18 : FI RX1 18 1 2 0 := ⟨RX1, TX1, 3, rfl, by decide +kernel, by decide +kernel, by decide +kernel, tbm 251 (by decide +kernel) (by decide +kernel), (fun _ => ⟨rfl, by decide +kernel⟩)⟩
theorem fi_X7_116 : FI RX7 116 1 2 0 := ⟨RX1, TX1, 3, rfl, by decide +kernel, by decide +kernel, by decide +kernel, tbm 252 (by decide +kernel) (by decide +kernel), (fun _ => ⟨rfl, by decide +kernel⟩)⟩
theorem fi_X7_10 : FI RX7 10 7 0 2 := ⟨RX7, TX7, 8, rfl, by decide +kernel, by decide +kernel, by decide +kernel, tbm 260 (by decide +kernel) (by decide +kernel), (fun h => absurd rfl h)⟩
theorem fi_X7_19 : FI RX7 19 7 1 2 := ⟨RX7, TX7, 8, rfl, by decide +kernel, by decide +kernel, by decide +kernel, tbm 261 (by decide +kernel) (by decide +kernel), (fun h => absurd rfl h)⟩
theorem fi_X7_26 : FI RX7 26 7 2 2 := ⟨RX7, TX7, 8, rfl, by decide +kernel, by decide +kernel, by decide +kernel, tbm 262 (by decide +kernel) (by decide +kernel), (fun h => absurd rfl h)⟩
theorem fi_X7_30 : FI RX7 30 7 3 2 := ⟨RX7, TX7, 8, rfl, by decide +kernel, by decide +kernel, by decide +kernel, tbm 263 (by decide +kernel) (by decide +kernel), (fun h => absurd rfl h)⟩
theorem fi_X7_34 : FI RX7 34 7 4 2 := ⟨RX7, TX7, 8, rfl, by decide +kernel, by decide +kernel, by decide +kernel, tbm 264 (by decide +kernel) (by decide +kernel), (fun h => absurd rfl h)⟩
theorem fi_X7_37 : FI RX7 37 7 5 2 := ⟨RX7, TX7, 8, rfl, by decide +kernel, by decide +kernel, by decide +kernel, tbm 265 (by decide +kernel) (by decide +kernel), (fun h => absurd rfl h)⟩
theorem fi_X7_40 : FI RX7 40 7 6 2 := ⟨RX7, TX7, 8, rfl, by decide +kernel, by decide +kernel, by decide +kernel, tbm 266 (by decide +kernel) (by decide +kernel), (fun h => absurd rfl h)⟩
theorem fi_X7_119 : FI RX7 119 7 7 0 := ⟨RX7, TX7, 8, rfl, by decide +kernel, by decide +kernel, by decide +kernel, tbm 267 (by decide +kernel) (by decide +kernel), (fun _ => ⟨rfl, by decide +kernel⟩)⟩
theorem fi_X8_80 : FI RX8 80 8 0 0 := ⟨RX8, TX8, 37, rfl, by decide +kernel, by decide +kernel, by decide +kernel, tbm 751 (by decide +kernel) (by decide +kernel), (fun _ => ⟨rfl, by decide +kernel⟩)⟩
theorem fi_X8_84 : FI RX8 84 8 1 0 := ⟨RX8, TX8, 37, rfl, by decide +kernel, by decide +kernel, by decide +kernel, tbm 752 (by decide +kernel) (by decide +kernel), (fun _ => ⟨rfl, by decide +kernel⟩)⟩
theorem fi_X8_9 : FI RX8 9 8 2 2 := ⟨RX8, TX8, 37, rfl, by decide +kernel, by decide +kernel, by decide +kernel, tbm 753 (by decide +kernel) (by decide +kernel), (fun h => absurd rfl h)⟩
theorem fi_X8_13 : FI RX8 13 8 3 2 := ⟨RX8, TX8, 37, rfl, by decide +kernel, by decide +kernel, by decide +kernel, tbm 754 (by decide +kernel) (by decide +kernel), (fun h => absurd rfl h)⟩
theorem fi_X8_17 : FI RX8 17 8 4 2 := ⟨RX8, TX8, 37, rfl, by decide +kernel, by decide +kernel, by decide +kernel, tbm 755 (by decide +kernel) (by decide +kernel), (fun h => absurd rfl h)⟩
theorem fi_X8_20 : FI RX8 20 8 5 2 := ⟨RX8, TX8, 37, rfl, by decide +kernel, by decide +kernel, by decide +kernel, tbm 756 (by decide +kernel) (by decide +kernel), (fun h => absurd rfl h)⟩
theorem fi_X8_23 : FI RX8 23 8 6 2 := ⟨RX8, TX8, 37, rfl, by decide +kernel, by decide +kernel, by decide +kernel, tbm 757 (by decide +kernel) (by decide +kernel), (fun h => absurd rfl h)⟩
theorem fi_X8_26 : FI RX8 26 8 7 2 := ⟨RX8, TX8, 37, rfl, by decide +kernel, by decide +kernel, by decide +kernel, tbm 758 (by decide +kernel) (by decide +kernel), (fun h => absurd rfl h)⟩
theorem fi_X8_29 : FI RX8 29 8 8 2 := ⟨RX8, TX8, 37, rfl, by decide +kernel, by decide +kernel, by decide +kernel, tbm 759 (by decide +kernel) (by decide +kernel), (fun h => absurd rfl h)⟩
theorem fi_X8_32 : FI RX8 32 8 9 2 := ⟨RX8, TX8, 37, rfl, by decide +kernel, by decide +kernel, by decide +kernel, tbm 760 (by decide +kernel) (by decide +kernel), (fun h => absurd rfl h)⟩
theorem fi_X8_35 : FI RX8 35 8 10 2 := ⟨RX8, TX8, 37, rfl, by decide +kernel, by decide +kernel, by decide +kernel, tbm 761 (by decide +kernel) (by decide +kernel), (fun h => absurd rfl h)⟩
theorem fi_X8_91 : FI RX8 91 8 11 0 := ⟨RX8, TX8, 37, rfl, by decide +kernel, by decide +kernel, by decide +kernel, tbm 762 (by decide +kernel) (by decide +kernel), (fun _ => ⟨rfl, by decide +kernel⟩)⟩
theorem fi_X8_38 : FI RX8 38 8 12 2 := ⟨RX8, TX8, 37, rfl, by decide +kernel, by decide +kernel, by decide +kernel, tbm 763 (by decide +kernel) (by decide +kernel), (fun h => absurd rfl h)⟩
theorem fi_X8_41 : FI RX8 41 8 13 2 := ⟨RX8, TX8, 37, rfl, by decide +kernel, by decide +kernel, by decide +kernel, tbm 764 (by decide +kernel) (by decide +kernel), (fun h => absurd rfl h)⟩
theorem fi_X8_44 : FI RX8 44 8 14 2 := ⟨RX8, TX8, 37, rfl, by decide +kernel, by decide +kernel, by decide +kernel, tbm 765 (by decide +kernel) (by decide +kernel), (fun h => absurd rfl h)⟩
theorem fi_X8_47 : FI RX8 47 8 15 2 := ⟨RX8, TX8, 37, rfl, by decide +kernel, by decide +kernel, by decide +kernel, tbm 766 (by decide +kernel) (by decide +kernel), (fun h => absurd rfl h)⟩
theorem fi_X8_50 : FI RX8 50 8 16 2 := ⟨RX8, TX8, 37, rfl, by decide +kernel, by decide +kernel, by decide +kernel, tbm 767 (by decide +kernel) (by decide +kernel), (fun h => absurd rfl h)⟩
theorem fi_X8_53 : FI RX8 53 8 17 2 := ⟨RX8, TX8, 37, rfl, by decide +kernel, by decide +kernel, by decide +kernel, tbm 768 (by decide +kernel) (by decide +kernel), (fun h => absurd rfl h)⟩
theorem fi_X8_161 : FI RX8 161 8 18 0 := ⟨RX8, TX8, 37, rfl, by decide +kernel, by decide +kernel, by decide +kernel, tbm 769 (by decide +kernel) (by decide +kernel), (fun _ => ⟨rfl, by decide +kernel⟩)⟩
theorem fi_X8_164 : FI RX8 164 8 19 0 := ⟨RX8, TX8, 37, rfl, by decide +kernel, by decide +kernel, by decide +kernel, tbm 770 (by decide +kernel) (by decide +kernel), (fun _ => ⟨rfl, by decide +kernel⟩)⟩
theorem fi_X8_167 : FI RX8 167 8 20 0 := ⟨RX8, TX8, 37, rfl, by decide +kernel, by decide +kernel, by decide +kernel, tbm 771 (by decide +kernel) (by decide +kernel), (fun _ => ⟨rfl, by decide +kernel⟩)⟩
theorem fi_X8_56 : FI RX8 56 8 21 2 := ⟨RX8, TX8, 37, rfl, by decide +kernel, by decide +kernel, by decide +kernel, tbm 772 (by decide +kernel) (by decide +kernel), (fun h => absurd rfl h)⟩
theorem fi_X8_59 : FI RX8 59 8 22 2 := ⟨RX8, TX8, 37, rfl, by decide +kernel, by decide +kernel, by decide +kernel, tbm 773 (by decide +kernel) (by decide +kernel), (fun h => absurd rfl h)⟩
theorem fi_X8_200 : FI RX8 200 8 23 0 := ⟨RX8, TX8, 37, rfl, by decide +kernel, by decide +kernel, by decide +kernel, tbm 774 (by decide +kernel) (by decide +kernel), (fun _ => ⟨rfl, by decide +kernel⟩)⟩
theorem fi_X8_181 : FI RX8 181 8 24 0 := ⟨RX8, TX8, 37, rfl, by decide +kernel, by decide +kernel, by decide +kernel, tbm 775 (by decide +kernel) (by decide +kernel), (fun _ => ⟨rfl, by decide +kernel⟩)⟩
theorem fi_X8_184 : FI RX8 184 8 25 0 := ⟨RX8, TX8, 37, rfl, by decide +kernel, by decide +kernel, by decide +kernel, tbm 776 (by decide +kernel) (by decide +kernel), (fun _ => ⟨rfl, by decide +kernel⟩)⟩
theorem fi_X8_187 : FI RX8 187 8 26 0 := ⟨RX8, TX8, 37, rfl, by decide +kernel, by decide +kernel, by decide +kernel, tbm 777 (by decide +kernel) (by decide +kernel), (fun _ => ⟨rfl, by decide +kernel⟩)⟩
theorem fi_X8_207 : FI RX8 207 8 27 0 := ⟨RX8, TX8, 37, rfl, by decide +kernel, by decide +kernel, by decide +kernel, tbm 778 (by decide +kernel) (by decide +kernel), (fun _ => ⟨rfl, by decide +kernel⟩)⟩
theorem fi_X8_194 : FI RX8 194 8 28 0 := ⟨RX8, TX8, 37, rfl, by decide +kernel, by decide +kernel, by decide +kernel, tbm 779 (by decide +kernel) (by decide +kernel), (fun _ => ⟨rfl, by decide +kernel⟩)⟩
theorem fi_X8_62 : FI RX8 62 8 29 2 := ⟨RX8, TX8, 37, rfl, by decide +kernel, by decide +kernel, by decide +kernel, tbm 780 (by decide +kernel) (by decide +kernel), (fun h => absurd rfl h)⟩
theorem fi_X8_65 : FI RX8 65 8 30 2 := ⟨RX8, TX8, 37, rfl, by decide +kernel, by decide +kernel, by decide +kernel, tbm 781 (by decide +kernel) (by decide +kernel), (fun h => absurd rfl h)⟩
theorem fi_X8_125 : FI RX8 125 8 31 0 := ⟨RX8, TX8, 37, rfl, by decide +kernel, by decide +kernel, by decide +kernel, tbm 782 (by decide +kernel) (by decide +kernel), (fun _ => ⟨rfl, by decide +kernel⟩)⟩
theorem fi_X8_68 : FI RX8 68 8 32 2 := ⟨RX8, TX8, 37, rfl, by decide +kernel, by decide +kernel, by decide +kernel, tbm 783 (by decide +kernel) (by decide +kernel), (fun h => absurd rfl h)⟩
theorem fi_X8_71 : FI RX8 71 8 33 2 := ⟨RX8, TX8, 37, rfl, by decide +kernel, by decide +kernel, by decide +kernel, tbm 784 (by decide +kernel) (by decide +kernel), (fun h => absurd rfl h)⟩
theorem fi_X8_74 : FI RX8 74 8 34 2 := ⟨RX8, TX8, 37, rfl, by decide +kernel, by decide +kernel, by decide +kernel, tbm 785 (by decide +kernel) (by decide +kernel), (fun h => absurd rfl h)⟩
theorem fi_X8_77 : FI RX8 77 8 35 2 := ⟨RX8, TX8, 37, rfl, by decide +kernel, by decide +kernel, by decide +kernel, tbm 786 (by decide +kernel) (by decide +kernel), (fun h => absurd rfl h)⟩
theorem fi_X8_128 : FI RX8 128 8 36 0 := ⟨RX8, TX8, 37, rfl, by decide +kernel, by decide +kernel, by decide +kernel, tbm 787 (by decide +kernel) (by decide +kernel), (fun _ => ⟨rfl, by decide +kernel⟩)⟩
theorem tb_places (ws : List Cond) (ps : List Nat) (hp : ws = ps.filterMap (fun i => lw_tbl[i]?)) (h : ws.all goodWord = true) : ∀ w ∈ ws, w ∈ TB := by
  intro w hw
  have h1 := List.all_eq_true.mp h w hw
  rw [hp] at hw
  obtain ⟨i, -, hi⟩ := List.mem_filterMap.mp hw
  exact tbm i hi h1
theorem ws_in_0 : ∀ w ∈ u_ws RX0 TX0 2, w ∈ TB := tb_places _ [187, 189] (by decide +kernel) (by decide +kernel)
theorem ws_in_1 : ∀ w ∈ u_ws RX1 TX1 3, w ∈ TB := tb_places _ [253, 255, 257] (by decide +kernel) (by decide +kernel)
theorem ws_in_2 : ∀ w ∈ u_ws RX2 TX2 6, w ∈ TB := tb_places _ [139, 141, 143, 145, 147, 149] (by decide +kernel) (by decide +kernel)
theorem ws_in_3 : ∀ w ∈ u_ws RX3 TX3 7, w ∈ TB := tb_places _ [106, 108, 110, 112, 114, 116, 118] (by decide +kernel) (by decide +kernel)
theorem ws_in_4 : ∀ w ∈ u_ws RX4 TX4 5, w ∈ TB := tb_places _ [162, 164, 166, 168, 170] (by decide +kernel) (by decide +kernel)
theorem ws_in_5 : ∀ w ∈ u_ws RX5 TX5 2, w ∈ TB := tb_places _ [200, 202] (by decide +kernel) (by decide +kernel)
theorem ws_in_6 : ∀ w ∈ u_ws RX6 TX6 12, w ∈ TB := tb_places _ [218, 220, 222, 224, 226, 228, 230, 232, 234, 236, 238, 240] (by decide +kernel) (by decide +kernel)
theorem ws_in_7 : ∀ w ∈ u_ws RX7 TX7 8, w ∈ TB := tb_places _ [268, 270, 272, 274, 276, 278, 280, 282] (by decide +kernel) (by decide +kernel)
theorem ws_in_8 : ∀ w ∈ u_ws RX8 TX8 37, w ∈ TB := tb_places _ [788, 790, 792, 794, 796, 798, 800, 802, 804, 806, 808, 810, 812, 814, 816, 818, 820, 822, 824, 826, 828, 830, 832, 834, 836, 838, 840, 842, 844, 846, 848, 850, 852, 854, 856, 858, 860] (by decide +kernel) (by decide +kernel)
theorem cl_facts : ∀ (ci : Nat) (C : String) (T : u_T) (N : Nat), vwCl[ci]? = some (C, T, N) → (∀ w ∈ u_ws C T N, w ∈ TB) ∧ (∀ a, a < N → ∀ b, b < N → a ≠ b → (T a).2.1 ≠ (T b).2.1) ∧ ∃ ty : Nat → FieldType, ∀ k, k < N → parseFieldDescriptor (T k).2.2.1 = some (ty k)
  | 0, _, _, _, h => by cases h; exact ⟨ws_in_0, nmX0, tyX0, tyX0_ok⟩
  | 1, _, _, _, h => by cases h; exact ⟨ws_in_1, nmX1, tyX1, tyX1_ok⟩
  | 2, _, _, _, h => by cases h; exact ⟨ws_in_2, nmX2, tyX2, tyX2_ok⟩
  | 3, _, _, _, h => by cases h; exact ⟨ws_in_3, nmX3, tyX3, tyX3_ok⟩
  | 4, _, _, _, h => by cases h; exact ⟨ws_in_4, nmX4, tyX4, tyX4_ok⟩
  | 5, _, _, _, h => by cases h; exact ⟨ws_in_5, nmX5, tyX5, tyX5_ok⟩
  | 6, _, _, _, h => by cases h; exact ⟨ws_in_6, nmX6, tyX6, tyX6_ok⟩
  | 7, _, _, _, h => by cases h; exact ⟨ws_in_7, nmX7, tyX7, tyX7_ok⟩
  | 8, _, _, _, h => by cases h; exact ⟨ws_in_8, nmX8, tyX8, tyX8_ok⟩
  | k + 9, _, _, _, h => by simp [vwCl] at h
theorem k_X4_76 : Cond.constant RX4 76 (1103515245) ∈ TB := tbm 362 (by decide +kernel) (by decide +kernel)
theorem k_J6_265 : Cond.constant RJ6 265 (1431655765) ∈ TB := tbm 377 (by decide +kernel) (by decide +kernel)
theorem k_J6_266 : Cond.constant RJ6 266 (858993459) ∈ TB := tbm 378 (by decide +kernel) (by decide +kernel)
theorem k_J6_267 : Cond.constant RJ6 267 (252645135) ∈ TB := tbm 379 (by decide +kernel) (by decide +kernel)
theorem k_X6_72 : Cond.constantLong RX6 72 (4611686018427387904) ∈ TB := tbm 484 (by decide +kernel) (by decide +kernel)
theorem k_X6_81 : Cond.constantLong RX6 81 (28) ∈ TB := tbm 489 (by decide +kernel) (by decide +kernel)
theorem k_X5_53 : Cond.constantLong RX5 53 (1099511627776) ∈ TB := tbm 607 (by decide +kernel) (by decide +kernel)
theorem k_X8_94 : Cond.constantLong RX8 94 (255) ∈ TB := tbm 872 (by decide +kernel) (by decide +kernel)
theorem k_X8_96 : Cond.constantLong RX8 96 (3) ∈ TB := tbm 880 (by decide +kernel) (by decide +kernel)
theorem k_X8_98 : Cond.constantLong RX8 98 (8) ∈ TB := tbm 881 (by decide +kernel) (by decide +kernel)
theorem k_X8_115 : Cond.constantLong RX8 115 (2) ∈ TB := tbm 906 (by decide +kernel) (by decide +kernel)
theorem k_X8_120 : Cond.constant RX8 120 (1103515245) ∈ TB := tbm 931 (by decide +kernel) (by decide +kernel)
theorem k_X8_131 : Cond.constantLong RX8 131 (6) ∈ TB := tbm 944 (by decide +kernel) (by decide +kernel)
theorem k_X8_223 : Cond.constant RX8 223 (268435456) ∈ TB := tbm 996 (by decide +kernel) (by decide +kernel)
theorem k_X8_230 : Cond.constantLong RX8 230 (9) ∈ TB := tbm 1048 (by decide +kernel) (by decide +kernel)
end
section
def Dc (M : MT) (pc : Nat) (i : Instr) (len nx : Nat) : Prop := decode M.2.1 pc = .ok (i, len) ∧ nx = pc + len
end
section
-- decode rows of J6
theorem eJ6_bitCount_0f7a4_0 : Dc MJ6_bitCount_0f7a4 0 (.iload_n 0) 1 1 := ⟨by decide +kernel, rfl⟩
theorem eJ6_bitCount_0f7a4_1 : Dc MJ6_bitCount_0f7a4 1 (.iload_n 0) 1 2 := ⟨by decide +kernel, rfl⟩
theorem eJ6_bitCount_0f7a4_2 : Dc MJ6_bitCount_0f7a4 2 (.iconst 1) 1 3 := ⟨by decide +kernel, rfl⟩
theorem eJ6_bitCount_0f7a4_3 : Dc MJ6_bitCount_0f7a4 3 (.iushr) 1 4 := ⟨by decide +kernel, rfl⟩
theorem eJ6_bitCount_0f7a4_4 : Dc MJ6_bitCount_0f7a4 4 (.ldc_w 265) 3 7 := ⟨by decide +kernel, rfl⟩
theorem eJ6_bitCount_0f7a4_7 : Dc MJ6_bitCount_0f7a4 7 (.iand) 1 8 := ⟨by decide +kernel, rfl⟩
theorem eJ6_bitCount_0f7a4_8 : Dc MJ6_bitCount_0f7a4 8 (.isub) 1 9 := ⟨by decide +kernel, rfl⟩
theorem eJ6_bitCount_0f7a4_9 : Dc MJ6_bitCount_0f7a4 9 (.istore_n 0) 1 10 := ⟨by decide +kernel, rfl⟩
theorem eJ6_bitCount_0f7a4_10 : Dc MJ6_bitCount_0f7a4 10 (.iload_n 0) 1 11 := ⟨by decide +kernel, rfl⟩
theorem eJ6_bitCount_0f7a4_11 : Dc MJ6_bitCount_0f7a4 11 (.ldc_w 266) 3 14 := ⟨by decide +kernel, rfl⟩
theorem eJ6_bitCount_0f7a4_14 : Dc MJ6_bitCount_0f7a4 14 (.iand) 1 15 := ⟨by decide +kernel, rfl⟩
theorem eJ6_bitCount_0f7a4_15 : Dc MJ6_bitCount_0f7a4 15 (.iload_n 0) 1 16 := ⟨by decide +kernel, rfl⟩
theorem eJ6_bitCount_0f7a4_16 : Dc MJ6_bitCount_0f7a4 16 (.iconst 2) 1 17 := ⟨by decide +kernel, rfl⟩
theorem eJ6_bitCount_0f7a4_17 : Dc MJ6_bitCount_0f7a4 17 (.iushr) 1 18 := ⟨by decide +kernel, rfl⟩
theorem eJ6_bitCount_0f7a4_18 : Dc MJ6_bitCount_0f7a4 18 (.ldc_w 266) 3 21 := ⟨by decide +kernel, rfl⟩
theorem eJ6_bitCount_0f7a4_21 : Dc MJ6_bitCount_0f7a4 21 (.iand) 1 22 := ⟨by decide +kernel, rfl⟩
theorem eJ6_bitCount_0f7a4_22 : Dc MJ6_bitCount_0f7a4 22 (.iadd) 1 23 := ⟨by decide +kernel, rfl⟩
theorem eJ6_bitCount_0f7a4_23 : Dc MJ6_bitCount_0f7a4 23 (.istore_n 0) 1 24 := ⟨by decide +kernel, rfl⟩
theorem eJ6_bitCount_0f7a4_24 : Dc MJ6_bitCount_0f7a4 24 (.iload_n 0) 1 25 := ⟨by decide +kernel, rfl⟩
theorem eJ6_bitCount_0f7a4_25 : Dc MJ6_bitCount_0f7a4 25 (.iload_n 0) 1 26 := ⟨by decide +kernel, rfl⟩
theorem eJ6_bitCount_0f7a4_26 : Dc MJ6_bitCount_0f7a4 26 (.iconst 4) 1 27 := ⟨by decide +kernel, rfl⟩
theorem eJ6_bitCount_0f7a4_27 : Dc MJ6_bitCount_0f7a4 27 (.iushr) 1 28 := ⟨by decide +kernel, rfl⟩
theorem eJ6_bitCount_0f7a4_28 : Dc MJ6_bitCount_0f7a4 28 (.iadd) 1 29 := ⟨by decide +kernel, rfl⟩
theorem eJ6_bitCount_0f7a4_29 : Dc MJ6_bitCount_0f7a4 29 (.ldc_w 267) 3 32 := ⟨by decide +kernel, rfl⟩
theorem eJ6_bitCount_0f7a4_32 : Dc MJ6_bitCount_0f7a4 32 (.iand) 1 33 := ⟨by decide +kernel, rfl⟩
theorem eJ6_bitCount_0f7a4_33 : Dc MJ6_bitCount_0f7a4 33 (.istore_n 0) 1 34 := ⟨by decide +kernel, rfl⟩
theorem eJ6_bitCount_0f7a4_34 : Dc MJ6_bitCount_0f7a4 34 (.iload_n 0) 1 35 := ⟨by decide +kernel, rfl⟩
theorem eJ6_bitCount_0f7a4_35 : Dc MJ6_bitCount_0f7a4 35 (.iload_n 0) 1 36 := ⟨by decide +kernel, rfl⟩
theorem eJ6_bitCount_0f7a4_36 : Dc MJ6_bitCount_0f7a4 36 (.bipush 8) 2 38 := ⟨by decide +kernel, rfl⟩
theorem eJ6_bitCount_0f7a4_38 : Dc MJ6_bitCount_0f7a4 38 (.iushr) 1 39 := ⟨by decide +kernel, rfl⟩
theorem eJ6_bitCount_0f7a4_39 : Dc MJ6_bitCount_0f7a4 39 (.iadd) 1 40 := ⟨by decide +kernel, rfl⟩
theorem eJ6_bitCount_0f7a4_40 : Dc MJ6_bitCount_0f7a4 40 (.istore_n 0) 1 41 := ⟨by decide +kernel, rfl⟩
theorem eJ6_bitCount_0f7a4_41 : Dc MJ6_bitCount_0f7a4 41 (.iload_n 0) 1 42 := ⟨by decide +kernel, rfl⟩
theorem eJ6_bitCount_0f7a4_42 : Dc MJ6_bitCount_0f7a4 42 (.iload_n 0) 1 43 := ⟨by decide +kernel, rfl⟩
theorem eJ6_bitCount_0f7a4_43 : Dc MJ6_bitCount_0f7a4 43 (.bipush 16) 2 45 := ⟨by decide +kernel, rfl⟩
theorem eJ6_bitCount_0f7a4_45 : Dc MJ6_bitCount_0f7a4 45 (.iushr) 1 46 := ⟨by decide +kernel, rfl⟩
theorem eJ6_bitCount_0f7a4_46 : Dc MJ6_bitCount_0f7a4 46 (.iadd) 1 47 := ⟨by decide +kernel, rfl⟩
theorem eJ6_bitCount_0f7a4_47 : Dc MJ6_bitCount_0f7a4 47 (.istore_n 0) 1 48 := ⟨by decide +kernel, rfl⟩
theorem eJ6_bitCount_0f7a4_48 : Dc MJ6_bitCount_0f7a4 48 (.iload_n 0) 1 49 := ⟨by decide +kernel, rfl⟩
theorem eJ6_bitCount_0f7a4_49 : Dc MJ6_bitCount_0f7a4 49 (.bipush 63) 2 51 := ⟨by decide +kernel, rfl⟩
theorem eJ6_bitCount_0f7a4_51 : Dc MJ6_bitCount_0f7a4 51 (.iand) 1 52 := ⟨by decide +kernel, rfl⟩
theorem eJ6_bitCount_0f7a4_52 : Dc MJ6_bitCount_0f7a4 52 (.ireturn) 1 53 := ⟨by decide +kernel, rfl⟩
end
section
-- decode rows of J9
theorem eJ9_max_7cf53_0 : Dc MJ9_max_7cf53 0 (.iload_n 0) 1 1 := ⟨by decide +kernel, rfl⟩
theorem eJ9_max_7cf53_1 : Dc MJ9_max_7cf53 1 (.iload_n 1) 1 2 := ⟨by decide +kernel, rfl⟩
theorem eJ9_max_7cf53_2 : Dc MJ9_max_7cf53 2 (.if_icmp .lt 7) 3 5 := ⟨by decide +kernel, rfl⟩
theorem eJ9_max_7cf53_5 : Dc MJ9_max_7cf53 5 (.iload_n 0) 1 6 := ⟨by decide +kernel, rfl⟩
theorem eJ9_max_7cf53_6 : Dc MJ9_max_7cf53 6 (.goto 4) 3 9 := ⟨by decide +kernel, rfl⟩
theorem eJ9_max_7cf53_9 : Dc MJ9_max_7cf53 9 (.iload_n 1) 1 10 := ⟨by decide +kernel, rfl⟩
theorem eJ9_max_7cf53_10 : Dc MJ9_max_7cf53 10 (.ireturn) 1 11 := ⟨by decide +kernel, rfl⟩
end
section
-- decode rows of X0
theorem eX0_init_0 : Dc MX0_init 0 (.aload_n 0) 1 1 := ⟨by decide +kernel, rfl⟩
theorem eX0_init_1 : Dc MX0_init 1 (.invokespecial 3) 3 4 := ⟨by decide +kernel, rfl⟩
theorem eX0_init_4 : Dc MX0_init 4 (.aload_n 0) 1 5 := ⟨by decide +kernel, rfl⟩
theorem eX0_init_5 : Dc MX0_init 5 (.sipush 256) 3 8 := ⟨by decide +kernel, rfl⟩
theorem eX0_init_8 : Dc MX0_init 8 (.newarray .int) 2 10 := ⟨by decide +kernel, rfl⟩
theorem eX0_init_10 : Dc MX0_init 10 (.putfield 9) 3 13 := ⟨by decide +kernel, rfl⟩
theorem eX0_init_13 : Dc MX0_init 13 (.aload_n 0) 1 14 := ⟨by decide +kernel, rfl⟩
theorem eX0_init_14 : Dc MX0_init 14 (.sipush 256) 3 17 := ⟨by decide +kernel, rfl⟩
theorem eX0_init_17 : Dc MX0_init 17 (.newarray .int) 2 19 := ⟨by decide +kernel, rfl⟩
theorem eX0_init_19 : Dc MX0_init 19 (.putfield 15) 3 22 := ⟨by decide +kernel, rfl⟩
theorem eX0_init_22 : Dc MX0_init 22 (.return_) 1 23 := ⟨by decide +kernel, rfl⟩
theorem eX0_fill_0 : Dc MX0_fill 0 (.aload_n 1) 1 1 := ⟨by decide +kernel, rfl⟩
theorem eX0_fill_1 : Dc MX0_fill 1 (.invokevirtual 18) 3 4 := ⟨by decide +kernel, rfl⟩
theorem eX0_fill_4 : Dc MX0_fill 4 (.istore_n 2) 1 5 := ⟨by decide +kernel, rfl⟩
theorem eX0_fill_5 : Dc MX0_fill 5 (.aload_n 0) 1 6 := ⟨by decide +kernel, rfl⟩
theorem eX0_fill_6 : Dc MX0_fill 6 (.getfield 9) 3 9 := ⟨by decide +kernel, rfl⟩
theorem eX0_fill_9 : Dc MX0_fill 9 (.arraylength) 1 10 := ⟨by decide +kernel, rfl⟩
theorem eX0_fill_10 : Dc MX0_fill 10 (.iconst 1) 1 11 := ⟨by decide +kernel, rfl⟩
theorem eX0_fill_11 : Dc MX0_fill 11 (.isub) 1 12 := ⟨by decide +kernel, rfl⟩
theorem eX0_fill_12 : Dc MX0_fill 12 (.istore_n 3) 1 13 := ⟨by decide +kernel, rfl⟩
theorem eX0_fill_13 : Dc MX0_fill 13 (.iload_n 3) 1 14 := ⟨by decide +kernel, rfl⟩
theorem eX0_fill_14 : Dc MX0_fill 14 (.ifCond .lt 121) 3 17 := ⟨by decide +kernel, rfl⟩
theorem eX0_fill_17 : Dc MX0_fill 17 (.iload_n 3) 1 18 := ⟨by decide +kernel, rfl⟩
theorem eX0_fill_18 : Dc MX0_fill 18 (.iload_n 2) 1 19 := ⟨by decide +kernel, rfl⟩
theorem eX0_fill_19 : Dc MX0_fill 19 (.iconst (-1)) 1 20 := ⟨by decide +kernel, rfl⟩
theorem eX0_fill_20 : Dc MX0_fill 20 (.ixor) 1 21 := ⟨by decide +kernel, rfl⟩
theorem eX0_fill_21 : Dc MX0_fill 21 (.iand) 1 22 := ⟨by decide +kernel, rfl⟩
theorem eX0_fill_22 : Dc MX0_fill 22 (.ifCond .ne 7) 3 25 := ⟨by decide +kernel, rfl⟩
theorem eX0_fill_25 : Dc MX0_fill 25 (.iconst 1) 1 26 := ⟨by decide +kernel, rfl⟩
theorem eX0_fill_26 : Dc MX0_fill 26 (.goto 4) 3 29 := ⟨by decide +kernel, rfl⟩
theorem eX0_fill_29 : Dc MX0_fill 29 (.iconst 0) 1 30 := ⟨by decide +kernel, rfl⟩
theorem eX0_fill_30 : Dc MX0_fill 30 (.istore 4) 2 32 := ⟨by decide +kernel, rfl⟩
theorem eX0_fill_32 : Dc MX0_fill 32 (.iconst 0) 1 33 := ⟨by decide +kernel, rfl⟩
theorem eX0_fill_33 : Dc MX0_fill 33 (.istore 5) 2 35 := ⟨by decide +kernel, rfl⟩
theorem eX0_fill_35 : Dc MX0_fill 35 (.iconst 0) 1 36 := ⟨by decide +kernel, rfl⟩
theorem eX0_fill_36 : Dc MX0_fill 36 (.istore 6) 2 38 := ⟨by decide +kernel, rfl⟩
theorem eX0_fill_38 : Dc MX0_fill 38 (.iload 4) 2 40 := ⟨by decide +kernel, rfl⟩
theorem eX0_fill_40 : Dc MX0_fill 40 (.ifCond .eq 37) 3 43 := ⟨by decide +kernel, rfl⟩
theorem eX0_fill_43 : Dc MX0_fill 43 (.iload 6) 2 45 := ⟨by decide +kernel, rfl⟩
theorem eX0_fill_45 : Dc MX0_fill 45 (.aload_n 1) 1 46 := ⟨by decide +kernel, rfl⟩
theorem eX0_fill_46 : Dc MX0_fill 46 (.getfield 24) 3 49 := ⟨by decide +kernel, rfl⟩
theorem eX0_fill_49 : Dc MX0_fill 49 (.if_icmp .ge 28) 3 52 := ⟨by decide +kernel, rfl⟩
theorem eX0_fill_52 : Dc MX0_fill 52 (.aload_n 1) 1 53 := ⟨by decide +kernel, rfl⟩
theorem eX0_fill_53 : Dc MX0_fill 53 (.iload 6) 2 55 := ⟨by decide +kernel, rfl⟩
theorem eX0_fill_55 : Dc MX0_fill 55 (.iload_n 3) 1 56 := ⟨by decide +kernel, rfl⟩
theorem eX0_fill_56 : Dc MX0_fill 56 (.invokevirtual 28) 3 59 := ⟨by decide +kernel, rfl⟩
theorem eX0_fill_59 : Dc MX0_fill 59 (.ifCond .eq 12) 3 62 := ⟨by decide +kernel, rfl⟩
theorem eX0_fill_62 : Dc MX0_fill 62 (.iload 5) 2 64 := ⟨by decide +kernel, rfl⟩
theorem eX0_fill_64 : Dc MX0_fill 64 (.iconst 1) 1 65 := ⟨by decide +kernel, rfl⟩
theorem eX0_fill_65 : Dc MX0_fill 65 (.iload 6) 2 67 := ⟨by decide +kernel, rfl⟩
theorem eX0_fill_67 : Dc MX0_fill 67 (.ishl) 1 68 := ⟨by decide +kernel, rfl⟩
theorem eX0_fill_68 : Dc MX0_fill 68 (.ior) 1 69 := ⟨by decide +kernel, rfl⟩
theorem eX0_fill_69 : Dc MX0_fill 69 (.istore 5) 2 71 := ⟨by decide +kernel, rfl⟩
theorem eX0_fill_71 : Dc MX0_fill 71 (.iinc 6 1) 3 74 := ⟨by decide +kernel, rfl⟩
theorem eX0_fill_74 : Dc MX0_fill 74 (.goto (-36)) 3 77 := ⟨by decide +kernel, rfl⟩
theorem eX0_fill_77 : Dc MX0_fill 77 (.aload_n 0) 1 78 := ⟨by decide +kernel, rfl⟩
theorem eX0_fill_78 : Dc MX0_fill 78 (.getfield 9) 3 81 := ⟨by decide +kernel, rfl⟩
theorem eX0_fill_81 : Dc MX0_fill 81 (.iload_n 3) 1 82 := ⟨by decide +kernel, rfl⟩
theorem eX0_fill_82 : Dc MX0_fill 82 (.iload 5) 2 84 := ⟨by decide +kernel, rfl⟩
theorem eX0_fill_84 : Dc MX0_fill 84 (.iastore) 1 85 := ⟨by decide +kernel, rfl⟩
theorem eX0_fill_85 : Dc MX0_fill 85 (.aload_n 0) 1 86 := ⟨by decide +kernel, rfl⟩
theorem eX0_fill_86 : Dc MX0_fill 86 (.getfield 15) 3 89 := ⟨by decide +kernel, rfl⟩
theorem eX0_fill_89 : Dc MX0_fill 89 (.iload_n 3) 1 90 := ⟨by decide +kernel, rfl⟩
theorem eX0_fill_90 : Dc MX0_fill 90 (.iload 5) 2 92 := ⟨by decide +kernel, rfl⟩
theorem eX0_fill_92 : Dc MX0_fill 92 (.iastore) 1 93 := ⟨by decide +kernel, rfl⟩
theorem eX0_fill_93 : Dc MX0_fill 93 (.iconst 0) 1 94 := ⟨by decide +kernel, rfl⟩
theorem eX0_fill_94 : Dc MX0_fill 94 (.istore 6) 2 96 := ⟨by decide +kernel, rfl⟩
theorem eX0_fill_96 : Dc MX0_fill 96 (.iload 6) 2 98 := ⟨by decide +kernel, rfl⟩
theorem eX0_fill_98 : Dc MX0_fill 98 (.bipush 8) 2 100 := ⟨by decide +kernel, rfl⟩
theorem eX0_fill_100 : Dc MX0_fill 100 (.if_icmp .ge 29) 3 103 := ⟨by decide +kernel, rfl⟩
theorem eX0_fill_103 : Dc MX0_fill 103 (.aload_n 0) 1 104 := ⟨by decide +kernel, rfl⟩
theorem eX0_fill_104 : Dc MX0_fill 104 (.getfield 15) 3 107 := ⟨by decide +kernel, rfl⟩
theorem eX0_fill_107 : Dc MX0_fill 107 (.iload_n 3) 1 108 := ⟨by decide +kernel, rfl⟩
theorem eX0_fill_108 : Dc MX0_fill 108 (.dup2) 1 109 := ⟨by decide +kernel, rfl⟩
theorem eX0_fill_109 : Dc MX0_fill 109 (.iaload) 1 110 := ⟨by decide +kernel, rfl⟩
theorem eX0_fill_110 : Dc MX0_fill 110 (.aload_n 0) 1 111 := ⟨by decide +kernel, rfl⟩
theorem eX0_fill_111 : Dc MX0_fill 111 (.getfield 15) 3 114 := ⟨by decide +kernel, rfl⟩
theorem eX0_fill_114 : Dc MX0_fill 114 (.iload_n 3) 1 115 := ⟨by decide +kernel, rfl⟩
theorem eX0_fill_115 : Dc MX0_fill 115 (.iconst 1) 1 116 := ⟨by decide +kernel, rfl⟩
theorem eX0_fill_116 : Dc MX0_fill 116 (.iload 6) 2 118 := ⟨by decide +kernel, rfl⟩
theorem eX0_fill_118 : Dc MX0_fill 118 (.ishl) 1 119 := ⟨by decide +kernel, rfl⟩
theorem eX0_fill_119 : Dc MX0_fill 119 (.ior) 1 120 := ⟨by decide +kernel, rfl⟩
theorem eX0_fill_120 : Dc MX0_fill 120 (.iaload) 1 121 := ⟨by decide +kernel, rfl⟩
theorem eX0_fill_121 : Dc MX0_fill 121 (.ior) 1 122 := ⟨by decide +kernel, rfl⟩
theorem eX0_fill_122 : Dc MX0_fill 122 (.iastore) 1 123 := ⟨by decide +kernel, rfl⟩
theorem eX0_fill_123 : Dc MX0_fill 123 (.iinc 6 1) 3 126 := ⟨by decide +kernel, rfl⟩
theorem eX0_fill_126 : Dc MX0_fill 126 (.goto (-30)) 3 129 := ⟨by decide +kernel, rfl⟩
theorem eX0_fill_129 : Dc MX0_fill 129 (.iinc 3 (-1)) 3 132 := ⟨by decide +kernel, rfl⟩
theorem eX0_fill_132 : Dc MX0_fill 132 (.goto (-119)) 3 135 := ⟨by decide +kernel, rfl⟩
theorem eX0_fill_135 : Dc MX0_fill 135 (.return_) 1 136 := ⟨by decide +kernel, rfl⟩
theorem eX0_fits_0 : Dc MX0_fits 0 (.iload_n 2) 1 1 := ⟨by decide +kernel, rfl⟩
theorem eX0_fits_1 : Dc MX0_fits 1 (.ifCond .lt 29) 3 4 := ⟨by decide +kernel, rfl⟩
theorem eX0_fits_4 : Dc MX0_fits 4 (.iload_n 2) 1 5 := ⟨by decide +kernel, rfl⟩
theorem eX0_fits_5 : Dc MX0_fits 5 (.aload_n 0) 1 6 := ⟨by decide +kernel, rfl⟩
theorem eX0_fits_6 : Dc MX0_fits 6 (.getfield 9) 3 9 := ⟨by decide +kernel, rfl⟩
theorem eX0_fits_9 : Dc MX0_fits 9 (.arraylength) 1 10 := ⟨by decide +kernel, rfl⟩
theorem eX0_fits_10 : Dc MX0_fits 10 (.if_icmp .ge 20) 3 13 := ⟨by decide +kernel, rfl⟩
theorem eX0_fits_13 : Dc MX0_fits 13 (.aload_n 0) 1 14 := ⟨by decide +kernel, rfl⟩
theorem eX0_fits_14 : Dc MX0_fits 14 (.getfield 9) 3 17 := ⟨by decide +kernel, rfl⟩
theorem eX0_fits_17 : Dc MX0_fits 17 (.iload_n 2) 1 18 := ⟨by decide +kernel, rfl⟩
theorem eX0_fits_18 : Dc MX0_fits 18 (.iaload) 1 19 := ⟨by decide +kernel, rfl⟩
theorem eX0_fits_19 : Dc MX0_fits 19 (.iload_n 1) 1 20 := ⟨by decide +kernel, rfl⟩
theorem eX0_fits_20 : Dc MX0_fits 20 (.ishr) 1 21 := ⟨by decide +kernel, rfl⟩
theorem eX0_fits_21 : Dc MX0_fits 21 (.iconst 1) 1 22 := ⟨by decide +kernel, rfl⟩
theorem eX0_fits_22 : Dc MX0_fits 22 (.iand) 1 23 := ⟨by decide +kernel, rfl⟩
theorem eX0_fits_23 : Dc MX0_fits 23 (.ifCond .eq 7) 3 26 := ⟨by decide +kernel, rfl⟩
theorem eX0_fits_26 : Dc MX0_fits 26 (.iconst 1) 1 27 := ⟨by decide +kernel, rfl⟩
theorem eX0_fits_27 : Dc MX0_fits 27 (.goto 4) 3 30 := ⟨by decide +kernel, rfl⟩
theorem eX0_fits_30 : Dc MX0_fits 30 (.iconst 0) 1 31 := ⟨by decide +kernel, rfl⟩
theorem eX0_fits_31 : Dc MX0_fits 31 (.ireturn) 1 32 := ⟨by decide +kernel, rfl⟩
theorem eX0_canGrow_0 : Dc MX0_canGrow 0 (.iload_n 2) 1 1 := ⟨by decide +kernel, rfl⟩
theorem eX0_canGrow_1 : Dc MX0_canGrow 1 (.ifCond .lt 29) 3 4 := ⟨by decide +kernel, rfl⟩
theorem eX0_canGrow_4 : Dc MX0_canGrow 4 (.iload_n 2) 1 5 := ⟨by decide +kernel, rfl⟩
theorem eX0_canGrow_5 : Dc MX0_canGrow 5 (.aload_n 0) 1 6 := ⟨by decide +kernel, rfl⟩
theorem eX0_canGrow_6 : Dc MX0_canGrow 6 (.getfield 15) 3 9 := ⟨by decide +kernel, rfl⟩
theorem eX0_canGrow_9 : Dc MX0_canGrow 9 (.arraylength) 1 10 := ⟨by decide +kernel, rfl⟩
theorem eX0_canGrow_10 : Dc MX0_canGrow 10 (.if_icmp .ge 20) 3 13 := ⟨by decide +kernel, rfl⟩
theorem eX0_canGrow_13 : Dc MX0_canGrow 13 (.aload_n 0) 1 14 := ⟨by decide +kernel, rfl⟩
theorem eX0_canGrow_14 : Dc MX0_canGrow 14 (.getfield 15) 3 17 := ⟨by decide +kernel, rfl⟩
theorem eX0_canGrow_17 : Dc MX0_canGrow 17 (.iload_n 2) 1 18 := ⟨by decide +kernel, rfl⟩
theorem eX0_canGrow_18 : Dc MX0_canGrow 18 (.iaload) 1 19 := ⟨by decide +kernel, rfl⟩
theorem eX0_canGrow_19 : Dc MX0_canGrow 19 (.iload_n 1) 1 20 := ⟨by decide +kernel, rfl⟩
theorem eX0_canGrow_20 : Dc MX0_canGrow 20 (.ishr) 1 21 := ⟨by decide +kernel, rfl⟩
theorem eX0_canGrow_21 : Dc MX0_canGrow 21 (.iconst 1) 1 22 := ⟨by decide +kernel, rfl⟩
theorem eX0_canGrow_22 : Dc MX0_canGrow 22 (.iand) 1 23 := ⟨by decide +kernel, rfl⟩
theorem eX0_canGrow_23 : Dc MX0_canGrow 23 (.ifCond .eq 7) 3 26 := ⟨by decide +kernel, rfl⟩
theorem eX0_canGrow_26 : Dc MX0_canGrow 26 (.iconst 1) 1 27 := ⟨by decide +kernel, rfl⟩
theorem eX0_canGrow_27 : Dc MX0_canGrow 27 (.goto 4) 3 30 := ⟨by decide +kernel, rfl⟩
theorem eX0_canGrow_30 : Dc MX0_canGrow 30 (.iconst 0) 1 31 := ⟨by decide +kernel, rfl⟩
theorem eX0_canGrow_31 : Dc MX0_canGrow 31 (.ireturn) 1 32 := ⟨by decide +kernel, rfl⟩
end
section
-- decode rows of X1
theorem eX1_init_0 : Dc MX1_init 0 (.aload_n 0) 1 1 := ⟨by decide +kernel, rfl⟩
theorem eX1_init_1 : Dc MX1_init 1 (.invokespecial 3) 3 4 := ⟨by decide +kernel, rfl⟩
theorem eX1_init_4 : Dc MX1_init 4 (.aload_n 0) 1 5 := ⟨by decide +kernel, rfl⟩
theorem eX1_init_5 : Dc MX1_init 5 (.sipush 480) 3 8 := ⟨by decide +kernel, rfl⟩
theorem eX1_init_8 : Dc MX1_init 8 (.newarray .int) 2 10 := ⟨by decide +kernel, rfl⟩
theorem eX1_init_10 : Dc MX1_init 10 (.putfield 9) 3 13 := ⟨by decide +kernel, rfl⟩
theorem eX1_init_13 : Dc MX1_init 13 (.aload_n 0) 1 14 := ⟨by decide +kernel, rfl⟩
theorem eX1_init_14 : Dc MX1_init 14 (.sipush 480) 3 17 := ⟨by decide +kernel, rfl⟩
theorem eX1_init_17 : Dc MX1_init 17 (.newarray .int) 2 19 := ⟨by decide +kernel, rfl⟩
theorem eX1_init_19 : Dc MX1_init 19 (.putfield 15) 3 22 := ⟨by decide +kernel, rfl⟩
theorem eX1_init_22 : Dc MX1_init 22 (.return_) 1 23 := ⟨by decide +kernel, rfl⟩
theorem eX1_note_0 : Dc MX1_note 0 (.aload_n 0) 1 1 := ⟨by decide +kernel, rfl⟩
theorem eX1_note_1 : Dc MX1_note 1 (.getfield 18) 3 4 := ⟨by decide +kernel, rfl⟩
theorem eX1_note_4 : Dc MX1_note 4 (.iload_n 1) 1 5 := ⟨by decide +kernel, rfl⟩
theorem eX1_note_5 : Dc MX1_note 5 (.invokestatic 22) 3 8 := ⟨by decide +kernel, rfl⟩
theorem eX1_note_8 : Dc MX1_note 8 (.istore 4) 2 10 := ⟨by decide +kernel, rfl⟩
theorem eX1_note_10 : Dc MX1_note 10 (.iload 4) 2 12 := ⟨by decide +kernel, rfl⟩
theorem eX1_note_12 : Dc MX1_note 12 (.iconst (-1)) 1 13 := ⟨by decide +kernel, rfl⟩
theorem eX1_note_13 : Dc MX1_note 13 (.if_icmp .eq 19) 3 16 := ⟨by decide +kernel, rfl⟩
theorem eX1_note_16 : Dc MX1_note 16 (.aload_n 0) 1 17 := ⟨by decide +kernel, rfl⟩
theorem eX1_note_17 : Dc MX1_note 17 (.getfield 9) 3 20 := ⟨by decide +kernel, rfl⟩
theorem eX1_note_20 : Dc MX1_note 20 (.iload 4) 2 22 := ⟨by decide +kernel, rfl⟩
theorem eX1_note_22 : Dc MX1_note 22 (.iload_n 2) 1 23 := ⟨by decide +kernel, rfl⟩
theorem eX1_note_23 : Dc MX1_note 23 (.iastore) 1 24 := ⟨by decide +kernel, rfl⟩
theorem eX1_note_24 : Dc MX1_note 24 (.aload_n 0) 1 25 := ⟨by decide +kernel, rfl⟩
theorem eX1_note_25 : Dc MX1_note 25 (.getfield 15) 3 28 := ⟨by decide +kernel, rfl⟩
theorem eX1_note_28 : Dc MX1_note 28 (.iload 4) 2 30 := ⟨by decide +kernel, rfl⟩
theorem eX1_note_30 : Dc MX1_note 30 (.iload_n 3) 1 31 := ⟨by decide +kernel, rfl⟩
theorem eX1_note_31 : Dc MX1_note 31 (.iastore) 1 32 := ⟨by decide +kernel, rfl⟩
theorem eX1_note_32 : Dc MX1_note 32 (.return_) 1 33 := ⟨by decide +kernel, rfl⟩
theorem eX1_projectOf_0 : Dc MX1_projectOf 0 (.iload_n 1) 1 1 := ⟨by decide +kernel, rfl⟩
theorem eX1_projectOf_1 : Dc MX1_projectOf 1 (.iload_n 2) 1 2 := ⟨by decide +kernel, rfl⟩
theorem eX1_projectOf_2 : Dc MX1_projectOf 2 (.invokestatic 22) 3 5 := ⟨by decide +kernel, rfl⟩
theorem eX1_projectOf_5 : Dc MX1_projectOf 5 (.istore_n 3) 1 6 := ⟨by decide +kernel, rfl⟩
theorem eX1_projectOf_6 : Dc MX1_projectOf 6 (.iload_n 3) 1 7 := ⟨by decide +kernel, rfl⟩
theorem eX1_projectOf_7 : Dc MX1_projectOf 7 (.iconst (-1)) 1 8 := ⟨by decide +kernel, rfl⟩
theorem eX1_projectOf_8 : Dc MX1_projectOf 8 (.if_icmp .ne 7) 3 11 := ⟨by decide +kernel, rfl⟩
theorem eX1_projectOf_11 : Dc MX1_projectOf 11 (.iconst (-1)) 1 12 := ⟨by decide +kernel, rfl⟩
theorem eX1_projectOf_12 : Dc MX1_projectOf 12 (.goto 9) 3 15 := ⟨by decide +kernel, rfl⟩
theorem eX1_projectOf_15 : Dc MX1_projectOf 15 (.aload_n 0) 1 16 := ⟨by decide +kernel, rfl⟩
theorem eX1_projectOf_16 : Dc MX1_projectOf 16 (.getfield 9) 3 19 := ⟨by decide +kernel, rfl⟩
theorem eX1_projectOf_19 : Dc MX1_projectOf 19 (.iload_n 3) 1 20 := ⟨by decide +kernel, rfl⟩
theorem eX1_projectOf_20 : Dc MX1_projectOf 20 (.iaload) 1 21 := ⟨by decide +kernel, rfl⟩
theorem eX1_projectOf_21 : Dc MX1_projectOf 21 (.ireturn) 1 22 := ⟨by decide +kernel, rfl⟩
theorem eX1_rankOf_0 : Dc MX1_rankOf 0 (.iload_n 1) 1 1 := ⟨by decide +kernel, rfl⟩
theorem eX1_rankOf_1 : Dc MX1_rankOf 1 (.iload_n 2) 1 2 := ⟨by decide +kernel, rfl⟩
theorem eX1_rankOf_2 : Dc MX1_rankOf 2 (.invokestatic 22) 3 5 := ⟨by decide +kernel, rfl⟩
theorem eX1_rankOf_5 : Dc MX1_rankOf 5 (.istore_n 3) 1 6 := ⟨by decide +kernel, rfl⟩
theorem eX1_rankOf_6 : Dc MX1_rankOf 6 (.iload_n 3) 1 7 := ⟨by decide +kernel, rfl⟩
theorem eX1_rankOf_7 : Dc MX1_rankOf 7 (.iconst (-1)) 1 8 := ⟨by decide +kernel, rfl⟩
theorem eX1_rankOf_8 : Dc MX1_rankOf 8 (.if_icmp .ne 7) 3 11 := ⟨by decide +kernel, rfl⟩
theorem eX1_rankOf_11 : Dc MX1_rankOf 11 (.iconst 0) 1 12 := ⟨by decide +kernel, rfl⟩
theorem eX1_rankOf_12 : Dc MX1_rankOf 12 (.goto 9) 3 15 := ⟨by decide +kernel, rfl⟩
theorem eX1_rankOf_15 : Dc MX1_rankOf 15 (.aload_n 0) 1 16 := ⟨by decide +kernel, rfl⟩
theorem eX1_rankOf_16 : Dc MX1_rankOf 16 (.getfield 15) 3 19 := ⟨by decide +kernel, rfl⟩
theorem eX1_rankOf_19 : Dc MX1_rankOf 19 (.iload_n 3) 1 20 := ⟨by decide +kernel, rfl⟩
theorem eX1_rankOf_20 : Dc MX1_rankOf 20 (.iaload) 1 21 := ⟨by decide +kernel, rfl⟩
theorem eX1_rankOf_21 : Dc MX1_rankOf 21 (.ireturn) 1 22 := ⟨by decide +kernel, rfl⟩
theorem eX1_cellOf_0 : Dc MX1_cellOf 0 (.iload_n 0) 1 1 := ⟨by decide +kernel, rfl⟩
theorem eX1_cellOf_1 : Dc MX1_cellOf 1 (.ifCond .lt 23) 3 4 := ⟨by decide +kernel, rfl⟩
theorem eX1_cellOf_4 : Dc MX1_cellOf 4 (.iload_n 0) 1 5 := ⟨by decide +kernel, rfl⟩
theorem eX1_cellOf_5 : Dc MX1_cellOf 5 (.bipush 60) 2 7 := ⟨by decide +kernel, rfl⟩
theorem eX1_cellOf_7 : Dc MX1_cellOf 7 (.if_icmp .ge 17) 3 10 := ⟨by decide +kernel, rfl⟩
theorem eX1_cellOf_10 : Dc MX1_cellOf 10 (.iload_n 1) 1 11 := ⟨by decide +kernel, rfl⟩
theorem eX1_cellOf_11 : Dc MX1_cellOf 11 (.ifCond .lt 13) 3 14 := ⟨by decide +kernel, rfl⟩
theorem eX1_cellOf_14 : Dc MX1_cellOf 14 (.iload_n 1) 1 15 := ⟨by decide +kernel, rfl⟩
theorem eX1_cellOf_15 : Dc MX1_cellOf 15 (.bipush 8) 2 17 := ⟨by decide +kernel, rfl⟩
theorem eX1_cellOf_17 : Dc MX1_cellOf 17 (.if_icmp .ge 7) 3 20 := ⟨by decide +kernel, rfl⟩
theorem eX1_cellOf_20 : Dc MX1_cellOf 20 (.iconst 1) 1 21 := ⟨by decide +kernel, rfl⟩
theorem eX1_cellOf_21 : Dc MX1_cellOf 21 (.goto 4) 3 24 := ⟨by decide +kernel, rfl⟩
theorem eX1_cellOf_24 : Dc MX1_cellOf 24 (.iconst 0) 1 25 := ⟨by decide +kernel, rfl⟩
theorem eX1_cellOf_25 : Dc MX1_cellOf 25 (.istore_n 2) 1 26 := ⟨by decide +kernel, rfl⟩
theorem eX1_cellOf_26 : Dc MX1_cellOf 26 (.iload_n 2) 1 27 := ⟨by decide +kernel, rfl⟩
theorem eX1_cellOf_27 : Dc MX1_cellOf 27 (.ifCond .eq 12) 3 30 := ⟨by decide +kernel, rfl⟩
theorem eX1_cellOf_30 : Dc MX1_cellOf 30 (.iload_n 0) 1 31 := ⟨by decide +kernel, rfl⟩
theorem eX1_cellOf_31 : Dc MX1_cellOf 31 (.bipush 8) 2 33 := ⟨by decide +kernel, rfl⟩
theorem eX1_cellOf_33 : Dc MX1_cellOf 33 (.imul) 1 34 := ⟨by decide +kernel, rfl⟩
theorem eX1_cellOf_34 : Dc MX1_cellOf 34 (.iload_n 1) 1 35 := ⟨by decide +kernel, rfl⟩
theorem eX1_cellOf_35 : Dc MX1_cellOf 35 (.iadd) 1 36 := ⟨by decide +kernel, rfl⟩
theorem eX1_cellOf_36 : Dc MX1_cellOf 36 (.goto 4) 3 39 := ⟨by decide +kernel, rfl⟩
theorem eX1_cellOf_39 : Dc MX1_cellOf 39 (.iconst (-1)) 1 40 := ⟨by decide +kernel, rfl⟩
theorem eX1_cellOf_40 : Dc MX1_cellOf 40 (.ireturn) 1 41 := ⟨by decide +kernel, rfl⟩
end
section
-- decode rows of X2
theorem eX2_init_0 : Dc MX2_init 0 (.aload_n 0) 1 1 := ⟨by decide +kernel, rfl⟩
theorem eX2_init_1 : Dc MX2_init 1 (.invokespecial 3) 3 4 := ⟨by decide +kernel, rfl⟩
theorem eX2_init_4 : Dc MX2_init 4 (.aload_n 0) 1 5 := ⟨by decide +kernel, rfl⟩
theorem eX2_init_5 : Dc MX2_init 5 (.iconst 1) 1 6 := ⟨by decide +kernel, rfl⟩
theorem eX2_init_6 : Dc MX2_init 6 (.putfield 9) 3 9 := ⟨by decide +kernel, rfl⟩
theorem eX2_init_9 : Dc MX2_init 9 (.return_) 1 10 := ⟨by decide +kernel, rfl⟩
theorem eX2_takes_0 : Dc MX2_takes 0 (.aload_n 0) 1 1 := ⟨by decide +kernel, rfl⟩
theorem eX2_takes_1 : Dc MX2_takes 1 (.iload_n 1) 1 2 := ⟨by decide +kernel, rfl⟩
theorem eX2_takes_2 : Dc MX2_takes 2 (.invokevirtual 15) 3 5 := ⟨by decide +kernel, rfl⟩
theorem eX2_takes_5 : Dc MX2_takes 5 (.ifCond .eq 5) 3 8 := ⟨by decide +kernel, rfl⟩
theorem eX2_takes_8 : Dc MX2_takes 8 (.iconst 1) 1 9 := ⟨by decide +kernel, rfl⟩
theorem eX2_takes_9 : Dc MX2_takes 9 (.ireturn) 1 10 := ⟨by decide +kernel, rfl⟩
theorem eX2_takes_10 : Dc MX2_takes 10 (.iload_n 1) 1 11 := ⟨by decide +kernel, rfl⟩
theorem eX2_takes_11 : Dc MX2_takes 11 (.aload_n 0) 1 12 := ⟨by decide +kernel, rfl⟩
theorem eX2_takes_12 : Dc MX2_takes 12 (.getfield 19) 3 15 := ⟨by decide +kernel, rfl⟩
theorem eX2_takes_15 : Dc MX2_takes 15 (.if_icmp .lt 29) 3 18 := ⟨by decide +kernel, rfl⟩
theorem eX2_takes_18 : Dc MX2_takes 18 (.iload_n 1) 1 19 := ⟨by decide +kernel, rfl⟩
theorem eX2_takes_19 : Dc MX2_takes 19 (.aload_n 0) 1 20 := ⟨by decide +kernel, rfl⟩
theorem eX2_takes_20 : Dc MX2_takes 20 (.getfield 23) 3 23 := ⟨by decide +kernel, rfl⟩
theorem eX2_takes_23 : Dc MX2_takes 23 (.if_icmp .gt 21) 3 26 := ⟨by decide +kernel, rfl⟩
theorem eX2_takes_26 : Dc MX2_takes 26 (.aload_n 0) 1 27 := ⟨by decide +kernel, rfl⟩
theorem eX2_takes_27 : Dc MX2_takes 27 (.getfield 26) 3 30 := ⟨by decide +kernel, rfl⟩
theorem eX2_takes_30 : Dc MX2_takes 30 (.iconst 1) 1 31 := ⟨by decide +kernel, rfl⟩
theorem eX2_takes_31 : Dc MX2_takes 31 (.if_icmp .ne 9) 3 34 := ⟨by decide +kernel, rfl⟩
theorem eX2_takes_34 : Dc MX2_takes 34 (.iload_n 1) 1 35 := ⟨by decide +kernel, rfl⟩
theorem eX2_takes_35 : Dc MX2_takes 35 (.iconst 2) 1 36 := ⟨by decide +kernel, rfl⟩
theorem eX2_takes_36 : Dc MX2_takes 36 (.irem) 1 37 := ⟨by decide +kernel, rfl⟩
theorem eX2_takes_37 : Dc MX2_takes 37 (.ifCond .ne 7) 3 40 := ⟨by decide +kernel, rfl⟩
theorem eX2_takes_40 : Dc MX2_takes 40 (.iconst 1) 1 41 := ⟨by decide +kernel, rfl⟩
theorem eX2_takes_41 : Dc MX2_takes 41 (.goto 4) 3 44 := ⟨by decide +kernel, rfl⟩
theorem eX2_takes_44 : Dc MX2_takes 44 (.iconst 0) 1 45 := ⟨by decide +kernel, rfl⟩
theorem eX2_takes_45 : Dc MX2_takes 45 (.ireturn) 1 46 := ⟨by decide +kernel, rfl⟩
theorem eX2_runsTwice_0 : Dc MX2_runsTwice 0 (.aload_n 0) 1 1 := ⟨by decide +kernel, rfl⟩
theorem eX2_runsTwice_1 : Dc MX2_runsTwice 1 (.getfield 26) 3 4 := ⟨by decide +kernel, rfl⟩
theorem eX2_runsTwice_4 : Dc MX2_runsTwice 4 (.iconst 2) 1 5 := ⟨by decide +kernel, rfl⟩
theorem eX2_runsTwice_5 : Dc MX2_runsTwice 5 (.if_icmp .ne 35) 3 8 := ⟨by decide +kernel, rfl⟩
theorem eX2_runsTwice_8 : Dc MX2_runsTwice 8 (.iload_n 1) 1 9 := ⟨by decide +kernel, rfl⟩
theorem eX2_runsTwice_9 : Dc MX2_runsTwice 9 (.aload_n 0) 1 10 := ⟨by decide +kernel, rfl⟩
theorem eX2_runsTwice_10 : Dc MX2_runsTwice 10 (.getfield 23) 3 13 := ⟨by decide +kernel, rfl⟩
theorem eX2_runsTwice_13 : Dc MX2_runsTwice 13 (.if_icmp .le 27) 3 16 := ⟨by decide +kernel, rfl⟩
theorem eX2_runsTwice_16 : Dc MX2_runsTwice 16 (.iload_n 1) 1 17 := ⟨by decide +kernel, rfl⟩
theorem eX2_runsTwice_17 : Dc MX2_runsTwice 17 (.iconst 2) 1 18 := ⟨by decide +kernel, rfl⟩
theorem eX2_runsTwice_18 : Dc MX2_runsTwice 18 (.aload_n 0) 1 19 := ⟨by decide +kernel, rfl⟩
theorem eX2_runsTwice_19 : Dc MX2_runsTwice 19 (.getfield 19) 3 22 := ⟨by decide +kernel, rfl⟩
theorem eX2_runsTwice_22 : Dc MX2_runsTwice 22 (.imul) 1 23 := ⟨by decide +kernel, rfl⟩
theorem eX2_runsTwice_23 : Dc MX2_runsTwice 23 (.if_icmp .lt 17) 3 26 := ⟨by decide +kernel, rfl⟩
theorem eX2_runsTwice_26 : Dc MX2_runsTwice 26 (.iload_n 1) 1 27 := ⟨by decide +kernel, rfl⟩
theorem eX2_runsTwice_27 : Dc MX2_runsTwice 27 (.iconst 2) 1 28 := ⟨by decide +kernel, rfl⟩
theorem eX2_runsTwice_28 : Dc MX2_runsTwice 28 (.aload_n 0) 1 29 := ⟨by decide +kernel, rfl⟩
theorem eX2_runsTwice_29 : Dc MX2_runsTwice 29 (.getfield 23) 3 32 := ⟨by decide +kernel, rfl⟩
theorem eX2_runsTwice_32 : Dc MX2_runsTwice 32 (.imul) 1 33 := ⟨by decide +kernel, rfl⟩
theorem eX2_runsTwice_33 : Dc MX2_runsTwice 33 (.if_icmp .gt 7) 3 36 := ⟨by decide +kernel, rfl⟩
theorem eX2_runsTwice_36 : Dc MX2_runsTwice 36 (.iconst 1) 1 37 := ⟨by decide +kernel, rfl⟩
theorem eX2_runsTwice_37 : Dc MX2_runsTwice 37 (.goto 4) 3 40 := ⟨by decide +kernel, rfl⟩
theorem eX2_runsTwice_40 : Dc MX2_runsTwice 40 (.iconst 0) 1 41 := ⟨by decide +kernel, rfl⟩
theorem eX2_runsTwice_41 : Dc MX2_runsTwice 41 (.ireturn) 1 42 := ⟨by decide +kernel, rfl⟩
theorem eX2_lacksLeader_0 : Dc MX2_lacksLeader 0 (.aload_n 0) 1 1 := ⟨by decide +kernel, rfl⟩
theorem eX2_lacksLeader_1 : Dc MX2_lacksLeader 1 (.getfield 26) 3 4 := ⟨by decide +kernel, rfl⟩
theorem eX2_lacksLeader_4 : Dc MX2_lacksLeader 4 (.iconst 3) 1 5 := ⟨by decide +kernel, rfl⟩
theorem eX2_lacksLeader_5 : Dc MX2_lacksLeader 5 (.if_icmp .ne 18) 3 8 := ⟨by decide +kernel, rfl⟩
theorem eX2_lacksLeader_8 : Dc MX2_lacksLeader 8 (.iload_n 1) 1 9 := ⟨by decide +kernel, rfl⟩
theorem eX2_lacksLeader_9 : Dc MX2_lacksLeader 9 (.aload_n 0) 1 10 := ⟨by decide +kernel, rfl⟩
theorem eX2_lacksLeader_10 : Dc MX2_lacksLeader 10 (.getfield 29) 3 13 := ⟨by decide +kernel, rfl⟩
theorem eX2_lacksLeader_13 : Dc MX2_lacksLeader 13 (.ishr) 1 14 := ⟨by decide +kernel, rfl⟩
theorem eX2_lacksLeader_14 : Dc MX2_lacksLeader 14 (.iconst 1) 1 15 := ⟨by decide +kernel, rfl⟩
theorem eX2_lacksLeader_15 : Dc MX2_lacksLeader 15 (.iand) 1 16 := ⟨by decide +kernel, rfl⟩
theorem eX2_lacksLeader_16 : Dc MX2_lacksLeader 16 (.ifCond .ne 7) 3 19 := ⟨by decide +kernel, rfl⟩
theorem eX2_lacksLeader_19 : Dc MX2_lacksLeader 19 (.iconst 1) 1 20 := ⟨by decide +kernel, rfl⟩
theorem eX2_lacksLeader_20 : Dc MX2_lacksLeader 20 (.goto 4) 3 23 := ⟨by decide +kernel, rfl⟩
theorem eX2_lacksLeader_23 : Dc MX2_lacksLeader 23 (.iconst 0) 1 24 := ⟨by decide +kernel, rfl⟩
theorem eX2_lacksLeader_24 : Dc MX2_lacksLeader 24 (.ireturn) 1 25 := ⟨by decide +kernel, rfl⟩
end
section
-- decode rows of X3
theorem eX3_init_0 : Dc MX3_init 0 (.aload_n 0) 1 1 := ⟨by decide +kernel, rfl⟩
theorem eX3_init_1 : Dc MX3_init 1 (.invokespecial 3) 3 4 := ⟨by decide +kernel, rfl⟩
theorem eX3_init_4 : Dc MX3_init 4 (.aload_n 0) 1 5 := ⟨by decide +kernel, rfl⟩
theorem eX3_init_5 : Dc MX3_init 5 (.iconst 5) 1 6 := ⟨by decide +kernel, rfl⟩
theorem eX3_init_6 : Dc MX3_init 6 (.newarray .int) 2 8 := ⟨by decide +kernel, rfl⟩
theorem eX3_init_8 : Dc MX3_init 8 (.putfield 9) 3 11 := ⟨by decide +kernel, rfl⟩
theorem eX3_init_11 : Dc MX3_init 11 (.aload_n 0) 1 12 := ⟨by decide +kernel, rfl⟩
theorem eX3_init_12 : Dc MX3_init 12 (.iconst 1) 1 13 := ⟨by decide +kernel, rfl⟩
theorem eX3_init_13 : Dc MX3_init 13 (.putfield 15) 3 16 := ⟨by decide +kernel, rfl⟩
theorem eX3_init_16 : Dc MX3_init 16 (.iconst 0) 1 17 := ⟨by decide +kernel, rfl⟩
theorem eX3_init_17 : Dc MX3_init 17 (.istore_n 1) 1 18 := ⟨by decide +kernel, rfl⟩
theorem eX3_init_18 : Dc MX3_init 18 (.iload_n 1) 1 19 := ⟨by decide +kernel, rfl⟩
theorem eX3_init_19 : Dc MX3_init 19 (.aload_n 0) 1 20 := ⟨by decide +kernel, rfl⟩
theorem eX3_init_20 : Dc MX3_init 20 (.getfield 9) 3 23 := ⟨by decide +kernel, rfl⟩
theorem eX3_init_23 : Dc MX3_init 23 (.arraylength) 1 24 := ⟨by decide +kernel, rfl⟩
theorem eX3_init_24 : Dc MX3_init 24 (.if_icmp .ge 17) 3 27 := ⟨by decide +kernel, rfl⟩
theorem eX3_init_27 : Dc MX3_init 27 (.aload_n 0) 1 28 := ⟨by decide +kernel, rfl⟩
theorem eX3_init_28 : Dc MX3_init 28 (.getfield 9) 3 31 := ⟨by decide +kernel, rfl⟩
theorem eX3_init_31 : Dc MX3_init 31 (.iload_n 1) 1 32 := ⟨by decide +kernel, rfl⟩
theorem eX3_init_32 : Dc MX3_init 32 (.bipush 6) 2 34 := ⟨by decide +kernel, rfl⟩
theorem eX3_init_34 : Dc MX3_init 34 (.iastore) 1 35 := ⟨by decide +kernel, rfl⟩
theorem eX3_init_35 : Dc MX3_init 35 (.iinc 1 1) 3 38 := ⟨by decide +kernel, rfl⟩
theorem eX3_init_38 : Dc MX3_init 38 (.goto (-20)) 3 41 := ⟨by decide +kernel, rfl⟩
theorem eX3_init_41 : Dc MX3_init 41 (.return_) 1 42 := ⟨by decide +kernel, rfl⟩
theorem eX3_addWish_0 : Dc MX3_addWish 0 (.iload_n 1) 1 1 := ⟨by decide +kernel, rfl⟩
theorem eX3_addWish_1 : Dc MX3_addWish 1 (.ifCond .lt 23) 3 4 := ⟨by decide +kernel, rfl⟩
theorem eX3_addWish_4 : Dc MX3_addWish 4 (.iload_n 1) 1 5 := ⟨by decide +kernel, rfl⟩
theorem eX3_addWish_5 : Dc MX3_addWish 5 (.aload_n 0) 1 6 := ⟨by decide +kernel, rfl⟩
theorem eX3_addWish_6 : Dc MX3_addWish 6 (.getfield 9) 3 9 := ⟨by decide +kernel, rfl⟩
theorem eX3_addWish_9 : Dc MX3_addWish 9 (.arraylength) 1 10 := ⟨by decide +kernel, rfl⟩
theorem eX3_addWish_10 : Dc MX3_addWish 10 (.if_icmp .ge 14) 3 13 := ⟨by decide +kernel, rfl⟩
theorem eX3_addWish_13 : Dc MX3_addWish 13 (.aload_n 0) 1 14 := ⟨by decide +kernel, rfl⟩
theorem eX3_addWish_14 : Dc MX3_addWish 14 (.getfield 9) 3 17 := ⟨by decide +kernel, rfl⟩
theorem eX3_addWish_17 : Dc MX3_addWish 17 (.iload_n 1) 1 18 := ⟨by decide +kernel, rfl⟩
theorem eX3_addWish_18 : Dc MX3_addWish 18 (.iaload) 1 19 := ⟨by decide +kernel, rfl⟩
theorem eX3_addWish_19 : Dc MX3_addWish 19 (.bipush 6) 2 21 := ⟨by decide +kernel, rfl⟩
theorem eX3_addWish_21 : Dc MX3_addWish 21 (.if_icmp .eq 5) 3 24 := ⟨by decide +kernel, rfl⟩
theorem eX3_addWish_24 : Dc MX3_addWish 24 (.iconst 0) 1 25 := ⟨by decide +kernel, rfl⟩
theorem eX3_addWish_25 : Dc MX3_addWish 25 (.ireturn) 1 26 := ⟨by decide +kernel, rfl⟩
theorem eX3_addWish_26 : Dc MX3_addWish 26 (.aload_n 0) 1 27 := ⟨by decide +kernel, rfl⟩
theorem eX3_addWish_27 : Dc MX3_addWish 27 (.dup) 1 28 := ⟨by decide +kernel, rfl⟩
theorem eX3_addWish_28 : Dc MX3_addWish 28 (.getfield 19) 3 31 := ⟨by decide +kernel, rfl⟩
theorem eX3_addWish_31 : Dc MX3_addWish 31 (.iconst 1) 1 32 := ⟨by decide +kernel, rfl⟩
theorem eX3_addWish_32 : Dc MX3_addWish 32 (.iadd) 1 33 := ⟨by decide +kernel, rfl⟩
theorem eX3_addWish_33 : Dc MX3_addWish 33 (.putfield 19) 3 36 := ⟨by decide +kernel, rfl⟩
theorem eX3_addWish_36 : Dc MX3_addWish 36 (.aload_n 0) 1 37 := ⟨by decide +kernel, rfl⟩
theorem eX3_addWish_37 : Dc MX3_addWish 37 (.getfield 9) 3 40 := ⟨by decide +kernel, rfl⟩
theorem eX3_addWish_40 : Dc MX3_addWish 40 (.iload_n 1) 1 41 := ⟨by decide +kernel, rfl⟩
theorem eX3_addWish_41 : Dc MX3_addWish 41 (.aload_n 0) 1 42 := ⟨by decide +kernel, rfl⟩
theorem eX3_addWish_42 : Dc MX3_addWish 42 (.getfield 19) 3 45 := ⟨by decide +kernel, rfl⟩
theorem eX3_addWish_45 : Dc MX3_addWish 45 (.iastore) 1 46 := ⟨by decide +kernel, rfl⟩
theorem eX3_addWish_46 : Dc MX3_addWish 46 (.iconst 1) 1 47 := ⟨by decide +kernel, rfl⟩
theorem eX3_addWish_47 : Dc MX3_addWish 47 (.ireturn) 1 48 := ⟨by decide +kernel, rfl⟩
theorem eX3_clearWishes_0 : Dc MX3_clearWishes 0 (.aload_n 0) 1 1 := ⟨by decide +kernel, rfl⟩
theorem eX3_clearWishes_1 : Dc MX3_clearWishes 1 (.iconst 0) 1 2 := ⟨by decide +kernel, rfl⟩
theorem eX3_clearWishes_2 : Dc MX3_clearWishes 2 (.putfield 19) 3 5 := ⟨by decide +kernel, rfl⟩
theorem eX3_clearWishes_5 : Dc MX3_clearWishes 5 (.iconst 0) 1 6 := ⟨by decide +kernel, rfl⟩
theorem eX3_clearWishes_6 : Dc MX3_clearWishes 6 (.istore_n 1) 1 7 := ⟨by decide +kernel, rfl⟩
theorem eX3_clearWishes_7 : Dc MX3_clearWishes 7 (.iload_n 1) 1 8 := ⟨by decide +kernel, rfl⟩
theorem eX3_clearWishes_8 : Dc MX3_clearWishes 8 (.aload_n 0) 1 9 := ⟨by decide +kernel, rfl⟩
theorem eX3_clearWishes_9 : Dc MX3_clearWishes 9 (.getfield 9) 3 12 := ⟨by decide +kernel, rfl⟩
theorem eX3_clearWishes_12 : Dc MX3_clearWishes 12 (.arraylength) 1 13 := ⟨by decide +kernel, rfl⟩
theorem eX3_clearWishes_13 : Dc MX3_clearWishes 13 (.if_icmp .ge 17) 3 16 := ⟨by decide +kernel, rfl⟩
theorem eX3_clearWishes_16 : Dc MX3_clearWishes 16 (.aload_n 0) 1 17 := ⟨by decide +kernel, rfl⟩
theorem eX3_clearWishes_17 : Dc MX3_clearWishes 17 (.getfield 9) 3 20 := ⟨by decide +kernel, rfl⟩
theorem eX3_clearWishes_20 : Dc MX3_clearWishes 20 (.iload_n 1) 1 21 := ⟨by decide +kernel, rfl⟩
theorem eX3_clearWishes_21 : Dc MX3_clearWishes 21 (.bipush 6) 2 23 := ⟨by decide +kernel, rfl⟩
theorem eX3_clearWishes_23 : Dc MX3_clearWishes 23 (.iastore) 1 24 := ⟨by decide +kernel, rfl⟩
theorem eX3_clearWishes_24 : Dc MX3_clearWishes 24 (.iinc 1 1) 3 27 := ⟨by decide +kernel, rfl⟩
theorem eX3_clearWishes_27 : Dc MX3_clearWishes 27 (.goto (-20)) 3 30 := ⟨by decide +kernel, rfl⟩
theorem eX3_clearWishes_30 : Dc MX3_clearWishes 30 (.return_) 1 31 := ⟨by decide +kernel, rfl⟩
theorem eX3_rankIn_0 : Dc MX3_rankIn 0 (.iload_n 1) 1 1 := ⟨by decide +kernel, rfl⟩
theorem eX3_rankIn_1 : Dc MX3_rankIn 1 (.ifCond .lt 12) 3 4 := ⟨by decide +kernel, rfl⟩
theorem eX3_rankIn_4 : Dc MX3_rankIn 4 (.iload_n 1) 1 5 := ⟨by decide +kernel, rfl⟩
theorem eX3_rankIn_5 : Dc MX3_rankIn 5 (.aload_n 0) 1 6 := ⟨by decide +kernel, rfl⟩
theorem eX3_rankIn_6 : Dc MX3_rankIn 6 (.getfield 9) 3 9 := ⟨by decide +kernel, rfl⟩
theorem eX3_rankIn_9 : Dc MX3_rankIn 9 (.arraylength) 1 10 := ⟨by decide +kernel, rfl⟩
theorem eX3_rankIn_10 : Dc MX3_rankIn 10 (.if_icmp .lt 8) 3 13 := ⟨by decide +kernel, rfl⟩
theorem eX3_rankIn_13 : Dc MX3_rankIn 13 (.bipush 6) 2 15 := ⟨by decide +kernel, rfl⟩
theorem eX3_rankIn_15 : Dc MX3_rankIn 15 (.goto 9) 3 18 := ⟨by decide +kernel, rfl⟩
theorem eX3_rankIn_18 : Dc MX3_rankIn 18 (.aload_n 0) 1 19 := ⟨by decide +kernel, rfl⟩
theorem eX3_rankIn_19 : Dc MX3_rankIn 19 (.getfield 9) 3 22 := ⟨by decide +kernel, rfl⟩
theorem eX3_rankIn_22 : Dc MX3_rankIn 22 (.iload_n 1) 1 23 := ⟨by decide +kernel, rfl⟩
theorem eX3_rankIn_23 : Dc MX3_rankIn 23 (.iaload) 1 24 := ⟨by decide +kernel, rfl⟩
theorem eX3_rankIn_24 : Dc MX3_rankIn 24 (.ireturn) 1 25 := ⟨by decide +kernel, rfl⟩
end
section
-- decode rows of X4
theorem eX4_init_0 : Dc MX4_init 0 (.aload_n 0) 1 1 := ⟨by decide +kernel, rfl⟩
theorem eX4_init_1 : Dc MX4_init 1 (.invokespecial 3) 3 4 := ⟨by decide +kernel, rfl⟩
theorem eX4_init_4 : Dc MX4_init 4 (.aload_n 0) 1 5 := ⟨by decide +kernel, rfl⟩
theorem eX4_init_5 : Dc MX4_init 5 (.bipush 8) 2 7 := ⟨by decide +kernel, rfl⟩
theorem eX4_init_7 : Dc MX4_init 7 (.anewarray 9) 3 10 := ⟨by decide +kernel, rfl⟩
theorem eX4_init_10 : Dc MX4_init 10 (.putfield 11) 3 13 := ⟨by decide +kernel, rfl⟩
theorem eX4_init_13 : Dc MX4_init 13 (.aload_n 0) 1 14 := ⟨by decide +kernel, rfl⟩
theorem eX4_init_14 : Dc MX4_init 14 (.iconst 5) 1 15 := ⟨by decide +kernel, rfl⟩
theorem eX4_init_15 : Dc MX4_init 15 (.anewarray 17) 3 18 := ⟨by decide +kernel, rfl⟩
theorem eX4_init_18 : Dc MX4_init 18 (.putfield 19) 3 21 := ⟨by decide +kernel, rfl⟩
theorem eX4_init_21 : Dc MX4_init 21 (.aload_n 0) 1 22 := ⟨by decide +kernel, rfl⟩
theorem eX4_init_22 : Dc MX4_init 22 (.bipush 8) 2 24 := ⟨by decide +kernel, rfl⟩
theorem eX4_init_24 : Dc MX4_init 24 (.newarray .int) 2 26 := ⟨by decide +kernel, rfl⟩
theorem eX4_init_26 : Dc MX4_init 26 (.putfield 23) 3 29 := ⟨by decide +kernel, rfl⟩
theorem eX4_init_29 : Dc MX4_init 29 (.iconst 0) 1 30 := ⟨by decide +kernel, rfl⟩
theorem eX4_init_30 : Dc MX4_init 30 (.istore_n 1) 1 31 := ⟨by decide +kernel, rfl⟩
theorem eX4_init_31 : Dc MX4_init 31 (.iload_n 1) 1 32 := ⟨by decide +kernel, rfl⟩
theorem eX4_init_32 : Dc MX4_init 32 (.aload_n 0) 1 33 := ⟨by decide +kernel, rfl⟩
theorem eX4_init_33 : Dc MX4_init 33 (.getfield 11) 3 36 := ⟨by decide +kernel, rfl⟩
theorem eX4_init_36 : Dc MX4_init 36 (.arraylength) 1 37 := ⟨by decide +kernel, rfl⟩
theorem eX4_init_37 : Dc MX4_init 37 (.if_icmp .ge 22) 3 40 := ⟨by decide +kernel, rfl⟩
theorem eX4_init_40 : Dc MX4_init 40 (.aload_n 0) 1 41 := ⟨by decide +kernel, rfl⟩
theorem eX4_init_41 : Dc MX4_init 41 (.getfield 11) 3 44 := ⟨by decide +kernel, rfl⟩
theorem eX4_init_44 : Dc MX4_init 44 (.iload_n 1) 1 45 := ⟨by decide +kernel, rfl⟩
theorem eX4_init_45 : Dc MX4_init 45 (.new 9) 3 48 := ⟨by decide +kernel, rfl⟩
theorem eX4_init_48 : Dc MX4_init 48 (.dup) 1 49 := ⟨by decide +kernel, rfl⟩
theorem eX4_init_49 : Dc MX4_init 49 (.invokespecial 27) 3 52 := ⟨by decide +kernel, rfl⟩
theorem eX4_init_52 : Dc MX4_init 52 (.aastore) 1 53 := ⟨by decide +kernel, rfl⟩
theorem eX4_init_53 : Dc MX4_init 53 (.iinc 1 1) 3 56 := ⟨by decide +kernel, rfl⟩
theorem eX4_init_56 : Dc MX4_init 56 (.goto (-25)) 3 59 := ⟨by decide +kernel, rfl⟩
theorem eX4_init_59 : Dc MX4_init 59 (.iconst 0) 1 60 := ⟨by decide +kernel, rfl⟩
theorem eX4_init_60 : Dc MX4_init 60 (.istore_n 1) 1 61 := ⟨by decide +kernel, rfl⟩
theorem eX4_init_61 : Dc MX4_init 61 (.iload_n 1) 1 62 := ⟨by decide +kernel, rfl⟩
theorem eX4_init_62 : Dc MX4_init 62 (.aload_n 0) 1 63 := ⟨by decide +kernel, rfl⟩
theorem eX4_init_63 : Dc MX4_init 63 (.getfield 19) 3 66 := ⟨by decide +kernel, rfl⟩
theorem eX4_init_66 : Dc MX4_init 66 (.arraylength) 1 67 := ⟨by decide +kernel, rfl⟩
theorem eX4_init_67 : Dc MX4_init 67 (.if_icmp .ge 22) 3 70 := ⟨by decide +kernel, rfl⟩
theorem eX4_init_70 : Dc MX4_init 70 (.aload_n 0) 1 71 := ⟨by decide +kernel, rfl⟩
theorem eX4_init_71 : Dc MX4_init 71 (.getfield 19) 3 74 := ⟨by decide +kernel, rfl⟩
theorem eX4_init_74 : Dc MX4_init 74 (.iload_n 1) 1 75 := ⟨by decide +kernel, rfl⟩
theorem eX4_init_75 : Dc MX4_init 75 (.new 17) 3 78 := ⟨by decide +kernel, rfl⟩
theorem eX4_init_78 : Dc MX4_init 78 (.dup) 1 79 := ⟨by decide +kernel, rfl⟩
theorem eX4_init_79 : Dc MX4_init 79 (.invokespecial 28) 3 82 := ⟨by decide +kernel, rfl⟩
theorem eX4_init_82 : Dc MX4_init 82 (.aastore) 1 83 := ⟨by decide +kernel, rfl⟩
theorem eX4_init_83 : Dc MX4_init 83 (.iinc 1 1) 3 86 := ⟨by decide +kernel, rfl⟩
theorem eX4_init_86 : Dc MX4_init 86 (.goto (-25)) 3 89 := ⟨by decide +kernel, rfl⟩
theorem eX4_init_89 : Dc MX4_init 89 (.return_) 1 90 := ⟨by decide +kernel, rfl⟩
theorem eX4_addPupil_0 : Dc MX4_addPupil 0 (.aload_n 0) 1 1 := ⟨by decide +kernel, rfl⟩
theorem eX4_addPupil_1 : Dc MX4_addPupil 1 (.getfield 29) 3 4 := ⟨by decide +kernel, rfl⟩
theorem eX4_addPupil_4 : Dc MX4_addPupil 4 (.bipush 8) 2 6 := ⟨by decide +kernel, rfl⟩
theorem eX4_addPupil_6 : Dc MX4_addPupil 6 (.if_icmp .lt 5) 3 9 := ⟨by decide +kernel, rfl⟩
theorem eX4_addPupil_9 : Dc MX4_addPupil 9 (.iconst (-1)) 1 10 := ⟨by decide +kernel, rfl⟩
theorem eX4_addPupil_10 : Dc MX4_addPupil 10 (.ireturn) 1 11 := ⟨by decide +kernel, rfl⟩
theorem eX4_addPupil_11 : Dc MX4_addPupil 11 (.aload_n 0) 1 12 := ⟨by decide +kernel, rfl⟩
theorem eX4_addPupil_12 : Dc MX4_addPupil 12 (.getfield 29) 3 15 := ⟨by decide +kernel, rfl⟩
theorem eX4_addPupil_15 : Dc MX4_addPupil 15 (.istore_n 2) 1 16 := ⟨by decide +kernel, rfl⟩
theorem eX4_addPupil_16 : Dc MX4_addPupil 16 (.aload_n 0) 1 17 := ⟨by decide +kernel, rfl⟩
theorem eX4_addPupil_17 : Dc MX4_addPupil 17 (.getfield 11) 3 20 := ⟨by decide +kernel, rfl⟩
theorem eX4_addPupil_20 : Dc MX4_addPupil 20 (.iload_n 2) 1 21 := ⟨by decide +kernel, rfl⟩
theorem eX4_addPupil_21 : Dc MX4_addPupil 21 (.aaload) 1 22 := ⟨by decide +kernel, rfl⟩
theorem eX4_addPupil_22 : Dc MX4_addPupil 22 (.iload_n 1) 1 23 := ⟨by decide +kernel, rfl⟩
theorem eX4_addPupil_23 : Dc MX4_addPupil 23 (.putfield 33) 3 26 := ⟨by decide +kernel, rfl⟩
theorem eX4_addPupil_26 : Dc MX4_addPupil 26 (.aload_n 0) 1 27 := ⟨by decide +kernel, rfl⟩
theorem eX4_addPupil_27 : Dc MX4_addPupil 27 (.getfield 23) 3 30 := ⟨by decide +kernel, rfl⟩
theorem eX4_addPupil_30 : Dc MX4_addPupil 30 (.iload_n 2) 1 31 := ⟨by decide +kernel, rfl⟩
theorem eX4_addPupil_31 : Dc MX4_addPupil 31 (.iload_n 2) 1 32 := ⟨by decide +kernel, rfl⟩
theorem eX4_addPupil_32 : Dc MX4_addPupil 32 (.iastore) 1 33 := ⟨by decide +kernel, rfl⟩
theorem eX4_addPupil_33 : Dc MX4_addPupil 33 (.aload_n 0) 1 34 := ⟨by decide +kernel, rfl⟩
theorem eX4_addPupil_34 : Dc MX4_addPupil 34 (.dup) 1 35 := ⟨by decide +kernel, rfl⟩
theorem eX4_addPupil_35 : Dc MX4_addPupil 35 (.getfield 29) 3 38 := ⟨by decide +kernel, rfl⟩
theorem eX4_addPupil_38 : Dc MX4_addPupil 38 (.iconst 1) 1 39 := ⟨by decide +kernel, rfl⟩
theorem eX4_addPupil_39 : Dc MX4_addPupil 39 (.iadd) 1 40 := ⟨by decide +kernel, rfl⟩
theorem eX4_addPupil_40 : Dc MX4_addPupil 40 (.putfield 29) 3 43 := ⟨by decide +kernel, rfl⟩
theorem eX4_addPupil_43 : Dc MX4_addPupil 43 (.iload_n 2) 1 44 := ⟨by decide +kernel, rfl⟩
theorem eX4_addPupil_44 : Dc MX4_addPupil 44 (.ireturn) 1 45 := ⟨by decide +kernel, rfl⟩
theorem eX4_addProject_0 : Dc MX4_addProject 0 (.aload_n 0) 1 1 := ⟨by decide +kernel, rfl⟩
theorem eX4_addProject_1 : Dc MX4_addProject 1 (.getfield 36) 3 4 := ⟨by decide +kernel, rfl⟩
theorem eX4_addProject_4 : Dc MX4_addProject 4 (.iconst 5) 1 5 := ⟨by decide +kernel, rfl⟩
theorem eX4_addProject_5 : Dc MX4_addProject 5 (.if_icmp .lt 5) 3 8 := ⟨by decide +kernel, rfl⟩
theorem eX4_addProject_8 : Dc MX4_addProject 8 (.iconst (-1)) 1 9 := ⟨by decide +kernel, rfl⟩
theorem eX4_addProject_9 : Dc MX4_addProject 9 (.ireturn) 1 10 := ⟨by decide +kernel, rfl⟩
theorem eX4_addProject_10 : Dc MX4_addProject 10 (.aload_n 0) 1 11 := ⟨by decide +kernel, rfl⟩
theorem eX4_addProject_11 : Dc MX4_addProject 11 (.getfield 36) 3 14 := ⟨by decide +kernel, rfl⟩
theorem eX4_addProject_14 : Dc MX4_addProject 14 (.istore 6) 2 16 := ⟨by decide +kernel, rfl⟩
theorem eX4_addProject_16 : Dc MX4_addProject 16 (.aload_n 0) 1 17 := ⟨by decide +kernel, rfl⟩
theorem eX4_addProject_17 : Dc MX4_addProject 17 (.getfield 19) 3 20 := ⟨by decide +kernel, rfl⟩
theorem eX4_addProject_20 : Dc MX4_addProject 20 (.iload 6) 2 22 := ⟨by decide +kernel, rfl⟩
theorem eX4_addProject_22 : Dc MX4_addProject 22 (.aaload) 1 23 := ⟨by decide +kernel, rfl⟩
theorem eX4_addProject_23 : Dc MX4_addProject 23 (.astore 7) 2 25 := ⟨by decide +kernel, rfl⟩
theorem eX4_addProject_25 : Dc MX4_addProject 25 (.aload 7) 2 27 := ⟨by decide +kernel, rfl⟩
theorem eX4_addProject_27 : Dc MX4_addProject 27 (.iload_n 1) 1 28 := ⟨by decide +kernel, rfl⟩
theorem eX4_addProject_28 : Dc MX4_addProject 28 (.putfield 39) 3 31 := ⟨by decide +kernel, rfl⟩
theorem eX4_addProject_31 : Dc MX4_addProject 31 (.aload 7) 2 33 := ⟨by decide +kernel, rfl⟩
theorem eX4_addProject_33 : Dc MX4_addProject 33 (.iload_n 2) 1 34 := ⟨by decide +kernel, rfl⟩
theorem eX4_addProject_34 : Dc MX4_addProject 34 (.putfield 42) 3 37 := ⟨by decide +kernel, rfl⟩
theorem eX4_addProject_37 : Dc MX4_addProject 37 (.aload 7) 2 39 := ⟨by decide +kernel, rfl⟩
theorem eX4_addProject_39 : Dc MX4_addProject 39 (.iload_n 3) 1 40 := ⟨by decide +kernel, rfl⟩
theorem eX4_addProject_40 : Dc MX4_addProject 40 (.putfield 45) 3 43 := ⟨by decide +kernel, rfl⟩
theorem eX4_addProject_43 : Dc MX4_addProject 43 (.aload 7) 2 45 := ⟨by decide +kernel, rfl⟩
theorem eX4_addProject_45 : Dc MX4_addProject 45 (.iload 4) 2 47 := ⟨by decide +kernel, rfl⟩
theorem eX4_addProject_47 : Dc MX4_addProject 47 (.putfield 48) 3 50 := ⟨by decide +kernel, rfl⟩
theorem eX4_addProject_50 : Dc MX4_addProject 50 (.aload 7) 2 52 := ⟨by decide +kernel, rfl⟩
theorem eX4_addProject_52 : Dc MX4_addProject 52 (.iload 5) 2 54 := ⟨by decide +kernel, rfl⟩
theorem eX4_addProject_54 : Dc MX4_addProject 54 (.putfield 49) 3 57 := ⟨by decide +kernel, rfl⟩
theorem eX4_addProject_57 : Dc MX4_addProject 57 (.aload_n 0) 1 58 := ⟨by decide +kernel, rfl⟩
theorem eX4_addProject_58 : Dc MX4_addProject 58 (.dup) 1 59 := ⟨by decide +kernel, rfl⟩
theorem eX4_addProject_59 : Dc MX4_addProject 59 (.getfield 36) 3 62 := ⟨by decide +kernel, rfl⟩
theorem eX4_addProject_62 : Dc MX4_addProject 62 (.iconst 1) 1 63 := ⟨by decide +kernel, rfl⟩
theorem eX4_addProject_63 : Dc MX4_addProject 63 (.iadd) 1 64 := ⟨by decide +kernel, rfl⟩
theorem eX4_addProject_64 : Dc MX4_addProject 64 (.putfield 36) 3 67 := ⟨by decide +kernel, rfl⟩
theorem eX4_addProject_67 : Dc MX4_addProject 67 (.iload 6) 2 69 := ⟨by decide +kernel, rfl⟩
theorem eX4_addProject_69 : Dc MX4_addProject 69 (.ireturn) 1 70 := ⟨by decide +kernel, rfl⟩
theorem eX4_isPupil_0 : Dc MX4_isPupil 0 (.iload_n 1) 1 1 := ⟨by decide +kernel, rfl⟩
theorem eX4_isPupil_1 : Dc MX4_isPupil 1 (.ifCond .lt 15) 3 4 := ⟨by decide +kernel, rfl⟩
theorem eX4_isPupil_4 : Dc MX4_isPupil 4 (.iload_n 1) 1 5 := ⟨by decide +kernel, rfl⟩
theorem eX4_isPupil_5 : Dc MX4_isPupil 5 (.aload_n 0) 1 6 := ⟨by decide +kernel, rfl⟩
theorem eX4_isPupil_6 : Dc MX4_isPupil 6 (.getfield 29) 3 9 := ⟨by decide +kernel, rfl⟩
theorem eX4_isPupil_9 : Dc MX4_isPupil 9 (.if_icmp .ge 7) 3 12 := ⟨by decide +kernel, rfl⟩
theorem eX4_isPupil_12 : Dc MX4_isPupil 12 (.iconst 1) 1 13 := ⟨by decide +kernel, rfl⟩
theorem eX4_isPupil_13 : Dc MX4_isPupil 13 (.goto 4) 3 16 := ⟨by decide +kernel, rfl⟩
theorem eX4_isPupil_16 : Dc MX4_isPupil 16 (.iconst 0) 1 17 := ⟨by decide +kernel, rfl⟩
theorem eX4_isPupil_17 : Dc MX4_isPupil 17 (.ireturn) 1 18 := ⟨by decide +kernel, rfl⟩
theorem eX4_isProject_0 : Dc MX4_isProject 0 (.iload_n 1) 1 1 := ⟨by decide +kernel, rfl⟩
theorem eX4_isProject_1 : Dc MX4_isProject 1 (.ifCond .lt 15) 3 4 := ⟨by decide +kernel, rfl⟩
theorem eX4_isProject_4 : Dc MX4_isProject 4 (.iload_n 1) 1 5 := ⟨by decide +kernel, rfl⟩
theorem eX4_isProject_5 : Dc MX4_isProject 5 (.aload_n 0) 1 6 := ⟨by decide +kernel, rfl⟩
theorem eX4_isProject_6 : Dc MX4_isProject 6 (.getfield 36) 3 9 := ⟨by decide +kernel, rfl⟩
theorem eX4_isProject_9 : Dc MX4_isProject 9 (.if_icmp .ge 7) 3 12 := ⟨by decide +kernel, rfl⟩
theorem eX4_isProject_12 : Dc MX4_isProject 12 (.iconst 1) 1 13 := ⟨by decide +kernel, rfl⟩
theorem eX4_isProject_13 : Dc MX4_isProject 13 (.goto 4) 3 16 := ⟨by decide +kernel, rfl⟩
theorem eX4_isProject_16 : Dc MX4_isProject 16 (.iconst 0) 1 17 := ⟨by decide +kernel, rfl⟩
theorem eX4_isProject_17 : Dc MX4_isProject 17 (.ireturn) 1 18 := ⟨by decide +kernel, rfl⟩
theorem eX4_pupilOf_0 : Dc MX4_pupilOf 0 (.aload_n 0) 1 1 := ⟨by decide +kernel, rfl⟩
theorem eX4_pupilOf_1 : Dc MX4_pupilOf 1 (.iload_n 1) 1 2 := ⟨by decide +kernel, rfl⟩
theorem eX4_pupilOf_2 : Dc MX4_pupilOf 2 (.invokevirtual 52) 3 5 := ⟨by decide +kernel, rfl⟩
theorem eX4_pupilOf_5 : Dc MX4_pupilOf 5 (.ifCond .eq 12) 3 8 := ⟨by decide +kernel, rfl⟩
theorem eX4_pupilOf_8 : Dc MX4_pupilOf 8 (.aload_n 0) 1 9 := ⟨by decide +kernel, rfl⟩
theorem eX4_pupilOf_9 : Dc MX4_pupilOf 9 (.getfield 11) 3 12 := ⟨by decide +kernel, rfl⟩
theorem eX4_pupilOf_12 : Dc MX4_pupilOf 12 (.iload_n 1) 1 13 := ⟨by decide +kernel, rfl⟩
theorem eX4_pupilOf_13 : Dc MX4_pupilOf 13 (.aaload) 1 14 := ⟨by decide +kernel, rfl⟩
theorem eX4_pupilOf_14 : Dc MX4_pupilOf 14 (.goto 4) 3 17 := ⟨by decide +kernel, rfl⟩
theorem eX4_pupilOf_17 : Dc MX4_pupilOf 17 (.aconst_null) 1 18 := ⟨by decide +kernel, rfl⟩
theorem eX4_pupilOf_18 : Dc MX4_pupilOf 18 (.areturn) 1 19 := ⟨by decide +kernel, rfl⟩
theorem eX4_projectOf_0 : Dc MX4_projectOf 0 (.aload_n 0) 1 1 := ⟨by decide +kernel, rfl⟩
theorem eX4_projectOf_1 : Dc MX4_projectOf 1 (.iload_n 1) 1 2 := ⟨by decide +kernel, rfl⟩
theorem eX4_projectOf_2 : Dc MX4_projectOf 2 (.invokevirtual 56) 3 5 := ⟨by decide +kernel, rfl⟩
theorem eX4_projectOf_5 : Dc MX4_projectOf 5 (.ifCond .eq 12) 3 8 := ⟨by decide +kernel, rfl⟩
theorem eX4_projectOf_8 : Dc MX4_projectOf 8 (.aload_n 0) 1 9 := ⟨by decide +kernel, rfl⟩
theorem eX4_projectOf_9 : Dc MX4_projectOf 9 (.getfield 19) 3 12 := ⟨by decide +kernel, rfl⟩
theorem eX4_projectOf_12 : Dc MX4_projectOf 12 (.iload_n 1) 1 13 := ⟨by decide +kernel, rfl⟩
theorem eX4_projectOf_13 : Dc MX4_projectOf 13 (.aaload) 1 14 := ⟨by decide +kernel, rfl⟩
theorem eX4_projectOf_14 : Dc MX4_projectOf 14 (.goto 4) 3 17 := ⟨by decide +kernel, rfl⟩
theorem eX4_projectOf_17 : Dc MX4_projectOf 17 (.aconst_null) 1 18 := ⟨by decide +kernel, rfl⟩
theorem eX4_projectOf_18 : Dc MX4_projectOf 18 (.areturn) 1 19 := ⟨by decide +kernel, rfl⟩
theorem eX4_scoreOf_0 : Dc MX4_scoreOf 0 (.aload_n 0) 1 1 := ⟨by decide +kernel, rfl⟩
theorem eX4_scoreOf_1 : Dc MX4_scoreOf 1 (.iload_n 1) 1 2 := ⟨by decide +kernel, rfl⟩
theorem eX4_scoreOf_2 : Dc MX4_scoreOf 2 (.invokevirtual 59) 3 5 := ⟨by decide +kernel, rfl⟩
theorem eX4_scoreOf_5 : Dc MX4_scoreOf 5 (.astore_n 2) 1 6 := ⟨by decide +kernel, rfl⟩
theorem eX4_scoreOf_6 : Dc MX4_scoreOf 6 (.aload_n 2) 1 7 := ⟨by decide +kernel, rfl⟩
theorem eX4_scoreOf_7 : Dc MX4_scoreOf 7 (.ifnonnull 7) 3 10 := ⟨by decide +kernel, rfl⟩
theorem eX4_scoreOf_10 : Dc MX4_scoreOf 10 (.iconst 0) 1 11 := ⟨by decide +kernel, rfl⟩
theorem eX4_scoreOf_11 : Dc MX4_scoreOf 11 (.goto 7) 3 14 := ⟨by decide +kernel, rfl⟩
theorem eX4_scoreOf_14 : Dc MX4_scoreOf 14 (.aload_n 2) 1 15 := ⟨by decide +kernel, rfl⟩
theorem eX4_scoreOf_15 : Dc MX4_scoreOf 15 (.getfield 63) 3 18 := ⟨by decide +kernel, rfl⟩
theorem eX4_scoreOf_18 : Dc MX4_scoreOf 18 (.ireturn) 1 19 := ⟨by decide +kernel, rfl⟩
theorem eX4_addScore_0 : Dc MX4_addScore 0 (.aload_n 0) 1 1 := ⟨by decide +kernel, rfl⟩
theorem eX4_addScore_1 : Dc MX4_addScore 1 (.iload_n 1) 1 2 := ⟨by decide +kernel, rfl⟩
theorem eX4_addScore_2 : Dc MX4_addScore 2 (.invokevirtual 59) 3 5 := ⟨by decide +kernel, rfl⟩
theorem eX4_addScore_5 : Dc MX4_addScore 5 (.astore_n 3) 1 6 := ⟨by decide +kernel, rfl⟩
theorem eX4_addScore_6 : Dc MX4_addScore 6 (.aload_n 3) 1 7 := ⟨by decide +kernel, rfl⟩
theorem eX4_addScore_7 : Dc MX4_addScore 7 (.ifnull 13) 3 10 := ⟨by decide +kernel, rfl⟩
theorem eX4_addScore_10 : Dc MX4_addScore 10 (.aload_n 3) 1 11 := ⟨by decide +kernel, rfl⟩
theorem eX4_addScore_11 : Dc MX4_addScore 11 (.dup) 1 12 := ⟨by decide +kernel, rfl⟩
theorem eX4_addScore_12 : Dc MX4_addScore 12 (.getfield 63) 3 15 := ⟨by decide +kernel, rfl⟩
theorem eX4_addScore_15 : Dc MX4_addScore 15 (.iload_n 2) 1 16 := ⟨by decide +kernel, rfl⟩
theorem eX4_addScore_16 : Dc MX4_addScore 16 (.iadd) 1 17 := ⟨by decide +kernel, rfl⟩
theorem eX4_addScore_17 : Dc MX4_addScore 17 (.putfield 63) 3 20 := ⟨by decide +kernel, rfl⟩
theorem eX4_addScore_20 : Dc MX4_addScore 20 (.return_) 1 21 := ⟨by decide +kernel, rfl⟩
theorem eX4_areFriends_0 : Dc MX4_areFriends 0 (.aload_n 0) 1 1 := ⟨by decide +kernel, rfl⟩
theorem eX4_areFriends_1 : Dc MX4_areFriends 1 (.iload_n 1) 1 2 := ⟨by decide +kernel, rfl⟩
theorem eX4_areFriends_2 : Dc MX4_areFriends 2 (.invokevirtual 59) 3 5 := ⟨by decide +kernel, rfl⟩
theorem eX4_areFriends_5 : Dc MX4_areFriends 5 (.astore_n 3) 1 6 := ⟨by decide +kernel, rfl⟩
theorem eX4_areFriends_6 : Dc MX4_areFriends 6 (.aload_n 3) 1 7 := ⟨by decide +kernel, rfl⟩
theorem eX4_areFriends_7 : Dc MX4_areFriends 7 (.ifnull 26) 3 10 := ⟨by decide +kernel, rfl⟩
theorem eX4_areFriends_10 : Dc MX4_areFriends 10 (.aload_n 0) 1 11 := ⟨by decide +kernel, rfl⟩
theorem eX4_areFriends_11 : Dc MX4_areFriends 11 (.iload_n 2) 1 12 := ⟨by decide +kernel, rfl⟩
theorem eX4_areFriends_12 : Dc MX4_areFriends 12 (.invokevirtual 52) 3 15 := ⟨by decide +kernel, rfl⟩
theorem eX4_areFriends_15 : Dc MX4_areFriends 15 (.ifCond .eq 18) 3 18 := ⟨by decide +kernel, rfl⟩
theorem eX4_areFriends_18 : Dc MX4_areFriends 18 (.aload_n 3) 1 19 := ⟨by decide +kernel, rfl⟩
theorem eX4_areFriends_19 : Dc MX4_areFriends 19 (.getfield 66) 3 22 := ⟨by decide +kernel, rfl⟩
theorem eX4_areFriends_22 : Dc MX4_areFriends 22 (.iload_n 2) 1 23 := ⟨by decide +kernel, rfl⟩
theorem eX4_areFriends_23 : Dc MX4_areFriends 23 (.ishr) 1 24 := ⟨by decide +kernel, rfl⟩
theorem eX4_areFriends_24 : Dc MX4_areFriends 24 (.iconst 1) 1 25 := ⟨by decide +kernel, rfl⟩
theorem eX4_areFriends_25 : Dc MX4_areFriends 25 (.iand) 1 26 := ⟨by decide +kernel, rfl⟩
theorem eX4_areFriends_26 : Dc MX4_areFriends 26 (.ifCond .eq 7) 3 29 := ⟨by decide +kernel, rfl⟩
theorem eX4_areFriends_29 : Dc MX4_areFriends 29 (.iconst 1) 1 30 := ⟨by decide +kernel, rfl⟩
theorem eX4_areFriends_30 : Dc MX4_areFriends 30 (.goto 4) 3 33 := ⟨by decide +kernel, rfl⟩
theorem eX4_areFriends_33 : Dc MX4_areFriends 33 (.iconst 0) 1 34 := ⟨by decide +kernel, rfl⟩
theorem eX4_areFriends_34 : Dc MX4_areFriends 34 (.ireturn) 1 35 := ⟨by decide +kernel, rfl⟩
theorem eX4_presentBits_0 : Dc MX4_presentBits 0 (.iconst 0) 1 1 := ⟨by decide +kernel, rfl⟩
theorem eX4_presentBits_1 : Dc MX4_presentBits 1 (.istore_n 1) 1 2 := ⟨by decide +kernel, rfl⟩
theorem eX4_presentBits_2 : Dc MX4_presentBits 2 (.iconst 0) 1 3 := ⟨by decide +kernel, rfl⟩
theorem eX4_presentBits_3 : Dc MX4_presentBits 3 (.istore_n 2) 1 4 := ⟨by decide +kernel, rfl⟩
theorem eX4_presentBits_4 : Dc MX4_presentBits 4 (.iload_n 2) 1 5 := ⟨by decide +kernel, rfl⟩
theorem eX4_presentBits_5 : Dc MX4_presentBits 5 (.aload_n 0) 1 6 := ⟨by decide +kernel, rfl⟩
theorem eX4_presentBits_6 : Dc MX4_presentBits 6 (.getfield 29) 3 9 := ⟨by decide +kernel, rfl⟩
theorem eX4_presentBits_9 : Dc MX4_presentBits 9 (.if_icmp .ge 27) 3 12 := ⟨by decide +kernel, rfl⟩
theorem eX4_presentBits_12 : Dc MX4_presentBits 12 (.aload_n 0) 1 13 := ⟨by decide +kernel, rfl⟩
theorem eX4_presentBits_13 : Dc MX4_presentBits 13 (.getfield 11) 3 16 := ⟨by decide +kernel, rfl⟩
theorem eX4_presentBits_16 : Dc MX4_presentBits 16 (.iload_n 2) 1 17 := ⟨by decide +kernel, rfl⟩
theorem eX4_presentBits_17 : Dc MX4_presentBits 17 (.aaload) 1 18 := ⟨by decide +kernel, rfl⟩
theorem eX4_presentBits_18 : Dc MX4_presentBits 18 (.getfield 69) 3 21 := ⟨by decide +kernel, rfl⟩
theorem eX4_presentBits_21 : Dc MX4_presentBits 21 (.ifCond .eq 9) 3 24 := ⟨by decide +kernel, rfl⟩
theorem eX4_presentBits_24 : Dc MX4_presentBits 24 (.iload_n 1) 1 25 := ⟨by decide +kernel, rfl⟩
theorem eX4_presentBits_25 : Dc MX4_presentBits 25 (.iconst 1) 1 26 := ⟨by decide +kernel, rfl⟩
theorem eX4_presentBits_26 : Dc MX4_presentBits 26 (.iload_n 2) 1 27 := ⟨by decide +kernel, rfl⟩
theorem eX4_presentBits_27 : Dc MX4_presentBits 27 (.ishl) 1 28 := ⟨by decide +kernel, rfl⟩
theorem eX4_presentBits_28 : Dc MX4_presentBits 28 (.ior) 1 29 := ⟨by decide +kernel, rfl⟩
theorem eX4_presentBits_29 : Dc MX4_presentBits 29 (.istore_n 1) 1 30 := ⟨by decide +kernel, rfl⟩
theorem eX4_presentBits_30 : Dc MX4_presentBits 30 (.iinc 2 1) 3 33 := ⟨by decide +kernel, rfl⟩
theorem eX4_presentBits_33 : Dc MX4_presentBits 33 (.goto (-29)) 3 36 := ⟨by decide +kernel, rfl⟩
theorem eX4_presentBits_36 : Dc MX4_presentBits 36 (.iload_n 1) 1 37 := ⟨by decide +kernel, rfl⟩
theorem eX4_presentBits_37 : Dc MX4_presentBits 37 (.ireturn) 1 38 := ⟨by decide +kernel, rfl⟩
theorem eX4_offeredCount_0 : Dc MX4_offeredCount 0 (.iconst 0) 1 1 := ⟨by decide +kernel, rfl⟩
theorem eX4_offeredCount_1 : Dc MX4_offeredCount 1 (.istore_n 1) 1 2 := ⟨by decide +kernel, rfl⟩
theorem eX4_offeredCount_2 : Dc MX4_offeredCount 2 (.iconst 0) 1 3 := ⟨by decide +kernel, rfl⟩
theorem eX4_offeredCount_3 : Dc MX4_offeredCount 3 (.istore_n 2) 1 4 := ⟨by decide +kernel, rfl⟩
theorem eX4_offeredCount_4 : Dc MX4_offeredCount 4 (.iload_n 2) 1 5 := ⟨by decide +kernel, rfl⟩
theorem eX4_offeredCount_5 : Dc MX4_offeredCount 5 (.aload_n 0) 1 6 := ⟨by decide +kernel, rfl⟩
theorem eX4_offeredCount_6 : Dc MX4_offeredCount 6 (.getfield 36) 3 9 := ⟨by decide +kernel, rfl⟩
theorem eX4_offeredCount_9 : Dc MX4_offeredCount 9 (.if_icmp .ge 24) 3 12 := ⟨by decide +kernel, rfl⟩
theorem eX4_offeredCount_12 : Dc MX4_offeredCount 12 (.aload_n 0) 1 13 := ⟨by decide +kernel, rfl⟩
theorem eX4_offeredCount_13 : Dc MX4_offeredCount 13 (.getfield 19) 3 16 := ⟨by decide +kernel, rfl⟩
theorem eX4_offeredCount_16 : Dc MX4_offeredCount 16 (.iload_n 2) 1 17 := ⟨by decide +kernel, rfl⟩
theorem eX4_offeredCount_17 : Dc MX4_offeredCount 17 (.aaload) 1 18 := ⟨by decide +kernel, rfl⟩
theorem eX4_offeredCount_18 : Dc MX4_offeredCount 18 (.getfield 73) 3 21 := ⟨by decide +kernel, rfl⟩
theorem eX4_offeredCount_21 : Dc MX4_offeredCount 21 (.ifCond .eq 6) 3 24 := ⟨by decide +kernel, rfl⟩
theorem eX4_offeredCount_24 : Dc MX4_offeredCount 24 (.iinc 1 1) 3 27 := ⟨by decide +kernel, rfl⟩
theorem eX4_offeredCount_27 : Dc MX4_offeredCount 27 (.iinc 2 1) 3 30 := ⟨by decide +kernel, rfl⟩
theorem eX4_offeredCount_30 : Dc MX4_offeredCount 30 (.goto (-26)) 3 33 := ⟨by decide +kernel, rfl⟩
theorem eX4_offeredCount_33 : Dc MX4_offeredCount 33 (.iload_n 1) 1 34 := ⟨by decide +kernel, rfl⟩
theorem eX4_offeredCount_34 : Dc MX4_offeredCount 34 (.ireturn) 1 35 := ⟨by decide +kernel, rfl⟩
theorem eX4_drawLots_0 : Dc MX4_drawLots 0 (.iconst 0) 1 1 := ⟨by decide +kernel, rfl⟩
theorem eX4_drawLots_1 : Dc MX4_drawLots 1 (.istore_n 2) 1 2 := ⟨by decide +kernel, rfl⟩
theorem eX4_drawLots_2 : Dc MX4_drawLots 2 (.iload_n 2) 1 3 := ⟨by decide +kernel, rfl⟩
theorem eX4_drawLots_3 : Dc MX4_drawLots 3 (.aload_n 0) 1 4 := ⟨by decide +kernel, rfl⟩
theorem eX4_drawLots_4 : Dc MX4_drawLots 4 (.getfield 29) 3 7 := ⟨by decide +kernel, rfl⟩
theorem eX4_drawLots_7 : Dc MX4_drawLots 7 (.if_icmp .ge 16) 3 10 := ⟨by decide +kernel, rfl⟩
theorem eX4_drawLots_10 : Dc MX4_drawLots 10 (.aload_n 0) 1 11 := ⟨by decide +kernel, rfl⟩
theorem eX4_drawLots_11 : Dc MX4_drawLots 11 (.getfield 23) 3 14 := ⟨by decide +kernel, rfl⟩
theorem eX4_drawLots_14 : Dc MX4_drawLots 14 (.iload_n 2) 1 15 := ⟨by decide +kernel, rfl⟩
theorem eX4_drawLots_15 : Dc MX4_drawLots 15 (.iload_n 2) 1 16 := ⟨by decide +kernel, rfl⟩
theorem eX4_drawLots_16 : Dc MX4_drawLots 16 (.iastore) 1 17 := ⟨by decide +kernel, rfl⟩
theorem eX4_drawLots_17 : Dc MX4_drawLots 17 (.iinc 2 1) 3 20 := ⟨by decide +kernel, rfl⟩
theorem eX4_drawLots_20 : Dc MX4_drawLots 20 (.goto (-18)) 3 23 := ⟨by decide +kernel, rfl⟩
theorem eX4_drawLots_23 : Dc MX4_drawLots 23 (.iload_n 1) 1 24 := ⟨by decide +kernel, rfl⟩
theorem eX4_drawLots_24 : Dc MX4_drawLots 24 (.istore_n 2) 1 25 := ⟨by decide +kernel, rfl⟩
theorem eX4_drawLots_25 : Dc MX4_drawLots 25 (.aload_n 0) 1 26 := ⟨by decide +kernel, rfl⟩
theorem eX4_drawLots_26 : Dc MX4_drawLots 26 (.getfield 29) 3 29 := ⟨by decide +kernel, rfl⟩
theorem eX4_drawLots_29 : Dc MX4_drawLots 29 (.iconst 1) 1 30 := ⟨by decide +kernel, rfl⟩
theorem eX4_drawLots_30 : Dc MX4_drawLots 30 (.isub) 1 31 := ⟨by decide +kernel, rfl⟩
theorem eX4_drawLots_31 : Dc MX4_drawLots 31 (.istore_n 3) 1 32 := ⟨by decide +kernel, rfl⟩
theorem eX4_drawLots_32 : Dc MX4_drawLots 32 (.iload_n 3) 1 33 := ⟨by decide +kernel, rfl⟩
theorem eX4_drawLots_33 : Dc MX4_drawLots 33 (.iconst 1) 1 34 := ⟨by decide +kernel, rfl⟩
theorem eX4_drawLots_34 : Dc MX4_drawLots 34 (.if_icmp .lt 34) 3 37 := ⟨by decide +kernel, rfl⟩
theorem eX4_drawLots_37 : Dc MX4_drawLots 37 (.iload_n 2) 1 38 := ⟨by decide +kernel, rfl⟩
theorem eX4_drawLots_38 : Dc MX4_drawLots 38 (.ldc 76) 2 40 := ⟨by decide +kernel, rfl⟩
theorem eX4_drawLots_40 : Dc MX4_drawLots 40 (.imul) 1 41 := ⟨by decide +kernel, rfl⟩
theorem eX4_drawLots_41 : Dc MX4_drawLots 41 (.sipush 12345) 3 44 := ⟨by decide +kernel, rfl⟩
theorem eX4_drawLots_44 : Dc MX4_drawLots 44 (.iadd) 1 45 := ⟨by decide +kernel, rfl⟩
theorem eX4_drawLots_45 : Dc MX4_drawLots 45 (.istore_n 2) 1 46 := ⟨by decide +kernel, rfl⟩
theorem eX4_drawLots_46 : Dc MX4_drawLots 46 (.aload_n 0) 1 47 := ⟨by decide +kernel, rfl⟩
theorem eX4_drawLots_47 : Dc MX4_drawLots 47 (.getfield 23) 3 50 := ⟨by decide +kernel, rfl⟩
theorem eX4_drawLots_50 : Dc MX4_drawLots 50 (.iload_n 3) 1 51 := ⟨by decide +kernel, rfl⟩
theorem eX4_drawLots_51 : Dc MX4_drawLots 51 (.iload_n 2) 1 52 := ⟨by decide +kernel, rfl⟩
theorem eX4_drawLots_52 : Dc MX4_drawLots 52 (.bipush 16) 2 54 := ⟨by decide +kernel, rfl⟩
theorem eX4_drawLots_54 : Dc MX4_drawLots 54 (.iushr) 1 55 := ⟨by decide +kernel, rfl⟩
theorem eX4_drawLots_55 : Dc MX4_drawLots 55 (.iload_n 3) 1 56 := ⟨by decide +kernel, rfl⟩
theorem eX4_drawLots_56 : Dc MX4_drawLots 56 (.iconst 1) 1 57 := ⟨by decide +kernel, rfl⟩
theorem eX4_drawLots_57 : Dc MX4_drawLots 57 (.iadd) 1 58 := ⟨by decide +kernel, rfl⟩
theorem eX4_drawLots_58 : Dc MX4_drawLots 58 (.irem) 1 59 := ⟨by decide +kernel, rfl⟩
theorem eX4_drawLots_59 : Dc MX4_drawLots 59 (.invokestatic 77) 3 62 := ⟨by decide +kernel, rfl⟩
theorem eX4_drawLots_62 : Dc MX4_drawLots 62 (.iinc 3 (-1)) 3 65 := ⟨by decide +kernel, rfl⟩
theorem eX4_drawLots_65 : Dc MX4_drawLots 65 (.goto (-33)) 3 68 := ⟨by decide +kernel, rfl⟩
theorem eX4_drawLots_68 : Dc MX4_drawLots 68 (.return_) 1 69 := ⟨by decide +kernel, rfl⟩
theorem eX4_placeOf_0 : Dc MX4_placeOf 0 (.iconst 0) 1 1 := ⟨by decide +kernel, rfl⟩
theorem eX4_placeOf_1 : Dc MX4_placeOf 1 (.istore_n 2) 1 2 := ⟨by decide +kernel, rfl⟩
theorem eX4_placeOf_2 : Dc MX4_placeOf 2 (.iload_n 2) 1 3 := ⟨by decide +kernel, rfl⟩
theorem eX4_placeOf_3 : Dc MX4_placeOf 3 (.aload_n 0) 1 4 := ⟨by decide +kernel, rfl⟩
theorem eX4_placeOf_4 : Dc MX4_placeOf 4 (.getfield 29) 3 7 := ⟨by decide +kernel, rfl⟩
theorem eX4_placeOf_7 : Dc MX4_placeOf 7 (.if_icmp .ge 21) 3 10 := ⟨by decide +kernel, rfl⟩
theorem eX4_placeOf_10 : Dc MX4_placeOf 10 (.aload_n 0) 1 11 := ⟨by decide +kernel, rfl⟩
theorem eX4_placeOf_11 : Dc MX4_placeOf 11 (.getfield 23) 3 14 := ⟨by decide +kernel, rfl⟩
theorem eX4_placeOf_14 : Dc MX4_placeOf 14 (.iload_n 2) 1 15 := ⟨by decide +kernel, rfl⟩
theorem eX4_placeOf_15 : Dc MX4_placeOf 15 (.iaload) 1 16 := ⟨by decide +kernel, rfl⟩
theorem eX4_placeOf_16 : Dc MX4_placeOf 16 (.iload_n 1) 1 17 := ⟨by decide +kernel, rfl⟩
theorem eX4_placeOf_17 : Dc MX4_placeOf 17 (.if_icmp .ne 5) 3 20 := ⟨by decide +kernel, rfl⟩
theorem eX4_placeOf_20 : Dc MX4_placeOf 20 (.iload_n 2) 1 21 := ⟨by decide +kernel, rfl⟩
theorem eX4_placeOf_21 : Dc MX4_placeOf 21 (.ireturn) 1 22 := ⟨by decide +kernel, rfl⟩
theorem eX4_placeOf_22 : Dc MX4_placeOf 22 (.iinc 2 1) 3 25 := ⟨by decide +kernel, rfl⟩
theorem eX4_placeOf_25 : Dc MX4_placeOf 25 (.goto (-23)) 3 28 := ⟨by decide +kernel, rfl⟩
theorem eX4_placeOf_28 : Dc MX4_placeOf 28 (.iconst (-1)) 1 29 := ⟨by decide +kernel, rfl⟩
theorem eX4_placeOf_29 : Dc MX4_placeOf 29 (.ireturn) 1 30 := ⟨by decide +kernel, rfl⟩
theorem eX4_faultOf_0 : Dc MX4_faultOf 0 (.iconst 1) 1 1 := ⟨by decide +kernel, rfl⟩
theorem eX4_faultOf_1 : Dc MX4_faultOf 1 (.istore_n 2) 1 2 := ⟨by decide +kernel, rfl⟩
theorem eX4_faultOf_2 : Dc MX4_faultOf 2 (.iload_n 2) 1 3 := ⟨by decide +kernel, rfl⟩
theorem eX4_faultOf_3 : Dc MX4_faultOf 3 (.bipush 7) 2 5 := ⟨by decide +kernel, rfl⟩
theorem eX4_faultOf_5 : Dc MX4_faultOf 5 (.if_icmp .gt 61) 3 8 := ⟨by decide +kernel, rfl⟩
theorem eX4_faultOf_8 : Dc MX4_faultOf 8 (.iload_n 2) 1 9 := ⟨by decide +kernel, rfl⟩
theorem eX4_faultOf_9 : Dc MX4_faultOf 9 (.iconst 3) 1 10 := ⟨by decide +kernel, rfl⟩
theorem eX4_faultOf_10 : Dc MX4_faultOf 10 (.if_icmp .lt 13) 3 13 := ⟨by decide +kernel, rfl⟩
theorem eX4_faultOf_13 : Dc MX4_faultOf 13 (.iload_n 2) 1 14 := ⟨by decide +kernel, rfl⟩
theorem eX4_faultOf_14 : Dc MX4_faultOf 14 (.bipush 6) 2 16 := ⟨by decide +kernel, rfl⟩
theorem eX4_faultOf_16 : Dc MX4_faultOf 16 (.if_icmp .gt 7) 3 19 := ⟨by decide +kernel, rfl⟩
theorem eX4_faultOf_19 : Dc MX4_faultOf 19 (.iconst 1) 1 20 := ⟨by decide +kernel, rfl⟩
theorem eX4_faultOf_20 : Dc MX4_faultOf 20 (.goto 4) 3 23 := ⟨by decide +kernel, rfl⟩
theorem eX4_faultOf_23 : Dc MX4_faultOf 23 (.iconst 0) 1 24 := ⟨by decide +kernel, rfl⟩
theorem eX4_faultOf_24 : Dc MX4_faultOf 24 (.istore_n 3) 1 25 := ⟨by decide +kernel, rfl⟩
theorem eX4_faultOf_25 : Dc MX4_faultOf 25 (.iload_n 3) 1 26 := ⟨by decide +kernel, rfl⟩
theorem eX4_faultOf_26 : Dc MX4_faultOf 26 (.ifCond .eq 12) 3 29 := ⟨by decide +kernel, rfl⟩
theorem eX4_faultOf_29 : Dc MX4_faultOf 29 (.aload_n 0) 1 30 := ⟨by decide +kernel, rfl⟩
theorem eX4_faultOf_30 : Dc MX4_faultOf 30 (.iload_n 2) 1 31 := ⟨by decide +kernel, rfl⟩
theorem eX4_faultOf_31 : Dc MX4_faultOf 31 (.aload_n 1) 1 32 := ⟨by decide +kernel, rfl⟩
theorem eX4_faultOf_32 : Dc MX4_faultOf 32 (.invokevirtual 81) 3 35 := ⟨by decide +kernel, rfl⟩
theorem eX4_faultOf_35 : Dc MX4_faultOf 35 (.goto 9) 3 38 := ⟨by decide +kernel, rfl⟩
theorem eX4_faultOf_38 : Dc MX4_faultOf 38 (.aload_n 0) 1 39 := ⟨by decide +kernel, rfl⟩
theorem eX4_faultOf_39 : Dc MX4_faultOf 39 (.iload_n 2) 1 40 := ⟨by decide +kernel, rfl⟩
theorem eX4_faultOf_40 : Dc MX4_faultOf 40 (.aload_n 1) 1 41 := ⟨by decide +kernel, rfl⟩
theorem eX4_faultOf_41 : Dc MX4_faultOf 41 (.invokevirtual 85) 3 44 := ⟨by decide +kernel, rfl⟩
theorem eX4_faultOf_44 : Dc MX4_faultOf 44 (.istore 4) 2 46 := ⟨by decide +kernel, rfl⟩
theorem eX4_faultOf_46 : Dc MX4_faultOf 46 (.iload 4) 2 48 := ⟨by decide +kernel, rfl⟩
theorem eX4_faultOf_48 : Dc MX4_faultOf 48 (.iconst (-1)) 1 49 := ⟨by decide +kernel, rfl⟩
theorem eX4_faultOf_49 : Dc MX4_faultOf 49 (.if_icmp .eq 11) 3 52 := ⟨by decide +kernel, rfl⟩
theorem eX4_faultOf_52 : Dc MX4_faultOf 52 (.iload_n 2) 1 53 := ⟨by decide +kernel, rfl⟩
theorem eX4_faultOf_53 : Dc MX4_faultOf 53 (.bipush 10) 2 55 := ⟨by decide +kernel, rfl⟩
theorem eX4_faultOf_55 : Dc MX4_faultOf 55 (.imul) 1 56 := ⟨by decide +kernel, rfl⟩
theorem eX4_faultOf_56 : Dc MX4_faultOf 56 (.iload 4) 2 58 := ⟨by decide +kernel, rfl⟩
theorem eX4_faultOf_58 : Dc MX4_faultOf 58 (.iadd) 1 59 := ⟨by decide +kernel, rfl⟩
theorem eX4_faultOf_59 : Dc MX4_faultOf 59 (.ireturn) 1 60 := ⟨by decide +kernel, rfl⟩
theorem eX4_faultOf_60 : Dc MX4_faultOf 60 (.iinc 2 1) 3 63 := ⟨by decide +kernel, rfl⟩
theorem eX4_faultOf_63 : Dc MX4_faultOf 63 (.goto (-61)) 3 66 := ⟨by decide +kernel, rfl⟩
theorem eX4_faultOf_66 : Dc MX4_faultOf 66 (.iconst 0) 1 67 := ⟨by decide +kernel, rfl⟩
theorem eX4_faultOf_67 : Dc MX4_faultOf 67 (.ireturn) 1 68 := ⟨by decide +kernel, rfl⟩
theorem eX4_firstPupilWith_0 : Dc MX4_firstPupilWith 0 (.iconst 0) 1 1 := ⟨by decide +kernel, rfl⟩
theorem eX4_firstPupilWith_1 : Dc MX4_firstPupilWith 1 (.istore_n 3) 1 2 := ⟨by decide +kernel, rfl⟩
theorem eX4_firstPupilWith_2 : Dc MX4_firstPupilWith 2 (.iload_n 3) 1 3 := ⟨by decide +kernel, rfl⟩
theorem eX4_firstPupilWith_3 : Dc MX4_firstPupilWith 3 (.aload_n 0) 1 4 := ⟨by decide +kernel, rfl⟩
theorem eX4_firstPupilWith_4 : Dc MX4_firstPupilWith 4 (.getfield 29) 3 7 := ⟨by decide +kernel, rfl⟩
theorem eX4_firstPupilWith_7 : Dc MX4_firstPupilWith 7 (.if_icmp .ge 21) 3 10 := ⟨by decide +kernel, rfl⟩
theorem eX4_firstPupilWith_10 : Dc MX4_firstPupilWith 10 (.aload_n 0) 1 11 := ⟨by decide +kernel, rfl⟩
theorem eX4_firstPupilWith_11 : Dc MX4_firstPupilWith 11 (.iload_n 1) 1 12 := ⟨by decide +kernel, rfl⟩
theorem eX4_firstPupilWith_12 : Dc MX4_firstPupilWith 12 (.iload_n 3) 1 13 := ⟨by decide +kernel, rfl⟩
theorem eX4_firstPupilWith_13 : Dc MX4_firstPupilWith 13 (.aload_n 2) 1 14 := ⟨by decide +kernel, rfl⟩
theorem eX4_firstPupilWith_14 : Dc MX4_firstPupilWith 14 (.invokevirtual 88) 3 17 := ⟨by decide +kernel, rfl⟩
theorem eX4_firstPupilWith_17 : Dc MX4_firstPupilWith 17 (.ifCond .eq 5) 3 20 := ⟨by decide +kernel, rfl⟩
theorem eX4_firstPupilWith_20 : Dc MX4_firstPupilWith 20 (.iload_n 3) 1 21 := ⟨by decide +kernel, rfl⟩
theorem eX4_firstPupilWith_21 : Dc MX4_firstPupilWith 21 (.ireturn) 1 22 := ⟨by decide +kernel, rfl⟩
theorem eX4_firstPupilWith_22 : Dc MX4_firstPupilWith 22 (.iinc 3 1) 3 25 := ⟨by decide +kernel, rfl⟩
theorem eX4_firstPupilWith_25 : Dc MX4_firstPupilWith 25 (.goto (-23)) 3 28 := ⟨by decide +kernel, rfl⟩
theorem eX4_firstPupilWith_28 : Dc MX4_firstPupilWith 28 (.iconst (-1)) 1 29 := ⟨by decide +kernel, rfl⟩
theorem eX4_firstPupilWith_29 : Dc MX4_firstPupilWith 29 (.ireturn) 1 30 := ⟨by decide +kernel, rfl⟩
theorem eX4_pupilHas_0 : Dc MX4_pupilHas 0 (.aload_n 0) 1 1 := ⟨by decide +kernel, rfl⟩
theorem eX4_pupilHas_1 : Dc MX4_pupilHas 1 (.getfield 11) 3 4 := ⟨by decide +kernel, rfl⟩
theorem eX4_pupilHas_4 : Dc MX4_pupilHas 4 (.iload_n 2) 1 5 := ⟨by decide +kernel, rfl⟩
theorem eX4_pupilHas_5 : Dc MX4_pupilHas 5 (.aaload) 1 6 := ⟨by decide +kernel, rfl⟩
theorem eX4_pupilHas_6 : Dc MX4_pupilHas 6 (.astore 4) 2 8 := ⟨by decide +kernel, rfl⟩
theorem eX4_pupilHas_8 : Dc MX4_pupilHas 8 (.aload_n 3) 1 9 := ⟨by decide +kernel, rfl⟩
theorem eX4_pupilHas_9 : Dc MX4_pupilHas 9 (.iload_n 2) 1 10 := ⟨by decide +kernel, rfl⟩
theorem eX4_pupilHas_10 : Dc MX4_pupilHas 10 (.iaload) 1 11 := ⟨by decide +kernel, rfl⟩
theorem eX4_pupilHas_11 : Dc MX4_pupilHas 11 (.iconst (-1)) 1 12 := ⟨by decide +kernel, rfl⟩
theorem eX4_pupilHas_12 : Dc MX4_pupilHas 12 (.if_icmp .eq 7) 3 15 := ⟨by decide +kernel, rfl⟩
theorem eX4_pupilHas_15 : Dc MX4_pupilHas 15 (.iconst 1) 1 16 := ⟨by decide +kernel, rfl⟩
theorem eX4_pupilHas_16 : Dc MX4_pupilHas 16 (.goto 4) 3 19 := ⟨by decide +kernel, rfl⟩
theorem eX4_pupilHas_19 : Dc MX4_pupilHas 19 (.iconst 0) 1 20 := ⟨by decide +kernel, rfl⟩
theorem eX4_pupilHas_20 : Dc MX4_pupilHas 20 (.istore 5) 2 22 := ⟨by decide +kernel, rfl⟩
theorem eX4_pupilHas_22 : Dc MX4_pupilHas 22 (.iload_n 1) 1 23 := ⟨by decide +kernel, rfl⟩
theorem eX4_pupilHas_23 : Dc MX4_pupilHas 23 (.lookupswitch 63 #[(1, 25), (2, 44)]) 25 48 := ⟨by decide +kernel, rfl⟩
theorem eX4_pupilHas_48 : Dc MX4_pupilHas 48 (.aload 4) 2 50 := ⟨by decide +kernel, rfl⟩
theorem eX4_pupilHas_50 : Dc MX4_pupilHas 50 (.getfield 69) 3 53 := ⟨by decide +kernel, rfl⟩
theorem eX4_pupilHas_53 : Dc MX4_pupilHas 53 (.ifCond .eq 12) 3 56 := ⟨by decide +kernel, rfl⟩
theorem eX4_pupilHas_56 : Dc MX4_pupilHas 56 (.iload 5) 2 58 := ⟨by decide +kernel, rfl⟩
theorem eX4_pupilHas_58 : Dc MX4_pupilHas 58 (.ifCond .ne 7) 3 61 := ⟨by decide +kernel, rfl⟩
theorem eX4_pupilHas_61 : Dc MX4_pupilHas 61 (.iconst 1) 1 62 := ⟨by decide +kernel, rfl⟩
theorem eX4_pupilHas_62 : Dc MX4_pupilHas 62 (.goto 4) 3 65 := ⟨by decide +kernel, rfl⟩
theorem eX4_pupilHas_65 : Dc MX4_pupilHas 65 (.iconst 0) 1 66 := ⟨by decide +kernel, rfl⟩
theorem eX4_pupilHas_66 : Dc MX4_pupilHas 66 (.ireturn) 1 67 := ⟨by decide +kernel, rfl⟩
theorem eX4_pupilHas_67 : Dc MX4_pupilHas 67 (.aload 4) 2 69 := ⟨by decide +kernel, rfl⟩
theorem eX4_pupilHas_69 : Dc MX4_pupilHas 69 (.getfield 69) 3 72 := ⟨by decide +kernel, rfl⟩
theorem eX4_pupilHas_72 : Dc MX4_pupilHas 72 (.ifCond .ne 12) 3 75 := ⟨by decide +kernel, rfl⟩
theorem eX4_pupilHas_75 : Dc MX4_pupilHas 75 (.iload 5) 2 77 := ⟨by decide +kernel, rfl⟩
theorem eX4_pupilHas_77 : Dc MX4_pupilHas 77 (.ifCond .eq 7) 3 80 := ⟨by decide +kernel, rfl⟩
theorem eX4_pupilHas_80 : Dc MX4_pupilHas 80 (.iconst 1) 1 81 := ⟨by decide +kernel, rfl⟩
theorem eX4_pupilHas_81 : Dc MX4_pupilHas 81 (.goto 4) 3 84 := ⟨by decide +kernel, rfl⟩
theorem eX4_pupilHas_84 : Dc MX4_pupilHas 84 (.iconst 0) 1 85 := ⟨by decide +kernel, rfl⟩
theorem eX4_pupilHas_85 : Dc MX4_pupilHas 85 (.ireturn) 1 86 := ⟨by decide +kernel, rfl⟩
theorem eX4_pupilHas_86 : Dc MX4_pupilHas 86 (.iload 5) 2 88 := ⟨by decide +kernel, rfl⟩
theorem eX4_pupilHas_88 : Dc MX4_pupilHas 88 (.ifCond .eq 24) 3 91 := ⟨by decide +kernel, rfl⟩
theorem eX4_pupilHas_91 : Dc MX4_pupilHas 91 (.aload 4) 2 93 := ⟨by decide +kernel, rfl⟩
theorem eX4_pupilHas_93 : Dc MX4_pupilHas 93 (.getfield 92) 3 96 := ⟨by decide +kernel, rfl⟩
theorem eX4_pupilHas_96 : Dc MX4_pupilHas 96 (.aload_n 0) 1 97 := ⟨by decide +kernel, rfl⟩
theorem eX4_pupilHas_97 : Dc MX4_pupilHas 97 (.aload_n 3) 1 98 := ⟨by decide +kernel, rfl⟩
theorem eX4_pupilHas_98 : Dc MX4_pupilHas 98 (.aload_n 3) 1 99 := ⟨by decide +kernel, rfl⟩
theorem eX4_pupilHas_99 : Dc MX4_pupilHas 99 (.iload_n 2) 1 100 := ⟨by decide +kernel, rfl⟩
theorem eX4_pupilHas_100 : Dc MX4_pupilHas 100 (.iaload) 1 101 := ⟨by decide +kernel, rfl⟩
theorem eX4_pupilHas_101 : Dc MX4_pupilHas 101 (.invokevirtual 95) 3 104 := ⟨by decide +kernel, rfl⟩
theorem eX4_pupilHas_104 : Dc MX4_pupilHas 104 (.iand) 1 105 := ⟨by decide +kernel, rfl⟩
theorem eX4_pupilHas_105 : Dc MX4_pupilHas 105 (.ifCond .eq 7) 3 108 := ⟨by decide +kernel, rfl⟩
theorem eX4_pupilHas_108 : Dc MX4_pupilHas 108 (.iconst 1) 1 109 := ⟨by decide +kernel, rfl⟩
theorem eX4_pupilHas_109 : Dc MX4_pupilHas 109 (.goto 4) 3 112 := ⟨by decide +kernel, rfl⟩
theorem eX4_pupilHas_112 : Dc MX4_pupilHas 112 (.iconst 0) 1 113 := ⟨by decide +kernel, rfl⟩
theorem eX4_pupilHas_113 : Dc MX4_pupilHas 113 (.ireturn) 1 114 := ⟨by decide +kernel, rfl⟩
theorem eX4_firstProjectWith_0 : Dc MX4_firstProjectWith 0 (.iconst 0) 1 1 := ⟨by decide +kernel, rfl⟩
theorem eX4_firstProjectWith_1 : Dc MX4_firstProjectWith 1 (.istore_n 3) 1 2 := ⟨by decide +kernel, rfl⟩
theorem eX4_firstProjectWith_2 : Dc MX4_firstProjectWith 2 (.iload_n 3) 1 3 := ⟨by decide +kernel, rfl⟩
theorem eX4_firstProjectWith_3 : Dc MX4_firstProjectWith 3 (.aload_n 0) 1 4 := ⟨by decide +kernel, rfl⟩
theorem eX4_firstProjectWith_4 : Dc MX4_firstProjectWith 4 (.getfield 36) 3 7 := ⟨by decide +kernel, rfl⟩
theorem eX4_firstProjectWith_7 : Dc MX4_firstProjectWith 7 (.if_icmp .ge 26) 3 10 := ⟨by decide +kernel, rfl⟩
theorem eX4_firstProjectWith_10 : Dc MX4_firstProjectWith 10 (.aload_n 0) 1 11 := ⟨by decide +kernel, rfl⟩
theorem eX4_firstProjectWith_11 : Dc MX4_firstProjectWith 11 (.iload_n 1) 1 12 := ⟨by decide +kernel, rfl⟩
theorem eX4_firstProjectWith_12 : Dc MX4_firstProjectWith 12 (.iload_n 3) 1 13 := ⟨by decide +kernel, rfl⟩
theorem eX4_firstProjectWith_13 : Dc MX4_firstProjectWith 13 (.aload_n 0) 1 14 := ⟨by decide +kernel, rfl⟩
theorem eX4_firstProjectWith_14 : Dc MX4_firstProjectWith 14 (.aload_n 2) 1 15 := ⟨by decide +kernel, rfl⟩
theorem eX4_firstProjectWith_15 : Dc MX4_firstProjectWith 15 (.iload_n 3) 1 16 := ⟨by decide +kernel, rfl⟩
theorem eX4_firstProjectWith_16 : Dc MX4_firstProjectWith 16 (.invokevirtual 95) 3 19 := ⟨by decide +kernel, rfl⟩
theorem eX4_firstProjectWith_19 : Dc MX4_firstProjectWith 19 (.invokevirtual 99) 3 22 := ⟨by decide +kernel, rfl⟩
theorem eX4_firstProjectWith_22 : Dc MX4_firstProjectWith 22 (.ifCond .eq 5) 3 25 := ⟨by decide +kernel, rfl⟩
theorem eX4_firstProjectWith_25 : Dc MX4_firstProjectWith 25 (.iload_n 3) 1 26 := ⟨by decide +kernel, rfl⟩
theorem eX4_firstProjectWith_26 : Dc MX4_firstProjectWith 26 (.ireturn) 1 27 := ⟨by decide +kernel, rfl⟩
theorem eX4_firstProjectWith_27 : Dc MX4_firstProjectWith 27 (.iinc 3 1) 3 30 := ⟨by decide +kernel, rfl⟩
theorem eX4_firstProjectWith_30 : Dc MX4_firstProjectWith 30 (.goto (-28)) 3 33 := ⟨by decide +kernel, rfl⟩
theorem eX4_firstProjectWith_33 : Dc MX4_firstProjectWith 33 (.iconst (-1)) 1 34 := ⟨by decide +kernel, rfl⟩
theorem eX4_firstProjectWith_34 : Dc MX4_firstProjectWith 34 (.ireturn) 1 35 := ⟨by decide +kernel, rfl⟩
theorem eX4_groupHas_0 : Dc MX4_groupHas 0 (.aload_n 0) 1 1 := ⟨by decide +kernel, rfl⟩
theorem eX4_groupHas_1 : Dc MX4_groupHas 1 (.getfield 19) 3 4 := ⟨by decide +kernel, rfl⟩
theorem eX4_groupHas_4 : Dc MX4_groupHas 4 (.iload_n 2) 1 5 := ⟨by decide +kernel, rfl⟩
theorem eX4_groupHas_5 : Dc MX4_groupHas 5 (.aaload) 1 6 := ⟨by decide +kernel, rfl⟩
theorem eX4_groupHas_6 : Dc MX4_groupHas 6 (.astore 4) 2 8 := ⟨by decide +kernel, rfl⟩
theorem eX4_groupHas_8 : Dc MX4_groupHas 8 (.iload_n 3) 1 9 := ⟨by decide +kernel, rfl⟩
theorem eX4_groupHas_9 : Dc MX4_groupHas 9 (.ifCond .ne 5) 3 12 := ⟨by decide +kernel, rfl⟩
theorem eX4_groupHas_12 : Dc MX4_groupHas 12 (.iconst 0) 1 13 := ⟨by decide +kernel, rfl⟩
theorem eX4_groupHas_13 : Dc MX4_groupHas 13 (.ireturn) 1 14 := ⟨by decide +kernel, rfl⟩
theorem eX4_groupHas_14 : Dc MX4_groupHas 14 (.iload_n 1) 1 15 := ⟨by decide +kernel, rfl⟩
theorem eX4_groupHas_15 : Dc MX4_groupHas 15 (.tableswitch 64 3 5 #[25, 39, 57]) 25 40 := ⟨by decide +kernel, rfl⟩
theorem eX4_groupHas_40 : Dc MX4_groupHas 40 (.aload 4) 2 42 := ⟨by decide +kernel, rfl⟩
theorem eX4_groupHas_42 : Dc MX4_groupHas 42 (.getfield 73) 3 45 := ⟨by decide +kernel, rfl⟩
theorem eX4_groupHas_45 : Dc MX4_groupHas 45 (.ifCond .ne 7) 3 48 := ⟨by decide +kernel, rfl⟩
theorem eX4_groupHas_48 : Dc MX4_groupHas 48 (.iconst 1) 1 49 := ⟨by decide +kernel, rfl⟩
theorem eX4_groupHas_49 : Dc MX4_groupHas 49 (.goto 4) 3 52 := ⟨by decide +kernel, rfl⟩
theorem eX4_groupHas_52 : Dc MX4_groupHas 52 (.iconst 0) 1 53 := ⟨by decide +kernel, rfl⟩
theorem eX4_groupHas_53 : Dc MX4_groupHas 53 (.ireturn) 1 54 := ⟨by decide +kernel, rfl⟩
theorem eX4_groupHas_54 : Dc MX4_groupHas 54 (.aload 4) 2 56 := ⟨by decide +kernel, rfl⟩
theorem eX4_groupHas_56 : Dc MX4_groupHas 56 (.iload_n 3) 1 57 := ⟨by decide +kernel, rfl⟩
theorem eX4_groupHas_57 : Dc MX4_groupHas 57 (.invokestatic 103) 3 60 := ⟨by decide +kernel, rfl⟩
theorem eX4_groupHas_60 : Dc MX4_groupHas 60 (.invokevirtual 109) 3 63 := ⟨by decide +kernel, rfl⟩
theorem eX4_groupHas_63 : Dc MX4_groupHas 63 (.ifCond .ne 7) 3 66 := ⟨by decide +kernel, rfl⟩
theorem eX4_groupHas_66 : Dc MX4_groupHas 66 (.iconst 1) 1 67 := ⟨by decide +kernel, rfl⟩
theorem eX4_groupHas_67 : Dc MX4_groupHas 67 (.goto 4) 3 70 := ⟨by decide +kernel, rfl⟩
theorem eX4_groupHas_70 : Dc MX4_groupHas 70 (.iconst 0) 1 71 := ⟨by decide +kernel, rfl⟩
theorem eX4_groupHas_71 : Dc MX4_groupHas 71 (.ireturn) 1 72 := ⟨by decide +kernel, rfl⟩
theorem eX4_groupHas_72 : Dc MX4_groupHas 72 (.aload 4) 2 74 := ⟨by decide +kernel, rfl⟩
theorem eX4_groupHas_74 : Dc MX4_groupHas 74 (.iload_n 3) 1 75 := ⟨by decide +kernel, rfl⟩
theorem eX4_groupHas_75 : Dc MX4_groupHas 75 (.invokevirtual 112) 3 78 := ⟨by decide +kernel, rfl⟩
theorem eX4_groupHas_78 : Dc MX4_groupHas 78 (.ireturn) 1 79 := ⟨by decide +kernel, rfl⟩
theorem eX4_groupHas_79 : Dc MX4_groupHas 79 (.aload_n 0) 1 80 := ⟨by decide +kernel, rfl⟩
theorem eX4_groupHas_80 : Dc MX4_groupHas 80 (.aload 4) 2 82 := ⟨by decide +kernel, rfl⟩
theorem eX4_groupHas_82 : Dc MX4_groupHas 82 (.iload_n 3) 1 83 := ⟨by decide +kernel, rfl⟩
theorem eX4_groupHas_83 : Dc MX4_groupHas 83 (.invokevirtual 115) 3 86 := ⟨by decide +kernel, rfl⟩
theorem eX4_groupHas_86 : Dc MX4_groupHas 86 (.ireturn) 1 87 := ⟨by decide +kernel, rfl⟩
theorem eX4_lacksSkill_0 : Dc MX4_lacksSkill 0 (.iconst 0) 1 1 := ⟨by decide +kernel, rfl⟩
theorem eX4_lacksSkill_1 : Dc MX4_lacksSkill 1 (.istore_n 3) 1 2 := ⟨by decide +kernel, rfl⟩
theorem eX4_lacksSkill_2 : Dc MX4_lacksSkill 2 (.iconst 0) 1 3 := ⟨by decide +kernel, rfl⟩
theorem eX4_lacksSkill_3 : Dc MX4_lacksSkill 3 (.istore 4) 2 5 := ⟨by decide +kernel, rfl⟩
theorem eX4_lacksSkill_5 : Dc MX4_lacksSkill 5 (.iconst 0) 1 6 := ⟨by decide +kernel, rfl⟩
theorem eX4_lacksSkill_6 : Dc MX4_lacksSkill 6 (.istore 5) 2 8 := ⟨by decide +kernel, rfl⟩
theorem eX4_lacksSkill_8 : Dc MX4_lacksSkill 8 (.iload 5) 2 10 := ⟨by decide +kernel, rfl⟩
theorem eX4_lacksSkill_10 : Dc MX4_lacksSkill 10 (.aload_n 0) 1 11 := ⟨by decide +kernel, rfl⟩
theorem eX4_lacksSkill_11 : Dc MX4_lacksSkill 11 (.getfield 29) 3 14 := ⟨by decide +kernel, rfl⟩
theorem eX4_lacksSkill_14 : Dc MX4_lacksSkill 14 (.if_icmp .ge 48) 3 17 := ⟨by decide +kernel, rfl⟩
theorem eX4_lacksSkill_17 : Dc MX4_lacksSkill 17 (.iload_n 2) 1 18 := ⟨by decide +kernel, rfl⟩
theorem eX4_lacksSkill_18 : Dc MX4_lacksSkill 18 (.iload 5) 2 20 := ⟨by decide +kernel, rfl⟩
theorem eX4_lacksSkill_20 : Dc MX4_lacksSkill 20 (.ishr) 1 21 := ⟨by decide +kernel, rfl⟩
theorem eX4_lacksSkill_21 : Dc MX4_lacksSkill 21 (.iconst 1) 1 22 := ⟨by decide +kernel, rfl⟩
theorem eX4_lacksSkill_22 : Dc MX4_lacksSkill 22 (.iand) 1 23 := ⟨by decide +kernel, rfl⟩
theorem eX4_lacksSkill_23 : Dc MX4_lacksSkill 23 (.ifCond .eq 33) 3 26 := ⟨by decide +kernel, rfl⟩
theorem eX4_lacksSkill_26 : Dc MX4_lacksSkill 26 (.iload 4) 2 28 := ⟨by decide +kernel, rfl⟩
theorem eX4_lacksSkill_28 : Dc MX4_lacksSkill 28 (.iload_n 3) 1 29 := ⟨by decide +kernel, rfl⟩
theorem eX4_lacksSkill_29 : Dc MX4_lacksSkill 29 (.aload_n 0) 1 30 := ⟨by decide +kernel, rfl⟩
theorem eX4_lacksSkill_30 : Dc MX4_lacksSkill 30 (.getfield 11) 3 33 := ⟨by decide +kernel, rfl⟩
theorem eX4_lacksSkill_33 : Dc MX4_lacksSkill 33 (.iload 5) 2 35 := ⟨by decide +kernel, rfl⟩
theorem eX4_lacksSkill_35 : Dc MX4_lacksSkill 35 (.aaload) 1 36 := ⟨by decide +kernel, rfl⟩
theorem eX4_lacksSkill_36 : Dc MX4_lacksSkill 36 (.getfield 33) 3 39 := ⟨by decide +kernel, rfl⟩
theorem eX4_lacksSkill_39 : Dc MX4_lacksSkill 39 (.iand) 1 40 := ⟨by decide +kernel, rfl⟩
theorem eX4_lacksSkill_40 : Dc MX4_lacksSkill 40 (.ior) 1 41 := ⟨by decide +kernel, rfl⟩
theorem eX4_lacksSkill_41 : Dc MX4_lacksSkill 41 (.istore 4) 2 43 := ⟨by decide +kernel, rfl⟩
theorem eX4_lacksSkill_43 : Dc MX4_lacksSkill 43 (.iload_n 3) 1 44 := ⟨by decide +kernel, rfl⟩
theorem eX4_lacksSkill_44 : Dc MX4_lacksSkill 44 (.aload_n 0) 1 45 := ⟨by decide +kernel, rfl⟩
theorem eX4_lacksSkill_45 : Dc MX4_lacksSkill 45 (.getfield 11) 3 48 := ⟨by decide +kernel, rfl⟩
theorem eX4_lacksSkill_48 : Dc MX4_lacksSkill 48 (.iload 5) 2 50 := ⟨by decide +kernel, rfl⟩
theorem eX4_lacksSkill_50 : Dc MX4_lacksSkill 50 (.aaload) 1 51 := ⟨by decide +kernel, rfl⟩
theorem eX4_lacksSkill_51 : Dc MX4_lacksSkill 51 (.getfield 33) 3 54 := ⟨by decide +kernel, rfl⟩
theorem eX4_lacksSkill_54 : Dc MX4_lacksSkill 54 (.ior) 1 55 := ⟨by decide +kernel, rfl⟩
theorem eX4_lacksSkill_55 : Dc MX4_lacksSkill 55 (.istore_n 3) 1 56 := ⟨by decide +kernel, rfl⟩
theorem eX4_lacksSkill_56 : Dc MX4_lacksSkill 56 (.iinc 5 1) 3 59 := ⟨by decide +kernel, rfl⟩
theorem eX4_lacksSkill_59 : Dc MX4_lacksSkill 59 (.goto (-51)) 3 62 := ⟨by decide +kernel, rfl⟩
theorem eX4_lacksSkill_62 : Dc MX4_lacksSkill 62 (.aload_n 1) 1 63 := ⟨by decide +kernel, rfl⟩
theorem eX4_lacksSkill_63 : Dc MX4_lacksSkill 63 (.iload_n 2) 1 64 := ⟨by decide +kernel, rfl⟩
theorem eX4_lacksSkill_64 : Dc MX4_lacksSkill 64 (.invokestatic 103) 3 67 := ⟨by decide +kernel, rfl⟩
theorem eX4_lacksSkill_67 : Dc MX4_lacksSkill 67 (.invokevirtual 119) 3 70 := ⟨by decide +kernel, rfl⟩
theorem eX4_lacksSkill_70 : Dc MX4_lacksSkill 70 (.ifCond .eq 8) 3 73 := ⟨by decide +kernel, rfl⟩
theorem eX4_lacksSkill_73 : Dc MX4_lacksSkill 73 (.iload 4) 2 75 := ⟨by decide +kernel, rfl⟩
theorem eX4_lacksSkill_75 : Dc MX4_lacksSkill 75 (.goto 4) 3 78 := ⟨by decide +kernel, rfl⟩
theorem eX4_lacksSkill_78 : Dc MX4_lacksSkill 78 (.iload_n 3) 1 79 := ⟨by decide +kernel, rfl⟩
theorem eX4_lacksSkill_79 : Dc MX4_lacksSkill 79 (.istore 5) 2 81 := ⟨by decide +kernel, rfl⟩
theorem eX4_lacksSkill_81 : Dc MX4_lacksSkill 81 (.aload_n 1) 1 82 := ⟨by decide +kernel, rfl⟩
theorem eX4_lacksSkill_82 : Dc MX4_lacksSkill 82 (.getfield 48) 3 85 := ⟨by decide +kernel, rfl⟩
theorem eX4_lacksSkill_85 : Dc MX4_lacksSkill 85 (.iload 5) 2 87 := ⟨by decide +kernel, rfl⟩
theorem eX4_lacksSkill_87 : Dc MX4_lacksSkill 87 (.iconst (-1)) 1 88 := ⟨by decide +kernel, rfl⟩
theorem eX4_lacksSkill_88 : Dc MX4_lacksSkill 88 (.ixor) 1 89 := ⟨by decide +kernel, rfl⟩
theorem eX4_lacksSkill_89 : Dc MX4_lacksSkill 89 (.iand) 1 90 := ⟨by decide +kernel, rfl⟩
theorem eX4_lacksSkill_90 : Dc MX4_lacksSkill 90 (.ifCond .eq 7) 3 93 := ⟨by decide +kernel, rfl⟩
theorem eX4_lacksSkill_93 : Dc MX4_lacksSkill 93 (.iconst 1) 1 94 := ⟨by decide +kernel, rfl⟩
theorem eX4_lacksSkill_94 : Dc MX4_lacksSkill 94 (.goto 4) 3 97 := ⟨by decide +kernel, rfl⟩
theorem eX4_lacksSkill_97 : Dc MX4_lacksSkill 97 (.iconst 0) 1 98 := ⟨by decide +kernel, rfl⟩
theorem eX4_lacksSkill_98 : Dc MX4_lacksSkill 98 (.ireturn) 1 99 := ⟨by decide +kernel, rfl⟩
theorem eX4_groupOf_0 : Dc MX4_groupOf 0 (.iconst 0) 1 1 := ⟨by decide +kernel, rfl⟩
theorem eX4_groupOf_1 : Dc MX4_groupOf 1 (.istore_n 3) 1 2 := ⟨by decide +kernel, rfl⟩
theorem eX4_groupOf_2 : Dc MX4_groupOf 2 (.iconst 0) 1 3 := ⟨by decide +kernel, rfl⟩
theorem eX4_groupOf_3 : Dc MX4_groupOf 3 (.istore 4) 2 5 := ⟨by decide +kernel, rfl⟩
theorem eX4_groupOf_5 : Dc MX4_groupOf 5 (.iload 4) 2 7 := ⟨by decide +kernel, rfl⟩
theorem eX4_groupOf_7 : Dc MX4_groupOf 7 (.aload_n 0) 1 8 := ⟨by decide +kernel, rfl⟩
theorem eX4_groupOf_8 : Dc MX4_groupOf 8 (.getfield 29) 3 11 := ⟨by decide +kernel, rfl⟩
theorem eX4_groupOf_11 : Dc MX4_groupOf 11 (.if_icmp .ge 24) 3 14 := ⟨by decide +kernel, rfl⟩
theorem eX4_groupOf_14 : Dc MX4_groupOf 14 (.aload_n 1) 1 15 := ⟨by decide +kernel, rfl⟩
theorem eX4_groupOf_15 : Dc MX4_groupOf 15 (.iload 4) 2 17 := ⟨by decide +kernel, rfl⟩
theorem eX4_groupOf_17 : Dc MX4_groupOf 17 (.iaload) 1 18 := ⟨by decide +kernel, rfl⟩
theorem eX4_groupOf_18 : Dc MX4_groupOf 18 (.iload_n 2) 1 19 := ⟨by decide +kernel, rfl⟩
theorem eX4_groupOf_19 : Dc MX4_groupOf 19 (.if_icmp .ne 10) 3 22 := ⟨by decide +kernel, rfl⟩
theorem eX4_groupOf_22 : Dc MX4_groupOf 22 (.iload_n 3) 1 23 := ⟨by decide +kernel, rfl⟩
theorem eX4_groupOf_23 : Dc MX4_groupOf 23 (.iconst 1) 1 24 := ⟨by decide +kernel, rfl⟩
theorem eX4_groupOf_24 : Dc MX4_groupOf 24 (.iload 4) 2 26 := ⟨by decide +kernel, rfl⟩
theorem eX4_groupOf_26 : Dc MX4_groupOf 26 (.ishl) 1 27 := ⟨by decide +kernel, rfl⟩
theorem eX4_groupOf_27 : Dc MX4_groupOf 27 (.ior) 1 28 := ⟨by decide +kernel, rfl⟩
theorem eX4_groupOf_28 : Dc MX4_groupOf 28 (.istore_n 3) 1 29 := ⟨by decide +kernel, rfl⟩
theorem eX4_groupOf_29 : Dc MX4_groupOf 29 (.iinc 4 1) 3 32 := ⟨by decide +kernel, rfl⟩
theorem eX4_groupOf_32 : Dc MX4_groupOf 32 (.goto (-27)) 3 35 := ⟨by decide +kernel, rfl⟩
theorem eX4_groupOf_35 : Dc MX4_groupOf 35 (.iload_n 3) 1 36 := ⟨by decide +kernel, rfl⟩
theorem eX4_groupOf_36 : Dc MX4_groupOf 36 (.ireturn) 1 37 := ⟨by decide +kernel, rfl⟩
theorem eX4_allows_0 : Dc MX4_allows 0 (.iconst 3) 1 1 := ⟨by decide +kernel, rfl⟩
theorem eX4_allows_1 : Dc MX4_allows 1 (.istore_n 3) 1 2 := ⟨by decide +kernel, rfl⟩
theorem eX4_allows_2 : Dc MX4_allows 2 (.iload_n 3) 1 3 := ⟨by decide +kernel, rfl⟩
theorem eX4_allows_3 : Dc MX4_allows 3 (.bipush 6) 2 5 := ⟨by decide +kernel, rfl⟩
theorem eX4_allows_5 : Dc MX4_allows 5 (.if_icmp .gt 21) 3 8 := ⟨by decide +kernel, rfl⟩
theorem eX4_allows_8 : Dc MX4_allows 8 (.aload_n 0) 1 9 := ⟨by decide +kernel, rfl⟩
theorem eX4_allows_9 : Dc MX4_allows 9 (.iload_n 3) 1 10 := ⟨by decide +kernel, rfl⟩
theorem eX4_allows_10 : Dc MX4_allows 10 (.iload_n 1) 1 11 := ⟨by decide +kernel, rfl⟩
theorem eX4_allows_11 : Dc MX4_allows 11 (.iload_n 2) 1 12 := ⟨by decide +kernel, rfl⟩
theorem eX4_allows_12 : Dc MX4_allows 12 (.invokevirtual 99) 3 15 := ⟨by decide +kernel, rfl⟩
theorem eX4_allows_15 : Dc MX4_allows 15 (.ifCond .eq 5) 3 18 := ⟨by decide +kernel, rfl⟩
theorem eX4_allows_18 : Dc MX4_allows 18 (.iconst 0) 1 19 := ⟨by decide +kernel, rfl⟩
theorem eX4_allows_19 : Dc MX4_allows 19 (.ireturn) 1 20 := ⟨by decide +kernel, rfl⟩
theorem eX4_allows_20 : Dc MX4_allows 20 (.iinc 3 1) 3 23 := ⟨by decide +kernel, rfl⟩
theorem eX4_allows_23 : Dc MX4_allows 23 (.goto (-21)) 3 26 := ⟨by decide +kernel, rfl⟩
theorem eX4_allows_26 : Dc MX4_allows 26 (.iconst 0) 1 27 := ⟨by decide +kernel, rfl⟩
theorem eX4_allows_27 : Dc MX4_allows 27 (.istore_n 3) 1 28 := ⟨by decide +kernel, rfl⟩
theorem eX4_allows_28 : Dc MX4_allows 28 (.iload_n 3) 1 29 := ⟨by decide +kernel, rfl⟩
theorem eX4_allows_29 : Dc MX4_allows 29 (.aload_n 0) 1 30 := ⟨by decide +kernel, rfl⟩
theorem eX4_allows_30 : Dc MX4_allows 30 (.getfield 29) 3 33 := ⟨by decide +kernel, rfl⟩
theorem eX4_allows_33 : Dc MX4_allows 33 (.if_icmp .ge 33) 3 36 := ⟨by decide +kernel, rfl⟩
theorem eX4_allows_36 : Dc MX4_allows 36 (.iload_n 2) 1 37 := ⟨by decide +kernel, rfl⟩
theorem eX4_allows_37 : Dc MX4_allows 37 (.iload_n 3) 1 38 := ⟨by decide +kernel, rfl⟩
theorem eX4_allows_38 : Dc MX4_allows 38 (.ishr) 1 39 := ⟨by decide +kernel, rfl⟩
theorem eX4_allows_39 : Dc MX4_allows 39 (.iconst 1) 1 40 := ⟨by decide +kernel, rfl⟩
theorem eX4_allows_40 : Dc MX4_allows 40 (.iand) 1 41 := ⟨by decide +kernel, rfl⟩
theorem eX4_allows_41 : Dc MX4_allows 41 (.ifCond .eq 19) 3 44 := ⟨by decide +kernel, rfl⟩
theorem eX4_allows_44 : Dc MX4_allows 44 (.aload_n 0) 1 45 := ⟨by decide +kernel, rfl⟩
theorem eX4_allows_45 : Dc MX4_allows 45 (.getfield 11) 3 48 := ⟨by decide +kernel, rfl⟩
theorem eX4_allows_48 : Dc MX4_allows 48 (.iload_n 3) 1 49 := ⟨by decide +kernel, rfl⟩
theorem eX4_allows_49 : Dc MX4_allows 49 (.aaload) 1 50 := ⟨by decide +kernel, rfl⟩
theorem eX4_allows_50 : Dc MX4_allows 50 (.getfield 92) 3 53 := ⟨by decide +kernel, rfl⟩
theorem eX4_allows_53 : Dc MX4_allows 53 (.iload_n 2) 1 54 := ⟨by decide +kernel, rfl⟩
theorem eX4_allows_54 : Dc MX4_allows 54 (.iand) 1 55 := ⟨by decide +kernel, rfl⟩
theorem eX4_allows_55 : Dc MX4_allows 55 (.ifCond .eq 5) 3 58 := ⟨by decide +kernel, rfl⟩
theorem eX4_allows_58 : Dc MX4_allows 58 (.iconst 0) 1 59 := ⟨by decide +kernel, rfl⟩
theorem eX4_allows_59 : Dc MX4_allows 59 (.ireturn) 1 60 := ⟨by decide +kernel, rfl⟩
theorem eX4_allows_60 : Dc MX4_allows 60 (.iinc 3 1) 3 63 := ⟨by decide +kernel, rfl⟩
theorem eX4_allows_63 : Dc MX4_allows 63 (.goto (-35)) 3 66 := ⟨by decide +kernel, rfl⟩
theorem eX4_allows_66 : Dc MX4_allows 66 (.iconst 1) 1 67 := ⟨by decide +kernel, rfl⟩
theorem eX4_allows_67 : Dc MX4_allows 67 (.ireturn) 1 68 := ⟨by decide +kernel, rfl⟩
end
section
-- decode rows of X5
theorem eX5_init_0 : Dc MX5_init 0 (.aload_n 0) 1 1 := ⟨by decide +kernel, rfl⟩
theorem eX5_init_1 : Dc MX5_init 1 (.invokespecial 5) 3 4 := ⟨by decide +kernel, rfl⟩
theorem eX5_init_4 : Dc MX5_init 4 (.aload_n 0) 1 5 := ⟨by decide +kernel, rfl⟩
theorem eX5_init_5 : Dc MX5_init 5 (.bipush 48) 2 7 := ⟨by decide +kernel, rfl⟩
theorem eX5_init_7 : Dc MX5_init 7 (.newarray .long) 2 9 := ⟨by decide +kernel, rfl⟩
theorem eX5_init_9 : Dc MX5_init 9 (.putfield 11) 3 12 := ⟨by decide +kernel, rfl⟩
theorem eX5_init_12 : Dc MX5_init 12 (.aload_n 0) 1 13 := ⟨by decide +kernel, rfl⟩
theorem eX5_init_13 : Dc MX5_init 13 (.bipush 48) 2 15 := ⟨by decide +kernel, rfl⟩
theorem eX5_init_15 : Dc MX5_init 15 (.newarray .long) 2 17 := ⟨by decide +kernel, rfl⟩
theorem eX5_init_17 : Dc MX5_init 17 (.putfield 15) 3 20 := ⟨by decide +kernel, rfl⟩
theorem eX5_init_20 : Dc MX5_init 20 (.return_) 1 21 := ⟨by decide +kernel, rfl⟩
theorem eX5_fill_0 : Dc MX5_fill 0 (.iconst 0) 1 1 := ⟨by decide +kernel, rfl⟩
theorem eX5_fill_1 : Dc MX5_fill 1 (.istore_n 2) 1 2 := ⟨by decide +kernel, rfl⟩
theorem eX5_fill_2 : Dc MX5_fill 2 (.iload_n 2) 1 3 := ⟨by decide +kernel, rfl⟩
theorem eX5_fill_3 : Dc MX5_fill 3 (.aload_n 1) 1 4 := ⟨by decide +kernel, rfl⟩
theorem eX5_fill_4 : Dc MX5_fill 4 (.getfield 18) 3 7 := ⟨by decide +kernel, rfl⟩
theorem eX5_fill_7 : Dc MX5_fill 7 (.if_icmp .ge 37) 3 10 := ⟨by decide +kernel, rfl⟩
theorem eX5_fill_10 : Dc MX5_fill 10 (.aload_n 1) 1 11 := ⟨by decide +kernel, rfl⟩
theorem eX5_fill_11 : Dc MX5_fill 11 (.iload_n 2) 1 12 := ⟨by decide +kernel, rfl⟩
theorem eX5_fill_12 : Dc MX5_fill 12 (.invokevirtual 24) 3 15 := ⟨by decide +kernel, rfl⟩
theorem eX5_fill_15 : Dc MX5_fill 15 (.astore_n 3) 1 16 := ⟨by decide +kernel, rfl⟩
theorem eX5_fill_16 : Dc MX5_fill 16 (.aload_n 3) 1 17 := ⟨by decide +kernel, rfl⟩
theorem eX5_fill_17 : Dc MX5_fill 17 (.ifnull 21) 3 20 := ⟨by decide +kernel, rfl⟩
theorem eX5_fill_20 : Dc MX5_fill 20 (.aload_n 0) 1 21 := ⟨by decide +kernel, rfl⟩
theorem eX5_fill_21 : Dc MX5_fill 21 (.iload_n 2) 1 22 := ⟨by decide +kernel, rfl⟩
theorem eX5_fill_22 : Dc MX5_fill 22 (.aload_n 1) 1 23 := ⟨by decide +kernel, rfl⟩
theorem eX5_fill_23 : Dc MX5_fill 23 (.iload_n 2) 1 24 := ⟨by decide +kernel, rfl⟩
theorem eX5_fill_24 : Dc MX5_fill 24 (.invokevirtual 28) 3 27 := ⟨by decide +kernel, rfl⟩
theorem eX5_fill_27 : Dc MX5_fill 27 (.aload_n 3) 1 28 := ⟨by decide +kernel, rfl⟩
theorem eX5_fill_28 : Dc MX5_fill 28 (.getfield 32) 3 31 := ⟨by decide +kernel, rfl⟩
theorem eX5_fill_31 : Dc MX5_fill 31 (.aload_n 3) 1 32 := ⟨by decide +kernel, rfl⟩
theorem eX5_fill_32 : Dc MX5_fill 32 (.getfield 37) 3 35 := ⟨by decide +kernel, rfl⟩
theorem eX5_fill_35 : Dc MX5_fill 35 (.invokevirtual 41) 3 38 := ⟨by decide +kernel, rfl⟩
theorem eX5_fill_38 : Dc MX5_fill 38 (.iinc 2 1) 3 41 := ⟨by decide +kernel, rfl⟩
theorem eX5_fill_41 : Dc MX5_fill 41 (.goto (-39)) 3 44 := ⟨by decide +kernel, rfl⟩
theorem eX5_fill_44 : Dc MX5_fill 44 (.return_) 1 45 := ⟨by decide +kernel, rfl⟩
theorem eX5_fillPupil_0 : Dc MX5_fillPupil 0 (.iconst 0) 1 1 := ⟨by decide +kernel, rfl⟩
theorem eX5_fillPupil_1 : Dc MX5_fillPupil 1 (.istore 5) 2 3 := ⟨by decide +kernel, rfl⟩
theorem eX5_fillPupil_3 : Dc MX5_fillPupil 3 (.iload 5) 2 5 := ⟨by decide +kernel, rfl⟩
theorem eX5_fillPupil_5 : Dc MX5_fillPupil 5 (.bipush 6) 2 7 := ⟨by decide +kernel, rfl⟩
theorem eX5_fillPupil_7 : Dc MX5_fillPupil 7 (.if_icmp .ge 77) 3 10 := ⟨by decide +kernel, rfl⟩
theorem eX5_fillPupil_10 : Dc MX5_fillPupil 10 (.iload 5) 2 12 := ⟨by decide +kernel, rfl⟩
theorem eX5_fillPupil_12 : Dc MX5_fillPupil 12 (.aload 4) 2 14 := ⟨by decide +kernel, rfl⟩
theorem eX5_fillPupil_14 : Dc MX5_fillPupil 14 (.arraylength) 1 15 := ⟨by decide +kernel, rfl⟩
theorem eX5_fillPupil_15 : Dc MX5_fillPupil 15 (.if_icmp .ge 11) 3 18 := ⟨by decide +kernel, rfl⟩
theorem eX5_fillPupil_18 : Dc MX5_fillPupil 18 (.aload 4) 2 20 := ⟨by decide +kernel, rfl⟩
theorem eX5_fillPupil_20 : Dc MX5_fillPupil 20 (.iload 5) 2 22 := ⟨by decide +kernel, rfl⟩
theorem eX5_fillPupil_22 : Dc MX5_fillPupil 22 (.iaload) 1 23 := ⟨by decide +kernel, rfl⟩
theorem eX5_fillPupil_23 : Dc MX5_fillPupil 23 (.goto 5) 3 26 := ⟨by decide +kernel, rfl⟩
theorem eX5_fillPupil_26 : Dc MX5_fillPupil 26 (.bipush 6) 2 28 := ⟨by decide +kernel, rfl⟩
theorem eX5_fillPupil_28 : Dc MX5_fillPupil 28 (.istore 6) 2 30 := ⟨by decide +kernel, rfl⟩
theorem eX5_fillPupil_30 : Dc MX5_fillPupil 30 (.iload 6) 2 32 := ⟨by decide +kernel, rfl⟩
theorem eX5_fillPupil_32 : Dc MX5_fillPupil 32 (.iconst 3) 1 33 := ⟨by decide +kernel, rfl⟩
theorem eX5_fillPupil_33 : Dc MX5_fillPupil 33 (.ishl) 1 34 := ⟨by decide +kernel, rfl⟩
theorem eX5_fillPupil_34 : Dc MX5_fillPupil 34 (.iload 5) 2 36 := ⟨by decide +kernel, rfl⟩
theorem eX5_fillPupil_36 : Dc MX5_fillPupil 36 (.ior) 1 37 := ⟨by decide +kernel, rfl⟩
theorem eX5_fillPupil_37 : Dc MX5_fillPupil 37 (.i2l) 1 38 := ⟨by decide +kernel, rfl⟩
theorem eX5_fillPupil_38 : Dc MX5_fillPupil 38 (.lstore 7) 2 40 := ⟨by decide +kernel, rfl⟩
theorem eX5_fillPupil_40 : Dc MX5_fillPupil 40 (.iload_n 1) 1 41 := ⟨by decide +kernel, rfl⟩
theorem eX5_fillPupil_41 : Dc MX5_fillPupil 41 (.iload 5) 2 43 := ⟨by decide +kernel, rfl⟩
theorem eX5_fillPupil_43 : Dc MX5_fillPupil 43 (.invokestatic 45) 3 46 := ⟨by decide +kernel, rfl⟩
theorem eX5_fillPupil_46 : Dc MX5_fillPupil 46 (.istore 9) 2 48 := ⟨by decide +kernel, rfl⟩
theorem eX5_fillPupil_48 : Dc MX5_fillPupil 48 (.aload_n 0) 1 49 := ⟨by decide +kernel, rfl⟩
theorem eX5_fillPupil_49 : Dc MX5_fillPupil 49 (.getfield 11) 3 52 := ⟨by decide +kernel, rfl⟩
theorem eX5_fillPupil_52 : Dc MX5_fillPupil 52 (.iload 9) 2 54 := ⟨by decide +kernel, rfl⟩
theorem eX5_fillPupil_54 : Dc MX5_fillPupil 54 (.iload 6) 2 56 := ⟨by decide +kernel, rfl⟩
theorem eX5_fillPupil_56 : Dc MX5_fillPupil 56 (.iload_n 3) 1 57 := ⟨by decide +kernel, rfl⟩
theorem eX5_fillPupil_57 : Dc MX5_fillPupil 57 (.invokestatic 49) 3 60 := ⟨by decide +kernel, rfl⟩
theorem eX5_fillPupil_60 : Dc MX5_fillPupil 60 (.lastore) 1 61 := ⟨by decide +kernel, rfl⟩
theorem eX5_fillPupil_61 : Dc MX5_fillPupil 61 (.aload_n 0) 1 62 := ⟨by decide +kernel, rfl⟩
theorem eX5_fillPupil_62 : Dc MX5_fillPupil 62 (.getfield 15) 3 65 := ⟨by decide +kernel, rfl⟩
theorem eX5_fillPupil_65 : Dc MX5_fillPupil 65 (.iload 9) 2 67 := ⟨by decide +kernel, rfl⟩
theorem eX5_fillPupil_67 : Dc MX5_fillPupil 67 (.lload 7) 2 69 := ⟨by decide +kernel, rfl⟩
theorem eX5_fillPupil_69 : Dc MX5_fillPupil 69 (.bipush 6) 2 71 := ⟨by decide +kernel, rfl⟩
theorem eX5_fillPupil_71 : Dc MX5_fillPupil 71 (.bipush 7) 2 73 := ⟨by decide +kernel, rfl⟩
theorem eX5_fillPupil_73 : Dc MX5_fillPupil 73 (.iload_n 2) 1 74 := ⟨by decide +kernel, rfl⟩
theorem eX5_fillPupil_74 : Dc MX5_fillPupil 74 (.isub) 1 75 := ⟨by decide +kernel, rfl⟩
theorem eX5_fillPupil_75 : Dc MX5_fillPupil 75 (.imul) 1 76 := ⟨by decide +kernel, rfl⟩
theorem eX5_fillPupil_76 : Dc MX5_fillPupil 76 (.lshl) 1 77 := ⟨by decide +kernel, rfl⟩
theorem eX5_fillPupil_77 : Dc MX5_fillPupil 77 (.lastore) 1 78 := ⟨by decide +kernel, rfl⟩
theorem eX5_fillPupil_78 : Dc MX5_fillPupil 78 (.iinc 5 1) 3 81 := ⟨by decide +kernel, rfl⟩
theorem eX5_fillPupil_81 : Dc MX5_fillPupil 81 (.goto (-78)) 3 84 := ⟨by decide +kernel, rfl⟩
theorem eX5_fillPupil_84 : Dc MX5_fillPupil 84 (.return_) 1 85 := ⟨by decide +kernel, rfl⟩
theorem eX5_costOfRank_0 : Dc MX5_costOfRank 0 (.iload_n 0) 1 1 := ⟨by decide +kernel, rfl⟩
theorem eX5_costOfRank_1 : Dc MX5_costOfRank 1 (.i2l) 1 2 := ⟨by decide +kernel, rfl⟩
theorem eX5_costOfRank_2 : Dc MX5_costOfRank 2 (.iload_n 1) 1 3 := ⟨by decide +kernel, rfl⟩
theorem eX5_costOfRank_3 : Dc MX5_costOfRank 3 (.iconst 1) 1 4 := ⟨by decide +kernel, rfl⟩
theorem eX5_costOfRank_4 : Dc MX5_costOfRank 4 (.iadd) 1 5 := ⟨by decide +kernel, rfl⟩
theorem eX5_costOfRank_5 : Dc MX5_costOfRank 5 (.i2l) 1 6 := ⟨by decide +kernel, rfl⟩
theorem eX5_costOfRank_6 : Dc MX5_costOfRank 6 (.lmul) 1 7 := ⟨by decide +kernel, rfl⟩
theorem eX5_costOfRank_7 : Dc MX5_costOfRank 7 (.iconst 5) 1 8 := ⟨by decide +kernel, rfl⟩
theorem eX5_costOfRank_8 : Dc MX5_costOfRank 8 (.lshl) 1 9 := ⟨by decide +kernel, rfl⟩
theorem eX5_costOfRank_9 : Dc MX5_costOfRank 9 (.lstore_n 2) 1 10 := ⟨by decide +kernel, rfl⟩
theorem eX5_costOfRank_10 : Dc MX5_costOfRank 10 (.iload_n 0) 1 11 := ⟨by decide +kernel, rfl⟩
theorem eX5_costOfRank_11 : Dc MX5_costOfRank 11 (.iconst 2) 1 12 := ⟨by decide +kernel, rfl⟩
theorem eX5_costOfRank_12 : Dc MX5_costOfRank 12 (.if_icmp .ge 7) 3 15 := ⟨by decide +kernel, rfl⟩
theorem eX5_costOfRank_15 : Dc MX5_costOfRank 15 (.lload_n 2) 1 16 := ⟨by decide +kernel, rfl⟩
theorem eX5_costOfRank_16 : Dc MX5_costOfRank 16 (.goto 15) 3 19 := ⟨by decide +kernel, rfl⟩
theorem eX5_costOfRank_19 : Dc MX5_costOfRank 19 (.lload_n 2) 1 20 := ⟨by decide +kernel, rfl⟩
theorem eX5_costOfRank_20 : Dc MX5_costOfRank 20 (.lconst 1) 1 21 := ⟨by decide +kernel, rfl⟩
theorem eX5_costOfRank_21 : Dc MX5_costOfRank 21 (.bipush 20) 2 23 := ⟨by decide +kernel, rfl⟩
theorem eX5_costOfRank_23 : Dc MX5_costOfRank 23 (.iconst 4) 1 24 := ⟨by decide +kernel, rfl⟩
theorem eX5_costOfRank_24 : Dc MX5_costOfRank 24 (.iload_n 0) 1 25 := ⟨by decide +kernel, rfl⟩
theorem eX5_costOfRank_25 : Dc MX5_costOfRank 25 (.iconst 2) 1 26 := ⟨by decide +kernel, rfl⟩
theorem eX5_costOfRank_26 : Dc MX5_costOfRank 26 (.isub) 1 27 := ⟨by decide +kernel, rfl⟩
theorem eX5_costOfRank_27 : Dc MX5_costOfRank 27 (.imul) 1 28 := ⟨by decide +kernel, rfl⟩
theorem eX5_costOfRank_28 : Dc MX5_costOfRank 28 (.iadd) 1 29 := ⟨by decide +kernel, rfl⟩
theorem eX5_costOfRank_29 : Dc MX5_costOfRank 29 (.lshl) 1 30 := ⟨by decide +kernel, rfl⟩
theorem eX5_costOfRank_30 : Dc MX5_costOfRank 30 (.ladd) 1 31 := ⟨by decide +kernel, rfl⟩
theorem eX5_costOfRank_31 : Dc MX5_costOfRank 31 (.lreturn) 1 32 := ⟨by decide +kernel, rfl⟩
theorem eX5_chargeMove_0 : Dc MX5_chargeMove 0 (.iconst 0) 1 1 := ⟨by decide +kernel, rfl⟩
theorem eX5_chargeMove_1 : Dc MX5_chargeMove 1 (.istore_n 3) 1 2 := ⟨by decide +kernel, rfl⟩
theorem eX5_chargeMove_2 : Dc MX5_chargeMove 2 (.iload_n 3) 1 3 := ⟨by decide +kernel, rfl⟩
theorem eX5_chargeMove_3 : Dc MX5_chargeMove 3 (.iconst 5) 1 4 := ⟨by decide +kernel, rfl⟩
theorem eX5_chargeMove_4 : Dc MX5_chargeMove 4 (.if_icmp .ge 35) 3 7 := ⟨by decide +kernel, rfl⟩
theorem eX5_chargeMove_7 : Dc MX5_chargeMove 7 (.iload_n 2) 1 8 := ⟨by decide +kernel, rfl⟩
theorem eX5_chargeMove_8 : Dc MX5_chargeMove 8 (.iconst (-1)) 1 9 := ⟨by decide +kernel, rfl⟩
theorem eX5_chargeMove_9 : Dc MX5_chargeMove 9 (.if_icmp .eq 24) 3 12 := ⟨by decide +kernel, rfl⟩
theorem eX5_chargeMove_12 : Dc MX5_chargeMove 12 (.iload_n 3) 1 13 := ⟨by decide +kernel, rfl⟩
theorem eX5_chargeMove_13 : Dc MX5_chargeMove 13 (.iload_n 2) 1 14 := ⟨by decide +kernel, rfl⟩
theorem eX5_chargeMove_14 : Dc MX5_chargeMove 14 (.if_icmp .eq 19) 3 17 := ⟨by decide +kernel, rfl⟩
theorem eX5_chargeMove_17 : Dc MX5_chargeMove 17 (.aload_n 0) 1 18 := ⟨by decide +kernel, rfl⟩
theorem eX5_chargeMove_18 : Dc MX5_chargeMove 18 (.getfield 11) 3 21 := ⟨by decide +kernel, rfl⟩
theorem eX5_chargeMove_21 : Dc MX5_chargeMove 21 (.iload_n 1) 1 22 := ⟨by decide +kernel, rfl⟩
theorem eX5_chargeMove_22 : Dc MX5_chargeMove 22 (.iload_n 3) 1 23 := ⟨by decide +kernel, rfl⟩
theorem eX5_chargeMove_23 : Dc MX5_chargeMove 23 (.invokestatic 45) 3 26 := ⟨by decide +kernel, rfl⟩
theorem eX5_chargeMove_26 : Dc MX5_chargeMove 26 (.dup2) 1 27 := ⟨by decide +kernel, rfl⟩
theorem eX5_chargeMove_27 : Dc MX5_chargeMove 27 (.laload) 1 28 := ⟨by decide +kernel, rfl⟩
theorem eX5_chargeMove_28 : Dc MX5_chargeMove 28 (.ldc2_w 53) 3 31 := ⟨by decide +kernel, rfl⟩
theorem eX5_chargeMove_31 : Dc MX5_chargeMove 31 (.ladd) 1 32 := ⟨by decide +kernel, rfl⟩
theorem eX5_chargeMove_32 : Dc MX5_chargeMove 32 (.lastore) 1 33 := ⟨by decide +kernel, rfl⟩
theorem eX5_chargeMove_33 : Dc MX5_chargeMove 33 (.iinc 3 1) 3 36 := ⟨by decide +kernel, rfl⟩
theorem eX5_chargeMove_36 : Dc MX5_chargeMove 36 (.goto (-34)) 3 39 := ⟨by decide +kernel, rfl⟩
theorem eX5_chargeMove_39 : Dc MX5_chargeMove 39 (.return_) 1 40 := ⟨by decide +kernel, rfl⟩
theorem eX5_costOf_0 : Dc MX5_costOf 0 (.aload_n 0) 1 1 := ⟨by decide +kernel, rfl⟩
theorem eX5_costOf_1 : Dc MX5_costOf 1 (.getfield 11) 3 4 := ⟨by decide +kernel, rfl⟩
theorem eX5_costOf_4 : Dc MX5_costOf 4 (.iload_n 1) 1 5 := ⟨by decide +kernel, rfl⟩
theorem eX5_costOf_5 : Dc MX5_costOf 5 (.iload_n 2) 1 6 := ⟨by decide +kernel, rfl⟩
theorem eX5_costOf_6 : Dc MX5_costOf 6 (.invokestatic 45) 3 9 := ⟨by decide +kernel, rfl⟩
theorem eX5_costOf_9 : Dc MX5_costOf 9 (.laload) 1 10 := ⟨by decide +kernel, rfl⟩
theorem eX5_costOf_10 : Dc MX5_costOf 10 (.lreturn) 1 11 := ⟨by decide +kernel, rfl⟩
theorem eX5_digitOf_0 : Dc MX5_digitOf 0 (.aload_n 0) 1 1 := ⟨by decide +kernel, rfl⟩
theorem eX5_digitOf_1 : Dc MX5_digitOf 1 (.getfield 15) 3 4 := ⟨by decide +kernel, rfl⟩
theorem eX5_digitOf_4 : Dc MX5_digitOf 4 (.iload_n 1) 1 5 := ⟨by decide +kernel, rfl⟩
theorem eX5_digitOf_5 : Dc MX5_digitOf 5 (.iload_n 2) 1 6 := ⟨by decide +kernel, rfl⟩
theorem eX5_digitOf_6 : Dc MX5_digitOf 6 (.invokestatic 45) 3 9 := ⟨by decide +kernel, rfl⟩
theorem eX5_digitOf_9 : Dc MX5_digitOf 9 (.laload) 1 10 := ⟨by decide +kernel, rfl⟩
theorem eX5_digitOf_10 : Dc MX5_digitOf 10 (.lreturn) 1 11 := ⟨by decide +kernel, rfl⟩
theorem eX5_cellOf_0 : Dc MX5_cellOf 0 (.iload_n 0) 1 1 := ⟨by decide +kernel, rfl⟩
theorem eX5_cellOf_1 : Dc MX5_cellOf 1 (.ifCond .lt 9) 3 4 := ⟨by decide +kernel, rfl⟩
theorem eX5_cellOf_4 : Dc MX5_cellOf 4 (.iload_n 0) 1 5 := ⟨by decide +kernel, rfl⟩
theorem eX5_cellOf_5 : Dc MX5_cellOf 5 (.bipush 8) 2 7 := ⟨by decide +kernel, rfl⟩
theorem eX5_cellOf_7 : Dc MX5_cellOf 7 (.if_icmp .lt 7) 3 10 := ⟨by decide +kernel, rfl⟩
theorem eX5_cellOf_10 : Dc MX5_cellOf 10 (.iconst 0) 1 11 := ⟨by decide +kernel, rfl⟩
theorem eX5_cellOf_11 : Dc MX5_cellOf 11 (.goto 4) 3 14 := ⟨by decide +kernel, rfl⟩
theorem eX5_cellOf_14 : Dc MX5_cellOf 14 (.iload_n 0) 1 15 := ⟨by decide +kernel, rfl⟩
theorem eX5_cellOf_15 : Dc MX5_cellOf 15 (.istore_n 2) 1 16 := ⟨by decide +kernel, rfl⟩
theorem eX5_cellOf_16 : Dc MX5_cellOf 16 (.iload_n 1) 1 17 := ⟨by decide +kernel, rfl⟩
theorem eX5_cellOf_17 : Dc MX5_cellOf 17 (.ifCond .lt 8) 3 20 := ⟨by decide +kernel, rfl⟩
theorem eX5_cellOf_20 : Dc MX5_cellOf 20 (.iload_n 1) 1 21 := ⟨by decide +kernel, rfl⟩
theorem eX5_cellOf_21 : Dc MX5_cellOf 21 (.iconst 5) 1 22 := ⟨by decide +kernel, rfl⟩
theorem eX5_cellOf_22 : Dc MX5_cellOf 22 (.if_icmp .lt 7) 3 25 := ⟨by decide +kernel, rfl⟩
theorem eX5_cellOf_25 : Dc MX5_cellOf 25 (.iconst 5) 1 26 := ⟨by decide +kernel, rfl⟩
theorem eX5_cellOf_26 : Dc MX5_cellOf 26 (.goto 4) 3 29 := ⟨by decide +kernel, rfl⟩
theorem eX5_cellOf_29 : Dc MX5_cellOf 29 (.iload_n 1) 1 30 := ⟨by decide +kernel, rfl⟩
theorem eX5_cellOf_30 : Dc MX5_cellOf 30 (.istore_n 3) 1 31 := ⟨by decide +kernel, rfl⟩
theorem eX5_cellOf_31 : Dc MX5_cellOf 31 (.iload_n 2) 1 32 := ⟨by decide +kernel, rfl⟩
theorem eX5_cellOf_32 : Dc MX5_cellOf 32 (.bipush 6) 2 34 := ⟨by decide +kernel, rfl⟩
theorem eX5_cellOf_34 : Dc MX5_cellOf 34 (.imul) 1 35 := ⟨by decide +kernel, rfl⟩
theorem eX5_cellOf_35 : Dc MX5_cellOf 35 (.iload_n 3) 1 36 := ⟨by decide +kernel, rfl⟩
theorem eX5_cellOf_36 : Dc MX5_cellOf 36 (.iadd) 1 37 := ⟨by decide +kernel, rfl⟩
theorem eX5_cellOf_37 : Dc MX5_cellOf 37 (.ireturn) 1 38 := ⟨by decide +kernel, rfl⟩
end
section
-- decode rows of X6
theorem eX6_init_0 : Dc MX6_init 0 (.aload_n 0) 1 1 := ⟨by decide +kernel, rfl⟩
theorem eX6_init_1 : Dc MX6_init 1 (.invokespecial 3) 3 4 := ⟨by decide +kernel, rfl⟩
theorem eX6_init_4 : Dc MX6_init 4 (.aload_n 0) 1 5 := ⟨by decide +kernel, rfl⟩
theorem eX6_init_5 : Dc MX6_init 5 (.new 9) 3 8 := ⟨by decide +kernel, rfl⟩
theorem eX6_init_8 : Dc MX6_init 8 (.dup) 1 9 := ⟨by decide +kernel, rfl⟩
theorem eX6_init_9 : Dc MX6_init 9 (.invokespecial 11) 3 12 := ⟨by decide +kernel, rfl⟩
theorem eX6_init_12 : Dc MX6_init 12 (.putfield 12) 3 15 := ⟨by decide +kernel, rfl⟩
theorem eX6_init_15 : Dc MX6_init 15 (.aload_n 0) 1 16 := ⟨by decide +kernel, rfl⟩
theorem eX6_init_16 : Dc MX6_init 16 (.new 18) 3 19 := ⟨by decide +kernel, rfl⟩
theorem eX6_init_19 : Dc MX6_init 19 (.dup) 1 20 := ⟨by decide +kernel, rfl⟩
theorem eX6_init_20 : Dc MX6_init 20 (.invokespecial 20) 3 23 := ⟨by decide +kernel, rfl⟩
theorem eX6_init_23 : Dc MX6_init 23 (.putfield 21) 3 26 := ⟨by decide +kernel, rfl⟩
theorem eX6_init_26 : Dc MX6_init 26 (.aload_n 0) 1 27 := ⟨by decide +kernel, rfl⟩
theorem eX6_init_27 : Dc MX6_init 27 (.bipush 8) 2 29 := ⟨by decide +kernel, rfl⟩
theorem eX6_init_29 : Dc MX6_init 29 (.newarray .int) 2 31 := ⟨by decide +kernel, rfl⟩
theorem eX6_init_31 : Dc MX6_init 31 (.putfield 25) 3 34 := ⟨by decide +kernel, rfl⟩
theorem eX6_init_34 : Dc MX6_init 34 (.aload_n 0) 1 35 := ⟨by decide +kernel, rfl⟩
theorem eX6_init_35 : Dc MX6_init 35 (.iconst 5) 1 36 := ⟨by decide +kernel, rfl⟩
theorem eX6_init_36 : Dc MX6_init 36 (.newarray .int) 2 38 := ⟨by decide +kernel, rfl⟩
theorem eX6_init_38 : Dc MX6_init 38 (.putfield 29) 3 41 := ⟨by decide +kernel, rfl⟩
theorem eX6_init_41 : Dc MX6_init 41 (.aload_n 0) 1 42 := ⟨by decide +kernel, rfl⟩
theorem eX6_init_42 : Dc MX6_init 42 (.bipush 8) 2 44 := ⟨by decide +kernel, rfl⟩
theorem eX6_init_44 : Dc MX6_init 44 (.newarray .int) 2 46 := ⟨by decide +kernel, rfl⟩
theorem eX6_init_46 : Dc MX6_init 46 (.putfield 32) 3 49 := ⟨by decide +kernel, rfl⟩
theorem eX6_init_49 : Dc MX6_init 49 (.aload_n 0) 1 50 := ⟨by decide +kernel, rfl⟩
theorem eX6_init_50 : Dc MX6_init 50 (.bipush 8) 2 52 := ⟨by decide +kernel, rfl⟩
theorem eX6_init_52 : Dc MX6_init 52 (.newarray .int) 2 54 := ⟨by decide +kernel, rfl⟩
theorem eX6_init_54 : Dc MX6_init 54 (.putfield 35) 3 57 := ⟨by decide +kernel, rfl⟩
theorem eX6_init_57 : Dc MX6_init 57 (.return_) 1 58 := ⟨by decide +kernel, rfl⟩
theorem eX6_prepare_0 : Dc MX6_prepare 0 (.aload_n 0) 1 1 := ⟨by decide +kernel, rfl⟩
theorem eX6_prepare_1 : Dc MX6_prepare 1 (.getfield 12) 3 4 := ⟨by decide +kernel, rfl⟩
theorem eX6_prepare_4 : Dc MX6_prepare 4 (.aload_n 1) 1 5 := ⟨by decide +kernel, rfl⟩
theorem eX6_prepare_5 : Dc MX6_prepare 5 (.invokevirtual 38) 3 8 := ⟨by decide +kernel, rfl⟩
theorem eX6_prepare_8 : Dc MX6_prepare 8 (.aload_n 0) 1 9 := ⟨by decide +kernel, rfl⟩
theorem eX6_prepare_9 : Dc MX6_prepare 9 (.getfield 21) 3 12 := ⟨by decide +kernel, rfl⟩
theorem eX6_prepare_12 : Dc MX6_prepare 12 (.aload_n 1) 1 13 := ⟨by decide +kernel, rfl⟩
theorem eX6_prepare_13 : Dc MX6_prepare 13 (.invokevirtual 42) 3 16 := ⟨by decide +kernel, rfl⟩
theorem eX6_prepare_16 : Dc MX6_prepare 16 (.aload_n 0) 1 17 := ⟨by decide +kernel, rfl⟩
theorem eX6_prepare_17 : Dc MX6_prepare 17 (.aload_n 1) 1 18 := ⟨by decide +kernel, rfl⟩
theorem eX6_prepare_18 : Dc MX6_prepare 18 (.invokevirtual 43) 3 21 := ⟨by decide +kernel, rfl⟩
theorem eX6_prepare_21 : Dc MX6_prepare 21 (.putfield 49) 3 24 := ⟨by decide +kernel, rfl⟩
theorem eX6_prepare_24 : Dc MX6_prepare 24 (.aload_n 0) 1 25 := ⟨by decide +kernel, rfl⟩
theorem eX6_prepare_25 : Dc MX6_prepare 25 (.aload_n 1) 1 26 := ⟨by decide +kernel, rfl⟩
theorem eX6_prepare_26 : Dc MX6_prepare 26 (.getfield 52) 3 29 := ⟨by decide +kernel, rfl⟩
theorem eX6_prepare_29 : Dc MX6_prepare 29 (.putfield 55) 3 32 := ⟨by decide +kernel, rfl⟩
theorem eX6_prepare_32 : Dc MX6_prepare 32 (.iconst 0) 1 33 := ⟨by decide +kernel, rfl⟩
theorem eX6_prepare_33 : Dc MX6_prepare 33 (.istore_n 2) 1 34 := ⟨by decide +kernel, rfl⟩
theorem eX6_prepare_34 : Dc MX6_prepare 34 (.iload_n 2) 1 35 := ⟨by decide +kernel, rfl⟩
theorem eX6_prepare_35 : Dc MX6_prepare 35 (.bipush 8) 2 37 := ⟨by decide +kernel, rfl⟩
theorem eX6_prepare_37 : Dc MX6_prepare 37 (.if_icmp .ge 40) 3 40 := ⟨by decide +kernel, rfl⟩
theorem eX6_prepare_40 : Dc MX6_prepare 40 (.aload_n 1) 1 41 := ⟨by decide +kernel, rfl⟩
theorem eX6_prepare_41 : Dc MX6_prepare 41 (.iload_n 2) 1 42 := ⟨by decide +kernel, rfl⟩
theorem eX6_prepare_42 : Dc MX6_prepare 42 (.invokevirtual 56) 3 45 := ⟨by decide +kernel, rfl⟩
theorem eX6_prepare_45 : Dc MX6_prepare 45 (.astore_n 3) 1 46 := ⟨by decide +kernel, rfl⟩
theorem eX6_prepare_46 : Dc MX6_prepare 46 (.aload_n 0) 1 47 := ⟨by decide +kernel, rfl⟩
theorem eX6_prepare_47 : Dc MX6_prepare 47 (.getfield 25) 3 50 := ⟨by decide +kernel, rfl⟩
theorem eX6_prepare_50 : Dc MX6_prepare 50 (.iload_n 2) 1 51 := ⟨by decide +kernel, rfl⟩
theorem eX6_prepare_51 : Dc MX6_prepare 51 (.aload_n 3) 1 52 := ⟨by decide +kernel, rfl⟩
theorem eX6_prepare_52 : Dc MX6_prepare 52 (.ifnonnull 7) 3 55 := ⟨by decide +kernel, rfl⟩
theorem eX6_prepare_55 : Dc MX6_prepare 55 (.iconst 0) 1 56 := ⟨by decide +kernel, rfl⟩
theorem eX6_prepare_56 : Dc MX6_prepare 56 (.goto 7) 3 59 := ⟨by decide +kernel, rfl⟩
theorem eX6_prepare_59 : Dc MX6_prepare 59 (.aload_n 3) 1 60 := ⟨by decide +kernel, rfl⟩
theorem eX6_prepare_60 : Dc MX6_prepare 60 (.getfield 60) 3 63 := ⟨by decide +kernel, rfl⟩
theorem eX6_prepare_63 : Dc MX6_prepare 63 (.iastore) 1 64 := ⟨by decide +kernel, rfl⟩
theorem eX6_prepare_64 : Dc MX6_prepare 64 (.aload_n 0) 1 65 := ⟨by decide +kernel, rfl⟩
theorem eX6_prepare_65 : Dc MX6_prepare 65 (.getfield 32) 3 68 := ⟨by decide +kernel, rfl⟩
theorem eX6_prepare_68 : Dc MX6_prepare 68 (.iload_n 2) 1 69 := ⟨by decide +kernel, rfl⟩
theorem eX6_prepare_69 : Dc MX6_prepare 69 (.iconst (-1)) 1 70 := ⟨by decide +kernel, rfl⟩
theorem eX6_prepare_70 : Dc MX6_prepare 70 (.iastore) 1 71 := ⟨by decide +kernel, rfl⟩
theorem eX6_prepare_71 : Dc MX6_prepare 71 (.iinc 2 1) 3 74 := ⟨by decide +kernel, rfl⟩
theorem eX6_prepare_74 : Dc MX6_prepare 74 (.goto (-40)) 3 77 := ⟨by decide +kernel, rfl⟩
theorem eX6_prepare_77 : Dc MX6_prepare 77 (.return_) 1 78 := ⟨by decide +kernel, rfl⟩
theorem eX6_tellRanks_0 : Dc MX6_tellRanks 0 (.aload_n 0) 1 1 := ⟨by decide +kernel, rfl⟩
theorem eX6_tellRanks_1 : Dc MX6_tellRanks 1 (.getfield 21) 3 4 := ⟨by decide +kernel, rfl⟩
theorem eX6_tellRanks_4 : Dc MX6_tellRanks 4 (.iload_n 1) 1 5 := ⟨by decide +kernel, rfl⟩
theorem eX6_tellRanks_5 : Dc MX6_tellRanks 5 (.iload_n 2) 1 6 := ⟨by decide +kernel, rfl⟩
theorem eX6_tellRanks_6 : Dc MX6_tellRanks 6 (.iload_n 3) 1 7 := ⟨by decide +kernel, rfl⟩
theorem eX6_tellRanks_7 : Dc MX6_tellRanks 7 (.aload 4) 2 9 := ⟨by decide +kernel, rfl⟩
theorem eX6_tellRanks_9 : Dc MX6_tellRanks 9 (.invokevirtual 64) 3 12 := ⟨by decide +kernel, rfl⟩
theorem eX6_tellRanks_12 : Dc MX6_tellRanks 12 (.return_) 1 13 := ⟨by decide +kernel, rfl⟩
theorem eX6_chargeMove_0 : Dc MX6_chargeMove 0 (.aload_n 0) 1 1 := ⟨by decide +kernel, rfl⟩
theorem eX6_chargeMove_1 : Dc MX6_chargeMove 1 (.getfield 21) 3 4 := ⟨by decide +kernel, rfl⟩
theorem eX6_chargeMove_4 : Dc MX6_chargeMove 4 (.iload_n 1) 1 5 := ⟨by decide +kernel, rfl⟩
theorem eX6_chargeMove_5 : Dc MX6_chargeMove 5 (.iload_n 2) 1 6 := ⟨by decide +kernel, rfl⟩
theorem eX6_chargeMove_6 : Dc MX6_chargeMove 6 (.invokevirtual 68) 3 9 := ⟨by decide +kernel, rfl⟩
theorem eX6_chargeMove_9 : Dc MX6_chargeMove 9 (.return_) 1 10 := ⟨by decide +kernel, rfl⟩
theorem eX6_findBest_0 : Dc MX6_findBest 0 (.aload_n 0) 1 1 := ⟨by decide +kernel, rfl⟩
theorem eX6_findBest_1 : Dc MX6_findBest 1 (.ldc2_w 72) 3 4 := ⟨by decide +kernel, rfl⟩
theorem eX6_findBest_4 : Dc MX6_findBest 4 (.ldc2_w 72) 3 7 := ⟨by decide +kernel, rfl⟩
theorem eX6_findBest_7 : Dc MX6_findBest 7 (.iconst 1) 1 8 := ⟨by decide +kernel, rfl⟩
theorem eX6_findBest_8 : Dc MX6_findBest 8 (.invokevirtual 74) 3 11 := ⟨by decide +kernel, rfl⟩
theorem eX6_findBest_11 : Dc MX6_findBest 11 (.aload_n 0) 1 12 := ⟨by decide +kernel, rfl⟩
theorem eX6_findBest_12 : Dc MX6_findBest 12 (.getfield 78) 3 15 := ⟨by decide +kernel, rfl⟩
theorem eX6_findBest_15 : Dc MX6_findBest 15 (.ifCond .le 7) 3 18 := ⟨by decide +kernel, rfl⟩
theorem eX6_findBest_18 : Dc MX6_findBest 18 (.iconst 1) 1 19 := ⟨by decide +kernel, rfl⟩
theorem eX6_findBest_19 : Dc MX6_findBest 19 (.goto 4) 3 22 := ⟨by decide +kernel, rfl⟩
theorem eX6_findBest_22 : Dc MX6_findBest 22 (.iconst 0) 1 23 := ⟨by decide +kernel, rfl⟩
theorem eX6_findBest_23 : Dc MX6_findBest 23 (.ireturn) 1 24 := ⟨by decide +kernel, rfl⟩
theorem eX6_countRight_0 : Dc MX6_countRight 0 (.aload_n 0) 1 1 := ⟨by decide +kernel, rfl⟩
theorem eX6_countRight_1 : Dc MX6_countRight 1 (.ldc2_w 72) 3 4 := ⟨by decide +kernel, rfl⟩
theorem eX6_countRight_4 : Dc MX6_countRight 4 (.ldc2_w 72) 3 7 := ⟨by decide +kernel, rfl⟩
theorem eX6_countRight_7 : Dc MX6_countRight 7 (.iconst 0) 1 8 := ⟨by decide +kernel, rfl⟩
theorem eX6_countRight_8 : Dc MX6_countRight 8 (.invokevirtual 74) 3 11 := ⟨by decide +kernel, rfl⟩
theorem eX6_countRight_11 : Dc MX6_countRight 11 (.aload_n 0) 1 12 := ⟨by decide +kernel, rfl⟩
theorem eX6_countRight_12 : Dc MX6_countRight 12 (.getfield 78) 3 15 := ⟨by decide +kernel, rfl⟩
theorem eX6_countRight_15 : Dc MX6_countRight 15 (.ireturn) 1 16 := ⟨by decide +kernel, rfl⟩
theorem eX6_countBetter_0 : Dc MX6_countBetter 0 (.ldc2_w 81) 3 3 := ⟨by decide +kernel, rfl⟩
theorem eX6_countBetter_3 : Dc MX6_countBetter 3 (.lstore_n 2) 1 4 := ⟨by decide +kernel, rfl⟩
theorem eX6_countBetter_4 : Dc MX6_countBetter 4 (.lconst 0) 1 5 := ⟨by decide +kernel, rfl⟩
theorem eX6_countBetter_5 : Dc MX6_countBetter 5 (.lstore 4) 2 7 := ⟨by decide +kernel, rfl⟩
theorem eX6_countBetter_7 : Dc MX6_countBetter 7 (.iconst 0) 1 8 := ⟨by decide +kernel, rfl⟩
theorem eX6_countBetter_8 : Dc MX6_countBetter 8 (.istore 6) 2 10 := ⟨by decide +kernel, rfl⟩
theorem eX6_countBetter_10 : Dc MX6_countBetter 10 (.iload 6) 2 12 := ⟨by decide +kernel, rfl⟩
theorem eX6_countBetter_12 : Dc MX6_countBetter 12 (.bipush 8) 2 14 := ⟨by decide +kernel, rfl⟩
theorem eX6_countBetter_14 : Dc MX6_countBetter 14 (.if_icmp .ge 68) 3 17 := ⟨by decide +kernel, rfl⟩
theorem eX6_countBetter_17 : Dc MX6_countBetter 17 (.iload 6) 2 19 := ⟨by decide +kernel, rfl⟩
theorem eX6_countBetter_19 : Dc MX6_countBetter 19 (.aload_n 1) 1 20 := ⟨by decide +kernel, rfl⟩
theorem eX6_countBetter_20 : Dc MX6_countBetter 20 (.arraylength) 1 21 := ⟨by decide +kernel, rfl⟩
theorem eX6_countBetter_21 : Dc MX6_countBetter 21 (.if_icmp .ge 61) 3 24 := ⟨by decide +kernel, rfl⟩
theorem eX6_countBetter_24 : Dc MX6_countBetter 24 (.aload_n 0) 1 25 := ⟨by decide +kernel, rfl⟩
theorem eX6_countBetter_25 : Dc MX6_countBetter 25 (.iload 6) 2 27 := ⟨by decide +kernel, rfl⟩
theorem eX6_countBetter_27 : Dc MX6_countBetter 27 (.invokevirtual 83) 3 30 := ⟨by decide +kernel, rfl⟩
theorem eX6_countBetter_30 : Dc MX6_countBetter 30 (.ifCond .eq 46) 3 33 := ⟨by decide +kernel, rfl⟩
theorem eX6_countBetter_33 : Dc MX6_countBetter 33 (.lload_n 2) 1 34 := ⟨by decide +kernel, rfl⟩
theorem eX6_countBetter_34 : Dc MX6_countBetter 34 (.aload_n 0) 1 35 := ⟨by decide +kernel, rfl⟩
theorem eX6_countBetter_35 : Dc MX6_countBetter 35 (.getfield 21) 3 38 := ⟨by decide +kernel, rfl⟩
theorem eX6_countBetter_38 : Dc MX6_countBetter 38 (.iload 6) 2 40 := ⟨by decide +kernel, rfl⟩
theorem eX6_countBetter_40 : Dc MX6_countBetter 40 (.aload_n 1) 1 41 := ⟨by decide +kernel, rfl⟩
theorem eX6_countBetter_41 : Dc MX6_countBetter 41 (.iload 6) 2 43 := ⟨by decide +kernel, rfl⟩
theorem eX6_countBetter_43 : Dc MX6_countBetter 43 (.iaload) 1 44 := ⟨by decide +kernel, rfl⟩
theorem eX6_countBetter_44 : Dc MX6_countBetter 44 (.invokevirtual 87) 3 47 := ⟨by decide +kernel, rfl⟩
theorem eX6_countBetter_47 : Dc MX6_countBetter 47 (.aload_n 0) 1 48 := ⟨by decide +kernel, rfl⟩
theorem eX6_countBetter_48 : Dc MX6_countBetter 48 (.iload 6) 2 50 := ⟨by decide +kernel, rfl⟩
theorem eX6_countBetter_50 : Dc MX6_countBetter 50 (.aload_n 1) 1 51 := ⟨by decide +kernel, rfl⟩
theorem eX6_countBetter_51 : Dc MX6_countBetter 51 (.invokevirtual 91) 3 54 := ⟨by decide +kernel, rfl⟩
theorem eX6_countBetter_54 : Dc MX6_countBetter 54 (.i2l) 1 55 := ⟨by decide +kernel, rfl⟩
theorem eX6_countBetter_55 : Dc MX6_countBetter 55 (.lsub) 1 56 := ⟨by decide +kernel, rfl⟩
theorem eX6_countBetter_56 : Dc MX6_countBetter 56 (.ladd) 1 57 := ⟨by decide +kernel, rfl⟩
theorem eX6_countBetter_57 : Dc MX6_countBetter 57 (.lstore_n 2) 1 58 := ⟨by decide +kernel, rfl⟩
theorem eX6_countBetter_58 : Dc MX6_countBetter 58 (.lload 4) 2 60 := ⟨by decide +kernel, rfl⟩
theorem eX6_countBetter_60 : Dc MX6_countBetter 60 (.aload_n 0) 1 61 := ⟨by decide +kernel, rfl⟩
theorem eX6_countBetter_61 : Dc MX6_countBetter 61 (.getfield 21) 3 64 := ⟨by decide +kernel, rfl⟩
theorem eX6_countBetter_64 : Dc MX6_countBetter 64 (.iload 6) 2 66 := ⟨by decide +kernel, rfl⟩
theorem eX6_countBetter_66 : Dc MX6_countBetter 66 (.aload_n 1) 1 67 := ⟨by decide +kernel, rfl⟩
theorem eX6_countBetter_67 : Dc MX6_countBetter 67 (.iload 6) 2 69 := ⟨by decide +kernel, rfl⟩
theorem eX6_countBetter_69 : Dc MX6_countBetter 69 (.iaload) 1 70 := ⟨by decide +kernel, rfl⟩
theorem eX6_countBetter_70 : Dc MX6_countBetter 70 (.invokevirtual 95) 3 73 := ⟨by decide +kernel, rfl⟩
theorem eX6_countBetter_73 : Dc MX6_countBetter 73 (.ladd) 1 74 := ⟨by decide +kernel, rfl⟩
theorem eX6_countBetter_74 : Dc MX6_countBetter 74 (.lstore 4) 2 76 := ⟨by decide +kernel, rfl⟩
theorem eX6_countBetter_76 : Dc MX6_countBetter 76 (.iinc 6 1) 3 79 := ⟨by decide +kernel, rfl⟩
theorem eX6_countBetter_79 : Dc MX6_countBetter 79 (.goto (-69)) 3 82 := ⟨by decide +kernel, rfl⟩
theorem eX6_countBetter_82 : Dc MX6_countBetter 82 (.aload_n 0) 1 83 := ⟨by decide +kernel, rfl⟩
theorem eX6_countBetter_83 : Dc MX6_countBetter 83 (.lload_n 2) 1 84 := ⟨by decide +kernel, rfl⟩
theorem eX6_countBetter_84 : Dc MX6_countBetter 84 (.lload 4) 2 86 := ⟨by decide +kernel, rfl⟩
theorem eX6_countBetter_86 : Dc MX6_countBetter 86 (.iconst 0) 1 87 := ⟨by decide +kernel, rfl⟩
theorem eX6_countBetter_87 : Dc MX6_countBetter 87 (.invokevirtual 74) 3 90 := ⟨by decide +kernel, rfl⟩
theorem eX6_countBetter_90 : Dc MX6_countBetter 90 (.aload_n 0) 1 91 := ⟨by decide +kernel, rfl⟩
theorem eX6_countBetter_91 : Dc MX6_countBetter 91 (.getfield 78) 3 94 := ⟨by decide +kernel, rfl⟩
theorem eX6_countBetter_94 : Dc MX6_countBetter 94 (.ireturn) 1 95 := ⟨by decide +kernel, rfl⟩
theorem eX6_isPresent_0 : Dc MX6_isPresent 0 (.aload_n 0) 1 1 := ⟨by decide +kernel, rfl⟩
theorem eX6_isPresent_1 : Dc MX6_isPresent 1 (.getfield 49) 3 4 := ⟨by decide +kernel, rfl⟩
theorem eX6_isPresent_4 : Dc MX6_isPresent 4 (.iload_n 1) 1 5 := ⟨by decide +kernel, rfl⟩
theorem eX6_isPresent_5 : Dc MX6_isPresent 5 (.ishr) 1 6 := ⟨by decide +kernel, rfl⟩
theorem eX6_isPresent_6 : Dc MX6_isPresent 6 (.iconst 1) 1 7 := ⟨by decide +kernel, rfl⟩
theorem eX6_isPresent_7 : Dc MX6_isPresent 7 (.iand) 1 8 := ⟨by decide +kernel, rfl⟩
theorem eX6_isPresent_8 : Dc MX6_isPresent 8 (.ifCond .eq 7) 3 11 := ⟨by decide +kernel, rfl⟩
theorem eX6_isPresent_11 : Dc MX6_isPresent 11 (.iconst 1) 1 12 := ⟨by decide +kernel, rfl⟩
theorem eX6_isPresent_12 : Dc MX6_isPresent 12 (.goto 4) 3 15 := ⟨by decide +kernel, rfl⟩
theorem eX6_isPresent_15 : Dc MX6_isPresent 15 (.iconst 0) 1 16 := ⟨by decide +kernel, rfl⟩
theorem eX6_isPresent_16 : Dc MX6_isPresent 16 (.ireturn) 1 17 := ⟨by decide +kernel, rfl⟩
theorem eX6_friendsBefore_0 : Dc MX6_friendsBefore 0 (.iconst 0) 1 1 := ⟨by decide +kernel, rfl⟩
theorem eX6_friendsBefore_1 : Dc MX6_friendsBefore 1 (.istore_n 3) 1 2 := ⟨by decide +kernel, rfl⟩
theorem eX6_friendsBefore_2 : Dc MX6_friendsBefore 2 (.iconst 0) 1 3 := ⟨by decide +kernel, rfl⟩
theorem eX6_friendsBefore_3 : Dc MX6_friendsBefore 3 (.istore 4) 2 5 := ⟨by decide +kernel, rfl⟩
theorem eX6_friendsBefore_5 : Dc MX6_friendsBefore 5 (.iload 4) 2 7 := ⟨by decide +kernel, rfl⟩
theorem eX6_friendsBefore_7 : Dc MX6_friendsBefore 7 (.iload_n 1) 1 8 := ⟨by decide +kernel, rfl⟩
theorem eX6_friendsBefore_8 : Dc MX6_friendsBefore 8 (.if_icmp .ge 64) 3 11 := ⟨by decide +kernel, rfl⟩
theorem eX6_friendsBefore_11 : Dc MX6_friendsBefore 11 (.aload_n 2) 1 12 := ⟨by decide +kernel, rfl⟩
theorem eX6_friendsBefore_12 : Dc MX6_friendsBefore 12 (.iload_n 1) 1 13 := ⟨by decide +kernel, rfl⟩
theorem eX6_friendsBefore_13 : Dc MX6_friendsBefore 13 (.iaload) 1 14 := ⟨by decide +kernel, rfl⟩
theorem eX6_friendsBefore_14 : Dc MX6_friendsBefore 14 (.iconst (-1)) 1 15 := ⟨by decide +kernel, rfl⟩
theorem eX6_friendsBefore_15 : Dc MX6_friendsBefore 15 (.if_icmp .eq 17) 3 18 := ⟨by decide +kernel, rfl⟩
theorem eX6_friendsBefore_18 : Dc MX6_friendsBefore 18 (.aload_n 2) 1 19 := ⟨by decide +kernel, rfl⟩
theorem eX6_friendsBefore_19 : Dc MX6_friendsBefore 19 (.iload 4) 2 21 := ⟨by decide +kernel, rfl⟩
theorem eX6_friendsBefore_21 : Dc MX6_friendsBefore 21 (.iaload) 1 22 := ⟨by decide +kernel, rfl⟩
theorem eX6_friendsBefore_22 : Dc MX6_friendsBefore 22 (.aload_n 2) 1 23 := ⟨by decide +kernel, rfl⟩
theorem eX6_friendsBefore_23 : Dc MX6_friendsBefore 23 (.iload_n 1) 1 24 := ⟨by decide +kernel, rfl⟩
theorem eX6_friendsBefore_24 : Dc MX6_friendsBefore 24 (.iaload) 1 25 := ⟨by decide +kernel, rfl⟩
theorem eX6_friendsBefore_25 : Dc MX6_friendsBefore 25 (.if_icmp .ne 7) 3 28 := ⟨by decide +kernel, rfl⟩
theorem eX6_friendsBefore_28 : Dc MX6_friendsBefore 28 (.iconst 1) 1 29 := ⟨by decide +kernel, rfl⟩
theorem eX6_friendsBefore_29 : Dc MX6_friendsBefore 29 (.goto 4) 3 32 := ⟨by decide +kernel, rfl⟩
theorem eX6_friendsBefore_32 : Dc MX6_friendsBefore 32 (.iconst 0) 1 33 := ⟨by decide +kernel, rfl⟩
theorem eX6_friendsBefore_33 : Dc MX6_friendsBefore 33 (.istore 5) 2 35 := ⟨by decide +kernel, rfl⟩
theorem eX6_friendsBefore_35 : Dc MX6_friendsBefore 35 (.iload 5) 2 37 := ⟨by decide +kernel, rfl⟩
theorem eX6_friendsBefore_37 : Dc MX6_friendsBefore 37 (.ifCond .eq 29) 3 40 := ⟨by decide +kernel, rfl⟩
theorem eX6_friendsBefore_40 : Dc MX6_friendsBefore 40 (.aload_n 0) 1 41 := ⟨by decide +kernel, rfl⟩
theorem eX6_friendsBefore_41 : Dc MX6_friendsBefore 41 (.iload 4) 2 43 := ⟨by decide +kernel, rfl⟩
theorem eX6_friendsBefore_43 : Dc MX6_friendsBefore 43 (.invokevirtual 83) 3 46 := ⟨by decide +kernel, rfl⟩
theorem eX6_friendsBefore_46 : Dc MX6_friendsBefore 46 (.ifCond .eq 20) 3 49 := ⟨by decide +kernel, rfl⟩
theorem eX6_friendsBefore_49 : Dc MX6_friendsBefore 49 (.aload_n 0) 1 50 := ⟨by decide +kernel, rfl⟩
theorem eX6_friendsBefore_50 : Dc MX6_friendsBefore 50 (.getfield 25) 3 53 := ⟨by decide +kernel, rfl⟩
theorem eX6_friendsBefore_53 : Dc MX6_friendsBefore 53 (.iload_n 1) 1 54 := ⟨by decide +kernel, rfl⟩
theorem eX6_friendsBefore_54 : Dc MX6_friendsBefore 54 (.iaload) 1 55 := ⟨by decide +kernel, rfl⟩
theorem eX6_friendsBefore_55 : Dc MX6_friendsBefore 55 (.iload 4) 2 57 := ⟨by decide +kernel, rfl⟩
theorem eX6_friendsBefore_57 : Dc MX6_friendsBefore 57 (.ishr) 1 58 := ⟨by decide +kernel, rfl⟩
theorem eX6_friendsBefore_58 : Dc MX6_friendsBefore 58 (.iconst 1) 1 59 := ⟨by decide +kernel, rfl⟩
theorem eX6_friendsBefore_59 : Dc MX6_friendsBefore 59 (.iand) 1 60 := ⟨by decide +kernel, rfl⟩
theorem eX6_friendsBefore_60 : Dc MX6_friendsBefore 60 (.ifCond .eq 6) 3 63 := ⟨by decide +kernel, rfl⟩
theorem eX6_friendsBefore_63 : Dc MX6_friendsBefore 63 (.iinc 3 1) 3 66 := ⟨by decide +kernel, rfl⟩
theorem eX6_friendsBefore_66 : Dc MX6_friendsBefore 66 (.iinc 4 1) 3 69 := ⟨by decide +kernel, rfl⟩
theorem eX6_friendsBefore_69 : Dc MX6_friendsBefore 69 (.goto (-64)) 3 72 := ⟨by decide +kernel, rfl⟩
theorem eX6_friendsBefore_72 : Dc MX6_friendsBefore 72 (.iload_n 3) 1 73 := ⟨by decide +kernel, rfl⟩
theorem eX6_friendsBefore_73 : Dc MX6_friendsBefore 73 (.ireturn) 1 74 := ⟨by decide +kernel, rfl⟩
theorem eX6_begin_0 : Dc MX6_begin 0 (.aload_n 0) 1 1 := ⟨by decide +kernel, rfl⟩
theorem eX6_begin_1 : Dc MX6_begin 1 (.lload_n 1) 1 2 := ⟨by decide +kernel, rfl⟩
theorem eX6_begin_2 : Dc MX6_begin 2 (.putfield 98) 3 5 := ⟨by decide +kernel, rfl⟩
theorem eX6_begin_5 : Dc MX6_begin 5 (.aload_n 0) 1 6 := ⟨by decide +kernel, rfl⟩
theorem eX6_begin_6 : Dc MX6_begin 6 (.lload_n 3) 1 7 := ⟨by decide +kernel, rfl⟩
theorem eX6_begin_7 : Dc MX6_begin 7 (.putfield 102) 3 10 := ⟨by decide +kernel, rfl⟩
theorem eX6_begin_10 : Dc MX6_begin 10 (.aload_n 0) 1 11 := ⟨by decide +kernel, rfl⟩
theorem eX6_begin_11 : Dc MX6_begin 11 (.iload 5) 2 13 := ⟨by decide +kernel, rfl⟩
theorem eX6_begin_13 : Dc MX6_begin 13 (.putfield 105) 3 16 := ⟨by decide +kernel, rfl⟩
theorem eX6_begin_16 : Dc MX6_begin 16 (.aload_n 0) 1 17 := ⟨by decide +kernel, rfl⟩
theorem eX6_begin_17 : Dc MX6_begin 17 (.iconst 0) 1 18 := ⟨by decide +kernel, rfl⟩
theorem eX6_begin_18 : Dc MX6_begin 18 (.putfield 78) 3 21 := ⟨by decide +kernel, rfl⟩
theorem eX6_begin_21 : Dc MX6_begin 21 (.iconst 0) 1 22 := ⟨by decide +kernel, rfl⟩
theorem eX6_begin_22 : Dc MX6_begin 22 (.istore 6) 2 24 := ⟨by decide +kernel, rfl⟩
theorem eX6_begin_24 : Dc MX6_begin 24 (.iload 6) 2 26 := ⟨by decide +kernel, rfl⟩
theorem eX6_begin_26 : Dc MX6_begin 26 (.aload_n 0) 1 27 := ⟨by decide +kernel, rfl⟩
theorem eX6_begin_27 : Dc MX6_begin 27 (.getfield 29) 3 30 := ⟨by decide +kernel, rfl⟩
theorem eX6_begin_30 : Dc MX6_begin 30 (.arraylength) 1 31 := ⟨by decide +kernel, rfl⟩
theorem eX6_begin_31 : Dc MX6_begin 31 (.if_icmp .ge 17) 3 34 := ⟨by decide +kernel, rfl⟩
theorem eX6_begin_34 : Dc MX6_begin 34 (.aload_n 0) 1 35 := ⟨by decide +kernel, rfl⟩
theorem eX6_begin_35 : Dc MX6_begin 35 (.getfield 29) 3 38 := ⟨by decide +kernel, rfl⟩
theorem eX6_begin_38 : Dc MX6_begin 38 (.iload 6) 2 40 := ⟨by decide +kernel, rfl⟩
theorem eX6_begin_40 : Dc MX6_begin 40 (.iconst 0) 1 41 := ⟨by decide +kernel, rfl⟩
theorem eX6_begin_41 : Dc MX6_begin 41 (.iastore) 1 42 := ⟨by decide +kernel, rfl⟩
theorem eX6_begin_42 : Dc MX6_begin 42 (.iinc 6 1) 3 45 := ⟨by decide +kernel, rfl⟩
theorem eX6_begin_45 : Dc MX6_begin 45 (.goto (-21)) 3 48 := ⟨by decide +kernel, rfl⟩
theorem eX6_begin_48 : Dc MX6_begin 48 (.aload_n 0) 1 49 := ⟨by decide +kernel, rfl⟩
theorem eX6_begin_49 : Dc MX6_begin 49 (.iconst 0) 1 50 := ⟨by decide +kernel, rfl⟩
theorem eX6_begin_50 : Dc MX6_begin 50 (.ldc2_w 81) 3 53 := ⟨by decide +kernel, rfl⟩
theorem eX6_begin_53 : Dc MX6_begin 53 (.lconst 0) 1 54 := ⟨by decide +kernel, rfl⟩
theorem eX6_begin_54 : Dc MX6_begin 54 (.invokestatic 109) 3 57 := ⟨by decide +kernel, rfl⟩
theorem eX6_begin_57 : Dc MX6_begin 57 (.return_) 1 58 := ⟨by decide +kernel, rfl⟩
theorem eX6_extend_0 : Dc MX6_extend 0 (.lload_n 2) 1 1 := ⟨by decide +kernel, rfl⟩
theorem eX6_extend_1 : Dc MX6_extend 1 (.iconst 5) 1 2 := ⟨by decide +kernel, rfl⟩
theorem eX6_extend_2 : Dc MX6_extend 2 (.lshr) 1 3 := ⟨by decide +kernel, rfl⟩
theorem eX6_extend_3 : Dc MX6_extend 3 (.aload_n 0) 1 4 := ⟨by decide +kernel, rfl⟩
theorem eX6_extend_4 : Dc MX6_extend 4 (.getfield 98) 3 7 := ⟨by decide +kernel, rfl⟩
theorem eX6_extend_7 : Dc MX6_extend 7 (.iconst 5) 1 8 := ⟨by decide +kernel, rfl⟩
theorem eX6_extend_8 : Dc MX6_extend 8 (.lshr) 1 9 := ⟨by decide +kernel, rfl⟩
theorem eX6_extend_9 : Dc MX6_extend 9 (.lcmp) 1 10 := ⟨by decide +kernel, rfl⟩
theorem eX6_extend_10 : Dc MX6_extend 10 (.ifCond .le 4) 3 13 := ⟨by decide +kernel, rfl⟩
theorem eX6_extend_13 : Dc MX6_extend 13 (.return_) 1 14 := ⟨by decide +kernel, rfl⟩
theorem eX6_extend_14 : Dc MX6_extend 14 (.iload_n 1) 1 15 := ⟨by decide +kernel, rfl⟩
theorem eX6_extend_15 : Dc MX6_extend 15 (.ifCond .lt 9) 3 18 := ⟨by decide +kernel, rfl⟩
theorem eX6_extend_18 : Dc MX6_extend 18 (.iload_n 1) 1 19 := ⟨by decide +kernel, rfl⟩
theorem eX6_extend_19 : Dc MX6_extend 19 (.bipush 8) 2 21 := ⟨by decide +kernel, rfl⟩
theorem eX6_extend_21 : Dc MX6_extend 21 (.if_icmp .lt 11) 3 24 := ⟨by decide +kernel, rfl⟩
theorem eX6_extend_24 : Dc MX6_extend 24 (.aload_n 0) 1 25 := ⟨by decide +kernel, rfl⟩
theorem eX6_extend_25 : Dc MX6_extend 25 (.lload_n 2) 1 26 := ⟨by decide +kernel, rfl⟩
theorem eX6_extend_26 : Dc MX6_extend 26 (.lload 4) 2 28 := ⟨by decide +kernel, rfl⟩
theorem eX6_extend_28 : Dc MX6_extend 28 (.invokevirtual 113) 3 31 := ⟨by decide +kernel, rfl⟩
theorem eX6_extend_31 : Dc MX6_extend 31 (.return_) 1 32 := ⟨by decide +kernel, rfl⟩
theorem eX6_extend_32 : Dc MX6_extend 32 (.aload_n 0) 1 33 := ⟨by decide +kernel, rfl⟩
theorem eX6_extend_33 : Dc MX6_extend 33 (.iload_n 1) 1 34 := ⟨by decide +kernel, rfl⟩
theorem eX6_extend_34 : Dc MX6_extend 34 (.invokevirtual 83) 3 37 := ⟨by decide +kernel, rfl⟩
theorem eX6_extend_37 : Dc MX6_extend 37 (.ifCond .ne 14) 3 40 := ⟨by decide +kernel, rfl⟩
theorem eX6_extend_40 : Dc MX6_extend 40 (.aload_n 0) 1 41 := ⟨by decide +kernel, rfl⟩
theorem eX6_extend_41 : Dc MX6_extend 41 (.iload_n 1) 1 42 := ⟨by decide +kernel, rfl⟩
theorem eX6_extend_42 : Dc MX6_extend 42 (.iconst 1) 1 43 := ⟨by decide +kernel, rfl⟩
theorem eX6_extend_43 : Dc MX6_extend 43 (.iadd) 1 44 := ⟨by decide +kernel, rfl⟩
theorem eX6_extend_44 : Dc MX6_extend 44 (.lload_n 2) 1 45 := ⟨by decide +kernel, rfl⟩
theorem eX6_extend_45 : Dc MX6_extend 45 (.lload 4) 2 47 := ⟨by decide +kernel, rfl⟩
theorem eX6_extend_47 : Dc MX6_extend 47 (.invokestatic 109) 3 50 := ⟨by decide +kernel, rfl⟩
theorem eX6_extend_50 : Dc MX6_extend 50 (.return_) 1 51 := ⟨by decide +kernel, rfl⟩
theorem eX6_extend_51 : Dc MX6_extend 51 (.iconst 0) 1 52 := ⟨by decide +kernel, rfl⟩
theorem eX6_extend_52 : Dc MX6_extend 52 (.istore 6) 2 54 := ⟨by decide +kernel, rfl⟩
theorem eX6_extend_54 : Dc MX6_extend 54 (.iload 6) 2 56 := ⟨by decide +kernel, rfl⟩
theorem eX6_extend_56 : Dc MX6_extend 56 (.aload_n 0) 1 57 := ⟨by decide +kernel, rfl⟩
theorem eX6_extend_57 : Dc MX6_extend 57 (.getfield 55) 3 60 := ⟨by decide +kernel, rfl⟩
theorem eX6_extend_60 : Dc MX6_extend 60 (.if_icmp .ge 116) 3 63 := ⟨by decide +kernel, rfl⟩
theorem eX6_extend_63 : Dc MX6_extend 63 (.aload_n 0) 1 64 := ⟨by decide +kernel, rfl⟩
theorem eX6_extend_64 : Dc MX6_extend 64 (.getfield 29) 3 67 := ⟨by decide +kernel, rfl⟩
theorem eX6_extend_67 : Dc MX6_extend 67 (.iload 6) 2 69 := ⟨by decide +kernel, rfl⟩
theorem eX6_extend_69 : Dc MX6_extend 69 (.iaload) 1 70 := ⟨by decide +kernel, rfl⟩
theorem eX6_extend_70 : Dc MX6_extend 70 (.istore 7) 2 72 := ⟨by decide +kernel, rfl⟩
theorem eX6_extend_72 : Dc MX6_extend 72 (.iload 7) 2 74 := ⟨by decide +kernel, rfl⟩
theorem eX6_extend_74 : Dc MX6_extend 74 (.iconst 1) 1 75 := ⟨by decide +kernel, rfl⟩
theorem eX6_extend_75 : Dc MX6_extend 75 (.iload_n 1) 1 76 := ⟨by decide +kernel, rfl⟩
theorem eX6_extend_76 : Dc MX6_extend 76 (.ishl) 1 77 := ⟨by decide +kernel, rfl⟩
theorem eX6_extend_77 : Dc MX6_extend 77 (.ior) 1 78 := ⟨by decide +kernel, rfl⟩
theorem eX6_extend_78 : Dc MX6_extend 78 (.istore 8) 2 80 := ⟨by decide +kernel, rfl⟩
theorem eX6_extend_80 : Dc MX6_extend 80 (.aload_n 0) 1 81 := ⟨by decide +kernel, rfl⟩
theorem eX6_extend_81 : Dc MX6_extend 81 (.getfield 12) 3 84 := ⟨by decide +kernel, rfl⟩
theorem eX6_extend_84 : Dc MX6_extend 84 (.iload 6) 2 86 := ⟨by decide +kernel, rfl⟩
theorem eX6_extend_86 : Dc MX6_extend 86 (.iload 8) 2 88 := ⟨by decide +kernel, rfl⟩
theorem eX6_extend_88 : Dc MX6_extend 88 (.invokevirtual 117) 3 91 := ⟨by decide +kernel, rfl⟩
theorem eX6_extend_91 : Dc MX6_extend 91 (.ifCond .eq 79) 3 94 := ⟨by decide +kernel, rfl⟩
theorem eX6_extend_94 : Dc MX6_extend 94 (.iload 7) 2 96 := ⟨by decide +kernel, rfl⟩
theorem eX6_extend_96 : Dc MX6_extend 96 (.aload_n 0) 1 97 := ⟨by decide +kernel, rfl⟩
theorem eX6_extend_97 : Dc MX6_extend 97 (.getfield 25) 3 100 := ⟨by decide +kernel, rfl⟩
theorem eX6_extend_100 : Dc MX6_extend 100 (.iload_n 1) 1 101 := ⟨by decide +kernel, rfl⟩
theorem eX6_extend_101 : Dc MX6_extend 101 (.iaload) 1 102 := ⟨by decide +kernel, rfl⟩
theorem eX6_extend_102 : Dc MX6_extend 102 (.iand) 1 103 := ⟨by decide +kernel, rfl⟩
theorem eX6_extend_103 : Dc MX6_extend 103 (.invokestatic 121) 3 106 := ⟨by decide +kernel, rfl⟩
theorem eX6_extend_106 : Dc MX6_extend 106 (.i2l) 1 107 := ⟨by decide +kernel, rfl⟩
theorem eX6_extend_107 : Dc MX6_extend 107 (.lstore 9) 2 109 := ⟨by decide +kernel, rfl⟩
theorem eX6_extend_109 : Dc MX6_extend 109 (.aload_n 0) 1 110 := ⟨by decide +kernel, rfl⟩
theorem eX6_extend_110 : Dc MX6_extend 110 (.getfield 29) 3 113 := ⟨by decide +kernel, rfl⟩
theorem eX6_extend_113 : Dc MX6_extend 113 (.iload 6) 2 115 := ⟨by decide +kernel, rfl⟩
theorem eX6_extend_115 : Dc MX6_extend 115 (.iload 8) 2 117 := ⟨by decide +kernel, rfl⟩
theorem eX6_extend_117 : Dc MX6_extend 117 (.iastore) 1 118 := ⟨by decide +kernel, rfl⟩
theorem eX6_extend_118 : Dc MX6_extend 118 (.aload_n 0) 1 119 := ⟨by decide +kernel, rfl⟩
theorem eX6_extend_119 : Dc MX6_extend 119 (.getfield 32) 3 122 := ⟨by decide +kernel, rfl⟩
theorem eX6_extend_122 : Dc MX6_extend 122 (.iload_n 1) 1 123 := ⟨by decide +kernel, rfl⟩
theorem eX6_extend_123 : Dc MX6_extend 123 (.iload 6) 2 125 := ⟨by decide +kernel, rfl⟩
theorem eX6_extend_125 : Dc MX6_extend 125 (.iastore) 1 126 := ⟨by decide +kernel, rfl⟩
theorem eX6_extend_126 : Dc MX6_extend 126 (.aload_n 0) 1 127 := ⟨by decide +kernel, rfl⟩
theorem eX6_extend_127 : Dc MX6_extend 127 (.iload_n 1) 1 128 := ⟨by decide +kernel, rfl⟩
theorem eX6_extend_128 : Dc MX6_extend 128 (.iconst 1) 1 129 := ⟨by decide +kernel, rfl⟩
theorem eX6_extend_129 : Dc MX6_extend 129 (.iadd) 1 130 := ⟨by decide +kernel, rfl⟩
theorem eX6_extend_130 : Dc MX6_extend 130 (.lload_n 2) 1 131 := ⟨by decide +kernel, rfl⟩
theorem eX6_extend_131 : Dc MX6_extend 131 (.aload_n 0) 1 132 := ⟨by decide +kernel, rfl⟩
theorem eX6_extend_132 : Dc MX6_extend 132 (.getfield 21) 3 135 := ⟨by decide +kernel, rfl⟩
theorem eX6_extend_135 : Dc MX6_extend 135 (.iload_n 1) 1 136 := ⟨by decide +kernel, rfl⟩
theorem eX6_extend_136 : Dc MX6_extend 136 (.iload 6) 2 138 := ⟨by decide +kernel, rfl⟩
theorem eX6_extend_138 : Dc MX6_extend 138 (.invokevirtual 87) 3 141 := ⟨by decide +kernel, rfl⟩
theorem eX6_extend_141 : Dc MX6_extend 141 (.ladd) 1 142 := ⟨by decide +kernel, rfl⟩
theorem eX6_extend_142 : Dc MX6_extend 142 (.lload 9) 2 144 := ⟨by decide +kernel, rfl⟩
theorem eX6_extend_144 : Dc MX6_extend 144 (.lsub) 1 145 := ⟨by decide +kernel, rfl⟩
theorem eX6_extend_145 : Dc MX6_extend 145 (.lload 4) 2 147 := ⟨by decide +kernel, rfl⟩
theorem eX6_extend_147 : Dc MX6_extend 147 (.aload_n 0) 1 148 := ⟨by decide +kernel, rfl⟩
theorem eX6_extend_148 : Dc MX6_extend 148 (.getfield 21) 3 151 := ⟨by decide +kernel, rfl⟩
theorem eX6_extend_151 : Dc MX6_extend 151 (.iload_n 1) 1 152 := ⟨by decide +kernel, rfl⟩
theorem eX6_extend_152 : Dc MX6_extend 152 (.iload 6) 2 154 := ⟨by decide +kernel, rfl⟩
theorem eX6_extend_154 : Dc MX6_extend 154 (.invokevirtual 95) 3 157 := ⟨by decide +kernel, rfl⟩
theorem eX6_extend_157 : Dc MX6_extend 157 (.ladd) 1 158 := ⟨by decide +kernel, rfl⟩
theorem eX6_extend_158 : Dc MX6_extend 158 (.invokestatic 109) 3 161 := ⟨by decide +kernel, rfl⟩
theorem eX6_extend_161 : Dc MX6_extend 161 (.aload_n 0) 1 162 := ⟨by decide +kernel, rfl⟩
theorem eX6_extend_162 : Dc MX6_extend 162 (.getfield 29) 3 165 := ⟨by decide +kernel, rfl⟩
theorem eX6_extend_165 : Dc MX6_extend 165 (.iload 6) 2 167 := ⟨by decide +kernel, rfl⟩
theorem eX6_extend_167 : Dc MX6_extend 167 (.iload 7) 2 169 := ⟨by decide +kernel, rfl⟩
theorem eX6_extend_169 : Dc MX6_extend 169 (.iastore) 1 170 := ⟨by decide +kernel, rfl⟩
theorem eX6_extend_170 : Dc MX6_extend 170 (.iinc 6 1) 3 173 := ⟨by decide +kernel, rfl⟩
theorem eX6_extend_173 : Dc MX6_extend 173 (.goto (-119)) 3 176 := ⟨by decide +kernel, rfl⟩
theorem eX6_extend_176 : Dc MX6_extend 176 (.return_) 1 177 := ⟨by decide +kernel, rfl⟩
theorem eX6_judge_0 : Dc MX6_judge 0 (.iconst 0) 1 1 := ⟨by decide +kernel, rfl⟩
theorem eX6_judge_1 : Dc MX6_judge 1 (.istore 5) 2 3 := ⟨by decide +kernel, rfl⟩
theorem eX6_judge_3 : Dc MX6_judge 3 (.iload 5) 2 5 := ⟨by decide +kernel, rfl⟩
theorem eX6_judge_5 : Dc MX6_judge 5 (.aload_n 0) 1 6 := ⟨by decide +kernel, rfl⟩
theorem eX6_judge_6 : Dc MX6_judge 6 (.getfield 55) 3 9 := ⟨by decide +kernel, rfl⟩
theorem eX6_judge_9 : Dc MX6_judge 9 (.if_icmp .ge 29) 3 12 := ⟨by decide +kernel, rfl⟩
theorem eX6_judge_12 : Dc MX6_judge 12 (.aload_n 0) 1 13 := ⟨by decide +kernel, rfl⟩
theorem eX6_judge_13 : Dc MX6_judge 13 (.getfield 12) 3 16 := ⟨by decide +kernel, rfl⟩
theorem eX6_judge_16 : Dc MX6_judge 16 (.iload 5) 2 18 := ⟨by decide +kernel, rfl⟩
theorem eX6_judge_18 : Dc MX6_judge 18 (.aload_n 0) 1 19 := ⟨by decide +kernel, rfl⟩
theorem eX6_judge_19 : Dc MX6_judge 19 (.getfield 29) 3 22 := ⟨by decide +kernel, rfl⟩
theorem eX6_judge_22 : Dc MX6_judge 22 (.iload 5) 2 24 := ⟨by decide +kernel, rfl⟩
theorem eX6_judge_24 : Dc MX6_judge 24 (.iaload) 1 25 := ⟨by decide +kernel, rfl⟩
theorem eX6_judge_25 : Dc MX6_judge 25 (.invokevirtual 127) 3 28 := ⟨by decide +kernel, rfl⟩
theorem eX6_judge_28 : Dc MX6_judge 28 (.ifCond .ne 4) 3 31 := ⟨by decide +kernel, rfl⟩
theorem eX6_judge_31 : Dc MX6_judge 31 (.return_) 1 32 := ⟨by decide +kernel, rfl⟩
theorem eX6_judge_32 : Dc MX6_judge 32 (.iinc 5 1) 3 35 := ⟨by decide +kernel, rfl⟩
theorem eX6_judge_35 : Dc MX6_judge 35 (.goto (-32)) 3 38 := ⟨by decide +kernel, rfl⟩
theorem eX6_judge_38 : Dc MX6_judge 38 (.lload_n 1) 1 39 := ⟨by decide +kernel, rfl⟩
theorem eX6_judge_39 : Dc MX6_judge 39 (.aload_n 0) 1 40 := ⟨by decide +kernel, rfl⟩
theorem eX6_judge_40 : Dc MX6_judge 40 (.getfield 98) 3 43 := ⟨by decide +kernel, rfl⟩
theorem eX6_judge_43 : Dc MX6_judge 43 (.lcmp) 1 44 := ⟨by decide +kernel, rfl⟩
theorem eX6_judge_44 : Dc MX6_judge 44 (.ifCond .gt 21) 3 47 := ⟨by decide +kernel, rfl⟩
theorem eX6_judge_47 : Dc MX6_judge 47 (.lload_n 1) 1 48 := ⟨by decide +kernel, rfl⟩
theorem eX6_judge_48 : Dc MX6_judge 48 (.aload_n 0) 1 49 := ⟨by decide +kernel, rfl⟩
theorem eX6_judge_49 : Dc MX6_judge 49 (.getfield 98) 3 52 := ⟨by decide +kernel, rfl⟩
theorem eX6_judge_52 : Dc MX6_judge 52 (.lcmp) 1 53 := ⟨by decide +kernel, rfl⟩
theorem eX6_judge_53 : Dc MX6_judge 53 (.ifCond .ne 13) 3 56 := ⟨by decide +kernel, rfl⟩
theorem eX6_judge_56 : Dc MX6_judge 56 (.lload_n 3) 1 57 := ⟨by decide +kernel, rfl⟩
theorem eX6_judge_57 : Dc MX6_judge 57 (.aload_n 0) 1 58 := ⟨by decide +kernel, rfl⟩
theorem eX6_judge_58 : Dc MX6_judge 58 (.getfield 102) 3 61 := ⟨by decide +kernel, rfl⟩
theorem eX6_judge_61 : Dc MX6_judge 61 (.lcmp) 1 62 := ⟨by decide +kernel, rfl⟩
theorem eX6_judge_62 : Dc MX6_judge 62 (.ifCond .lt 4) 3 65 := ⟨by decide +kernel, rfl⟩
theorem eX6_judge_65 : Dc MX6_judge 65 (.return_) 1 66 := ⟨by decide +kernel, rfl⟩
theorem eX6_judge_66 : Dc MX6_judge 66 (.aload_n 0) 1 67 := ⟨by decide +kernel, rfl⟩
theorem eX6_judge_67 : Dc MX6_judge 67 (.dup) 1 68 := ⟨by decide +kernel, rfl⟩
theorem eX6_judge_68 : Dc MX6_judge 68 (.getfield 78) 3 71 := ⟨by decide +kernel, rfl⟩
theorem eX6_judge_71 : Dc MX6_judge 71 (.iconst 1) 1 72 := ⟨by decide +kernel, rfl⟩
theorem eX6_judge_72 : Dc MX6_judge 72 (.iadd) 1 73 := ⟨by decide +kernel, rfl⟩
theorem eX6_judge_73 : Dc MX6_judge 73 (.putfield 78) 3 76 := ⟨by decide +kernel, rfl⟩
theorem eX6_judge_76 : Dc MX6_judge 76 (.aload_n 0) 1 77 := ⟨by decide +kernel, rfl⟩
theorem eX6_judge_77 : Dc MX6_judge 77 (.getfield 105) 3 80 := ⟨by decide +kernel, rfl⟩
theorem eX6_judge_80 : Dc MX6_judge 80 (.ifCond .eq 31) 3 83 := ⟨by decide +kernel, rfl⟩
theorem eX6_judge_83 : Dc MX6_judge 83 (.aload_n 0) 1 84 := ⟨by decide +kernel, rfl⟩
theorem eX6_judge_84 : Dc MX6_judge 84 (.lload_n 1) 1 85 := ⟨by decide +kernel, rfl⟩
theorem eX6_judge_85 : Dc MX6_judge 85 (.putfield 98) 3 88 := ⟨by decide +kernel, rfl⟩
theorem eX6_judge_88 : Dc MX6_judge 88 (.aload_n 0) 1 89 := ⟨by decide +kernel, rfl⟩
theorem eX6_judge_89 : Dc MX6_judge 89 (.lload_n 3) 1 90 := ⟨by decide +kernel, rfl⟩
theorem eX6_judge_90 : Dc MX6_judge 90 (.putfield 102) 3 93 := ⟨by decide +kernel, rfl⟩
theorem eX6_judge_93 : Dc MX6_judge 93 (.aload_n 0) 1 94 := ⟨by decide +kernel, rfl⟩
theorem eX6_judge_94 : Dc MX6_judge 94 (.getfield 32) 3 97 := ⟨by decide +kernel, rfl⟩
theorem eX6_judge_97 : Dc MX6_judge 97 (.iconst 0) 1 98 := ⟨by decide +kernel, rfl⟩
theorem eX6_judge_98 : Dc MX6_judge 98 (.aload_n 0) 1 99 := ⟨by decide +kernel, rfl⟩
theorem eX6_judge_99 : Dc MX6_judge 99 (.getfield 35) 3 102 := ⟨by decide +kernel, rfl⟩
theorem eX6_judge_102 : Dc MX6_judge 102 (.iconst 0) 1 103 := ⟨by decide +kernel, rfl⟩
theorem eX6_judge_103 : Dc MX6_judge 103 (.aload_n 0) 1 104 := ⟨by decide +kernel, rfl⟩
theorem eX6_judge_104 : Dc MX6_judge 104 (.getfield 35) 3 107 := ⟨by decide +kernel, rfl⟩
theorem eX6_judge_107 : Dc MX6_judge 107 (.arraylength) 1 108 := ⟨by decide +kernel, rfl⟩
theorem eX6_judge_108 : Dc MX6_judge 108 (.invokestatic 130) 3 111 := ⟨by decide +kernel, rfl⟩
theorem eX6_judge_111 : Dc MX6_judge 111 (.return_) 1 112 := ⟨by decide +kernel, rfl⟩
theorem eX6_foundFor_0 : Dc MX6_foundFor 0 (.iload_n 1) 1 1 := ⟨by decide +kernel, rfl⟩
theorem eX6_foundFor_1 : Dc MX6_foundFor 1 (.ifCond .lt 12) 3 4 := ⟨by decide +kernel, rfl⟩
theorem eX6_foundFor_4 : Dc MX6_foundFor 4 (.iload_n 1) 1 5 := ⟨by decide +kernel, rfl⟩
theorem eX6_foundFor_5 : Dc MX6_foundFor 5 (.aload_n 0) 1 6 := ⟨by decide +kernel, rfl⟩
theorem eX6_foundFor_6 : Dc MX6_foundFor 6 (.getfield 35) 3 9 := ⟨by decide +kernel, rfl⟩
theorem eX6_foundFor_9 : Dc MX6_foundFor 9 (.arraylength) 1 10 := ⟨by decide +kernel, rfl⟩
theorem eX6_foundFor_10 : Dc MX6_foundFor 10 (.if_icmp .lt 7) 3 13 := ⟨by decide +kernel, rfl⟩
theorem eX6_foundFor_13 : Dc MX6_foundFor 13 (.iconst (-1)) 1 14 := ⟨by decide +kernel, rfl⟩
theorem eX6_foundFor_14 : Dc MX6_foundFor 14 (.goto 9) 3 17 := ⟨by decide +kernel, rfl⟩
theorem eX6_foundFor_17 : Dc MX6_foundFor 17 (.aload_n 0) 1 18 := ⟨by decide +kernel, rfl⟩
theorem eX6_foundFor_18 : Dc MX6_foundFor 18 (.getfield 35) 3 21 := ⟨by decide +kernel, rfl⟩
theorem eX6_foundFor_21 : Dc MX6_foundFor 21 (.iload_n 1) 1 22 := ⟨by decide +kernel, rfl⟩
theorem eX6_foundFor_22 : Dc MX6_foundFor 22 (.iaload) 1 23 := ⟨by decide +kernel, rfl⟩
theorem eX6_foundFor_23 : Dc MX6_foundFor 23 (.ireturn) 1 24 := ⟨by decide +kernel, rfl⟩
theorem eX6_copyFound_0 : Dc MX6_copyFound 0 (.iconst 0) 1 1 := ⟨by decide +kernel, rfl⟩
theorem eX6_copyFound_1 : Dc MX6_copyFound 1 (.istore_n 2) 1 2 := ⟨by decide +kernel, rfl⟩
theorem eX6_copyFound_2 : Dc MX6_copyFound 2 (.iload_n 2) 1 3 := ⟨by decide +kernel, rfl⟩
theorem eX6_copyFound_3 : Dc MX6_copyFound 3 (.aload_n 0) 1 4 := ⟨by decide +kernel, rfl⟩
theorem eX6_copyFound_4 : Dc MX6_copyFound 4 (.getfield 35) 3 7 := ⟨by decide +kernel, rfl⟩
theorem eX6_copyFound_7 : Dc MX6_copyFound 7 (.arraylength) 1 8 := ⟨by decide +kernel, rfl⟩
theorem eX6_copyFound_8 : Dc MX6_copyFound 8 (.if_icmp .ge 24) 3 11 := ⟨by decide +kernel, rfl⟩
theorem eX6_copyFound_11 : Dc MX6_copyFound 11 (.iload_n 2) 1 12 := ⟨by decide +kernel, rfl⟩
theorem eX6_copyFound_12 : Dc MX6_copyFound 12 (.aload_n 1) 1 13 := ⟨by decide +kernel, rfl⟩
theorem eX6_copyFound_13 : Dc MX6_copyFound 13 (.arraylength) 1 14 := ⟨by decide +kernel, rfl⟩
theorem eX6_copyFound_14 : Dc MX6_copyFound 14 (.if_icmp .ge 18) 3 17 := ⟨by decide +kernel, rfl⟩
theorem eX6_copyFound_17 : Dc MX6_copyFound 17 (.aload_n 1) 1 18 := ⟨by decide +kernel, rfl⟩
theorem eX6_copyFound_18 : Dc MX6_copyFound 18 (.iload_n 2) 1 19 := ⟨by decide +kernel, rfl⟩
theorem eX6_copyFound_19 : Dc MX6_copyFound 19 (.aload_n 0) 1 20 := ⟨by decide +kernel, rfl⟩
theorem eX6_copyFound_20 : Dc MX6_copyFound 20 (.getfield 35) 3 23 := ⟨by decide +kernel, rfl⟩
theorem eX6_copyFound_23 : Dc MX6_copyFound 23 (.iload_n 2) 1 24 := ⟨by decide +kernel, rfl⟩
theorem eX6_copyFound_24 : Dc MX6_copyFound 24 (.iaload) 1 25 := ⟨by decide +kernel, rfl⟩
theorem eX6_copyFound_25 : Dc MX6_copyFound 25 (.iastore) 1 26 := ⟨by decide +kernel, rfl⟩
theorem eX6_copyFound_26 : Dc MX6_copyFound 26 (.iinc 2 1) 3 29 := ⟨by decide +kernel, rfl⟩
theorem eX6_copyFound_29 : Dc MX6_copyFound 29 (.goto (-27)) 3 32 := ⟨by decide +kernel, rfl⟩
theorem eX6_copyFound_32 : Dc MX6_copyFound 32 (.return_) 1 33 := ⟨by decide +kernel, rfl⟩
theorem eX6_movedFrom_0 : Dc MX6_movedFrom 0 (.iconst 0) 1 1 := ⟨by decide +kernel, rfl⟩
theorem eX6_movedFrom_1 : Dc MX6_movedFrom 1 (.istore_n 2) 1 2 := ⟨by decide +kernel, rfl⟩
theorem eX6_movedFrom_2 : Dc MX6_movedFrom 2 (.iconst 0) 1 3 := ⟨by decide +kernel, rfl⟩
theorem eX6_movedFrom_3 : Dc MX6_movedFrom 3 (.istore_n 3) 1 4 := ⟨by decide +kernel, rfl⟩
theorem eX6_movedFrom_4 : Dc MX6_movedFrom 4 (.iload_n 3) 1 5 := ⟨by decide +kernel, rfl⟩
theorem eX6_movedFrom_5 : Dc MX6_movedFrom 5 (.aload_n 0) 1 6 := ⟨by decide +kernel, rfl⟩
theorem eX6_movedFrom_6 : Dc MX6_movedFrom 6 (.getfield 35) 3 9 := ⟨by decide +kernel, rfl⟩
theorem eX6_movedFrom_9 : Dc MX6_movedFrom 9 (.arraylength) 1 10 := ⟨by decide +kernel, rfl⟩
theorem eX6_movedFrom_10 : Dc MX6_movedFrom 10 (.if_icmp .ge 45) 3 13 := ⟨by decide +kernel, rfl⟩
theorem eX6_movedFrom_13 : Dc MX6_movedFrom 13 (.iload_n 3) 1 14 := ⟨by decide +kernel, rfl⟩
theorem eX6_movedFrom_14 : Dc MX6_movedFrom 14 (.aload_n 1) 1 15 := ⟨by decide +kernel, rfl⟩
theorem eX6_movedFrom_15 : Dc MX6_movedFrom 15 (.arraylength) 1 16 := ⟨by decide +kernel, rfl⟩
theorem eX6_movedFrom_16 : Dc MX6_movedFrom 16 (.if_icmp .ge 39) 3 19 := ⟨by decide +kernel, rfl⟩
theorem eX6_movedFrom_19 : Dc MX6_movedFrom 19 (.aload_n 0) 1 20 := ⟨by decide +kernel, rfl⟩
theorem eX6_movedFrom_20 : Dc MX6_movedFrom 20 (.iload_n 3) 1 21 := ⟨by decide +kernel, rfl⟩
theorem eX6_movedFrom_21 : Dc MX6_movedFrom 21 (.invokevirtual 83) 3 24 := ⟨by decide +kernel, rfl⟩
theorem eX6_movedFrom_24 : Dc MX6_movedFrom 24 (.ifCond .eq 25) 3 27 := ⟨by decide +kernel, rfl⟩
theorem eX6_movedFrom_27 : Dc MX6_movedFrom 27 (.aload_n 1) 1 28 := ⟨by decide +kernel, rfl⟩
theorem eX6_movedFrom_28 : Dc MX6_movedFrom 28 (.iload_n 3) 1 29 := ⟨by decide +kernel, rfl⟩
theorem eX6_movedFrom_29 : Dc MX6_movedFrom 29 (.iaload) 1 30 := ⟨by decide +kernel, rfl⟩
theorem eX6_movedFrom_30 : Dc MX6_movedFrom 30 (.iconst (-1)) 1 31 := ⟨by decide +kernel, rfl⟩
theorem eX6_movedFrom_31 : Dc MX6_movedFrom 31 (.if_icmp .eq 18) 3 34 := ⟨by decide +kernel, rfl⟩
theorem eX6_movedFrom_34 : Dc MX6_movedFrom 34 (.aload_n 1) 1 35 := ⟨by decide +kernel, rfl⟩
theorem eX6_movedFrom_35 : Dc MX6_movedFrom 35 (.iload_n 3) 1 36 := ⟨by decide +kernel, rfl⟩
theorem eX6_movedFrom_36 : Dc MX6_movedFrom 36 (.iaload) 1 37 := ⟨by decide +kernel, rfl⟩
theorem eX6_movedFrom_37 : Dc MX6_movedFrom 37 (.aload_n 0) 1 38 := ⟨by decide +kernel, rfl⟩
theorem eX6_movedFrom_38 : Dc MX6_movedFrom 38 (.getfield 35) 3 41 := ⟨by decide +kernel, rfl⟩
theorem eX6_movedFrom_41 : Dc MX6_movedFrom 41 (.iload_n 3) 1 42 := ⟨by decide +kernel, rfl⟩
theorem eX6_movedFrom_42 : Dc MX6_movedFrom 42 (.iaload) 1 43 := ⟨by decide +kernel, rfl⟩
theorem eX6_movedFrom_43 : Dc MX6_movedFrom 43 (.if_icmp .eq 6) 3 46 := ⟨by decide +kernel, rfl⟩
theorem eX6_movedFrom_46 : Dc MX6_movedFrom 46 (.iinc 2 1) 3 49 := ⟨by decide +kernel, rfl⟩
theorem eX6_movedFrom_49 : Dc MX6_movedFrom 49 (.iinc 3 1) 3 52 := ⟨by decide +kernel, rfl⟩
theorem eX6_movedFrom_52 : Dc MX6_movedFrom 52 (.goto (-48)) 3 55 := ⟨by decide +kernel, rfl⟩
theorem eX6_movedFrom_55 : Dc MX6_movedFrom 55 (.iload_n 2) 1 56 := ⟨by decide +kernel, rfl⟩
theorem eX6_movedFrom_56 : Dc MX6_movedFrom 56 (.ireturn) 1 57 := ⟨by decide +kernel, rfl⟩
end
section
-- decode rows of X7
theorem eX7_init_0 : Dc MX7_init 0 (.aload_n 0) 1 1 := ⟨by decide +kernel, rfl⟩
theorem eX7_init_1 : Dc MX7_init 1 (.invokespecial 1) 3 4 := ⟨by decide +kernel, rfl⟩
theorem eX7_init_4 : Dc MX7_init 4 (.aload_n 0) 1 5 := ⟨by decide +kernel, rfl⟩
theorem eX7_init_5 : Dc MX7_init 5 (.new 7) 3 8 := ⟨by decide +kernel, rfl⟩
theorem eX7_init_8 : Dc MX7_init 8 (.dup) 1 9 := ⟨by decide +kernel, rfl⟩
theorem eX7_init_9 : Dc MX7_init 9 (.invokespecial 9) 3 12 := ⟨by decide +kernel, rfl⟩
theorem eX7_init_12 : Dc MX7_init 12 (.putfield 10) 3 15 := ⟨by decide +kernel, rfl⟩
theorem eX7_init_15 : Dc MX7_init 15 (.aload_n 0) 1 16 := ⟨by decide +kernel, rfl⟩
theorem eX7_init_16 : Dc MX7_init 16 (.new 16) 3 19 := ⟨by decide +kernel, rfl⟩
theorem eX7_init_19 : Dc MX7_init 19 (.dup) 1 20 := ⟨by decide +kernel, rfl⟩
theorem eX7_init_20 : Dc MX7_init 20 (.invokespecial 18) 3 23 := ⟨by decide +kernel, rfl⟩
theorem eX7_init_23 : Dc MX7_init 23 (.putfield 19) 3 26 := ⟨by decide +kernel, rfl⟩
theorem eX7_init_26 : Dc MX7_init 26 (.aload_n 0) 1 27 := ⟨by decide +kernel, rfl⟩
theorem eX7_init_27 : Dc MX7_init 27 (.new 23) 3 30 := ⟨by decide +kernel, rfl⟩
theorem eX7_init_30 : Dc MX7_init 30 (.dup) 1 31 := ⟨by decide +kernel, rfl⟩
theorem eX7_init_31 : Dc MX7_init 31 (.invokespecial 25) 3 34 := ⟨by decide +kernel, rfl⟩
theorem eX7_init_34 : Dc MX7_init 34 (.putfield 26) 3 37 := ⟨by decide +kernel, rfl⟩
theorem eX7_init_37 : Dc MX7_init 37 (.aload_n 0) 1 38 := ⟨by decide +kernel, rfl⟩
theorem eX7_init_38 : Dc MX7_init 38 (.bipush 8) 2 40 := ⟨by decide +kernel, rfl⟩
theorem eX7_init_40 : Dc MX7_init 40 (.newarray .int) 2 42 := ⟨by decide +kernel, rfl⟩
theorem eX7_init_42 : Dc MX7_init 42 (.putfield 30) 3 45 := ⟨by decide +kernel, rfl⟩
theorem eX7_init_45 : Dc MX7_init 45 (.aload_n 0) 1 46 := ⟨by decide +kernel, rfl⟩
theorem eX7_init_46 : Dc MX7_init 46 (.iconst 5) 1 47 := ⟨by decide +kernel, rfl⟩
theorem eX7_init_47 : Dc MX7_init 47 (.newarray .int) 2 49 := ⟨by decide +kernel, rfl⟩
theorem eX7_init_49 : Dc MX7_init 49 (.putfield 34) 3 52 := ⟨by decide +kernel, rfl⟩
theorem eX7_init_52 : Dc MX7_init 52 (.aload_n 0) 1 53 := ⟨by decide +kernel, rfl⟩
theorem eX7_init_53 : Dc MX7_init 53 (.iconst 5) 1 54 := ⟨by decide +kernel, rfl⟩
theorem eX7_init_54 : Dc MX7_init 54 (.newarray .int) 2 56 := ⟨by decide +kernel, rfl⟩
theorem eX7_init_56 : Dc MX7_init 56 (.putfield 37) 3 59 := ⟨by decide +kernel, rfl⟩
theorem eX7_init_59 : Dc MX7_init 59 (.aload_n 0) 1 60 := ⟨by decide +kernel, rfl⟩
theorem eX7_init_60 : Dc MX7_init 60 (.iconst 5) 1 61 := ⟨by decide +kernel, rfl⟩
theorem eX7_init_61 : Dc MX7_init 61 (.newarray .int) 2 63 := ⟨by decide +kernel, rfl⟩
theorem eX7_init_63 : Dc MX7_init 63 (.putfield 40) 3 66 := ⟨by decide +kernel, rfl⟩
theorem eX7_init_66 : Dc MX7_init 66 (.iconst 0) 1 67 := ⟨by decide +kernel, rfl⟩
theorem eX7_init_67 : Dc MX7_init 67 (.istore_n 1) 1 68 := ⟨by decide +kernel, rfl⟩
theorem eX7_init_68 : Dc MX7_init 68 (.iload_n 1) 1 69 := ⟨by decide +kernel, rfl⟩
theorem eX7_init_69 : Dc MX7_init 69 (.aload_n 0) 1 70 := ⟨by decide +kernel, rfl⟩
theorem eX7_init_70 : Dc MX7_init 70 (.getfield 30) 3 73 := ⟨by decide +kernel, rfl⟩
theorem eX7_init_73 : Dc MX7_init 73 (.arraylength) 1 74 := ⟨by decide +kernel, rfl⟩
theorem eX7_init_74 : Dc MX7_init 74 (.if_icmp .ge 16) 3 77 := ⟨by decide +kernel, rfl⟩
theorem eX7_init_77 : Dc MX7_init 77 (.aload_n 0) 1 78 := ⟨by decide +kernel, rfl⟩
theorem eX7_init_78 : Dc MX7_init 78 (.getfield 30) 3 81 := ⟨by decide +kernel, rfl⟩
theorem eX7_init_81 : Dc MX7_init 81 (.iload_n 1) 1 82 := ⟨by decide +kernel, rfl⟩
theorem eX7_init_82 : Dc MX7_init 82 (.iconst (-1)) 1 83 := ⟨by decide +kernel, rfl⟩
theorem eX7_init_83 : Dc MX7_init 83 (.iastore) 1 84 := ⟨by decide +kernel, rfl⟩
theorem eX7_init_84 : Dc MX7_init 84 (.iinc 1 1) 3 87 := ⟨by decide +kernel, rfl⟩
theorem eX7_init_87 : Dc MX7_init 87 (.goto (-19)) 3 90 := ⟨by decide +kernel, rfl⟩
theorem eX7_init_90 : Dc MX7_init 90 (.return_) 1 91 := ⟨by decide +kernel, rfl⟩
theorem eX7_pupil_0 : Dc MX7_pupil 0 (.iload_n 1) 1 1 := ⟨by decide +kernel, rfl⟩
theorem eX7_pupil_1 : Dc MX7_pupil 1 (.ifCond .lt 10) 3 4 := ⟨by decide +kernel, rfl⟩
theorem eX7_pupil_4 : Dc MX7_pupil 4 (.iload_n 1) 1 5 := ⟨by decide +kernel, rfl⟩
theorem eX7_pupil_5 : Dc MX7_pupil 5 (.sipush 255) 3 8 := ⟨by decide +kernel, rfl⟩
theorem eX7_pupil_8 : Dc MX7_pupil 8 (.if_icmp .le 7) 3 11 := ⟨by decide +kernel, rfl⟩
theorem eX7_pupil_11 : Dc MX7_pupil 11 (.iconst (-1)) 1 12 := ⟨by decide +kernel, rfl⟩
theorem eX7_pupil_12 : Dc MX7_pupil 12 (.goto 11) 3 15 := ⟨by decide +kernel, rfl⟩
theorem eX7_pupil_15 : Dc MX7_pupil 15 (.aload_n 0) 1 16 := ⟨by decide +kernel, rfl⟩
theorem eX7_pupil_16 : Dc MX7_pupil 16 (.getfield 10) 3 19 := ⟨by decide +kernel, rfl⟩
theorem eX7_pupil_19 : Dc MX7_pupil 19 (.iload_n 1) 1 20 := ⟨by decide +kernel, rfl⟩
theorem eX7_pupil_20 : Dc MX7_pupil 20 (.invokevirtual 43) 3 23 := ⟨by decide +kernel, rfl⟩
theorem eX7_pupil_23 : Dc MX7_pupil 23 (.ireturn) 1 24 := ⟨by decide +kernel, rfl⟩
theorem eX7_project_0 : Dc MX7_project 0 (.iload_n 1) 1 1 := ⟨by decide +kernel, rfl⟩
theorem eX7_project_1 : Dc MX7_project 1 (.ifCond .lt 24) 3 4 := ⟨by decide +kernel, rfl⟩
theorem eX7_project_4 : Dc MX7_project 4 (.iload_n 1) 1 5 := ⟨by decide +kernel, rfl⟩
theorem eX7_project_5 : Dc MX7_project 5 (.iconst 3) 1 6 := ⟨by decide +kernel, rfl⟩
theorem eX7_project_6 : Dc MX7_project 6 (.if_icmp .gt 19) 3 9 := ⟨by decide +kernel, rfl⟩
theorem eX7_project_9 : Dc MX7_project 9 (.iload_n 2) 1 10 := ⟨by decide +kernel, rfl⟩
theorem eX7_project_10 : Dc MX7_project 10 (.iconst 1) 1 11 := ⟨by decide +kernel, rfl⟩
theorem eX7_project_11 : Dc MX7_project 11 (.if_icmp .lt 14) 3 14 := ⟨by decide +kernel, rfl⟩
theorem eX7_project_14 : Dc MX7_project 14 (.iload_n 3) 1 15 := ⟨by decide +kernel, rfl⟩
theorem eX7_project_15 : Dc MX7_project 15 (.iload_n 2) 1 16 := ⟨by decide +kernel, rfl⟩
theorem eX7_project_16 : Dc MX7_project 16 (.if_icmp .lt 9) 3 19 := ⟨by decide +kernel, rfl⟩
theorem eX7_project_19 : Dc MX7_project 19 (.iload_n 3) 1 20 := ⟨by decide +kernel, rfl⟩
theorem eX7_project_20 : Dc MX7_project 20 (.bipush 8) 2 22 := ⟨by decide +kernel, rfl⟩
theorem eX7_project_22 : Dc MX7_project 22 (.if_icmp .le 5) 3 25 := ⟨by decide +kernel, rfl⟩
theorem eX7_project_25 : Dc MX7_project 25 (.iconst (-1)) 1 26 := ⟨by decide +kernel, rfl⟩
theorem eX7_project_26 : Dc MX7_project 26 (.ireturn) 1 27 := ⟨by decide +kernel, rfl⟩
theorem eX7_project_27 : Dc MX7_project 27 (.iload 4) 2 29 := ⟨by decide +kernel, rfl⟩
theorem eX7_project_29 : Dc MX7_project 29 (.ifCond .lt 28) 3 32 := ⟨by decide +kernel, rfl⟩
theorem eX7_project_32 : Dc MX7_project 32 (.iload 4) 2 34 := ⟨by decide +kernel, rfl⟩
theorem eX7_project_34 : Dc MX7_project 34 (.sipush 255) 3 37 := ⟨by decide +kernel, rfl⟩
theorem eX7_project_37 : Dc MX7_project 37 (.if_icmp .gt 20) 3 40 := ⟨by decide +kernel, rfl⟩
theorem eX7_project_40 : Dc MX7_project 40 (.iload_n 1) 1 41 := ⟨by decide +kernel, rfl⟩
theorem eX7_project_41 : Dc MX7_project 41 (.iconst 3) 1 42 := ⟨by decide +kernel, rfl⟩
theorem eX7_project_42 : Dc MX7_project 42 (.if_icmp .ne 17) 3 45 := ⟨by decide +kernel, rfl⟩
theorem eX7_project_45 : Dc MX7_project 45 (.aload_n 0) 1 46 := ⟨by decide +kernel, rfl⟩
theorem eX7_project_46 : Dc MX7_project 46 (.getfield 10) 3 49 := ⟨by decide +kernel, rfl⟩
theorem eX7_project_49 : Dc MX7_project 49 (.iload 5) 2 51 := ⟨by decide +kernel, rfl⟩
theorem eX7_project_51 : Dc MX7_project 51 (.invokevirtual 47) 3 54 := ⟨by decide +kernel, rfl⟩
theorem eX7_project_54 : Dc MX7_project 54 (.ifCond .ne 5) 3 57 := ⟨by decide +kernel, rfl⟩
theorem eX7_project_57 : Dc MX7_project 57 (.iconst (-1)) 1 58 := ⟨by decide +kernel, rfl⟩
theorem eX7_project_58 : Dc MX7_project 58 (.ireturn) 1 59 := ⟨by decide +kernel, rfl⟩
theorem eX7_project_59 : Dc MX7_project 59 (.aload_n 0) 1 60 := ⟨by decide +kernel, rfl⟩
theorem eX7_project_60 : Dc MX7_project 60 (.getfield 10) 3 63 := ⟨by decide +kernel, rfl⟩
theorem eX7_project_63 : Dc MX7_project 63 (.iload_n 1) 1 64 := ⟨by decide +kernel, rfl⟩
theorem eX7_project_64 : Dc MX7_project 64 (.iload_n 2) 1 65 := ⟨by decide +kernel, rfl⟩
theorem eX7_project_65 : Dc MX7_project 65 (.iload_n 3) 1 66 := ⟨by decide +kernel, rfl⟩
theorem eX7_project_66 : Dc MX7_project 66 (.iload 4) 2 68 := ⟨by decide +kernel, rfl⟩
theorem eX7_project_68 : Dc MX7_project 68 (.iload 5) 2 70 := ⟨by decide +kernel, rfl⟩
theorem eX7_project_70 : Dc MX7_project 70 (.invokevirtual 51) 3 73 := ⟨by decide +kernel, rfl⟩
theorem eX7_project_73 : Dc MX7_project 73 (.ireturn) 1 74 := ⟨by decide +kernel, rfl⟩
theorem eX7_wish_0 : Dc MX7_wish 0 (.aload_n 0) 1 1 := ⟨by decide +kernel, rfl⟩
theorem eX7_wish_1 : Dc MX7_wish 1 (.getfield 10) 3 4 := ⟨by decide +kernel, rfl⟩
theorem eX7_wish_4 : Dc MX7_wish 4 (.iload_n 1) 1 5 := ⟨by decide +kernel, rfl⟩
theorem eX7_wish_5 : Dc MX7_wish 5 (.invokevirtual 55) 3 8 := ⟨by decide +kernel, rfl⟩
theorem eX7_wish_8 : Dc MX7_wish 8 (.astore_n 3) 1 9 := ⟨by decide +kernel, rfl⟩
theorem eX7_wish_9 : Dc MX7_wish 9 (.aload_n 3) 1 10 := ⟨by decide +kernel, rfl⟩
theorem eX7_wish_10 : Dc MX7_wish 10 (.ifnull 22) 3 13 := ⟨by decide +kernel, rfl⟩
theorem eX7_wish_13 : Dc MX7_wish 13 (.aload_n 0) 1 14 := ⟨by decide +kernel, rfl⟩
theorem eX7_wish_14 : Dc MX7_wish 14 (.getfield 10) 3 17 := ⟨by decide +kernel, rfl⟩
theorem eX7_wish_17 : Dc MX7_wish 17 (.iload_n 2) 1 18 := ⟨by decide +kernel, rfl⟩
theorem eX7_wish_18 : Dc MX7_wish 18 (.invokevirtual 59) 3 21 := ⟨by decide +kernel, rfl⟩
theorem eX7_wish_21 : Dc MX7_wish 21 (.ifCond .eq 11) 3 24 := ⟨by decide +kernel, rfl⟩
theorem eX7_wish_24 : Dc MX7_wish 24 (.aload_n 3) 1 25 := ⟨by decide +kernel, rfl⟩
theorem eX7_wish_25 : Dc MX7_wish 25 (.iload_n 2) 1 26 := ⟨by decide +kernel, rfl⟩
theorem eX7_wish_26 : Dc MX7_wish 26 (.invokevirtual 62) 3 29 := ⟨by decide +kernel, rfl⟩
theorem eX7_wish_29 : Dc MX7_wish 29 (.ifCond .ne 5) 3 32 := ⟨by decide +kernel, rfl⟩
theorem eX7_wish_32 : Dc MX7_wish 32 (.iconst (-1)) 1 33 := ⟨by decide +kernel, rfl⟩
theorem eX7_wish_33 : Dc MX7_wish 33 (.ireturn) 1 34 := ⟨by decide +kernel, rfl⟩
theorem eX7_wish_34 : Dc MX7_wish 34 (.aload_n 3) 1 35 := ⟨by decide +kernel, rfl⟩
theorem eX7_wish_35 : Dc MX7_wish 35 (.getfield 67) 3 38 := ⟨by decide +kernel, rfl⟩
theorem eX7_wish_38 : Dc MX7_wish 38 (.ireturn) 1 39 := ⟨by decide +kernel, rfl⟩
theorem eX7_wishes_0 : Dc MX7_wishes 0 (.aload_n 0) 1 1 := ⟨by decide +kernel, rfl⟩
theorem eX7_wishes_1 : Dc MX7_wishes 1 (.getfield 10) 3 4 := ⟨by decide +kernel, rfl⟩
theorem eX7_wishes_4 : Dc MX7_wishes 4 (.iload_n 1) 1 5 := ⟨by decide +kernel, rfl⟩
theorem eX7_wishes_5 : Dc MX7_wishes 5 (.invokevirtual 55) 3 8 := ⟨by decide +kernel, rfl⟩
theorem eX7_wishes_8 : Dc MX7_wishes 8 (.astore 6) 2 10 := ⟨by decide +kernel, rfl⟩
theorem eX7_wishes_10 : Dc MX7_wishes 10 (.aload 6) 2 12 := ⟨by decide +kernel, rfl⟩
theorem eX7_wishes_12 : Dc MX7_wishes 12 (.ifnull 18) 3 15 := ⟨by decide +kernel, rfl⟩
theorem eX7_wishes_15 : Dc MX7_wishes 15 (.iload_n 2) 1 16 := ⟨by decide +kernel, rfl⟩
theorem eX7_wishes_16 : Dc MX7_wishes 16 (.ifCond .lt 14) 3 19 := ⟨by decide +kernel, rfl⟩
theorem eX7_wishes_19 : Dc MX7_wishes 19 (.iload_n 2) 1 20 := ⟨by decide +kernel, rfl⟩
theorem eX7_wishes_20 : Dc MX7_wishes 20 (.iconst 2) 1 21 := ⟨by decide +kernel, rfl⟩
theorem eX7_wishes_21 : Dc MX7_wishes 21 (.if_icmp .gt 9) 3 24 := ⟨by decide +kernel, rfl⟩
theorem eX7_wishes_24 : Dc MX7_wishes 24 (.iload_n 3) 1 25 := ⟨by decide +kernel, rfl⟩
theorem eX7_wishes_25 : Dc MX7_wishes 25 (.bipush 20) 2 27 := ⟨by decide +kernel, rfl⟩
theorem eX7_wishes_27 : Dc MX7_wishes 27 (.if_icmp .le 5) 3 30 := ⟨by decide +kernel, rfl⟩
theorem eX7_wishes_30 : Dc MX7_wishes 30 (.iconst (-1)) 1 31 := ⟨by decide +kernel, rfl⟩
theorem eX7_wishes_31 : Dc MX7_wishes 31 (.ireturn) 1 32 := ⟨by decide +kernel, rfl⟩
theorem eX7_wishes_32 : Dc MX7_wishes 32 (.iload_n 2) 1 33 := ⟨by decide +kernel, rfl⟩
theorem eX7_wishes_33 : Dc MX7_wishes 33 (.iconst 2) 1 34 := ⟨by decide +kernel, rfl⟩
theorem eX7_wishes_34 : Dc MX7_wishes 34 (.if_icmp .ne 7) 3 37 := ⟨by decide +kernel, rfl⟩
theorem eX7_wishes_37 : Dc MX7_wishes 37 (.iconst 0) 1 38 := ⟨by decide +kernel, rfl⟩
theorem eX7_wishes_38 : Dc MX7_wishes 38 (.goto 4) 3 41 := ⟨by decide +kernel, rfl⟩
theorem eX7_wishes_41 : Dc MX7_wishes 41 (.iload_n 3) 1 42 := ⟨by decide +kernel, rfl⟩
theorem eX7_wishes_42 : Dc MX7_wishes 42 (.istore 7) 2 44 := ⟨by decide +kernel, rfl⟩
theorem eX7_wishes_44 : Dc MX7_wishes 44 (.iload 7) 2 46 := ⟨by decide +kernel, rfl⟩
theorem eX7_wishes_46 : Dc MX7_wishes 46 (.ifCond .ge 6) 3 49 := ⟨by decide +kernel, rfl⟩
theorem eX7_wishes_49 : Dc MX7_wishes 49 (.bipush (-2)) 2 51 := ⟨by decide +kernel, rfl⟩
theorem eX7_wishes_51 : Dc MX7_wishes 51 (.ireturn) 1 52 := ⟨by decide +kernel, rfl⟩
theorem eX7_wishes_52 : Dc MX7_wishes 52 (.aload 6) 2 54 := ⟨by decide +kernel, rfl⟩
theorem eX7_wishes_54 : Dc MX7_wishes 54 (.invokevirtual 71) 3 57 := ⟨by decide +kernel, rfl⟩
theorem eX7_wishes_57 : Dc MX7_wishes 57 (.iload 4) 2 59 := ⟨by decide +kernel, rfl⟩
theorem eX7_wishes_59 : Dc MX7_wishes 59 (.istore 8) 2 61 := ⟨by decide +kernel, rfl⟩
theorem eX7_wishes_61 : Dc MX7_wishes 61 (.iconst 0) 1 62 := ⟨by decide +kernel, rfl⟩
theorem eX7_wishes_62 : Dc MX7_wishes 62 (.istore 9) 2 64 := ⟨by decide +kernel, rfl⟩
theorem eX7_wishes_64 : Dc MX7_wishes 64 (.iload 9) 2 66 := ⟨by decide +kernel, rfl⟩
theorem eX7_wishes_66 : Dc MX7_wishes 66 (.iload 7) 2 68 := ⟨by decide +kernel, rfl⟩
theorem eX7_wishes_68 : Dc MX7_wishes 68 (.if_icmp .ge 55) 3 71 := ⟨by decide +kernel, rfl⟩
theorem eX7_wishes_71 : Dc MX7_wishes 71 (.iload_n 2) 1 72 := ⟨by decide +kernel, rfl⟩
theorem eX7_wishes_72 : Dc MX7_wishes 72 (.ifCond .ne 9) 3 75 := ⟨by decide +kernel, rfl⟩
theorem eX7_wishes_75 : Dc MX7_wishes 75 (.iload 8) 2 77 := ⟨by decide +kernel, rfl⟩
theorem eX7_wishes_77 : Dc MX7_wishes 77 (.i2b) 1 78 := ⟨by decide +kernel, rfl⟩
theorem eX7_wishes_78 : Dc MX7_wishes 78 (.goto 5) 3 81 := ⟨by decide +kernel, rfl⟩
theorem eX7_wishes_81 : Dc MX7_wishes 81 (.iload 8) 2 83 := ⟨by decide +kernel, rfl⟩
theorem eX7_wishes_83 : Dc MX7_wishes 83 (.istore 10) 2 85 := ⟨by decide +kernel, rfl⟩
theorem eX7_wishes_85 : Dc MX7_wishes 85 (.aload_n 0) 1 86 := ⟨by decide +kernel, rfl⟩
theorem eX7_wishes_86 : Dc MX7_wishes 86 (.getfield 10) 3 89 := ⟨by decide +kernel, rfl⟩
theorem eX7_wishes_89 : Dc MX7_wishes 89 (.iload 10) 2 91 := ⟨by decide +kernel, rfl⟩
theorem eX7_wishes_91 : Dc MX7_wishes 91 (.invokevirtual 59) 3 94 := ⟨by decide +kernel, rfl⟩
theorem eX7_wishes_94 : Dc MX7_wishes 94 (.ifCond .eq 29) 3 97 := ⟨by decide +kernel, rfl⟩
theorem eX7_wishes_97 : Dc MX7_wishes 97 (.aload 6) 2 99 := ⟨by decide +kernel, rfl⟩
theorem eX7_wishes_99 : Dc MX7_wishes 99 (.iload 10) 2 101 := ⟨by decide +kernel, rfl⟩
theorem eX7_wishes_101 : Dc MX7_wishes 101 (.invokevirtual 62) 3 104 := ⟨by decide +kernel, rfl⟩
theorem eX7_wishes_104 : Dc MX7_wishes 104 (.ifCond .ne 6) 3 107 := ⟨by decide +kernel, rfl⟩
theorem eX7_wishes_107 : Dc MX7_wishes 107 (.goto 16) 3 110 := ⟨by decide +kernel, rfl⟩
theorem eX7_wishes_110 : Dc MX7_wishes 110 (.iload 8) 2 112 := ⟨by decide +kernel, rfl⟩
theorem eX7_wishes_112 : Dc MX7_wishes 112 (.iload 5) 2 114 := ⟨by decide +kernel, rfl⟩
theorem eX7_wishes_114 : Dc MX7_wishes 114 (.iadd) 1 115 := ⟨by decide +kernel, rfl⟩
theorem eX7_wishes_115 : Dc MX7_wishes 115 (.istore 8) 2 117 := ⟨by decide +kernel, rfl⟩
theorem eX7_wishes_117 : Dc MX7_wishes 117 (.iinc 9 1) 3 120 := ⟨by decide +kernel, rfl⟩
theorem eX7_wishes_120 : Dc MX7_wishes 120 (.goto (-56)) 3 123 := ⟨by decide +kernel, rfl⟩
theorem eX7_wishes_123 : Dc MX7_wishes 123 (.aload 6) 2 125 := ⟨by decide +kernel, rfl⟩
theorem eX7_wishes_125 : Dc MX7_wishes 125 (.getfield 67) 3 128 := ⟨by decide +kernel, rfl⟩
theorem eX7_wishes_128 : Dc MX7_wishes 128 (.ireturn) 1 129 := ⟨by decide +kernel, rfl⟩
theorem eX7_friends_0 : Dc MX7_friends 0 (.aload_n 0) 1 1 := ⟨by decide +kernel, rfl⟩
theorem eX7_friends_1 : Dc MX7_friends 1 (.getfield 10) 3 4 := ⟨by decide +kernel, rfl⟩
theorem eX7_friends_4 : Dc MX7_friends 4 (.iload_n 1) 1 5 := ⟨by decide +kernel, rfl⟩
theorem eX7_friends_5 : Dc MX7_friends 5 (.invokevirtual 55) 3 8 := ⟨by decide +kernel, rfl⟩
theorem eX7_friends_8 : Dc MX7_friends 8 (.astore 4) 2 10 := ⟨by decide +kernel, rfl⟩
theorem eX7_friends_10 : Dc MX7_friends 10 (.aload_n 0) 1 11 := ⟨by decide +kernel, rfl⟩
theorem eX7_friends_11 : Dc MX7_friends 11 (.getfield 10) 3 14 := ⟨by decide +kernel, rfl⟩
theorem eX7_friends_14 : Dc MX7_friends 14 (.iload_n 2) 1 15 := ⟨by decide +kernel, rfl⟩
theorem eX7_friends_15 : Dc MX7_friends 15 (.invokevirtual 55) 3 18 := ⟨by decide +kernel, rfl⟩
theorem eX7_friends_18 : Dc MX7_friends 18 (.astore 5) 2 20 := ⟨by decide +kernel, rfl⟩
theorem eX7_friends_20 : Dc MX7_friends 20 (.aload 4) 2 22 := ⟨by decide +kernel, rfl⟩
theorem eX7_friends_22 : Dc MX7_friends 22 (.ifnull 13) 3 25 := ⟨by decide +kernel, rfl⟩
theorem eX7_friends_25 : Dc MX7_friends 25 (.aload 5) 2 27 := ⟨by decide +kernel, rfl⟩
theorem eX7_friends_27 : Dc MX7_friends 27 (.ifnull 8) 3 30 := ⟨by decide +kernel, rfl⟩
theorem eX7_friends_30 : Dc MX7_friends 30 (.iload_n 1) 1 31 := ⟨by decide +kernel, rfl⟩
theorem eX7_friends_31 : Dc MX7_friends 31 (.iload_n 2) 1 32 := ⟨by decide +kernel, rfl⟩
theorem eX7_friends_32 : Dc MX7_friends 32 (.if_icmp .ne 5) 3 35 := ⟨by decide +kernel, rfl⟩
theorem eX7_friends_35 : Dc MX7_friends 35 (.iconst 0) 1 36 := ⟨by decide +kernel, rfl⟩
theorem eX7_friends_36 : Dc MX7_friends 36 (.ireturn) 1 37 := ⟨by decide +kernel, rfl⟩
theorem eX7_friends_37 : Dc MX7_friends 37 (.aload 4) 2 39 := ⟨by decide +kernel, rfl⟩
theorem eX7_friends_39 : Dc MX7_friends 39 (.aload 4) 2 41 := ⟨by decide +kernel, rfl⟩
theorem eX7_friends_41 : Dc MX7_friends 41 (.getfield 74) 3 44 := ⟨by decide +kernel, rfl⟩
theorem eX7_friends_44 : Dc MX7_friends 44 (.iload_n 2) 1 45 := ⟨by decide +kernel, rfl⟩
theorem eX7_friends_45 : Dc MX7_friends 45 (.iload_n 3) 1 46 := ⟨by decide +kernel, rfl⟩
theorem eX7_friends_46 : Dc MX7_friends 46 (.invokestatic 77) 3 49 := ⟨by decide +kernel, rfl⟩
theorem eX7_friends_49 : Dc MX7_friends 49 (.putfield 74) 3 52 := ⟨by decide +kernel, rfl⟩
theorem eX7_friends_52 : Dc MX7_friends 52 (.aload 5) 2 54 := ⟨by decide +kernel, rfl⟩
theorem eX7_friends_54 : Dc MX7_friends 54 (.aload 5) 2 56 := ⟨by decide +kernel, rfl⟩
theorem eX7_friends_56 : Dc MX7_friends 56 (.getfield 74) 3 59 := ⟨by decide +kernel, rfl⟩
theorem eX7_friends_59 : Dc MX7_friends 59 (.iload_n 1) 1 60 := ⟨by decide +kernel, rfl⟩
theorem eX7_friends_60 : Dc MX7_friends 60 (.iload_n 3) 1 61 := ⟨by decide +kernel, rfl⟩
theorem eX7_friends_61 : Dc MX7_friends 61 (.invokestatic 77) 3 64 := ⟨by decide +kernel, rfl⟩
theorem eX7_friends_64 : Dc MX7_friends 64 (.putfield 74) 3 67 := ⟨by decide +kernel, rfl⟩
theorem eX7_friends_67 : Dc MX7_friends 67 (.iconst 1) 1 68 := ⟨by decide +kernel, rfl⟩
theorem eX7_friends_68 : Dc MX7_friends 68 (.ireturn) 1 69 := ⟨by decide +kernel, rfl⟩
theorem eX7_apart_0 : Dc MX7_apart 0 (.aload_n 0) 1 1 := ⟨by decide +kernel, rfl⟩
theorem eX7_apart_1 : Dc MX7_apart 1 (.getfield 10) 3 4 := ⟨by decide +kernel, rfl⟩
theorem eX7_apart_4 : Dc MX7_apart 4 (.iload_n 1) 1 5 := ⟨by decide +kernel, rfl⟩
theorem eX7_apart_5 : Dc MX7_apart 5 (.invokevirtual 55) 3 8 := ⟨by decide +kernel, rfl⟩
theorem eX7_apart_8 : Dc MX7_apart 8 (.astore 4) 2 10 := ⟨by decide +kernel, rfl⟩
theorem eX7_apart_10 : Dc MX7_apart 10 (.aload_n 0) 1 11 := ⟨by decide +kernel, rfl⟩
theorem eX7_apart_11 : Dc MX7_apart 11 (.getfield 10) 3 14 := ⟨by decide +kernel, rfl⟩
theorem eX7_apart_14 : Dc MX7_apart 14 (.iload_n 2) 1 15 := ⟨by decide +kernel, rfl⟩
theorem eX7_apart_15 : Dc MX7_apart 15 (.invokevirtual 55) 3 18 := ⟨by decide +kernel, rfl⟩
theorem eX7_apart_18 : Dc MX7_apart 18 (.astore 5) 2 20 := ⟨by decide +kernel, rfl⟩
theorem eX7_apart_20 : Dc MX7_apart 20 (.aload 4) 2 22 := ⟨by decide +kernel, rfl⟩
theorem eX7_apart_22 : Dc MX7_apart 22 (.ifnull 13) 3 25 := ⟨by decide +kernel, rfl⟩
theorem eX7_apart_25 : Dc MX7_apart 25 (.aload 5) 2 27 := ⟨by decide +kernel, rfl⟩
theorem eX7_apart_27 : Dc MX7_apart 27 (.ifnull 8) 3 30 := ⟨by decide +kernel, rfl⟩
theorem eX7_apart_30 : Dc MX7_apart 30 (.iload_n 1) 1 31 := ⟨by decide +kernel, rfl⟩
theorem eX7_apart_31 : Dc MX7_apart 31 (.iload_n 2) 1 32 := ⟨by decide +kernel, rfl⟩
theorem eX7_apart_32 : Dc MX7_apart 32 (.if_icmp .ne 5) 3 35 := ⟨by decide +kernel, rfl⟩
theorem eX7_apart_35 : Dc MX7_apart 35 (.iconst 0) 1 36 := ⟨by decide +kernel, rfl⟩
theorem eX7_apart_36 : Dc MX7_apart 36 (.ireturn) 1 37 := ⟨by decide +kernel, rfl⟩
theorem eX7_apart_37 : Dc MX7_apart 37 (.aload 4) 2 39 := ⟨by decide +kernel, rfl⟩
theorem eX7_apart_39 : Dc MX7_apart 39 (.aload 4) 2 41 := ⟨by decide +kernel, rfl⟩
theorem eX7_apart_41 : Dc MX7_apart 41 (.getfield 81) 3 44 := ⟨by decide +kernel, rfl⟩
theorem eX7_apart_44 : Dc MX7_apart 44 (.iload_n 2) 1 45 := ⟨by decide +kernel, rfl⟩
theorem eX7_apart_45 : Dc MX7_apart 45 (.iload_n 3) 1 46 := ⟨by decide +kernel, rfl⟩
theorem eX7_apart_46 : Dc MX7_apart 46 (.invokestatic 77) 3 49 := ⟨by decide +kernel, rfl⟩
theorem eX7_apart_49 : Dc MX7_apart 49 (.putfield 81) 3 52 := ⟨by decide +kernel, rfl⟩
theorem eX7_apart_52 : Dc MX7_apart 52 (.aload 5) 2 54 := ⟨by decide +kernel, rfl⟩
theorem eX7_apart_54 : Dc MX7_apart 54 (.aload 5) 2 56 := ⟨by decide +kernel, rfl⟩
theorem eX7_apart_56 : Dc MX7_apart 56 (.getfield 81) 3 59 := ⟨by decide +kernel, rfl⟩
theorem eX7_apart_59 : Dc MX7_apart 59 (.iload_n 1) 1 60 := ⟨by decide +kernel, rfl⟩
theorem eX7_apart_60 : Dc MX7_apart 60 (.iload_n 3) 1 61 := ⟨by decide +kernel, rfl⟩
theorem eX7_apart_61 : Dc MX7_apart 61 (.invokestatic 77) 3 64 := ⟨by decide +kernel, rfl⟩
theorem eX7_apart_64 : Dc MX7_apart 64 (.putfield 81) 3 67 := ⟨by decide +kernel, rfl⟩
theorem eX7_apart_67 : Dc MX7_apart 67 (.iconst 1) 1 68 := ⟨by decide +kernel, rfl⟩
theorem eX7_apart_68 : Dc MX7_apart 68 (.ireturn) 1 69 := ⟨by decide +kernel, rfl⟩
theorem eX7_here_0 : Dc MX7_here 0 (.aload_n 0) 1 1 := ⟨by decide +kernel, rfl⟩
theorem eX7_here_1 : Dc MX7_here 1 (.getfield 10) 3 4 := ⟨by decide +kernel, rfl⟩
theorem eX7_here_4 : Dc MX7_here 4 (.iload_n 1) 1 5 := ⟨by decide +kernel, rfl⟩
theorem eX7_here_5 : Dc MX7_here 5 (.invokevirtual 55) 3 8 := ⟨by decide +kernel, rfl⟩
theorem eX7_here_8 : Dc MX7_here 8 (.astore_n 3) 1 9 := ⟨by decide +kernel, rfl⟩
theorem eX7_here_9 : Dc MX7_here 9 (.aload_n 3) 1 10 := ⟨by decide +kernel, rfl⟩
theorem eX7_here_10 : Dc MX7_here 10 (.ifnonnull 5) 3 13 := ⟨by decide +kernel, rfl⟩
theorem eX7_here_13 : Dc MX7_here 13 (.iconst 0) 1 14 := ⟨by decide +kernel, rfl⟩
theorem eX7_here_14 : Dc MX7_here 14 (.ireturn) 1 15 := ⟨by decide +kernel, rfl⟩
theorem eX7_here_15 : Dc MX7_here 15 (.aload_n 3) 1 16 := ⟨by decide +kernel, rfl⟩
theorem eX7_here_16 : Dc MX7_here 16 (.iload_n 2) 1 17 := ⟨by decide +kernel, rfl⟩
theorem eX7_here_17 : Dc MX7_here 17 (.putfield 84) 3 20 := ⟨by decide +kernel, rfl⟩
theorem eX7_here_20 : Dc MX7_here 20 (.iconst 1) 1 21 := ⟨by decide +kernel, rfl⟩
theorem eX7_here_21 : Dc MX7_here 21 (.ireturn) 1 22 := ⟨by decide +kernel, rfl⟩
theorem eX7_offered_0 : Dc MX7_offered 0 (.aload_n 0) 1 1 := ⟨by decide +kernel, rfl⟩
theorem eX7_offered_1 : Dc MX7_offered 1 (.getfield 10) 3 4 := ⟨by decide +kernel, rfl⟩
theorem eX7_offered_4 : Dc MX7_offered 4 (.iload_n 1) 1 5 := ⟨by decide +kernel, rfl⟩
theorem eX7_offered_5 : Dc MX7_offered 5 (.invokevirtual 88) 3 8 := ⟨by decide +kernel, rfl⟩
theorem eX7_offered_8 : Dc MX7_offered 8 (.astore_n 3) 1 9 := ⟨by decide +kernel, rfl⟩
theorem eX7_offered_9 : Dc MX7_offered 9 (.aload_n 3) 1 10 := ⟨by decide +kernel, rfl⟩
theorem eX7_offered_10 : Dc MX7_offered 10 (.ifnonnull 5) 3 13 := ⟨by decide +kernel, rfl⟩
theorem eX7_offered_13 : Dc MX7_offered 13 (.iconst 0) 1 14 := ⟨by decide +kernel, rfl⟩
theorem eX7_offered_14 : Dc MX7_offered 14 (.ireturn) 1 15 := ⟨by decide +kernel, rfl⟩
theorem eX7_offered_15 : Dc MX7_offered 15 (.aload_n 3) 1 16 := ⟨by decide +kernel, rfl⟩
theorem eX7_offered_16 : Dc MX7_offered 16 (.iload_n 2) 1 17 := ⟨by decide +kernel, rfl⟩
theorem eX7_offered_17 : Dc MX7_offered 17 (.putfield 92) 3 20 := ⟨by decide +kernel, rfl⟩
theorem eX7_offered_20 : Dc MX7_offered 20 (.iconst 1) 1 21 := ⟨by decide +kernel, rfl⟩
theorem eX7_offered_21 : Dc MX7_offered 21 (.ireturn) 1 22 := ⟨by decide +kernel, rfl⟩
theorem eX7_lots_0 : Dc MX7_lots 0 (.aload_n 0) 1 1 := ⟨by decide +kernel, rfl⟩
theorem eX7_lots_1 : Dc MX7_lots 1 (.getfield 10) 3 4 := ⟨by decide +kernel, rfl⟩
theorem eX7_lots_4 : Dc MX7_lots 4 (.iload_n 1) 1 5 := ⟨by decide +kernel, rfl⟩
theorem eX7_lots_5 : Dc MX7_lots 5 (.invokevirtual 97) 3 8 := ⟨by decide +kernel, rfl⟩
theorem eX7_lots_8 : Dc MX7_lots 8 (.iconst 1) 1 9 := ⟨by decide +kernel, rfl⟩
theorem eX7_lots_9 : Dc MX7_lots 9 (.ireturn) 1 10 := ⟨by decide +kernel, rfl⟩
theorem eX7_count_0 : Dc MX7_count 0 (.iload_n 1) 1 1 := ⟨by decide +kernel, rfl⟩
theorem eX7_count_1 : Dc MX7_count 1 (.tableswitch 87 0 5 #[39, 47, 55, 66, 74, 79]) 39 40 := ⟨by decide +kernel, rfl⟩
theorem eX7_count_40 : Dc MX7_count 40 (.aload_n 0) 1 41 := ⟨by decide +kernel, rfl⟩
theorem eX7_count_41 : Dc MX7_count 41 (.getfield 10) 3 44 := ⟨by decide +kernel, rfl⟩
theorem eX7_count_44 : Dc MX7_count 44 (.getfield 101) 3 47 := ⟨by decide +kernel, rfl⟩
theorem eX7_count_47 : Dc MX7_count 47 (.ireturn) 1 48 := ⟨by decide +kernel, rfl⟩
theorem eX7_count_48 : Dc MX7_count 48 (.aload_n 0) 1 49 := ⟨by decide +kernel, rfl⟩
theorem eX7_count_49 : Dc MX7_count 49 (.getfield 10) 3 52 := ⟨by decide +kernel, rfl⟩
theorem eX7_count_52 : Dc MX7_count 52 (.getfield 104) 3 55 := ⟨by decide +kernel, rfl⟩
theorem eX7_count_55 : Dc MX7_count 55 (.ireturn) 1 56 := ⟨by decide +kernel, rfl⟩
theorem eX7_count_56 : Dc MX7_count 56 (.aload_n 0) 1 57 := ⟨by decide +kernel, rfl⟩
theorem eX7_count_57 : Dc MX7_count 57 (.getfield 10) 3 60 := ⟨by decide +kernel, rfl⟩
theorem eX7_count_60 : Dc MX7_count 60 (.invokevirtual 107) 3 63 := ⟨by decide +kernel, rfl⟩
theorem eX7_count_63 : Dc MX7_count 63 (.invokestatic 111) 3 66 := ⟨by decide +kernel, rfl⟩
theorem eX7_count_66 : Dc MX7_count 66 (.ireturn) 1 67 := ⟨by decide +kernel, rfl⟩
theorem eX7_count_67 : Dc MX7_count 67 (.aload_n 0) 1 68 := ⟨by decide +kernel, rfl⟩
theorem eX7_count_68 : Dc MX7_count 68 (.getfield 26) 3 71 := ⟨by decide +kernel, rfl⟩
theorem eX7_count_71 : Dc MX7_count 71 (.getfield 116) 3 74 := ⟨by decide +kernel, rfl⟩
theorem eX7_count_74 : Dc MX7_count 74 (.ireturn) 1 75 := ⟨by decide +kernel, rfl⟩
theorem eX7_count_75 : Dc MX7_count 75 (.aload_n 0) 1 76 := ⟨by decide +kernel, rfl⟩
theorem eX7_count_76 : Dc MX7_count 76 (.getfield 119) 3 79 := ⟨by decide +kernel, rfl⟩
theorem eX7_count_79 : Dc MX7_count 79 (.ireturn) 1 80 := ⟨by decide +kernel, rfl⟩
theorem eX7_count_80 : Dc MX7_count 80 (.aload_n 0) 1 81 := ⟨by decide +kernel, rfl⟩
theorem eX7_count_81 : Dc MX7_count 81 (.getfield 10) 3 84 := ⟨by decide +kernel, rfl⟩
theorem eX7_count_84 : Dc MX7_count 84 (.invokevirtual 122) 3 87 := ⟨by decide +kernel, rfl⟩
theorem eX7_count_87 : Dc MX7_count 87 (.ireturn) 1 88 := ⟨by decide +kernel, rfl⟩
theorem eX7_count_88 : Dc MX7_count 88 (.iconst (-1)) 1 89 := ⟨by decide +kernel, rfl⟩
theorem eX7_count_89 : Dc MX7_count 89 (.ireturn) 1 90 := ⟨by decide +kernel, rfl⟩
theorem eX7_of_0 : Dc MX7_of 0 (.aload_n 0) 1 1 := ⟨by decide +kernel, rfl⟩
theorem eX7_of_1 : Dc MX7_of 1 (.getfield 10) 3 4 := ⟨by decide +kernel, rfl⟩
theorem eX7_of_4 : Dc MX7_of 4 (.iload_n 1) 1 5 := ⟨by decide +kernel, rfl⟩
theorem eX7_of_5 : Dc MX7_of 5 (.invokevirtual 55) 3 8 := ⟨by decide +kernel, rfl⟩
theorem eX7_of_8 : Dc MX7_of 8 (.astore_n 3) 1 9 := ⟨by decide +kernel, rfl⟩
theorem eX7_of_9 : Dc MX7_of 9 (.aload_n 3) 1 10 := ⟨by decide +kernel, rfl⟩
theorem eX7_of_10 : Dc MX7_of 10 (.ifnonnull 11) 3 13 := ⟨by decide +kernel, rfl⟩
theorem eX7_of_13 : Dc MX7_of 13 (.new 125) 3 16 := ⟨by decide +kernel, rfl⟩
theorem eX7_of_16 : Dc MX7_of 16 (.dup) 1 17 := ⟨by decide +kernel, rfl⟩
theorem eX7_of_17 : Dc MX7_of 17 (.invokespecial 127) 3 20 := ⟨by decide +kernel, rfl⟩
theorem eX7_of_20 : Dc MX7_of 20 (.athrow) 1 21 := ⟨by decide +kernel, rfl⟩
theorem eX7_of_21 : Dc MX7_of 21 (.iload_n 2) 1 22 := ⟨by decide +kernel, rfl⟩
theorem eX7_of_22 : Dc MX7_of 22 (.tableswitch 111 0 6 #[42, 47, 60, 65, 70, 77, 102]) 42 64 := ⟨by decide +kernel, rfl⟩
theorem eX7_of_64 : Dc MX7_of 64 (.aload_n 3) 1 65 := ⟨by decide +kernel, rfl⟩
theorem eX7_of_65 : Dc MX7_of 65 (.getfield 128) 3 68 := ⟨by decide +kernel, rfl⟩
theorem eX7_of_68 : Dc MX7_of 68 (.ireturn) 1 69 := ⟨by decide +kernel, rfl⟩
theorem eX7_of_69 : Dc MX7_of 69 (.aload_n 3) 1 70 := ⟨by decide +kernel, rfl⟩
theorem eX7_of_70 : Dc MX7_of 70 (.getfield 84) 3 73 := ⟨by decide +kernel, rfl⟩
theorem eX7_of_73 : Dc MX7_of 73 (.ifCond .eq 7) 3 76 := ⟨by decide +kernel, rfl⟩
theorem eX7_of_76 : Dc MX7_of 76 (.iconst 1) 1 77 := ⟨by decide +kernel, rfl⟩
theorem eX7_of_77 : Dc MX7_of 77 (.goto 4) 3 80 := ⟨by decide +kernel, rfl⟩
theorem eX7_of_80 : Dc MX7_of 80 (.iconst 0) 1 81 := ⟨by decide +kernel, rfl⟩
theorem eX7_of_81 : Dc MX7_of 81 (.ireturn) 1 82 := ⟨by decide +kernel, rfl⟩
theorem eX7_of_82 : Dc MX7_of 82 (.aload_n 3) 1 83 := ⟨by decide +kernel, rfl⟩
theorem eX7_of_83 : Dc MX7_of 83 (.getfield 67) 3 86 := ⟨by decide +kernel, rfl⟩
theorem eX7_of_86 : Dc MX7_of 86 (.ireturn) 1 87 := ⟨by decide +kernel, rfl⟩
theorem eX7_of_87 : Dc MX7_of 87 (.aload_n 3) 1 88 := ⟨by decide +kernel, rfl⟩
theorem eX7_of_88 : Dc MX7_of 88 (.getfield 131) 3 91 := ⟨by decide +kernel, rfl⟩
theorem eX7_of_91 : Dc MX7_of 91 (.ireturn) 1 92 := ⟨by decide +kernel, rfl⟩
theorem eX7_of_92 : Dc MX7_of 92 (.aload_n 0) 1 93 := ⟨by decide +kernel, rfl⟩
theorem eX7_of_93 : Dc MX7_of 93 (.getfield 30) 3 96 := ⟨by decide +kernel, rfl⟩
theorem eX7_of_96 : Dc MX7_of 96 (.iload_n 1) 1 97 := ⟨by decide +kernel, rfl⟩
theorem eX7_of_97 : Dc MX7_of 97 (.iaload) 1 98 := ⟨by decide +kernel, rfl⟩
theorem eX7_of_98 : Dc MX7_of 98 (.ireturn) 1 99 := ⟨by decide +kernel, rfl⟩
theorem eX7_of_99 : Dc MX7_of 99 (.aload_n 0) 1 100 := ⟨by decide +kernel, rfl⟩
theorem eX7_of_100 : Dc MX7_of 100 (.getfield 30) 3 103 := ⟨by decide +kernel, rfl⟩
theorem eX7_of_103 : Dc MX7_of 103 (.iload_n 1) 1 104 := ⟨by decide +kernel, rfl⟩
theorem eX7_of_104 : Dc MX7_of 104 (.iaload) 1 105 := ⟨by decide +kernel, rfl⟩
theorem eX7_of_105 : Dc MX7_of 105 (.iconst (-1)) 1 106 := ⟨by decide +kernel, rfl⟩
theorem eX7_of_106 : Dc MX7_of 106 (.if_icmp .ne 7) 3 109 := ⟨by decide +kernel, rfl⟩
theorem eX7_of_109 : Dc MX7_of 109 (.iconst 0) 1 110 := ⟨by decide +kernel, rfl⟩
theorem eX7_of_110 : Dc MX7_of 110 (.goto 13) 3 113 := ⟨by decide +kernel, rfl⟩
theorem eX7_of_113 : Dc MX7_of 113 (.aload_n 3) 1 114 := ⟨by decide +kernel, rfl⟩
theorem eX7_of_114 : Dc MX7_of 114 (.aload_n 0) 1 115 := ⟨by decide +kernel, rfl⟩
theorem eX7_of_115 : Dc MX7_of 115 (.getfield 30) 3 118 := ⟨by decide +kernel, rfl⟩
theorem eX7_of_118 : Dc MX7_of 118 (.iload_n 1) 1 119 := ⟨by decide +kernel, rfl⟩
theorem eX7_of_119 : Dc MX7_of 119 (.iaload) 1 120 := ⟨by decide +kernel, rfl⟩
theorem eX7_of_120 : Dc MX7_of 120 (.invokevirtual 134) 3 123 := ⟨by decide +kernel, rfl⟩
theorem eX7_of_123 : Dc MX7_of 123 (.ireturn) 1 124 := ⟨by decide +kernel, rfl⟩
theorem eX7_of_124 : Dc MX7_of 124 (.aload_n 0) 1 125 := ⟨by decide +kernel, rfl⟩
theorem eX7_of_125 : Dc MX7_of 125 (.getfield 10) 3 128 := ⟨by decide +kernel, rfl⟩
theorem eX7_of_128 : Dc MX7_of 128 (.iload_n 1) 1 129 := ⟨by decide +kernel, rfl⟩
theorem eX7_of_129 : Dc MX7_of 129 (.invokevirtual 137) 3 132 := ⟨by decide +kernel, rfl⟩
theorem eX7_of_132 : Dc MX7_of 132 (.ireturn) 1 133 := ⟨by decide +kernel, rfl⟩
theorem eX7_of_133 : Dc MX7_of 133 (.new 125) 3 136 := ⟨by decide +kernel, rfl⟩
theorem eX7_of_136 : Dc MX7_of 136 (.dup) 1 137 := ⟨by decide +kernel, rfl⟩
theorem eX7_of_137 : Dc MX7_of 137 (.invokespecial 127) 3 140 := ⟨by decide +kernel, rfl⟩
theorem eX7_of_140 : Dc MX7_of 140 (.athrow) 1 141 := ⟨by decide +kernel, rfl⟩
theorem eX7_rank_0 : Dc MX7_rank 0 (.aload_n 0) 1 1 := ⟨by decide +kernel, rfl⟩
theorem eX7_rank_1 : Dc MX7_rank 1 (.getfield 10) 3 4 := ⟨by decide +kernel, rfl⟩
theorem eX7_rank_4 : Dc MX7_rank 4 (.iload_n 1) 1 5 := ⟨by decide +kernel, rfl⟩
theorem eX7_rank_5 : Dc MX7_rank 5 (.invokevirtual 55) 3 8 := ⟨by decide +kernel, rfl⟩
theorem eX7_rank_8 : Dc MX7_rank 8 (.astore_n 3) 1 9 := ⟨by decide +kernel, rfl⟩
theorem eX7_rank_9 : Dc MX7_rank 9 (.aload_n 3) 1 10 := ⟨by decide +kernel, rfl⟩
theorem eX7_rank_10 : Dc MX7_rank 10 (.ifnull 14) 3 13 := ⟨by decide +kernel, rfl⟩
theorem eX7_rank_13 : Dc MX7_rank 13 (.aload_n 0) 1 14 := ⟨by decide +kernel, rfl⟩
theorem eX7_rank_14 : Dc MX7_rank 14 (.getfield 10) 3 17 := ⟨by decide +kernel, rfl⟩
theorem eX7_rank_17 : Dc MX7_rank 17 (.iload_n 2) 1 18 := ⟨by decide +kernel, rfl⟩
theorem eX7_rank_18 : Dc MX7_rank 18 (.invokevirtual 59) 3 21 := ⟨by decide +kernel, rfl⟩
theorem eX7_rank_21 : Dc MX7_rank 21 (.ifCond .ne 7) 3 24 := ⟨by decide +kernel, rfl⟩
theorem eX7_rank_24 : Dc MX7_rank 24 (.iconst (-1)) 1 25 := ⟨by decide +kernel, rfl⟩
theorem eX7_rank_25 : Dc MX7_rank 25 (.goto 8) 3 28 := ⟨by decide +kernel, rfl⟩
theorem eX7_rank_28 : Dc MX7_rank 28 (.aload_n 3) 1 29 := ⟨by decide +kernel, rfl⟩
theorem eX7_rank_29 : Dc MX7_rank 29 (.iload_n 2) 1 30 := ⟨by decide +kernel, rfl⟩
theorem eX7_rank_30 : Dc MX7_rank 30 (.invokevirtual 134) 3 33 := ⟨by decide +kernel, rfl⟩
theorem eX7_rank_33 : Dc MX7_rank 33 (.ireturn) 1 34 := ⟨by decide +kernel, rfl⟩
theorem eX7_put_0 : Dc MX7_put 0 (.aload_n 0) 1 1 := ⟨by decide +kernel, rfl⟩
theorem eX7_put_1 : Dc MX7_put 1 (.getfield 10) 3 4 := ⟨by decide +kernel, rfl⟩
theorem eX7_put_4 : Dc MX7_put 4 (.iload_n 1) 1 5 := ⟨by decide +kernel, rfl⟩
theorem eX7_put_5 : Dc MX7_put 5 (.invokevirtual 47) 3 8 := ⟨by decide +kernel, rfl⟩
theorem eX7_put_8 : Dc MX7_put 8 (.ifCond .eq 19) 3 11 := ⟨by decide +kernel, rfl⟩
theorem eX7_put_11 : Dc MX7_put 11 (.iload_n 2) 1 12 := ⟨by decide +kernel, rfl⟩
theorem eX7_put_12 : Dc MX7_put 12 (.iconst (-1)) 1 13 := ⟨by decide +kernel, rfl⟩
theorem eX7_put_13 : Dc MX7_put 13 (.if_icmp .eq 16) 3 16 := ⟨by decide +kernel, rfl⟩
theorem eX7_put_16 : Dc MX7_put 16 (.aload_n 0) 1 17 := ⟨by decide +kernel, rfl⟩
theorem eX7_put_17 : Dc MX7_put 17 (.getfield 10) 3 20 := ⟨by decide +kernel, rfl⟩
theorem eX7_put_20 : Dc MX7_put 20 (.iload_n 2) 1 21 := ⟨by decide +kernel, rfl⟩
theorem eX7_put_21 : Dc MX7_put 21 (.invokevirtual 59) 3 24 := ⟨by decide +kernel, rfl⟩
theorem eX7_put_24 : Dc MX7_put 24 (.ifCond .ne 5) 3 27 := ⟨by decide +kernel, rfl⟩
theorem eX7_put_27 : Dc MX7_put 27 (.iconst 0) 1 28 := ⟨by decide +kernel, rfl⟩
theorem eX7_put_28 : Dc MX7_put 28 (.ireturn) 1 29 := ⟨by decide +kernel, rfl⟩
theorem eX7_put_29 : Dc MX7_put 29 (.aload_n 0) 1 30 := ⟨by decide +kernel, rfl⟩
theorem eX7_put_30 : Dc MX7_put 30 (.getfield 30) 3 33 := ⟨by decide +kernel, rfl⟩
theorem eX7_put_33 : Dc MX7_put 33 (.iload_n 1) 1 34 := ⟨by decide +kernel, rfl⟩
theorem eX7_put_34 : Dc MX7_put 34 (.iload_n 2) 1 35 := ⟨by decide +kernel, rfl⟩
theorem eX7_put_35 : Dc MX7_put 35 (.iastore) 1 36 := ⟨by decide +kernel, rfl⟩
theorem eX7_put_36 : Dc MX7_put 36 (.iconst 1) 1 37 := ⟨by decide +kernel, rfl⟩
theorem eX7_put_37 : Dc MX7_put 37 (.ireturn) 1 38 := ⟨by decide +kernel, rfl⟩
theorem eX7_wrong_0 : Dc MX7_wrong 0 (.aload_n 0) 1 1 := ⟨by decide +kernel, rfl⟩
theorem eX7_wrong_1 : Dc MX7_wrong 1 (.getfield 10) 3 4 := ⟨by decide +kernel, rfl⟩
theorem eX7_wrong_4 : Dc MX7_wrong 4 (.aload_n 0) 1 5 := ⟨by decide +kernel, rfl⟩
theorem eX7_wrong_5 : Dc MX7_wrong 5 (.getfield 30) 3 8 := ⟨by decide +kernel, rfl⟩
theorem eX7_wrong_8 : Dc MX7_wrong 8 (.invokevirtual 140) 3 11 := ⟨by decide +kernel, rfl⟩
theorem eX7_wrong_11 : Dc MX7_wrong 11 (.ireturn) 1 12 := ⟨by decide +kernel, rfl⟩
theorem eX7_best_0 : Dc MX7_best 0 (.aload_n 0) 1 1 := ⟨by decide +kernel, rfl⟩
theorem eX7_best_1 : Dc MX7_best 1 (.getfield 19) 3 4 := ⟨by decide +kernel, rfl⟩
theorem eX7_best_4 : Dc MX7_best 4 (.aload_n 0) 1 5 := ⟨by decide +kernel, rfl⟩
theorem eX7_best_5 : Dc MX7_best 5 (.getfield 10) 3 8 := ⟨by decide +kernel, rfl⟩
theorem eX7_best_8 : Dc MX7_best 8 (.invokevirtual 144) 3 11 := ⟨by decide +kernel, rfl⟩
theorem eX7_best_11 : Dc MX7_best 11 (.aload_n 0) 1 12 := ⟨by decide +kernel, rfl⟩
theorem eX7_best_12 : Dc MX7_best 12 (.getfield 19) 3 15 := ⟨by decide +kernel, rfl⟩
theorem eX7_best_15 : Dc MX7_best 15 (.invokevirtual 148) 3 18 := ⟨by decide +kernel, rfl⟩
theorem eX7_best_18 : Dc MX7_best 18 (.ifCond .ne 5) 3 21 := ⟨by decide +kernel, rfl⟩
theorem eX7_best_21 : Dc MX7_best 21 (.iconst 0) 1 22 := ⟨by decide +kernel, rfl⟩
theorem eX7_best_22 : Dc MX7_best 22 (.ireturn) 1 23 := ⟨by decide +kernel, rfl⟩
theorem eX7_best_23 : Dc MX7_best 23 (.aload_n 0) 1 24 := ⟨by decide +kernel, rfl⟩
theorem eX7_best_24 : Dc MX7_best 24 (.getfield 19) 3 27 := ⟨by decide +kernel, rfl⟩
theorem eX7_best_27 : Dc MX7_best 27 (.aload_n 0) 1 28 := ⟨by decide +kernel, rfl⟩
theorem eX7_best_28 : Dc MX7_best 28 (.getfield 30) 3 31 := ⟨by decide +kernel, rfl⟩
theorem eX7_best_31 : Dc MX7_best 31 (.invokevirtual 152) 3 34 := ⟨by decide +kernel, rfl⟩
theorem eX7_best_34 : Dc MX7_best 34 (.iconst 1) 1 35 := ⟨by decide +kernel, rfl⟩
theorem eX7_best_35 : Dc MX7_best 35 (.ireturn) 1 36 := ⟨by decide +kernel, rfl⟩
theorem eX7_plans_0 : Dc MX7_plans 0 (.iload_n 1) 1 1 := ⟨by decide +kernel, rfl⟩
theorem eX7_plans_1 : Dc MX7_plans 1 (.ifCond .lt 8) 3 4 := ⟨by decide +kernel, rfl⟩
theorem eX7_plans_4 : Dc MX7_plans 4 (.iload_n 1) 1 5 := ⟨by decide +kernel, rfl⟩
theorem eX7_plans_5 : Dc MX7_plans 5 (.iconst 1) 1 6 := ⟨by decide +kernel, rfl⟩
theorem eX7_plans_6 : Dc MX7_plans 6 (.if_icmp .le 5) 3 9 := ⟨by decide +kernel, rfl⟩
theorem eX7_plans_9 : Dc MX7_plans 9 (.iconst (-1)) 1 10 := ⟨by decide +kernel, rfl⟩
theorem eX7_plans_10 : Dc MX7_plans 10 (.ireturn) 1 11 := ⟨by decide +kernel, rfl⟩
theorem eX7_plans_11 : Dc MX7_plans 11 (.aload_n 0) 1 12 := ⟨by decide +kernel, rfl⟩
theorem eX7_plans_12 : Dc MX7_plans 12 (.getfield 19) 3 15 := ⟨by decide +kernel, rfl⟩
theorem eX7_plans_15 : Dc MX7_plans 15 (.aload_n 0) 1 16 := ⟨by decide +kernel, rfl⟩
theorem eX7_plans_16 : Dc MX7_plans 16 (.getfield 10) 3 19 := ⟨by decide +kernel, rfl⟩
theorem eX7_plans_19 : Dc MX7_plans 19 (.invokevirtual 144) 3 22 := ⟨by decide +kernel, rfl⟩
theorem eX7_plans_22 : Dc MX7_plans 22 (.iload_n 1) 1 23 := ⟨by decide +kernel, rfl⟩
theorem eX7_plans_23 : Dc MX7_plans 23 (.ifCond .ne 13) 3 26 := ⟨by decide +kernel, rfl⟩
theorem eX7_plans_26 : Dc MX7_plans 26 (.aload_n 0) 1 27 := ⟨by decide +kernel, rfl⟩
theorem eX7_plans_27 : Dc MX7_plans 27 (.getfield 19) 3 30 := ⟨by decide +kernel, rfl⟩
theorem eX7_plans_30 : Dc MX7_plans 30 (.invokevirtual 156) 3 33 := ⟨by decide +kernel, rfl⟩
theorem eX7_plans_33 : Dc MX7_plans 33 (.goto 14) 3 36 := ⟨by decide +kernel, rfl⟩
theorem eX7_plans_36 : Dc MX7_plans 36 (.aload_n 0) 1 37 := ⟨by decide +kernel, rfl⟩
theorem eX7_plans_37 : Dc MX7_plans 37 (.getfield 19) 3 40 := ⟨by decide +kernel, rfl⟩
theorem eX7_plans_40 : Dc MX7_plans 40 (.aload_n 0) 1 41 := ⟨by decide +kernel, rfl⟩
theorem eX7_plans_41 : Dc MX7_plans 41 (.getfield 30) 3 44 := ⟨by decide +kernel, rfl⟩
theorem eX7_plans_44 : Dc MX7_plans 44 (.invokevirtual 159) 3 47 := ⟨by decide +kernel, rfl⟩
theorem eX7_plans_47 : Dc MX7_plans 47 (.ireturn) 1 48 := ⟨by decide +kernel, rfl⟩
theorem eX7_worth_0 : Dc MX7_worth 0 (.iload_n 1) 1 1 := ⟨by decide +kernel, rfl⟩
theorem eX7_worth_1 : Dc MX7_worth 1 (.iconst 1) 1 2 := ⟨by decide +kernel, rfl⟩
theorem eX7_worth_2 : Dc MX7_worth 2 (.if_icmp .lt 15) 3 5 := ⟨by decide +kernel, rfl⟩
theorem eX7_worth_5 : Dc MX7_worth 5 (.iload_n 1) 1 6 := ⟨by decide +kernel, rfl⟩
theorem eX7_worth_6 : Dc MX7_worth 6 (.bipush 6) 2 8 := ⟨by decide +kernel, rfl⟩
theorem eX7_worth_8 : Dc MX7_worth 8 (.if_icmp .gt 9) 3 11 := ⟨by decide +kernel, rfl⟩
theorem eX7_worth_11 : Dc MX7_worth 11 (.aload_n 0) 1 12 := ⟨by decide +kernel, rfl⟩
theorem eX7_worth_12 : Dc MX7_worth 12 (.iload_n 1) 1 13 := ⟨by decide +kernel, rfl⟩
theorem eX7_worth_13 : Dc MX7_worth 13 (.invokevirtual 162) 3 16 := ⟨by decide +kernel, rfl⟩
theorem eX7_worth_16 : Dc MX7_worth 16 (.ireturn) 1 17 := ⟨by decide +kernel, rfl⟩
theorem eX7_worth_17 : Dc MX7_worth 17 (.iload_n 1) 1 18 := ⟨by decide +kernel, rfl⟩
theorem eX7_worth_18 : Dc MX7_worth 18 (.tableswitch 41 7 9 #[26, 31, 36]) 26 44 := ⟨by decide +kernel, rfl⟩
theorem eX7_worth_44 : Dc MX7_worth 44 (.aload_n 0) 1 45 := ⟨by decide +kernel, rfl⟩
theorem eX7_worth_45 : Dc MX7_worth 45 (.invokevirtual 165) 3 48 := ⟨by decide +kernel, rfl⟩
theorem eX7_worth_48 : Dc MX7_worth 48 (.ireturn) 1 49 := ⟨by decide +kernel, rfl⟩
theorem eX7_worth_49 : Dc MX7_worth 49 (.aload_n 0) 1 50 := ⟨by decide +kernel, rfl⟩
theorem eX7_worth_50 : Dc MX7_worth 50 (.invokevirtual 168) 3 53 := ⟨by decide +kernel, rfl⟩
theorem eX7_worth_53 : Dc MX7_worth 53 (.ireturn) 1 54 := ⟨by decide +kernel, rfl⟩
theorem eX7_worth_54 : Dc MX7_worth 54 (.aload_n 0) 1 55 := ⟨by decide +kernel, rfl⟩
theorem eX7_worth_55 : Dc MX7_worth 55 (.invokevirtual 171) 3 58 := ⟨by decide +kernel, rfl⟩
theorem eX7_worth_58 : Dc MX7_worth 58 (.ireturn) 1 59 := ⟨by decide +kernel, rfl⟩
theorem eX7_worth_59 : Dc MX7_worth 59 (.iconst (-1)) 1 60 := ⟨by decide +kernel, rfl⟩
theorem eX7_worth_60 : Dc MX7_worth 60 (.ireturn) 1 61 := ⟨by decide +kernel, rfl⟩
theorem eX7_swap_0 : Dc MX7_swap 0 (.iconst 0) 1 1 := ⟨by decide +kernel, rfl⟩
theorem eX7_swap_1 : Dc MX7_swap 1 (.istore_n 1) 1 2 := ⟨by decide +kernel, rfl⟩
theorem eX7_swap_2 : Dc MX7_swap 2 (.iload_n 1) 1 3 := ⟨by decide +kernel, rfl⟩
theorem eX7_swap_3 : Dc MX7_swap 3 (.aload_n 0) 1 4 := ⟨by decide +kernel, rfl⟩
theorem eX7_swap_4 : Dc MX7_swap 4 (.getfield 10) 3 7 := ⟨by decide +kernel, rfl⟩
theorem eX7_swap_7 : Dc MX7_swap 7 (.getfield 101) 3 10 := ⟨by decide +kernel, rfl⟩
theorem eX7_swap_10 : Dc MX7_swap 10 (.if_icmp .ge 69) 3 13 := ⟨by decide +kernel, rfl⟩
theorem eX7_swap_13 : Dc MX7_swap 13 (.iload_n 1) 1 14 := ⟨by decide +kernel, rfl⟩
theorem eX7_swap_14 : Dc MX7_swap 14 (.iconst 1) 1 15 := ⟨by decide +kernel, rfl⟩
theorem eX7_swap_15 : Dc MX7_swap 15 (.iadd) 1 16 := ⟨by decide +kernel, rfl⟩
theorem eX7_swap_16 : Dc MX7_swap 16 (.istore_n 2) 1 17 := ⟨by decide +kernel, rfl⟩
theorem eX7_swap_17 : Dc MX7_swap 17 (.iload_n 2) 1 18 := ⟨by decide +kernel, rfl⟩
theorem eX7_swap_18 : Dc MX7_swap 18 (.aload_n 0) 1 19 := ⟨by decide +kernel, rfl⟩
theorem eX7_swap_19 : Dc MX7_swap 19 (.getfield 10) 3 22 := ⟨by decide +kernel, rfl⟩
theorem eX7_swap_22 : Dc MX7_swap 22 (.getfield 101) 3 25 := ⟨by decide +kernel, rfl⟩
theorem eX7_swap_25 : Dc MX7_swap 25 (.if_icmp .ge 48) 3 28 := ⟨by decide +kernel, rfl⟩
theorem eX7_swap_28 : Dc MX7_swap 28 (.aload_n 0) 1 29 := ⟨by decide +kernel, rfl⟩
theorem eX7_swap_29 : Dc MX7_swap 29 (.iload_n 1) 1 30 := ⟨by decide +kernel, rfl⟩
theorem eX7_swap_30 : Dc MX7_swap 30 (.iload_n 2) 1 31 := ⟨by decide +kernel, rfl⟩
theorem eX7_swap_31 : Dc MX7_swap 31 (.invokevirtual 174) 3 34 := ⟨by decide +kernel, rfl⟩
theorem eX7_swap_34 : Dc MX7_swap 34 (.ifCond .eq 33) 3 37 := ⟨by decide +kernel, rfl⟩
theorem eX7_swap_37 : Dc MX7_swap 37 (.aload_n 0) 1 38 := ⟨by decide +kernel, rfl⟩
theorem eX7_swap_38 : Dc MX7_swap 38 (.iload_n 1) 1 39 := ⟨by decide +kernel, rfl⟩
theorem eX7_swap_39 : Dc MX7_swap 39 (.iload_n 2) 1 40 := ⟨by decide +kernel, rfl⟩
theorem eX7_swap_40 : Dc MX7_swap 40 (.invokevirtual 178) 3 43 := ⟨by decide +kernel, rfl⟩
theorem eX7_swap_43 : Dc MX7_swap 43 (.ifCond .eq 24) 3 46 := ⟨by decide +kernel, rfl⟩
theorem eX7_swap_46 : Dc MX7_swap 46 (.aload_n 0) 1 47 := ⟨by decide +kernel, rfl⟩
theorem eX7_swap_47 : Dc MX7_swap 47 (.getfield 34) 3 50 := ⟨by decide +kernel, rfl⟩
theorem eX7_swap_50 : Dc MX7_swap 50 (.iconst 0) 1 51 := ⟨by decide +kernel, rfl⟩
theorem eX7_swap_51 : Dc MX7_swap 51 (.iload_n 1) 1 52 := ⟨by decide +kernel, rfl⟩
theorem eX7_swap_52 : Dc MX7_swap 52 (.iastore) 1 53 := ⟨by decide +kernel, rfl⟩
theorem eX7_swap_53 : Dc MX7_swap 53 (.aload_n 0) 1 54 := ⟨by decide +kernel, rfl⟩
theorem eX7_swap_54 : Dc MX7_swap 54 (.getfield 34) 3 57 := ⟨by decide +kernel, rfl⟩
theorem eX7_swap_57 : Dc MX7_swap 57 (.iconst 1) 1 58 := ⟨by decide +kernel, rfl⟩
theorem eX7_swap_58 : Dc MX7_swap 58 (.iload_n 2) 1 59 := ⟨by decide +kernel, rfl⟩
theorem eX7_swap_59 : Dc MX7_swap 59 (.iastore) 1 60 := ⟨by decide +kernel, rfl⟩
theorem eX7_swap_60 : Dc MX7_swap 60 (.aload_n 0) 1 61 := ⟨by decide +kernel, rfl⟩
theorem eX7_swap_61 : Dc MX7_swap 61 (.iconst 2) 1 62 := ⟨by decide +kernel, rfl⟩
theorem eX7_swap_62 : Dc MX7_swap 62 (.putfield 119) 3 65 := ⟨by decide +kernel, rfl⟩
theorem eX7_swap_65 : Dc MX7_swap 65 (.iconst 1) 1 66 := ⟨by decide +kernel, rfl⟩
theorem eX7_swap_66 : Dc MX7_swap 66 (.ireturn) 1 67 := ⟨by decide +kernel, rfl⟩
theorem eX7_swap_67 : Dc MX7_swap 67 (.iinc 2 1) 3 70 := ⟨by decide +kernel, rfl⟩
theorem eX7_swap_70 : Dc MX7_swap 70 (.goto (-53)) 3 73 := ⟨by decide +kernel, rfl⟩
theorem eX7_swap_73 : Dc MX7_swap 73 (.iinc 1 1) 3 76 := ⟨by decide +kernel, rfl⟩
theorem eX7_swap_76 : Dc MX7_swap 76 (.goto (-74)) 3 79 := ⟨by decide +kernel, rfl⟩
theorem eX7_swap_79 : Dc MX7_swap 79 (.iconst 0) 1 80 := ⟨by decide +kernel, rfl⟩
theorem eX7_swap_80 : Dc MX7_swap 80 (.ireturn) 1 81 := ⟨by decide +kernel, rfl⟩
theorem eX7_change_0 : Dc MX7_change 0 (.aload_n 0) 1 1 := ⟨by decide +kernel, rfl⟩
theorem eX7_change_1 : Dc MX7_change 1 (.getfield 19) 3 4 := ⟨by decide +kernel, rfl⟩
theorem eX7_change_4 : Dc MX7_change 4 (.aload_n 0) 1 5 := ⟨by decide +kernel, rfl⟩
theorem eX7_change_5 : Dc MX7_change 5 (.getfield 10) 3 8 := ⟨by decide +kernel, rfl⟩
theorem eX7_change_8 : Dc MX7_change 8 (.invokevirtual 144) 3 11 := ⟨by decide +kernel, rfl⟩
theorem eX7_change_11 : Dc MX7_change 11 (.iconst 0) 1 12 := ⟨by decide +kernel, rfl⟩
theorem eX7_change_12 : Dc MX7_change 12 (.istore_n 1) 1 13 := ⟨by decide +kernel, rfl⟩
theorem eX7_change_13 : Dc MX7_change 13 (.iload_n 1) 1 14 := ⟨by decide +kernel, rfl⟩
theorem eX7_change_14 : Dc MX7_change 14 (.aload_n 0) 1 15 := ⟨by decide +kernel, rfl⟩
theorem eX7_change_15 : Dc MX7_change 15 (.getfield 10) 3 18 := ⟨by decide +kernel, rfl⟩
theorem eX7_change_18 : Dc MX7_change 18 (.getfield 101) 3 21 := ⟨by decide +kernel, rfl⟩
theorem eX7_change_21 : Dc MX7_change 21 (.if_icmp .ge 23) 3 24 := ⟨by decide +kernel, rfl⟩
theorem eX7_change_24 : Dc MX7_change 24 (.aload_n 0) 1 25 := ⟨by decide +kernel, rfl⟩
theorem eX7_change_25 : Dc MX7_change 25 (.getfield 19) 3 28 := ⟨by decide +kernel, rfl⟩
theorem eX7_change_28 : Dc MX7_change 28 (.iload_n 1) 1 29 := ⟨by decide +kernel, rfl⟩
theorem eX7_change_29 : Dc MX7_change 29 (.aload_n 0) 1 30 := ⟨by decide +kernel, rfl⟩
theorem eX7_change_30 : Dc MX7_change 30 (.getfield 30) 3 33 := ⟨by decide +kernel, rfl⟩
theorem eX7_change_33 : Dc MX7_change 33 (.iload_n 1) 1 34 := ⟨by decide +kernel, rfl⟩
theorem eX7_change_34 : Dc MX7_change 34 (.iaload) 1 35 := ⟨by decide +kernel, rfl⟩
theorem eX7_change_35 : Dc MX7_change 35 (.invokevirtual 181) 3 38 := ⟨by decide +kernel, rfl⟩
theorem eX7_change_38 : Dc MX7_change 38 (.iinc 1 1) 3 41 := ⟨by decide +kernel, rfl⟩
theorem eX7_change_41 : Dc MX7_change 41 (.goto (-28)) 3 44 := ⟨by decide +kernel, rfl⟩
theorem eX7_change_44 : Dc MX7_change 44 (.aload_n 0) 1 45 := ⟨by decide +kernel, rfl⟩
theorem eX7_change_45 : Dc MX7_change 45 (.getfield 19) 3 48 := ⟨by decide +kernel, rfl⟩
theorem eX7_change_48 : Dc MX7_change 48 (.invokevirtual 148) 3 51 := ⟨by decide +kernel, rfl⟩
theorem eX7_change_51 : Dc MX7_change 51 (.ifCond .ne 5) 3 54 := ⟨by decide +kernel, rfl⟩
theorem eX7_change_54 : Dc MX7_change 54 (.iconst (-1)) 1 55 := ⟨by decide +kernel, rfl⟩
theorem eX7_change_55 : Dc MX7_change 55 (.ireturn) 1 56 := ⟨by decide +kernel, rfl⟩
theorem eX7_change_56 : Dc MX7_change 56 (.aload_n 0) 1 57 := ⟨by decide +kernel, rfl⟩
theorem eX7_change_57 : Dc MX7_change 57 (.getfield 19) 3 60 := ⟨by decide +kernel, rfl⟩
theorem eX7_change_60 : Dc MX7_change 60 (.aload_n 0) 1 61 := ⟨by decide +kernel, rfl⟩
theorem eX7_change_61 : Dc MX7_change 61 (.getfield 30) 3 64 := ⟨by decide +kernel, rfl⟩
theorem eX7_change_64 : Dc MX7_change 64 (.invokevirtual 185) 3 67 := ⟨by decide +kernel, rfl⟩
theorem eX7_change_67 : Dc MX7_change 67 (.istore_n 1) 1 68 := ⟨by decide +kernel, rfl⟩
theorem eX7_change_68 : Dc MX7_change 68 (.aload_n 0) 1 69 := ⟨by decide +kernel, rfl⟩
theorem eX7_change_69 : Dc MX7_change 69 (.getfield 19) 3 72 := ⟨by decide +kernel, rfl⟩
theorem eX7_change_72 : Dc MX7_change 72 (.aload_n 0) 1 73 := ⟨by decide +kernel, rfl⟩
theorem eX7_change_73 : Dc MX7_change 73 (.getfield 30) 3 76 := ⟨by decide +kernel, rfl⟩
theorem eX7_change_76 : Dc MX7_change 76 (.invokevirtual 152) 3 79 := ⟨by decide +kernel, rfl⟩
theorem eX7_change_79 : Dc MX7_change 79 (.iload_n 1) 1 80 := ⟨by decide +kernel, rfl⟩
theorem eX7_change_80 : Dc MX7_change 80 (.ireturn) 1 81 := ⟨by decide +kernel, rfl⟩
theorem eX7_lie_0 : Dc MX7_lie 0 (.aload_n 0) 1 1 := ⟨by decide +kernel, rfl⟩
theorem eX7_lie_1 : Dc MX7_lie 1 (.getfield 10) 3 4 := ⟨by decide +kernel, rfl⟩
theorem eX7_lie_4 : Dc MX7_lie 4 (.iload_n 1) 1 5 := ⟨by decide +kernel, rfl⟩
theorem eX7_lie_5 : Dc MX7_lie 5 (.invokevirtual 55) 3 8 := ⟨by decide +kernel, rfl⟩
theorem eX7_lie_8 : Dc MX7_lie 8 (.astore_n 2) 1 9 := ⟨by decide +kernel, rfl⟩
theorem eX7_lie_9 : Dc MX7_lie 9 (.aload_n 2) 1 10 := ⟨by decide +kernel, rfl⟩
theorem eX7_lie_10 : Dc MX7_lie 10 (.ifnull 24) 3 13 := ⟨by decide +kernel, rfl⟩
theorem eX7_lie_13 : Dc MX7_lie 13 (.aload_n 2) 1 14 := ⟨by decide +kernel, rfl⟩
theorem eX7_lie_14 : Dc MX7_lie 14 (.getfield 84) 3 17 := ⟨by decide +kernel, rfl⟩
theorem eX7_lie_17 : Dc MX7_lie 17 (.ifCond .eq 17) 3 20 := ⟨by decide +kernel, rfl⟩
theorem eX7_lie_20 : Dc MX7_lie 20 (.aload_n 0) 1 21 := ⟨by decide +kernel, rfl⟩
theorem eX7_lie_21 : Dc MX7_lie 21 (.getfield 10) 3 24 := ⟨by decide +kernel, rfl⟩
theorem eX7_lie_24 : Dc MX7_lie 24 (.invokevirtual 107) 3 27 := ⟨by decide +kernel, rfl⟩
theorem eX7_lie_27 : Dc MX7_lie 27 (.invokestatic 111) 3 30 := ⟨by decide +kernel, rfl⟩
theorem eX7_lie_30 : Dc MX7_lie 30 (.iconst 5) 1 31 := ⟨by decide +kernel, rfl⟩
theorem eX7_lie_31 : Dc MX7_lie 31 (.if_icmp .le 5) 3 34 := ⟨by decide +kernel, rfl⟩
theorem eX7_lie_34 : Dc MX7_lie 34 (.iconst (-1)) 1 35 := ⟨by decide +kernel, rfl⟩
theorem eX7_lie_35 : Dc MX7_lie 35 (.ireturn) 1 36 := ⟨by decide +kernel, rfl⟩
theorem eX7_lie_36 : Dc MX7_lie 36 (.aload_n 0) 1 37 := ⟨by decide +kernel, rfl⟩
theorem eX7_lie_37 : Dc MX7_lie 37 (.getfield 19) 3 40 := ⟨by decide +kernel, rfl⟩
theorem eX7_lie_40 : Dc MX7_lie 40 (.aload_n 0) 1 41 := ⟨by decide +kernel, rfl⟩
theorem eX7_lie_41 : Dc MX7_lie 41 (.getfield 10) 3 44 := ⟨by decide +kernel, rfl⟩
theorem eX7_lie_44 : Dc MX7_lie 44 (.invokevirtual 144) 3 47 := ⟨by decide +kernel, rfl⟩
theorem eX7_lie_47 : Dc MX7_lie 47 (.aload_n 0) 1 48 := ⟨by decide +kernel, rfl⟩
theorem eX7_lie_48 : Dc MX7_lie 48 (.getfield 19) 3 51 := ⟨by decide +kernel, rfl⟩
theorem eX7_lie_51 : Dc MX7_lie 51 (.invokevirtual 148) 3 54 := ⟨by decide +kernel, rfl⟩
theorem eX7_lie_54 : Dc MX7_lie 54 (.ifCond .ne 6) 3 57 := ⟨by decide +kernel, rfl⟩
theorem eX7_lie_57 : Dc MX7_lie 57 (.bipush (-2)) 2 59 := ⟨by decide +kernel, rfl⟩
theorem eX7_lie_59 : Dc MX7_lie 59 (.ireturn) 1 60 := ⟨by decide +kernel, rfl⟩
theorem eX7_lie_60 : Dc MX7_lie 60 (.aload_n 2) 1 61 := ⟨by decide +kernel, rfl⟩
theorem eX7_lie_61 : Dc MX7_lie 61 (.aload_n 0) 1 62 := ⟨by decide +kernel, rfl⟩
theorem eX7_lie_62 : Dc MX7_lie 62 (.getfield 19) 3 65 := ⟨by decide +kernel, rfl⟩
theorem eX7_lie_65 : Dc MX7_lie 65 (.iload_n 1) 1 66 := ⟨by decide +kernel, rfl⟩
theorem eX7_lie_66 : Dc MX7_lie 66 (.invokevirtual 188) 3 69 := ⟨by decide +kernel, rfl⟩
theorem eX7_lie_69 : Dc MX7_lie 69 (.invokevirtual 134) 3 72 := ⟨by decide +kernel, rfl⟩
theorem eX7_lie_72 : Dc MX7_lie 72 (.istore_n 3) 1 73 := ⟨by decide +kernel, rfl⟩
theorem eX7_lie_73 : Dc MX7_lie 73 (.iload_n 3) 1 74 := ⟨by decide +kernel, rfl⟩
theorem eX7_lie_74 : Dc MX7_lie 74 (.iconst 1) 1 75 := ⟨by decide +kernel, rfl⟩
theorem eX7_lie_75 : Dc MX7_lie 75 (.if_icmp .le 17) 3 78 := ⟨by decide +kernel, rfl⟩
theorem eX7_lie_78 : Dc MX7_lie 78 (.aload_n 0) 1 79 := ⟨by decide +kernel, rfl⟩
theorem eX7_lie_79 : Dc MX7_lie 79 (.iload_n 1) 1 80 := ⟨by decide +kernel, rfl⟩
theorem eX7_lie_80 : Dc MX7_lie 80 (.aload_n 2) 1 81 := ⟨by decide +kernel, rfl⟩
theorem eX7_lie_81 : Dc MX7_lie 81 (.iload_n 3) 1 82 := ⟨by decide +kernel, rfl⟩
theorem eX7_lie_82 : Dc MX7_lie 82 (.invokevirtual 191) 3 85 := ⟨by decide +kernel, rfl⟩
theorem eX7_lie_85 : Dc MX7_lie 85 (.ifCond .eq 7) 3 88 := ⟨by decide +kernel, rfl⟩
theorem eX7_lie_88 : Dc MX7_lie 88 (.iconst 1) 1 89 := ⟨by decide +kernel, rfl⟩
theorem eX7_lie_89 : Dc MX7_lie 89 (.goto 4) 3 92 := ⟨by decide +kernel, rfl⟩
theorem eX7_lie_92 : Dc MX7_lie 92 (.iconst 0) 1 93 := ⟨by decide +kernel, rfl⟩
theorem eX7_lie_93 : Dc MX7_lie 93 (.ireturn) 1 94 := ⟨by decide +kernel, rfl⟩
theorem eX7_book_0 : Dc MX7_book 0 (.aload_n 0) 1 1 := ⟨by decide +kernel, rfl⟩
theorem eX7_book_1 : Dc MX7_book 1 (.getfield 26) 3 4 := ⟨by decide +kernel, rfl⟩
theorem eX7_book_4 : Dc MX7_book 4 (.getfield 116) 3 7 := ⟨by decide +kernel, rfl⟩
theorem eX7_book_7 : Dc MX7_book 7 (.bipush 60) 2 9 := ⟨by decide +kernel, rfl⟩
theorem eX7_book_9 : Dc MX7_book 9 (.if_icmp .lt 5) 3 12 := ⟨by decide +kernel, rfl⟩
theorem eX7_book_12 : Dc MX7_book 12 (.iconst (-1)) 1 13 := ⟨by decide +kernel, rfl⟩
theorem eX7_book_13 : Dc MX7_book 13 (.ireturn) 1 14 := ⟨by decide +kernel, rfl⟩
theorem eX7_book_14 : Dc MX7_book 14 (.aload_n 0) 1 15 := ⟨by decide +kernel, rfl⟩
theorem eX7_book_15 : Dc MX7_book 15 (.getfield 10) 3 18 := ⟨by decide +kernel, rfl⟩
theorem eX7_book_18 : Dc MX7_book 18 (.aload_n 0) 1 19 := ⟨by decide +kernel, rfl⟩
theorem eX7_book_19 : Dc MX7_book 19 (.getfield 30) 3 22 := ⟨by decide +kernel, rfl⟩
theorem eX7_book_22 : Dc MX7_book 22 (.invokevirtual 140) 3 25 := ⟨by decide +kernel, rfl⟩
theorem eX7_book_25 : Dc MX7_book 25 (.ifCond .eq 5) 3 28 := ⟨by decide +kernel, rfl⟩
theorem eX7_book_28 : Dc MX7_book 28 (.iconst 0) 1 29 := ⟨by decide +kernel, rfl⟩
theorem eX7_book_29 : Dc MX7_book 29 (.ireturn) 1 30 := ⟨by decide +kernel, rfl⟩
theorem eX7_book_30 : Dc MX7_book 30 (.iconst 0) 1 31 := ⟨by decide +kernel, rfl⟩
theorem eX7_book_31 : Dc MX7_book 31 (.istore_n 1) 1 32 := ⟨by decide +kernel, rfl⟩
theorem eX7_book_32 : Dc MX7_book 32 (.iload_n 1) 1 33 := ⟨by decide +kernel, rfl⟩
theorem eX7_book_33 : Dc MX7_book 33 (.bipush 8) 2 35 := ⟨by decide +kernel, rfl⟩
theorem eX7_book_35 : Dc MX7_book 35 (.if_icmp .ge 52) 3 38 := ⟨by decide +kernel, rfl⟩
theorem eX7_book_38 : Dc MX7_book 38 (.aload_n 0) 1 39 := ⟨by decide +kernel, rfl⟩
theorem eX7_book_39 : Dc MX7_book 39 (.iload_n 1) 1 40 := ⟨by decide +kernel, rfl⟩
theorem eX7_book_40 : Dc MX7_book 40 (.invokevirtual 195) 3 43 := ⟨by decide +kernel, rfl⟩
theorem eX7_book_43 : Dc MX7_book 43 (.istore_n 2) 1 44 := ⟨by decide +kernel, rfl⟩
theorem eX7_book_44 : Dc MX7_book 44 (.aload_n 0) 1 45 := ⟨by decide +kernel, rfl⟩
theorem eX7_book_45 : Dc MX7_book 45 (.getfield 26) 3 48 := ⟨by decide +kernel, rfl⟩
theorem eX7_book_48 : Dc MX7_book 48 (.iload_n 1) 1 49 := ⟨by decide +kernel, rfl⟩
theorem eX7_book_49 : Dc MX7_book 49 (.aload_n 0) 1 50 := ⟨by decide +kernel, rfl⟩
theorem eX7_book_50 : Dc MX7_book 50 (.getfield 30) 3 53 := ⟨by decide +kernel, rfl⟩
theorem eX7_book_53 : Dc MX7_book 53 (.iload_n 1) 1 54 := ⟨by decide +kernel, rfl⟩
theorem eX7_book_54 : Dc MX7_book 54 (.iaload) 1 55 := ⟨by decide +kernel, rfl⟩
theorem eX7_book_55 : Dc MX7_book 55 (.iload_n 2) 1 56 := ⟨by decide +kernel, rfl⟩
theorem eX7_book_56 : Dc MX7_book 56 (.invokevirtual 198) 3 59 := ⟨by decide +kernel, rfl⟩
theorem eX7_book_59 : Dc MX7_book 59 (.iload_n 2) 1 60 := ⟨by decide +kernel, rfl⟩
theorem eX7_book_60 : Dc MX7_book 60 (.ifCond .le 14) 3 63 := ⟨by decide +kernel, rfl⟩
theorem eX7_book_63 : Dc MX7_book 63 (.aload_n 0) 1 64 := ⟨by decide +kernel, rfl⟩
theorem eX7_book_64 : Dc MX7_book 64 (.getfield 10) 3 67 := ⟨by decide +kernel, rfl⟩
theorem eX7_book_67 : Dc MX7_book 67 (.iload_n 1) 1 68 := ⟨by decide +kernel, rfl⟩
theorem eX7_book_68 : Dc MX7_book 68 (.iload_n 2) 1 69 := ⟨by decide +kernel, rfl⟩
theorem eX7_book_69 : Dc MX7_book 69 (.iconst 1) 1 70 := ⟨by decide +kernel, rfl⟩
theorem eX7_book_70 : Dc MX7_book 70 (.isub) 1 71 := ⟨by decide +kernel, rfl⟩
theorem eX7_book_71 : Dc MX7_book 71 (.invokevirtual 202) 3 74 := ⟨by decide +kernel, rfl⟩
theorem eX7_book_74 : Dc MX7_book 74 (.aload_n 0) 1 75 := ⟨by decide +kernel, rfl⟩
theorem eX7_book_75 : Dc MX7_book 75 (.getfield 30) 3 78 := ⟨by decide +kernel, rfl⟩
theorem eX7_book_78 : Dc MX7_book 78 (.iload_n 1) 1 79 := ⟨by decide +kernel, rfl⟩
theorem eX7_book_79 : Dc MX7_book 79 (.iconst (-1)) 1 80 := ⟨by decide +kernel, rfl⟩
theorem eX7_book_80 : Dc MX7_book 80 (.iastore) 1 81 := ⟨by decide +kernel, rfl⟩
theorem eX7_book_81 : Dc MX7_book 81 (.iinc 1 1) 3 84 := ⟨by decide +kernel, rfl⟩
theorem eX7_book_84 : Dc MX7_book 84 (.goto (-52)) 3 87 := ⟨by decide +kernel, rfl⟩
theorem eX7_book_87 : Dc MX7_book 87 (.aload_n 0) 1 88 := ⟨by decide +kernel, rfl⟩
theorem eX7_book_88 : Dc MX7_book 88 (.getfield 26) 3 91 := ⟨by decide +kernel, rfl⟩
theorem eX7_book_91 : Dc MX7_book 91 (.dup) 1 92 := ⟨by decide +kernel, rfl⟩
theorem eX7_book_92 : Dc MX7_book 92 (.getfield 116) 3 95 := ⟨by decide +kernel, rfl⟩
theorem eX7_book_95 : Dc MX7_book 95 (.iconst 1) 1 96 := ⟨by decide +kernel, rfl⟩
theorem eX7_book_96 : Dc MX7_book 96 (.iadd) 1 97 := ⟨by decide +kernel, rfl⟩
theorem eX7_book_97 : Dc MX7_book 97 (.putfield 116) 3 100 := ⟨by decide +kernel, rfl⟩
theorem eX7_book_100 : Dc MX7_book 100 (.iconst 1) 1 101 := ⟨by decide +kernel, rfl⟩
theorem eX7_book_101 : Dc MX7_book 101 (.ireturn) 1 102 := ⟨by decide +kernel, rfl⟩
theorem eX7_year_0 : Dc MX7_year 0 (.iload_n 1) 1 1 := ⟨by decide +kernel, rfl⟩
theorem eX7_year_1 : Dc MX7_year 1 (.ifCond .lt 25) 3 4 := ⟨by decide +kernel, rfl⟩
theorem eX7_year_4 : Dc MX7_year 4 (.iload_n 1) 1 5 := ⟨by decide +kernel, rfl⟩
theorem eX7_year_5 : Dc MX7_year 5 (.aload_n 0) 1 6 := ⟨by decide +kernel, rfl⟩
theorem eX7_year_6 : Dc MX7_year 6 (.getfield 26) 3 9 := ⟨by decide +kernel, rfl⟩
theorem eX7_year_9 : Dc MX7_year 9 (.getfield 116) 3 12 := ⟨by decide +kernel, rfl⟩
theorem eX7_year_12 : Dc MX7_year 12 (.if_icmp .ge 14) 3 15 := ⟨by decide +kernel, rfl⟩
theorem eX7_year_15 : Dc MX7_year 15 (.aload_n 0) 1 16 := ⟨by decide +kernel, rfl⟩
theorem eX7_year_16 : Dc MX7_year 16 (.getfield 10) 3 19 := ⟨by decide +kernel, rfl⟩
theorem eX7_year_19 : Dc MX7_year 19 (.iload_n 2) 1 20 := ⟨by decide +kernel, rfl⟩
theorem eX7_year_20 : Dc MX7_year 20 (.invokevirtual 47) 3 23 := ⟨by decide +kernel, rfl⟩
theorem eX7_year_23 : Dc MX7_year 23 (.ifCond .ne 7) 3 26 := ⟨by decide +kernel, rfl⟩
theorem eX7_year_26 : Dc MX7_year 26 (.iconst (-1)) 1 27 := ⟨by decide +kernel, rfl⟩
theorem eX7_year_27 : Dc MX7_year 27 (.goto 12) 3 30 := ⟨by decide +kernel, rfl⟩
theorem eX7_year_30 : Dc MX7_year 30 (.aload_n 0) 1 31 := ⟨by decide +kernel, rfl⟩
theorem eX7_year_31 : Dc MX7_year 31 (.getfield 26) 3 34 := ⟨by decide +kernel, rfl⟩
theorem eX7_year_34 : Dc MX7_year 34 (.iload_n 1) 1 35 := ⟨by decide +kernel, rfl⟩
theorem eX7_year_35 : Dc MX7_year 35 (.iload_n 2) 1 36 := ⟨by decide +kernel, rfl⟩
theorem eX7_year_36 : Dc MX7_year 36 (.invokevirtual 205) 3 39 := ⟨by decide +kernel, rfl⟩
theorem eX7_year_39 : Dc MX7_year 39 (.ireturn) 1 40 := ⟨by decide +kernel, rfl⟩
theorem eX7_undo_0 : Dc MX7_undo 0 (.aload_n 0) 1 1 := ⟨by decide +kernel, rfl⟩
theorem eX7_undo_1 : Dc MX7_undo 1 (.getfield 26) 3 4 := ⟨by decide +kernel, rfl⟩
theorem eX7_undo_4 : Dc MX7_undo 4 (.getfield 116) 3 7 := ⟨by decide +kernel, rfl⟩
theorem eX7_undo_7 : Dc MX7_undo 7 (.ifCond .gt 5) 3 10 := ⟨by decide +kernel, rfl⟩
theorem eX7_undo_10 : Dc MX7_undo 10 (.iconst (-1)) 1 11 := ⟨by decide +kernel, rfl⟩
theorem eX7_undo_11 : Dc MX7_undo 11 (.ireturn) 1 12 := ⟨by decide +kernel, rfl⟩
theorem eX7_undo_12 : Dc MX7_undo 12 (.aload_n 0) 1 13 := ⟨by decide +kernel, rfl⟩
theorem eX7_undo_13 : Dc MX7_undo 13 (.getfield 26) 3 16 := ⟨by decide +kernel, rfl⟩
theorem eX7_undo_16 : Dc MX7_undo 16 (.dup) 1 17 := ⟨by decide +kernel, rfl⟩
theorem eX7_undo_17 : Dc MX7_undo 17 (.getfield 116) 3 20 := ⟨by decide +kernel, rfl⟩
theorem eX7_undo_20 : Dc MX7_undo 20 (.iconst 1) 1 21 := ⟨by decide +kernel, rfl⟩
theorem eX7_undo_21 : Dc MX7_undo 21 (.isub) 1 22 := ⟨by decide +kernel, rfl⟩
theorem eX7_undo_22 : Dc MX7_undo 22 (.putfield 116) 3 25 := ⟨by decide +kernel, rfl⟩
theorem eX7_undo_25 : Dc MX7_undo 25 (.iconst 0) 1 26 := ⟨by decide +kernel, rfl⟩
theorem eX7_undo_26 : Dc MX7_undo 26 (.istore_n 1) 1 27 := ⟨by decide +kernel, rfl⟩
theorem eX7_undo_27 : Dc MX7_undo 27 (.iload_n 1) 1 28 := ⟨by decide +kernel, rfl⟩
theorem eX7_undo_28 : Dc MX7_undo 28 (.bipush 8) 2 30 := ⟨by decide +kernel, rfl⟩
theorem eX7_undo_30 : Dc MX7_undo 30 (.if_icmp .ge 61) 3 33 := ⟨by decide +kernel, rfl⟩
theorem eX7_undo_33 : Dc MX7_undo 33 (.aload_n 0) 1 34 := ⟨by decide +kernel, rfl⟩
theorem eX7_undo_34 : Dc MX7_undo 34 (.getfield 26) 3 37 := ⟨by decide +kernel, rfl⟩
theorem eX7_undo_37 : Dc MX7_undo 37 (.aload_n 0) 1 38 := ⟨by decide +kernel, rfl⟩
theorem eX7_undo_38 : Dc MX7_undo 38 (.getfield 26) 3 41 := ⟨by decide +kernel, rfl⟩
theorem eX7_undo_41 : Dc MX7_undo 41 (.getfield 116) 3 44 := ⟨by decide +kernel, rfl⟩
theorem eX7_undo_44 : Dc MX7_undo 44 (.iload_n 1) 1 45 := ⟨by decide +kernel, rfl⟩
theorem eX7_undo_45 : Dc MX7_undo 45 (.invokevirtual 205) 3 48 := ⟨by decide +kernel, rfl⟩
theorem eX7_undo_48 : Dc MX7_undo 48 (.istore_n 2) 1 49 := ⟨by decide +kernel, rfl⟩
theorem eX7_undo_49 : Dc MX7_undo 49 (.iload_n 2) 1 50 := ⟨by decide +kernel, rfl⟩
theorem eX7_undo_50 : Dc MX7_undo 50 (.ifCond .le 14) 3 53 := ⟨by decide +kernel, rfl⟩
theorem eX7_undo_53 : Dc MX7_undo 53 (.aload_n 0) 1 54 := ⟨by decide +kernel, rfl⟩
theorem eX7_undo_54 : Dc MX7_undo 54 (.getfield 10) 3 57 := ⟨by decide +kernel, rfl⟩
theorem eX7_undo_57 : Dc MX7_undo 57 (.iload_n 1) 1 58 := ⟨by decide +kernel, rfl⟩
theorem eX7_undo_58 : Dc MX7_undo 58 (.iconst 1) 1 59 := ⟨by decide +kernel, rfl⟩
theorem eX7_undo_59 : Dc MX7_undo 59 (.iload_n 2) 1 60 := ⟨by decide +kernel, rfl⟩
theorem eX7_undo_60 : Dc MX7_undo 60 (.isub) 1 61 := ⟨by decide +kernel, rfl⟩
theorem eX7_undo_61 : Dc MX7_undo 61 (.invokevirtual 202) 3 64 := ⟨by decide +kernel, rfl⟩
theorem eX7_undo_64 : Dc MX7_undo 64 (.aload_n 0) 1 65 := ⟨by decide +kernel, rfl⟩
theorem eX7_undo_65 : Dc MX7_undo 65 (.getfield 30) 3 68 := ⟨by decide +kernel, rfl⟩
theorem eX7_undo_68 : Dc MX7_undo 68 (.iload_n 1) 1 69 := ⟨by decide +kernel, rfl⟩
theorem eX7_undo_69 : Dc MX7_undo 69 (.aload_n 0) 1 70 := ⟨by decide +kernel, rfl⟩
theorem eX7_undo_70 : Dc MX7_undo 70 (.getfield 26) 3 73 := ⟨by decide +kernel, rfl⟩
theorem eX7_undo_73 : Dc MX7_undo 73 (.aload_n 0) 1 74 := ⟨by decide +kernel, rfl⟩
theorem eX7_undo_74 : Dc MX7_undo 74 (.getfield 26) 3 77 := ⟨by decide +kernel, rfl⟩
theorem eX7_undo_77 : Dc MX7_undo 77 (.getfield 116) 3 80 := ⟨by decide +kernel, rfl⟩
theorem eX7_undo_80 : Dc MX7_undo 80 (.iload_n 1) 1 81 := ⟨by decide +kernel, rfl⟩
theorem eX7_undo_81 : Dc MX7_undo 81 (.invokevirtual 209) 3 84 := ⟨by decide +kernel, rfl⟩
theorem eX7_undo_84 : Dc MX7_undo 84 (.iastore) 1 85 := ⟨by decide +kernel, rfl⟩
theorem eX7_undo_85 : Dc MX7_undo 85 (.iinc 1 1) 3 88 := ⟨by decide +kernel, rfl⟩
theorem eX7_undo_88 : Dc MX7_undo 88 (.goto (-61)) 3 91 := ⟨by decide +kernel, rfl⟩
theorem eX7_undo_91 : Dc MX7_undo 91 (.aload_n 0) 1 92 := ⟨by decide +kernel, rfl⟩
theorem eX7_undo_92 : Dc MX7_undo 92 (.getfield 26) 3 95 := ⟨by decide +kernel, rfl⟩
theorem eX7_undo_95 : Dc MX7_undo 95 (.getfield 116) 3 98 := ⟨by decide +kernel, rfl⟩
theorem eX7_undo_98 : Dc MX7_undo 98 (.ireturn) 1 99 := ⟨by decide +kernel, rfl⟩
theorem eX7_row_0 : Dc MX7_row 0 (.iload_n 1) 1 1 := ⟨by decide +kernel, rfl⟩
theorem eX7_row_1 : Dc MX7_row 1 (.ifCond .lt 11) 3 4 := ⟨by decide +kernel, rfl⟩
theorem eX7_row_4 : Dc MX7_row 4 (.iload_n 1) 1 5 := ⟨by decide +kernel, rfl⟩
theorem eX7_row_5 : Dc MX7_row 5 (.aload_n 0) 1 6 := ⟨by decide +kernel, rfl⟩
theorem eX7_row_6 : Dc MX7_row 6 (.getfield 119) 3 9 := ⟨by decide +kernel, rfl⟩
theorem eX7_row_9 : Dc MX7_row 9 (.if_icmp .lt 11) 3 12 := ⟨by decide +kernel, rfl⟩
theorem eX7_row_12 : Dc MX7_row 12 (.new 125) 3 15 := ⟨by decide +kernel, rfl⟩
theorem eX7_row_15 : Dc MX7_row 15 (.dup) 1 16 := ⟨by decide +kernel, rfl⟩
theorem eX7_row_16 : Dc MX7_row 16 (.invokespecial 127) 3 19 := ⟨by decide +kernel, rfl⟩
theorem eX7_row_19 : Dc MX7_row 19 (.athrow) 1 20 := ⟨by decide +kernel, rfl⟩
theorem eX7_row_20 : Dc MX7_row 20 (.aload_n 0) 1 21 := ⟨by decide +kernel, rfl⟩
theorem eX7_row_21 : Dc MX7_row 21 (.getfield 34) 3 24 := ⟨by decide +kernel, rfl⟩
theorem eX7_row_24 : Dc MX7_row 24 (.iload_n 1) 1 25 := ⟨by decide +kernel, rfl⟩
theorem eX7_row_25 : Dc MX7_row 25 (.iaload) 1 26 := ⟨by decide +kernel, rfl⟩
theorem eX7_row_26 : Dc MX7_row 26 (.ireturn) 1 27 := ⟨by decide +kernel, rfl⟩
theorem eX7_withBit_0 : Dc MX7_withBit 0 (.iload_n 2) 1 1 := ⟨by decide +kernel, rfl⟩
theorem eX7_withBit_1 : Dc MX7_withBit 1 (.ifCond .eq 11) 3 4 := ⟨by decide +kernel, rfl⟩
theorem eX7_withBit_4 : Dc MX7_withBit 4 (.iload_n 0) 1 5 := ⟨by decide +kernel, rfl⟩
theorem eX7_withBit_5 : Dc MX7_withBit 5 (.iconst 1) 1 6 := ⟨by decide +kernel, rfl⟩
theorem eX7_withBit_6 : Dc MX7_withBit 6 (.iload_n 1) 1 7 := ⟨by decide +kernel, rfl⟩
theorem eX7_withBit_7 : Dc MX7_withBit 7 (.ishl) 1 8 := ⟨by decide +kernel, rfl⟩
theorem eX7_withBit_8 : Dc MX7_withBit 8 (.ior) 1 9 := ⟨by decide +kernel, rfl⟩
theorem eX7_withBit_9 : Dc MX7_withBit 9 (.goto 10) 3 12 := ⟨by decide +kernel, rfl⟩
theorem eX7_withBit_12 : Dc MX7_withBit 12 (.iload_n 0) 1 13 := ⟨by decide +kernel, rfl⟩
theorem eX7_withBit_13 : Dc MX7_withBit 13 (.iconst 1) 1 14 := ⟨by decide +kernel, rfl⟩
theorem eX7_withBit_14 : Dc MX7_withBit 14 (.iload_n 1) 1 15 := ⟨by decide +kernel, rfl⟩
theorem eX7_withBit_15 : Dc MX7_withBit 15 (.ishl) 1 16 := ⟨by decide +kernel, rfl⟩
theorem eX7_withBit_16 : Dc MX7_withBit 16 (.iconst (-1)) 1 17 := ⟨by decide +kernel, rfl⟩
theorem eX7_withBit_17 : Dc MX7_withBit 17 (.ixor) 1 18 := ⟨by decide +kernel, rfl⟩
theorem eX7_withBit_18 : Dc MX7_withBit 18 (.iand) 1 19 := ⟨by decide +kernel, rfl⟩
theorem eX7_withBit_19 : Dc MX7_withBit 19 (.ireturn) 1 20 := ⟨by decide +kernel, rfl⟩
theorem eX7_isPlaced_0 : Dc MX7_isPlaced 0 (.aload_n 0) 1 1 := ⟨by decide +kernel, rfl⟩
theorem eX7_isPlaced_1 : Dc MX7_isPlaced 1 (.getfield 10) 3 4 := ⟨by decide +kernel, rfl⟩
theorem eX7_isPlaced_4 : Dc MX7_isPlaced 4 (.iload_n 1) 1 5 := ⟨by decide +kernel, rfl⟩
theorem eX7_isPlaced_5 : Dc MX7_isPlaced 5 (.invokevirtual 55) 3 8 := ⟨by decide +kernel, rfl⟩
theorem eX7_isPlaced_8 : Dc MX7_isPlaced 8 (.astore_n 2) 1 9 := ⟨by decide +kernel, rfl⟩
theorem eX7_isPlaced_9 : Dc MX7_isPlaced 9 (.aload_n 2) 1 10 := ⟨by decide +kernel, rfl⟩
theorem eX7_isPlaced_10 : Dc MX7_isPlaced 10 (.ifnull 24) 3 13 := ⟨by decide +kernel, rfl⟩
theorem eX7_isPlaced_13 : Dc MX7_isPlaced 13 (.aload_n 2) 1 14 := ⟨by decide +kernel, rfl⟩
theorem eX7_isPlaced_14 : Dc MX7_isPlaced 14 (.getfield 84) 3 17 := ⟨by decide +kernel, rfl⟩
theorem eX7_isPlaced_17 : Dc MX7_isPlaced 17 (.ifCond .eq 17) 3 20 := ⟨by decide +kernel, rfl⟩
theorem eX7_isPlaced_20 : Dc MX7_isPlaced 20 (.aload_n 0) 1 21 := ⟨by decide +kernel, rfl⟩
theorem eX7_isPlaced_21 : Dc MX7_isPlaced 21 (.getfield 30) 3 24 := ⟨by decide +kernel, rfl⟩
theorem eX7_isPlaced_24 : Dc MX7_isPlaced 24 (.iload_n 1) 1 25 := ⟨by decide +kernel, rfl⟩
theorem eX7_isPlaced_25 : Dc MX7_isPlaced 25 (.iaload) 1 26 := ⟨by decide +kernel, rfl⟩
theorem eX7_isPlaced_26 : Dc MX7_isPlaced 26 (.iconst (-1)) 1 27 := ⟨by decide +kernel, rfl⟩
theorem eX7_isPlaced_27 : Dc MX7_isPlaced 27 (.if_icmp .eq 7) 3 30 := ⟨by decide +kernel, rfl⟩
theorem eX7_isPlaced_30 : Dc MX7_isPlaced 30 (.iconst 1) 1 31 := ⟨by decide +kernel, rfl⟩
theorem eX7_isPlaced_31 : Dc MX7_isPlaced 31 (.goto 4) 3 34 := ⟨by decide +kernel, rfl⟩
theorem eX7_isPlaced_34 : Dc MX7_isPlaced 34 (.iconst 0) 1 35 := ⟨by decide +kernel, rfl⟩
theorem eX7_isPlaced_35 : Dc MX7_isPlaced 35 (.ireturn) 1 36 := ⟨by decide +kernel, rfl⟩
theorem eX7_rankByPlan_0 : Dc MX7_rankByPlan 0 (.aload_n 0) 1 1 := ⟨by decide +kernel, rfl⟩
theorem eX7_rankByPlan_1 : Dc MX7_rankByPlan 1 (.getfield 10) 3 4 := ⟨by decide +kernel, rfl⟩
theorem eX7_rankByPlan_4 : Dc MX7_rankByPlan 4 (.iload_n 1) 1 5 := ⟨by decide +kernel, rfl⟩
theorem eX7_rankByPlan_5 : Dc MX7_rankByPlan 5 (.invokevirtual 55) 3 8 := ⟨by decide +kernel, rfl⟩
theorem eX7_rankByPlan_8 : Dc MX7_rankByPlan 8 (.astore_n 2) 1 9 := ⟨by decide +kernel, rfl⟩
theorem eX7_rankByPlan_9 : Dc MX7_rankByPlan 9 (.aload_n 2) 1 10 := ⟨by decide +kernel, rfl⟩
theorem eX7_rankByPlan_10 : Dc MX7_rankByPlan 10 (.ifnull 13) 3 13 := ⟨by decide +kernel, rfl⟩
theorem eX7_rankByPlan_13 : Dc MX7_rankByPlan 13 (.aload_n 0) 1 14 := ⟨by decide +kernel, rfl⟩
theorem eX7_rankByPlan_14 : Dc MX7_rankByPlan 14 (.getfield 30) 3 17 := ⟨by decide +kernel, rfl⟩
theorem eX7_rankByPlan_17 : Dc MX7_rankByPlan 17 (.iload_n 1) 1 18 := ⟨by decide +kernel, rfl⟩
theorem eX7_rankByPlan_18 : Dc MX7_rankByPlan 18 (.iaload) 1 19 := ⟨by decide +kernel, rfl⟩
theorem eX7_rankByPlan_19 : Dc MX7_rankByPlan 19 (.iconst (-1)) 1 20 := ⟨by decide +kernel, rfl⟩
theorem eX7_rankByPlan_20 : Dc MX7_rankByPlan 20 (.if_icmp .ne 7) 3 23 := ⟨by decide +kernel, rfl⟩
theorem eX7_rankByPlan_23 : Dc MX7_rankByPlan 23 (.iconst 0) 1 24 := ⟨by decide +kernel, rfl⟩
theorem eX7_rankByPlan_24 : Dc MX7_rankByPlan 24 (.goto 13) 3 27 := ⟨by decide +kernel, rfl⟩
theorem eX7_rankByPlan_27 : Dc MX7_rankByPlan 27 (.aload_n 2) 1 28 := ⟨by decide +kernel, rfl⟩
theorem eX7_rankByPlan_28 : Dc MX7_rankByPlan 28 (.aload_n 0) 1 29 := ⟨by decide +kernel, rfl⟩
theorem eX7_rankByPlan_29 : Dc MX7_rankByPlan 29 (.getfield 30) 3 32 := ⟨by decide +kernel, rfl⟩
theorem eX7_rankByPlan_32 : Dc MX7_rankByPlan 32 (.iload_n 1) 1 33 := ⟨by decide +kernel, rfl⟩
theorem eX7_rankByPlan_33 : Dc MX7_rankByPlan 33 (.iaload) 1 34 := ⟨by decide +kernel, rfl⟩
theorem eX7_rankByPlan_34 : Dc MX7_rankByPlan 34 (.invokevirtual 134) 3 37 := ⟨by decide +kernel, rfl⟩
theorem eX7_rankByPlan_37 : Dc MX7_rankByPlan 37 (.ireturn) 1 38 := ⟨by decide +kernel, rfl⟩
theorem eX7_countRanks_0 : Dc MX7_countRanks 0 (.iconst 0) 1 1 := ⟨by decide +kernel, rfl⟩
theorem eX7_countRanks_1 : Dc MX7_countRanks 1 (.istore_n 2) 1 2 := ⟨by decide +kernel, rfl⟩
theorem eX7_countRanks_2 : Dc MX7_countRanks 2 (.iconst 0) 1 3 := ⟨by decide +kernel, rfl⟩
theorem eX7_countRanks_3 : Dc MX7_countRanks 3 (.istore_n 3) 1 4 := ⟨by decide +kernel, rfl⟩
theorem eX7_countRanks_4 : Dc MX7_countRanks 4 (.iload_n 3) 1 5 := ⟨by decide +kernel, rfl⟩
theorem eX7_countRanks_5 : Dc MX7_countRanks 5 (.aload_n 0) 1 6 := ⟨by decide +kernel, rfl⟩
theorem eX7_countRanks_6 : Dc MX7_countRanks 6 (.getfield 10) 3 9 := ⟨by decide +kernel, rfl⟩
theorem eX7_countRanks_9 : Dc MX7_countRanks 9 (.getfield 101) 3 12 := ⟨by decide +kernel, rfl⟩
theorem eX7_countRanks_12 : Dc MX7_countRanks 12 (.if_icmp .ge 29) 3 15 := ⟨by decide +kernel, rfl⟩
theorem eX7_countRanks_15 : Dc MX7_countRanks 15 (.aload_n 0) 1 16 := ⟨by decide +kernel, rfl⟩
theorem eX7_countRanks_16 : Dc MX7_countRanks 16 (.iload_n 3) 1 17 := ⟨by decide +kernel, rfl⟩
theorem eX7_countRanks_17 : Dc MX7_countRanks 17 (.invokevirtual 211) 3 20 := ⟨by decide +kernel, rfl⟩
theorem eX7_countRanks_20 : Dc MX7_countRanks 20 (.ifCond .eq 15) 3 23 := ⟨by decide +kernel, rfl⟩
theorem eX7_countRanks_23 : Dc MX7_countRanks 23 (.aload_n 0) 1 24 := ⟨by decide +kernel, rfl⟩
theorem eX7_countRanks_24 : Dc MX7_countRanks 24 (.iload_n 3) 1 25 := ⟨by decide +kernel, rfl⟩
theorem eX7_countRanks_25 : Dc MX7_countRanks 25 (.invokevirtual 195) 3 28 := ⟨by decide +kernel, rfl⟩
theorem eX7_countRanks_28 : Dc MX7_countRanks 28 (.iload_n 1) 1 29 := ⟨by decide +kernel, rfl⟩
theorem eX7_countRanks_29 : Dc MX7_countRanks 29 (.if_icmp .ne 6) 3 32 := ⟨by decide +kernel, rfl⟩
theorem eX7_countRanks_32 : Dc MX7_countRanks 32 (.iinc 2 1) 3 35 := ⟨by decide +kernel, rfl⟩
theorem eX7_countRanks_35 : Dc MX7_countRanks 35 (.iinc 3 1) 3 38 := ⟨by decide +kernel, rfl⟩
theorem eX7_countRanks_38 : Dc MX7_countRanks 38 (.goto (-34)) 3 41 := ⟨by decide +kernel, rfl⟩
theorem eX7_countRanks_41 : Dc MX7_countRanks 41 (.iload_n 2) 1 42 := ⟨by decide +kernel, rfl⟩
theorem eX7_countRanks_42 : Dc MX7_countRanks 42 (.ireturn) 1 43 := ⟨by decide +kernel, rfl⟩
theorem eX7_grief_0 : Dc MX7_grief 0 (.iconst 0) 1 1 := ⟨by decide +kernel, rfl⟩
theorem eX7_grief_1 : Dc MX7_grief 1 (.istore_n 1) 1 2 := ⟨by decide +kernel, rfl⟩
theorem eX7_grief_2 : Dc MX7_grief 2 (.iconst 0) 1 3 := ⟨by decide +kernel, rfl⟩
theorem eX7_grief_3 : Dc MX7_grief 3 (.istore_n 2) 1 4 := ⟨by decide +kernel, rfl⟩
theorem eX7_grief_4 : Dc MX7_grief 4 (.iload_n 2) 1 5 := ⟨by decide +kernel, rfl⟩
theorem eX7_grief_5 : Dc MX7_grief 5 (.aload_n 0) 1 6 := ⟨by decide +kernel, rfl⟩
theorem eX7_grief_6 : Dc MX7_grief 6 (.getfield 10) 3 9 := ⟨by decide +kernel, rfl⟩
theorem eX7_grief_9 : Dc MX7_grief 9 (.getfield 101) 3 12 := ⟨by decide +kernel, rfl⟩
theorem eX7_grief_12 : Dc MX7_grief 12 (.if_icmp .ge 36) 3 15 := ⟨by decide +kernel, rfl⟩
theorem eX7_grief_15 : Dc MX7_grief 15 (.aload_n 0) 1 16 := ⟨by decide +kernel, rfl⟩
theorem eX7_grief_16 : Dc MX7_grief 16 (.iload_n 2) 1 17 := ⟨by decide +kernel, rfl⟩
theorem eX7_grief_17 : Dc MX7_grief 17 (.invokevirtual 211) 3 20 := ⟨by decide +kernel, rfl⟩
theorem eX7_grief_20 : Dc MX7_grief 20 (.ifCond .eq 22) 3 23 := ⟨by decide +kernel, rfl⟩
theorem eX7_grief_23 : Dc MX7_grief 23 (.iload_n 1) 1 24 := ⟨by decide +kernel, rfl⟩
theorem eX7_grief_24 : Dc MX7_grief 24 (.aload_n 0) 1 25 := ⟨by decide +kernel, rfl⟩
theorem eX7_grief_25 : Dc MX7_grief 25 (.iload_n 2) 1 26 := ⟨by decide +kernel, rfl⟩
theorem eX7_grief_26 : Dc MX7_grief 26 (.invokevirtual 195) 3 29 := ⟨by decide +kernel, rfl⟩
theorem eX7_grief_29 : Dc MX7_grief 29 (.aload_n 0) 1 30 := ⟨by decide +kernel, rfl⟩
theorem eX7_grief_30 : Dc MX7_grief 30 (.getfield 10) 3 33 := ⟨by decide +kernel, rfl⟩
theorem eX7_grief_33 : Dc MX7_grief 33 (.iload_n 2) 1 34 := ⟨by decide +kernel, rfl⟩
theorem eX7_grief_34 : Dc MX7_grief 34 (.invokevirtual 214) 3 37 := ⟨by decide +kernel, rfl⟩
theorem eX7_grief_37 : Dc MX7_grief 37 (.iconst 1) 1 38 := ⟨by decide +kernel, rfl⟩
theorem eX7_grief_38 : Dc MX7_grief 38 (.iadd) 1 39 := ⟨by decide +kernel, rfl⟩
theorem eX7_grief_39 : Dc MX7_grief 39 (.imul) 1 40 := ⟨by decide +kernel, rfl⟩
theorem eX7_grief_40 : Dc MX7_grief 40 (.iadd) 1 41 := ⟨by decide +kernel, rfl⟩
theorem eX7_grief_41 : Dc MX7_grief 41 (.istore_n 1) 1 42 := ⟨by decide +kernel, rfl⟩
theorem eX7_grief_42 : Dc MX7_grief 42 (.iinc 2 1) 3 45 := ⟨by decide +kernel, rfl⟩
theorem eX7_grief_45 : Dc MX7_grief 45 (.goto (-41)) 3 48 := ⟨by decide +kernel, rfl⟩
theorem eX7_grief_48 : Dc MX7_grief 48 (.iload_n 1) 1 49 := ⟨by decide +kernel, rfl⟩
theorem eX7_grief_49 : Dc MX7_grief 49 (.ireturn) 1 50 := ⟨by decide +kernel, rfl⟩
theorem eX7_friendPairs_0 : Dc MX7_friendPairs 0 (.iconst 0) 1 1 := ⟨by decide +kernel, rfl⟩
theorem eX7_friendPairs_1 : Dc MX7_friendPairs 1 (.istore_n 1) 1 2 := ⟨by decide +kernel, rfl⟩
theorem eX7_friendPairs_2 : Dc MX7_friendPairs 2 (.iconst 0) 1 3 := ⟨by decide +kernel, rfl⟩
theorem eX7_friendPairs_3 : Dc MX7_friendPairs 3 (.istore_n 2) 1 4 := ⟨by decide +kernel, rfl⟩
theorem eX7_friendPairs_4 : Dc MX7_friendPairs 4 (.iload_n 2) 1 5 := ⟨by decide +kernel, rfl⟩
theorem eX7_friendPairs_5 : Dc MX7_friendPairs 5 (.aload_n 0) 1 6 := ⟨by decide +kernel, rfl⟩
theorem eX7_friendPairs_6 : Dc MX7_friendPairs 6 (.getfield 10) 3 9 := ⟨by decide +kernel, rfl⟩
theorem eX7_friendPairs_9 : Dc MX7_friendPairs 9 (.getfield 101) 3 12 := ⟨by decide +kernel, rfl⟩
theorem eX7_friendPairs_12 : Dc MX7_friendPairs 12 (.if_icmp .ge 76) 3 15 := ⟨by decide +kernel, rfl⟩
theorem eX7_friendPairs_15 : Dc MX7_friendPairs 15 (.iload_n 2) 1 16 := ⟨by decide +kernel, rfl⟩
theorem eX7_friendPairs_16 : Dc MX7_friendPairs 16 (.iconst 1) 1 17 := ⟨by decide +kernel, rfl⟩
theorem eX7_friendPairs_17 : Dc MX7_friendPairs 17 (.iadd) 1 18 := ⟨by decide +kernel, rfl⟩
theorem eX7_friendPairs_18 : Dc MX7_friendPairs 18 (.istore_n 3) 1 19 := ⟨by decide +kernel, rfl⟩
theorem eX7_friendPairs_19 : Dc MX7_friendPairs 19 (.iload_n 3) 1 20 := ⟨by decide +kernel, rfl⟩
theorem eX7_friendPairs_20 : Dc MX7_friendPairs 20 (.aload_n 0) 1 21 := ⟨by decide +kernel, rfl⟩
theorem eX7_friendPairs_21 : Dc MX7_friendPairs 21 (.getfield 10) 3 24 := ⟨by decide +kernel, rfl⟩
theorem eX7_friendPairs_24 : Dc MX7_friendPairs 24 (.getfield 101) 3 27 := ⟨by decide +kernel, rfl⟩
theorem eX7_friendPairs_27 : Dc MX7_friendPairs 27 (.if_icmp .ge 55) 3 30 := ⟨by decide +kernel, rfl⟩
theorem eX7_friendPairs_30 : Dc MX7_friendPairs 30 (.aload_n 0) 1 31 := ⟨by decide +kernel, rfl⟩
theorem eX7_friendPairs_31 : Dc MX7_friendPairs 31 (.iload_n 2) 1 32 := ⟨by decide +kernel, rfl⟩
theorem eX7_friendPairs_32 : Dc MX7_friendPairs 32 (.invokevirtual 211) 3 35 := ⟨by decide +kernel, rfl⟩
theorem eX7_friendPairs_35 : Dc MX7_friendPairs 35 (.ifCond .eq 41) 3 38 := ⟨by decide +kernel, rfl⟩
theorem eX7_friendPairs_38 : Dc MX7_friendPairs 38 (.aload_n 0) 1 39 := ⟨by decide +kernel, rfl⟩
theorem eX7_friendPairs_39 : Dc MX7_friendPairs 39 (.iload_n 3) 1 40 := ⟨by decide +kernel, rfl⟩
theorem eX7_friendPairs_40 : Dc MX7_friendPairs 40 (.invokevirtual 211) 3 43 := ⟨by decide +kernel, rfl⟩
theorem eX7_friendPairs_43 : Dc MX7_friendPairs 43 (.ifCond .eq 33) 3 46 := ⟨by decide +kernel, rfl⟩
theorem eX7_friendPairs_46 : Dc MX7_friendPairs 46 (.aload_n 0) 1 47 := ⟨by decide +kernel, rfl⟩
theorem eX7_friendPairs_47 : Dc MX7_friendPairs 47 (.getfield 30) 3 50 := ⟨by decide +kernel, rfl⟩
theorem eX7_friendPairs_50 : Dc MX7_friendPairs 50 (.iload_n 2) 1 51 := ⟨by decide +kernel, rfl⟩
theorem eX7_friendPairs_51 : Dc MX7_friendPairs 51 (.iaload) 1 52 := ⟨by decide +kernel, rfl⟩
theorem eX7_friendPairs_52 : Dc MX7_friendPairs 52 (.aload_n 0) 1 53 := ⟨by decide +kernel, rfl⟩
theorem eX7_friendPairs_53 : Dc MX7_friendPairs 53 (.getfield 30) 3 56 := ⟨by decide +kernel, rfl⟩
theorem eX7_friendPairs_56 : Dc MX7_friendPairs 56 (.iload_n 3) 1 57 := ⟨by decide +kernel, rfl⟩
theorem eX7_friendPairs_57 : Dc MX7_friendPairs 57 (.iaload) 1 58 := ⟨by decide +kernel, rfl⟩
theorem eX7_friendPairs_58 : Dc MX7_friendPairs 58 (.if_icmp .ne 18) 3 61 := ⟨by decide +kernel, rfl⟩
theorem eX7_friendPairs_61 : Dc MX7_friendPairs 61 (.aload_n 0) 1 62 := ⟨by decide +kernel, rfl⟩
theorem eX7_friendPairs_62 : Dc MX7_friendPairs 62 (.getfield 10) 3 65 := ⟨by decide +kernel, rfl⟩
theorem eX7_friendPairs_65 : Dc MX7_friendPairs 65 (.iload_n 2) 1 66 := ⟨by decide +kernel, rfl⟩
theorem eX7_friendPairs_66 : Dc MX7_friendPairs 66 (.iload_n 3) 1 67 := ⟨by decide +kernel, rfl⟩
theorem eX7_friendPairs_67 : Dc MX7_friendPairs 67 (.invokevirtual 217) 3 70 := ⟨by decide +kernel, rfl⟩
theorem eX7_friendPairs_70 : Dc MX7_friendPairs 70 (.ifCond .eq 6) 3 73 := ⟨by decide +kernel, rfl⟩
theorem eX7_friendPairs_73 : Dc MX7_friendPairs 73 (.iinc 1 1) 3 76 := ⟨by decide +kernel, rfl⟩
theorem eX7_friendPairs_76 : Dc MX7_friendPairs 76 (.iinc 3 1) 3 79 := ⟨by decide +kernel, rfl⟩
theorem eX7_friendPairs_79 : Dc MX7_friendPairs 79 (.goto (-60)) 3 82 := ⟨by decide +kernel, rfl⟩
theorem eX7_friendPairs_82 : Dc MX7_friendPairs 82 (.iinc 2 1) 3 85 := ⟨by decide +kernel, rfl⟩
theorem eX7_friendPairs_85 : Dc MX7_friendPairs 85 (.goto (-81)) 3 88 := ⟨by decide +kernel, rfl⟩
theorem eX7_friendPairs_88 : Dc MX7_friendPairs 88 (.iload_n 1) 1 89 := ⟨by decide +kernel, rfl⟩
theorem eX7_friendPairs_89 : Dc MX7_friendPairs 89 (.ireturn) 1 90 := ⟨by decide +kernel, rfl⟩
theorem eX7_projectsUsed_0 : Dc MX7_projectsUsed 0 (.iconst 0) 1 1 := ⟨by decide +kernel, rfl⟩
theorem eX7_projectsUsed_1 : Dc MX7_projectsUsed 1 (.istore_n 1) 1 2 := ⟨by decide +kernel, rfl⟩
theorem eX7_projectsUsed_2 : Dc MX7_projectsUsed 2 (.iconst 0) 1 3 := ⟨by decide +kernel, rfl⟩
theorem eX7_projectsUsed_3 : Dc MX7_projectsUsed 3 (.istore_n 2) 1 4 := ⟨by decide +kernel, rfl⟩
theorem eX7_projectsUsed_4 : Dc MX7_projectsUsed 4 (.iload_n 2) 1 5 := ⟨by decide +kernel, rfl⟩
theorem eX7_projectsUsed_5 : Dc MX7_projectsUsed 5 (.aload_n 0) 1 6 := ⟨by decide +kernel, rfl⟩
theorem eX7_projectsUsed_6 : Dc MX7_projectsUsed 6 (.getfield 10) 3 9 := ⟨by decide +kernel, rfl⟩
theorem eX7_projectsUsed_9 : Dc MX7_projectsUsed 9 (.getfield 101) 3 12 := ⟨by decide +kernel, rfl⟩
theorem eX7_projectsUsed_12 : Dc MX7_projectsUsed 12 (.if_icmp .ge 28) 3 15 := ⟨by decide +kernel, rfl⟩
theorem eX7_projectsUsed_15 : Dc MX7_projectsUsed 15 (.aload_n 0) 1 16 := ⟨by decide +kernel, rfl⟩
theorem eX7_projectsUsed_16 : Dc MX7_projectsUsed 16 (.iload_n 2) 1 17 := ⟨by decide +kernel, rfl⟩
theorem eX7_projectsUsed_17 : Dc MX7_projectsUsed 17 (.invokevirtual 211) 3 20 := ⟨by decide +kernel, rfl⟩
theorem eX7_projectsUsed_20 : Dc MX7_projectsUsed 20 (.ifCond .eq 14) 3 23 := ⟨by decide +kernel, rfl⟩
theorem eX7_projectsUsed_23 : Dc MX7_projectsUsed 23 (.iload_n 1) 1 24 := ⟨by decide +kernel, rfl⟩
theorem eX7_projectsUsed_24 : Dc MX7_projectsUsed 24 (.iconst 1) 1 25 := ⟨by decide +kernel, rfl⟩
theorem eX7_projectsUsed_25 : Dc MX7_projectsUsed 25 (.aload_n 0) 1 26 := ⟨by decide +kernel, rfl⟩
theorem eX7_projectsUsed_26 : Dc MX7_projectsUsed 26 (.getfield 30) 3 29 := ⟨by decide +kernel, rfl⟩
theorem eX7_projectsUsed_29 : Dc MX7_projectsUsed 29 (.iload_n 2) 1 30 := ⟨by decide +kernel, rfl⟩
theorem eX7_projectsUsed_30 : Dc MX7_projectsUsed 30 (.iaload) 1 31 := ⟨by decide +kernel, rfl⟩
theorem eX7_projectsUsed_31 : Dc MX7_projectsUsed 31 (.ishl) 1 32 := ⟨by decide +kernel, rfl⟩
theorem eX7_projectsUsed_32 : Dc MX7_projectsUsed 32 (.ior) 1 33 := ⟨by decide +kernel, rfl⟩
theorem eX7_projectsUsed_33 : Dc MX7_projectsUsed 33 (.istore_n 1) 1 34 := ⟨by decide +kernel, rfl⟩
theorem eX7_projectsUsed_34 : Dc MX7_projectsUsed 34 (.iinc 2 1) 3 37 := ⟨by decide +kernel, rfl⟩
theorem eX7_projectsUsed_37 : Dc MX7_projectsUsed 37 (.goto (-33)) 3 40 := ⟨by decide +kernel, rfl⟩
theorem eX7_projectsUsed_40 : Dc MX7_projectsUsed 40 (.iload_n 1) 1 41 := ⟨by decide +kernel, rfl⟩
theorem eX7_projectsUsed_41 : Dc MX7_projectsUsed 41 (.invokestatic 111) 3 44 := ⟨by decide +kernel, rfl⟩
theorem eX7_projectsUsed_44 : Dc MX7_projectsUsed 44 (.ireturn) 1 45 := ⟨by decide +kernel, rfl⟩
theorem eX7_bothGain_0 : Dc MX7_bothGain 0 (.aload_n 0) 1 1 := ⟨by decide +kernel, rfl⟩
theorem eX7_bothGain_1 : Dc MX7_bothGain 1 (.iload_n 1) 1 2 := ⟨by decide +kernel, rfl⟩
theorem eX7_bothGain_2 : Dc MX7_bothGain 2 (.invokevirtual 211) 3 5 := ⟨by decide +kernel, rfl⟩
theorem eX7_bothGain_5 : Dc MX7_bothGain 5 (.ifCond .eq 43) 3 8 := ⟨by decide +kernel, rfl⟩
theorem eX7_bothGain_8 : Dc MX7_bothGain 8 (.aload_n 0) 1 9 := ⟨by decide +kernel, rfl⟩
theorem eX7_bothGain_9 : Dc MX7_bothGain 9 (.iload_n 2) 1 10 := ⟨by decide +kernel, rfl⟩
theorem eX7_bothGain_10 : Dc MX7_bothGain 10 (.invokevirtual 211) 3 13 := ⟨by decide +kernel, rfl⟩
theorem eX7_bothGain_13 : Dc MX7_bothGain 13 (.ifCond .eq 35) 3 16 := ⟨by decide +kernel, rfl⟩
theorem eX7_bothGain_16 : Dc MX7_bothGain 16 (.aload_n 0) 1 17 := ⟨by decide +kernel, rfl⟩
theorem eX7_bothGain_17 : Dc MX7_bothGain 17 (.iload_n 1) 1 18 := ⟨by decide +kernel, rfl⟩
theorem eX7_bothGain_18 : Dc MX7_bothGain 18 (.aload_n 0) 1 19 := ⟨by decide +kernel, rfl⟩
theorem eX7_bothGain_19 : Dc MX7_bothGain 19 (.getfield 30) 3 22 := ⟨by decide +kernel, rfl⟩
theorem eX7_bothGain_22 : Dc MX7_bothGain 22 (.iload_n 2) 1 23 := ⟨by decide +kernel, rfl⟩
theorem eX7_bothGain_23 : Dc MX7_bothGain 23 (.iaload) 1 24 := ⟨by decide +kernel, rfl⟩
theorem eX7_bothGain_24 : Dc MX7_bothGain 24 (.invokevirtual 220) 3 27 := ⟨by decide +kernel, rfl⟩
theorem eX7_bothGain_27 : Dc MX7_bothGain 27 (.ifCond .eq 21) 3 30 := ⟨by decide +kernel, rfl⟩
theorem eX7_bothGain_30 : Dc MX7_bothGain 30 (.aload_n 0) 1 31 := ⟨by decide +kernel, rfl⟩
theorem eX7_bothGain_31 : Dc MX7_bothGain 31 (.iload_n 2) 1 32 := ⟨by decide +kernel, rfl⟩
theorem eX7_bothGain_32 : Dc MX7_bothGain 32 (.aload_n 0) 1 33 := ⟨by decide +kernel, rfl⟩
theorem eX7_bothGain_33 : Dc MX7_bothGain 33 (.getfield 30) 3 36 := ⟨by decide +kernel, rfl⟩
theorem eX7_bothGain_36 : Dc MX7_bothGain 36 (.iload_n 1) 1 37 := ⟨by decide +kernel, rfl⟩
theorem eX7_bothGain_37 : Dc MX7_bothGain 37 (.iaload) 1 38 := ⟨by decide +kernel, rfl⟩
theorem eX7_bothGain_38 : Dc MX7_bothGain 38 (.invokevirtual 220) 3 41 := ⟨by decide +kernel, rfl⟩
theorem eX7_bothGain_41 : Dc MX7_bothGain 41 (.ifCond .eq 7) 3 44 := ⟨by decide +kernel, rfl⟩
theorem eX7_bothGain_44 : Dc MX7_bothGain 44 (.iconst 1) 1 45 := ⟨by decide +kernel, rfl⟩
theorem eX7_bothGain_45 : Dc MX7_bothGain 45 (.goto 4) 3 48 := ⟨by decide +kernel, rfl⟩
theorem eX7_bothGain_48 : Dc MX7_bothGain 48 (.iconst 0) 1 49 := ⟨by decide +kernel, rfl⟩
theorem eX7_bothGain_49 : Dc MX7_bothGain 49 (.ireturn) 1 50 := ⟨by decide +kernel, rfl⟩
theorem eX7_gains_0 : Dc MX7_gains 0 (.aload_n 0) 1 1 := ⟨by decide +kernel, rfl⟩
theorem eX7_gains_1 : Dc MX7_gains 1 (.getfield 10) 3 4 := ⟨by decide +kernel, rfl⟩
theorem eX7_gains_4 : Dc MX7_gains 4 (.iload_n 1) 1 5 := ⟨by decide +kernel, rfl⟩
theorem eX7_gains_5 : Dc MX7_gains 5 (.invokevirtual 55) 3 8 := ⟨by decide +kernel, rfl⟩
theorem eX7_gains_8 : Dc MX7_gains 8 (.astore_n 3) 1 9 := ⟨by decide +kernel, rfl⟩
theorem eX7_gains_9 : Dc MX7_gains 9 (.aload_n 3) 1 10 := ⟨by decide +kernel, rfl⟩
theorem eX7_gains_10 : Dc MX7_gains 10 (.ifnull 20) 3 13 := ⟨by decide +kernel, rfl⟩
theorem eX7_gains_13 : Dc MX7_gains 13 (.aload_n 3) 1 14 := ⟨by decide +kernel, rfl⟩
theorem eX7_gains_14 : Dc MX7_gains 14 (.iload_n 2) 1 15 := ⟨by decide +kernel, rfl⟩
theorem eX7_gains_15 : Dc MX7_gains 15 (.invokevirtual 134) 3 18 := ⟨by decide +kernel, rfl⟩
theorem eX7_gains_18 : Dc MX7_gains 18 (.aload_n 0) 1 19 := ⟨by decide +kernel, rfl⟩
theorem eX7_gains_19 : Dc MX7_gains 19 (.iload_n 1) 1 20 := ⟨by decide +kernel, rfl⟩
theorem eX7_gains_20 : Dc MX7_gains 20 (.invokevirtual 195) 3 23 := ⟨by decide +kernel, rfl⟩
theorem eX7_gains_23 : Dc MX7_gains 23 (.if_icmp .ge 7) 3 26 := ⟨by decide +kernel, rfl⟩
theorem eX7_gains_26 : Dc MX7_gains 26 (.iconst 1) 1 27 := ⟨by decide +kernel, rfl⟩
theorem eX7_gains_27 : Dc MX7_gains 27 (.goto 4) 3 30 := ⟨by decide +kernel, rfl⟩
theorem eX7_gains_30 : Dc MX7_gains 30 (.iconst 0) 1 31 := ⟨by decide +kernel, rfl⟩
theorem eX7_gains_31 : Dc MX7_gains 31 (.ireturn) 1 32 := ⟨by decide +kernel, rfl⟩
theorem eX7_rightAfterExchange_0 : Dc MX7_rightAfterExchange 0 (.aload_n 0) 1 1 := ⟨by decide +kernel, rfl⟩
theorem eX7_rightAfterExchange_1 : Dc MX7_rightAfterExchange 1 (.getfield 30) 3 4 := ⟨by decide +kernel, rfl⟩
theorem eX7_rightAfterExchange_4 : Dc MX7_rightAfterExchange 4 (.iload_n 1) 1 5 := ⟨by decide +kernel, rfl⟩
theorem eX7_rightAfterExchange_5 : Dc MX7_rightAfterExchange 5 (.iload_n 2) 1 6 := ⟨by decide +kernel, rfl⟩
theorem eX7_rightAfterExchange_6 : Dc MX7_rightAfterExchange 6 (.invokestatic 223) 3 9 := ⟨by decide +kernel, rfl⟩
theorem eX7_rightAfterExchange_9 : Dc MX7_rightAfterExchange 9 (.aload_n 0) 1 10 := ⟨by decide +kernel, rfl⟩
theorem eX7_rightAfterExchange_10 : Dc MX7_rightAfterExchange 10 (.getfield 10) 3 13 := ⟨by decide +kernel, rfl⟩
theorem eX7_rightAfterExchange_13 : Dc MX7_rightAfterExchange 13 (.aload_n 0) 1 14 := ⟨by decide +kernel, rfl⟩
theorem eX7_rightAfterExchange_14 : Dc MX7_rightAfterExchange 14 (.getfield 30) 3 17 := ⟨by decide +kernel, rfl⟩
theorem eX7_rightAfterExchange_17 : Dc MX7_rightAfterExchange 17 (.invokevirtual 140) 3 20 := ⟨by decide +kernel, rfl⟩
theorem eX7_rightAfterExchange_20 : Dc MX7_rightAfterExchange 20 (.ifCond .ne 7) 3 23 := ⟨by decide +kernel, rfl⟩
theorem eX7_rightAfterExchange_23 : Dc MX7_rightAfterExchange 23 (.iconst 1) 1 24 := ⟨by decide +kernel, rfl⟩
theorem eX7_rightAfterExchange_24 : Dc MX7_rightAfterExchange 24 (.goto 4) 3 27 := ⟨by decide +kernel, rfl⟩
theorem eX7_rightAfterExchange_27 : Dc MX7_rightAfterExchange 27 (.iconst 0) 1 28 := ⟨by decide +kernel, rfl⟩
theorem eX7_rightAfterExchange_28 : Dc MX7_rightAfterExchange 28 (.istore_n 3) 1 29 := ⟨by decide +kernel, rfl⟩
theorem eX7_rightAfterExchange_29 : Dc MX7_rightAfterExchange 29 (.aload_n 0) 1 30 := ⟨by decide +kernel, rfl⟩
theorem eX7_rightAfterExchange_30 : Dc MX7_rightAfterExchange 30 (.getfield 30) 3 33 := ⟨by decide +kernel, rfl⟩
theorem eX7_rightAfterExchange_33 : Dc MX7_rightAfterExchange 33 (.iload_n 1) 1 34 := ⟨by decide +kernel, rfl⟩
theorem eX7_rightAfterExchange_34 : Dc MX7_rightAfterExchange 34 (.iload_n 2) 1 35 := ⟨by decide +kernel, rfl⟩
theorem eX7_rightAfterExchange_35 : Dc MX7_rightAfterExchange 35 (.invokestatic 223) 3 38 := ⟨by decide +kernel, rfl⟩
theorem eX7_rightAfterExchange_38 : Dc MX7_rightAfterExchange 38 (.iload_n 3) 1 39 := ⟨by decide +kernel, rfl⟩
theorem eX7_rightAfterExchange_39 : Dc MX7_rightAfterExchange 39 (.ireturn) 1 40 := ⟨by decide +kernel, rfl⟩
theorem eX7_findPayingTale_0 : Dc MX7_findPayingTale 0 (.aload_n 0) 1 1 := ⟨by decide +kernel, rfl⟩
theorem eX7_findPayingTale_1 : Dc MX7_findPayingTale 1 (.getfield 10) 3 4 := ⟨by decide +kernel, rfl⟩
theorem eX7_findPayingTale_4 : Dc MX7_findPayingTale 4 (.getfield 104) 3 7 := ⟨by decide +kernel, rfl⟩
theorem eX7_findPayingTale_7 : Dc MX7_findPayingTale 7 (.istore 4) 2 9 := ⟨by decide +kernel, rfl⟩
theorem eX7_findPayingTale_9 : Dc MX7_findPayingTale 9 (.iconst 0) 1 10 := ⟨by decide +kernel, rfl⟩
theorem eX7_findPayingTale_10 : Dc MX7_findPayingTale 10 (.istore 5) 2 12 := ⟨by decide +kernel, rfl⟩
theorem eX7_findPayingTale_12 : Dc MX7_findPayingTale 12 (.iload 5) 2 14 := ⟨by decide +kernel, rfl⟩
theorem eX7_findPayingTale_14 : Dc MX7_findPayingTale 14 (.iload 4) 2 16 := ⟨by decide +kernel, rfl⟩
theorem eX7_findPayingTale_16 : Dc MX7_findPayingTale 16 (.if_icmp .ge 18) 3 19 := ⟨by decide +kernel, rfl⟩
theorem eX7_findPayingTale_19 : Dc MX7_findPayingTale 19 (.aload_n 0) 1 20 := ⟨by decide +kernel, rfl⟩
theorem eX7_findPayingTale_20 : Dc MX7_findPayingTale 20 (.getfield 37) 3 23 := ⟨by decide +kernel, rfl⟩
theorem eX7_findPayingTale_23 : Dc MX7_findPayingTale 23 (.iload 5) 2 25 := ⟨by decide +kernel, rfl⟩
theorem eX7_findPayingTale_25 : Dc MX7_findPayingTale 25 (.iload 5) 2 27 := ⟨by decide +kernel, rfl⟩
theorem eX7_findPayingTale_27 : Dc MX7_findPayingTale 27 (.iastore) 1 28 := ⟨by decide +kernel, rfl⟩
theorem eX7_findPayingTale_28 : Dc MX7_findPayingTale 28 (.iinc 5 1) 3 31 := ⟨by decide +kernel, rfl⟩
theorem eX7_findPayingTale_31 : Dc MX7_findPayingTale 31 (.goto (-19)) 3 34 := ⟨by decide +kernel, rfl⟩
theorem eX7_findPayingTale_34 : Dc MX7_findPayingTale 34 (.iconst 0) 1 35 := ⟨by decide +kernel, rfl⟩
theorem eX7_findPayingTale_35 : Dc MX7_findPayingTale 35 (.istore 5) 2 37 := ⟨by decide +kernel, rfl⟩
theorem eX7_findPayingTale_37 : Dc MX7_findPayingTale 37 (.iload 5) 2 39 := ⟨by decide +kernel, rfl⟩
theorem eX7_findPayingTale_39 : Dc MX7_findPayingTale 39 (.bipush 120) 2 41 := ⟨by decide +kernel, rfl⟩
theorem eX7_findPayingTale_41 : Dc MX7_findPayingTale 41 (.if_icmp .ge 102) 3 44 := ⟨by decide +kernel, rfl⟩
theorem eX7_findPayingTale_44 : Dc MX7_findPayingTale 44 (.aload_n 0) 1 45 := ⟨by decide +kernel, rfl⟩
theorem eX7_findPayingTale_45 : Dc MX7_findPayingTale 45 (.iload 4) 2 47 := ⟨by decide +kernel, rfl⟩
theorem eX7_findPayingTale_47 : Dc MX7_findPayingTale 47 (.invokevirtual 227) 3 50 := ⟨by decide +kernel, rfl⟩
theorem eX7_findPayingTale_50 : Dc MX7_findPayingTale 50 (.aload_n 0) 1 51 := ⟨by decide +kernel, rfl⟩
theorem eX7_findPayingTale_51 : Dc MX7_findPayingTale 51 (.getfield 19) 3 54 := ⟨by decide +kernel, rfl⟩
theorem eX7_findPayingTale_54 : Dc MX7_findPayingTale 54 (.iload_n 1) 1 55 := ⟨by decide +kernel, rfl⟩
theorem eX7_findPayingTale_55 : Dc MX7_findPayingTale 55 (.aload_n 0) 1 56 := ⟨by decide +kernel, rfl⟩
theorem eX7_findPayingTale_56 : Dc MX7_findPayingTale 56 (.getfield 10) 3 59 := ⟨by decide +kernel, rfl⟩
theorem eX7_findPayingTale_59 : Dc MX7_findPayingTale 59 (.iload_n 1) 1 60 := ⟨by decide +kernel, rfl⟩
theorem eX7_findPayingTale_60 : Dc MX7_findPayingTale 60 (.invokevirtual 137) 3 63 := ⟨by decide +kernel, rfl⟩
theorem eX7_findPayingTale_63 : Dc MX7_findPayingTale 63 (.aload_n 2) 1 64 := ⟨by decide +kernel, rfl⟩
theorem eX7_findPayingTale_64 : Dc MX7_findPayingTale 64 (.getfield 131) 3 67 := ⟨by decide +kernel, rfl⟩
theorem eX7_findPayingTale_67 : Dc MX7_findPayingTale 67 (.aload_n 0) 1 68 := ⟨by decide +kernel, rfl⟩
theorem eX7_findPayingTale_68 : Dc MX7_findPayingTale 68 (.getfield 40) 3 71 := ⟨by decide +kernel, rfl⟩
theorem eX7_findPayingTale_71 : Dc MX7_findPayingTale 71 (.invokevirtual 230) 3 74 := ⟨by decide +kernel, rfl⟩
theorem eX7_findPayingTale_74 : Dc MX7_findPayingTale 74 (.aload_n 0) 1 75 := ⟨by decide +kernel, rfl⟩
theorem eX7_findPayingTale_75 : Dc MX7_findPayingTale 75 (.getfield 19) 3 78 := ⟨by decide +kernel, rfl⟩
theorem eX7_findPayingTale_78 : Dc MX7_findPayingTale 78 (.invokevirtual 148) 3 81 := ⟨by decide +kernel, rfl⟩
theorem eX7_findPayingTale_81 : Dc MX7_findPayingTale 81 (.ifCond .eq 42) 3 84 := ⟨by decide +kernel, rfl⟩
theorem eX7_findPayingTale_84 : Dc MX7_findPayingTale 84 (.aload_n 2) 1 85 := ⟨by decide +kernel, rfl⟩
theorem eX7_findPayingTale_85 : Dc MX7_findPayingTale 85 (.aload_n 0) 1 86 := ⟨by decide +kernel, rfl⟩
theorem eX7_findPayingTale_86 : Dc MX7_findPayingTale 86 (.getfield 19) 3 89 := ⟨by decide +kernel, rfl⟩
theorem eX7_findPayingTale_89 : Dc MX7_findPayingTale 89 (.iload_n 1) 1 90 := ⟨by decide +kernel, rfl⟩
theorem eX7_findPayingTale_90 : Dc MX7_findPayingTale 90 (.invokevirtual 188) 3 93 := ⟨by decide +kernel, rfl⟩
theorem eX7_findPayingTale_93 : Dc MX7_findPayingTale 93 (.invokevirtual 134) 3 96 := ⟨by decide +kernel, rfl⟩
theorem eX7_findPayingTale_96 : Dc MX7_findPayingTale 96 (.iload_n 3) 1 97 := ⟨by decide +kernel, rfl⟩
theorem eX7_findPayingTale_97 : Dc MX7_findPayingTale 97 (.if_icmp .ge 26) 3 100 := ⟨by decide +kernel, rfl⟩
theorem eX7_findPayingTale_100 : Dc MX7_findPayingTale 100 (.aload_n 0) 1 101 := ⟨by decide +kernel, rfl⟩
theorem eX7_findPayingTale_101 : Dc MX7_findPayingTale 101 (.getfield 37) 3 104 := ⟨by decide +kernel, rfl⟩
theorem eX7_findPayingTale_104 : Dc MX7_findPayingTale 104 (.iconst 0) 1 105 := ⟨by decide +kernel, rfl⟩
theorem eX7_findPayingTale_105 : Dc MX7_findPayingTale 105 (.aload_n 0) 1 106 := ⟨by decide +kernel, rfl⟩
theorem eX7_findPayingTale_106 : Dc MX7_findPayingTale 106 (.getfield 34) 3 109 := ⟨by decide +kernel, rfl⟩
theorem eX7_findPayingTale_109 : Dc MX7_findPayingTale 109 (.iconst 0) 1 110 := ⟨by decide +kernel, rfl⟩
theorem eX7_findPayingTale_110 : Dc MX7_findPayingTale 110 (.iload 4) 2 112 := ⟨by decide +kernel, rfl⟩
theorem eX7_findPayingTale_112 : Dc MX7_findPayingTale 112 (.invokestatic 234) 3 115 := ⟨by decide +kernel, rfl⟩
theorem eX7_findPayingTale_115 : Dc MX7_findPayingTale 115 (.aload_n 0) 1 116 := ⟨by decide +kernel, rfl⟩
theorem eX7_findPayingTale_116 : Dc MX7_findPayingTale 116 (.iload 4) 2 118 := ⟨by decide +kernel, rfl⟩
theorem eX7_findPayingTale_118 : Dc MX7_findPayingTale 118 (.putfield 119) 3 121 := ⟨by decide +kernel, rfl⟩
theorem eX7_findPayingTale_121 : Dc MX7_findPayingTale 121 (.iconst 1) 1 122 := ⟨by decide +kernel, rfl⟩
theorem eX7_findPayingTale_122 : Dc MX7_findPayingTale 122 (.ireturn) 1 123 := ⟨by decide +kernel, rfl⟩
theorem eX7_findPayingTale_123 : Dc MX7_findPayingTale 123 (.aload_n 0) 1 124 := ⟨by decide +kernel, rfl⟩
theorem eX7_findPayingTale_124 : Dc MX7_findPayingTale 124 (.getfield 37) 3 127 := ⟨by decide +kernel, rfl⟩
theorem eX7_findPayingTale_127 : Dc MX7_findPayingTale 127 (.iload 4) 2 129 := ⟨by decide +kernel, rfl⟩
theorem eX7_findPayingTale_129 : Dc MX7_findPayingTale 129 (.invokestatic 240) 3 132 := ⟨by decide +kernel, rfl⟩
theorem eX7_findPayingTale_132 : Dc MX7_findPayingTale 132 (.ifCond .ne 5) 3 135 := ⟨by decide +kernel, rfl⟩
theorem eX7_findPayingTale_135 : Dc MX7_findPayingTale 135 (.iconst 0) 1 136 := ⟨by decide +kernel, rfl⟩
theorem eX7_findPayingTale_136 : Dc MX7_findPayingTale 136 (.ireturn) 1 137 := ⟨by decide +kernel, rfl⟩
theorem eX7_findPayingTale_137 : Dc MX7_findPayingTale 137 (.iinc 5 1) 3 140 := ⟨by decide +kernel, rfl⟩
theorem eX7_findPayingTale_140 : Dc MX7_findPayingTale 140 (.goto (-103)) 3 143 := ⟨by decide +kernel, rfl⟩
theorem eX7_findPayingTale_143 : Dc MX7_findPayingTale 143 (.iconst 0) 1 144 := ⟨by decide +kernel, rfl⟩
theorem eX7_findPayingTale_144 : Dc MX7_findPayingTale 144 (.ireturn) 1 145 := ⟨by decide +kernel, rfl⟩
theorem eX7_rankByTale_0 : Dc MX7_rankByTale 0 (.iconst 0) 1 1 := ⟨by decide +kernel, rfl⟩
theorem eX7_rankByTale_1 : Dc MX7_rankByTale 1 (.istore_n 2) 1 2 := ⟨by decide +kernel, rfl⟩
theorem eX7_rankByTale_2 : Dc MX7_rankByTale 2 (.iload_n 2) 1 3 := ⟨by decide +kernel, rfl⟩
theorem eX7_rankByTale_3 : Dc MX7_rankByTale 3 (.iload_n 1) 1 4 := ⟨by decide +kernel, rfl⟩
theorem eX7_rankByTale_4 : Dc MX7_rankByTale 4 (.if_icmp .ge 38) 3 7 := ⟨by decide +kernel, rfl⟩
theorem eX7_rankByTale_7 : Dc MX7_rankByTale 7 (.aload_n 0) 1 8 := ⟨by decide +kernel, rfl⟩
theorem eX7_rankByTale_8 : Dc MX7_rankByTale 8 (.getfield 37) 3 11 := ⟨by decide +kernel, rfl⟩
theorem eX7_rankByTale_11 : Dc MX7_rankByTale 11 (.iload_n 2) 1 12 := ⟨by decide +kernel, rfl⟩
theorem eX7_rankByTale_12 : Dc MX7_rankByTale 12 (.iaload) 1 13 := ⟨by decide +kernel, rfl⟩
theorem eX7_rankByTale_13 : Dc MX7_rankByTale 13 (.istore_n 3) 1 14 := ⟨by decide +kernel, rfl⟩
theorem eX7_rankByTale_14 : Dc MX7_rankByTale 14 (.iload_n 3) 1 15 := ⟨by decide +kernel, rfl⟩
theorem eX7_rankByTale_15 : Dc MX7_rankByTale 15 (.ifCond .lt 21) 3 18 := ⟨by decide +kernel, rfl⟩
theorem eX7_rankByTale_18 : Dc MX7_rankByTale 18 (.iload_n 3) 1 19 := ⟨by decide +kernel, rfl⟩
theorem eX7_rankByTale_19 : Dc MX7_rankByTale 19 (.aload_n 0) 1 20 := ⟨by decide +kernel, rfl⟩
theorem eX7_rankByTale_20 : Dc MX7_rankByTale 20 (.getfield 40) 3 23 := ⟨by decide +kernel, rfl⟩
theorem eX7_rankByTale_23 : Dc MX7_rankByTale 23 (.arraylength) 1 24 := ⟨by decide +kernel, rfl⟩
theorem eX7_rankByTale_24 : Dc MX7_rankByTale 24 (.if_icmp .ge 12) 3 27 := ⟨by decide +kernel, rfl⟩
theorem eX7_rankByTale_27 : Dc MX7_rankByTale 27 (.aload_n 0) 1 28 := ⟨by decide +kernel, rfl⟩
theorem eX7_rankByTale_28 : Dc MX7_rankByTale 28 (.getfield 40) 3 31 := ⟨by decide +kernel, rfl⟩
theorem eX7_rankByTale_31 : Dc MX7_rankByTale 31 (.iload_n 3) 1 32 := ⟨by decide +kernel, rfl⟩
theorem eX7_rankByTale_32 : Dc MX7_rankByTale 32 (.iload_n 2) 1 33 := ⟨by decide +kernel, rfl⟩
theorem eX7_rankByTale_33 : Dc MX7_rankByTale 33 (.iconst 1) 1 34 := ⟨by decide +kernel, rfl⟩
theorem eX7_rankByTale_34 : Dc MX7_rankByTale 34 (.iadd) 1 35 := ⟨by decide +kernel, rfl⟩
theorem eX7_rankByTale_35 : Dc MX7_rankByTale 35 (.iastore) 1 36 := ⟨by decide +kernel, rfl⟩
theorem eX7_rankByTale_36 : Dc MX7_rankByTale 36 (.iinc 2 1) 3 39 := ⟨by decide +kernel, rfl⟩
theorem eX7_rankByTale_39 : Dc MX7_rankByTale 39 (.goto (-37)) 3 42 := ⟨by decide +kernel, rfl⟩
theorem eX7_rankByTale_42 : Dc MX7_rankByTale 42 (.return_) 1 43 := ⟨by decide +kernel, rfl⟩
theorem eX7_turnToNext_0 : Dc MX7_turnToNext 0 (.iload_n 1) 1 1 := ⟨by decide +kernel, rfl⟩
theorem eX7_turnToNext_1 : Dc MX7_turnToNext 1 (.iconst 2) 1 2 := ⟨by decide +kernel, rfl⟩
theorem eX7_turnToNext_2 : Dc MX7_turnToNext 2 (.isub) 1 3 := ⟨by decide +kernel, rfl⟩
theorem eX7_turnToNext_3 : Dc MX7_turnToNext 3 (.istore_n 2) 1 4 := ⟨by decide +kernel, rfl⟩
theorem eX7_turnToNext_4 : Dc MX7_turnToNext 4 (.iload_n 2) 1 5 := ⟨by decide +kernel, rfl⟩
theorem eX7_turnToNext_5 : Dc MX7_turnToNext 5 (.ifCond .lt 20) 3 8 := ⟨by decide +kernel, rfl⟩
theorem eX7_turnToNext_8 : Dc MX7_turnToNext 8 (.aload_n 0) 1 9 := ⟨by decide +kernel, rfl⟩
theorem eX7_turnToNext_9 : Dc MX7_turnToNext 9 (.iload_n 2) 1 10 := ⟨by decide +kernel, rfl⟩
theorem eX7_turnToNext_10 : Dc MX7_turnToNext 10 (.iaload) 1 11 := ⟨by decide +kernel, rfl⟩
theorem eX7_turnToNext_11 : Dc MX7_turnToNext 11 (.aload_n 0) 1 12 := ⟨by decide +kernel, rfl⟩
theorem eX7_turnToNext_12 : Dc MX7_turnToNext 12 (.iload_n 2) 1 13 := ⟨by decide +kernel, rfl⟩
theorem eX7_turnToNext_13 : Dc MX7_turnToNext 13 (.iconst 1) 1 14 := ⟨by decide +kernel, rfl⟩
theorem eX7_turnToNext_14 : Dc MX7_turnToNext 14 (.iadd) 1 15 := ⟨by decide +kernel, rfl⟩
theorem eX7_turnToNext_15 : Dc MX7_turnToNext 15 (.iaload) 1 16 := ⟨by decide +kernel, rfl⟩
theorem eX7_turnToNext_16 : Dc MX7_turnToNext 16 (.if_icmp .le 9) 3 19 := ⟨by decide +kernel, rfl⟩
theorem eX7_turnToNext_19 : Dc MX7_turnToNext 19 (.iinc 2 (-1)) 3 22 := ⟨by decide +kernel, rfl⟩
theorem eX7_turnToNext_22 : Dc MX7_turnToNext 22 (.goto (-18)) 3 25 := ⟨by decide +kernel, rfl⟩
theorem eX7_turnToNext_25 : Dc MX7_turnToNext 25 (.iload_n 2) 1 26 := ⟨by decide +kernel, rfl⟩
theorem eX7_turnToNext_26 : Dc MX7_turnToNext 26 (.ifCond .ge 5) 3 29 := ⟨by decide +kernel, rfl⟩
theorem eX7_turnToNext_29 : Dc MX7_turnToNext 29 (.iconst 0) 1 30 := ⟨by decide +kernel, rfl⟩
theorem eX7_turnToNext_30 : Dc MX7_turnToNext 30 (.ireturn) 1 31 := ⟨by decide +kernel, rfl⟩
theorem eX7_turnToNext_31 : Dc MX7_turnToNext 31 (.iload_n 1) 1 32 := ⟨by decide +kernel, rfl⟩
theorem eX7_turnToNext_32 : Dc MX7_turnToNext 32 (.iconst 1) 1 33 := ⟨by decide +kernel, rfl⟩
theorem eX7_turnToNext_33 : Dc MX7_turnToNext 33 (.isub) 1 34 := ⟨by decide +kernel, rfl⟩
theorem eX7_turnToNext_34 : Dc MX7_turnToNext 34 (.istore_n 3) 1 35 := ⟨by decide +kernel, rfl⟩
theorem eX7_turnToNext_35 : Dc MX7_turnToNext 35 (.iload_n 3) 1 36 := ⟨by decide +kernel, rfl⟩
theorem eX7_turnToNext_36 : Dc MX7_turnToNext 36 (.iload_n 2) 1 37 := ⟨by decide +kernel, rfl⟩
theorem eX7_turnToNext_37 : Dc MX7_turnToNext 37 (.iconst 1) 1 38 := ⟨by decide +kernel, rfl⟩
theorem eX7_turnToNext_38 : Dc MX7_turnToNext 38 (.iadd) 1 39 := ⟨by decide +kernel, rfl⟩
theorem eX7_turnToNext_39 : Dc MX7_turnToNext 39 (.if_icmp .le 18) 3 42 := ⟨by decide +kernel, rfl⟩
theorem eX7_turnToNext_42 : Dc MX7_turnToNext 42 (.aload_n 0) 1 43 := ⟨by decide +kernel, rfl⟩
theorem eX7_turnToNext_43 : Dc MX7_turnToNext 43 (.iload_n 3) 1 44 := ⟨by decide +kernel, rfl⟩
theorem eX7_turnToNext_44 : Dc MX7_turnToNext 44 (.iaload) 1 45 := ⟨by decide +kernel, rfl⟩
theorem eX7_turnToNext_45 : Dc MX7_turnToNext 45 (.aload_n 0) 1 46 := ⟨by decide +kernel, rfl⟩
theorem eX7_turnToNext_46 : Dc MX7_turnToNext 46 (.iload_n 2) 1 47 := ⟨by decide +kernel, rfl⟩
theorem eX7_turnToNext_47 : Dc MX7_turnToNext 47 (.iaload) 1 48 := ⟨by decide +kernel, rfl⟩
theorem eX7_turnToNext_48 : Dc MX7_turnToNext 48 (.if_icmp .ge 9) 3 51 := ⟨by decide +kernel, rfl⟩
theorem eX7_turnToNext_51 : Dc MX7_turnToNext 51 (.iinc 3 (-1)) 3 54 := ⟨by decide +kernel, rfl⟩
theorem eX7_turnToNext_54 : Dc MX7_turnToNext 54 (.goto (-19)) 3 57 := ⟨by decide +kernel, rfl⟩
theorem eX7_turnToNext_57 : Dc MX7_turnToNext 57 (.aload_n 0) 1 58 := ⟨by decide +kernel, rfl⟩
theorem eX7_turnToNext_58 : Dc MX7_turnToNext 58 (.iload_n 2) 1 59 := ⟨by decide +kernel, rfl⟩
theorem eX7_turnToNext_59 : Dc MX7_turnToNext 59 (.iload_n 3) 1 60 := ⟨by decide +kernel, rfl⟩
theorem eX7_turnToNext_60 : Dc MX7_turnToNext 60 (.invokestatic 223) 3 63 := ⟨by decide +kernel, rfl⟩
theorem eX7_turnToNext_63 : Dc MX7_turnToNext 63 (.iload_n 2) 1 64 := ⟨by decide +kernel, rfl⟩
theorem eX7_turnToNext_64 : Dc MX7_turnToNext 64 (.iconst 1) 1 65 := ⟨by decide +kernel, rfl⟩
theorem eX7_turnToNext_65 : Dc MX7_turnToNext 65 (.iadd) 1 66 := ⟨by decide +kernel, rfl⟩
theorem eX7_turnToNext_66 : Dc MX7_turnToNext 66 (.istore 4) 2 68 := ⟨by decide +kernel, rfl⟩
theorem eX7_turnToNext_68 : Dc MX7_turnToNext 68 (.iload_n 1) 1 69 := ⟨by decide +kernel, rfl⟩
theorem eX7_turnToNext_69 : Dc MX7_turnToNext 69 (.iconst 1) 1 70 := ⟨by decide +kernel, rfl⟩
theorem eX7_turnToNext_70 : Dc MX7_turnToNext 70 (.isub) 1 71 := ⟨by decide +kernel, rfl⟩
theorem eX7_turnToNext_71 : Dc MX7_turnToNext 71 (.istore 5) 2 73 := ⟨by decide +kernel, rfl⟩
theorem eX7_turnToNext_73 : Dc MX7_turnToNext 73 (.iload 4) 2 75 := ⟨by decide +kernel, rfl⟩
theorem eX7_turnToNext_75 : Dc MX7_turnToNext 75 (.iload 5) 2 77 := ⟨by decide +kernel, rfl⟩
theorem eX7_turnToNext_77 : Dc MX7_turnToNext 77 (.if_icmp .ge 20) 3 80 := ⟨by decide +kernel, rfl⟩
theorem eX7_turnToNext_80 : Dc MX7_turnToNext 80 (.aload_n 0) 1 81 := ⟨by decide +kernel, rfl⟩
theorem eX7_turnToNext_81 : Dc MX7_turnToNext 81 (.iload 4) 2 83 := ⟨by decide +kernel, rfl⟩
theorem eX7_turnToNext_83 : Dc MX7_turnToNext 83 (.iload 5) 2 85 := ⟨by decide +kernel, rfl⟩
theorem eX7_turnToNext_85 : Dc MX7_turnToNext 85 (.invokestatic 223) 3 88 := ⟨by decide +kernel, rfl⟩
theorem eX7_turnToNext_88 : Dc MX7_turnToNext 88 (.iinc 4 1) 3 91 := ⟨by decide +kernel, rfl⟩
theorem eX7_turnToNext_91 : Dc MX7_turnToNext 91 (.iinc 5 (-1)) 3 94 := ⟨by decide +kernel, rfl⟩
theorem eX7_turnToNext_94 : Dc MX7_turnToNext 94 (.goto (-21)) 3 97 := ⟨by decide +kernel, rfl⟩
theorem eX7_turnToNext_97 : Dc MX7_turnToNext 97 (.iconst 1) 1 98 := ⟨by decide +kernel, rfl⟩
theorem eX7_turnToNext_98 : Dc MX7_turnToNext 98 (.ireturn) 1 99 := ⟨by decide +kernel, rfl⟩
theorem eX7_exchangePlaces_0 : Dc MX7_exchangePlaces 0 (.iload_n 1) 1 1 := ⟨by decide +kernel, rfl⟩
theorem eX7_exchangePlaces_1 : Dc MX7_exchangePlaces 1 (.ifCond .lt 19) 3 4 := ⟨by decide +kernel, rfl⟩
theorem eX7_exchangePlaces_4 : Dc MX7_exchangePlaces 4 (.iload_n 1) 1 5 := ⟨by decide +kernel, rfl⟩
theorem eX7_exchangePlaces_5 : Dc MX7_exchangePlaces 5 (.aload_n 0) 1 6 := ⟨by decide +kernel, rfl⟩
theorem eX7_exchangePlaces_6 : Dc MX7_exchangePlaces 6 (.arraylength) 1 7 := ⟨by decide +kernel, rfl⟩
theorem eX7_exchangePlaces_7 : Dc MX7_exchangePlaces 7 (.if_icmp .ge 13) 3 10 := ⟨by decide +kernel, rfl⟩
theorem eX7_exchangePlaces_10 : Dc MX7_exchangePlaces 10 (.iload_n 2) 1 11 := ⟨by decide +kernel, rfl⟩
theorem eX7_exchangePlaces_11 : Dc MX7_exchangePlaces 11 (.ifCond .lt 9) 3 14 := ⟨by decide +kernel, rfl⟩
theorem eX7_exchangePlaces_14 : Dc MX7_exchangePlaces 14 (.iload_n 2) 1 15 := ⟨by decide +kernel, rfl⟩
theorem eX7_exchangePlaces_15 : Dc MX7_exchangePlaces 15 (.aload_n 0) 1 16 := ⟨by decide +kernel, rfl⟩
theorem eX7_exchangePlaces_16 : Dc MX7_exchangePlaces 16 (.arraylength) 1 17 := ⟨by decide +kernel, rfl⟩
theorem eX7_exchangePlaces_17 : Dc MX7_exchangePlaces 17 (.if_icmp .lt 4) 3 20 := ⟨by decide +kernel, rfl⟩
theorem eX7_exchangePlaces_20 : Dc MX7_exchangePlaces 20 (.return_) 1 21 := ⟨by decide +kernel, rfl⟩
theorem eX7_exchangePlaces_21 : Dc MX7_exchangePlaces 21 (.aload_n 0) 1 22 := ⟨by decide +kernel, rfl⟩
theorem eX7_exchangePlaces_22 : Dc MX7_exchangePlaces 22 (.iload_n 1) 1 23 := ⟨by decide +kernel, rfl⟩
theorem eX7_exchangePlaces_23 : Dc MX7_exchangePlaces 23 (.iaload) 1 24 := ⟨by decide +kernel, rfl⟩
theorem eX7_exchangePlaces_24 : Dc MX7_exchangePlaces 24 (.istore_n 3) 1 25 := ⟨by decide +kernel, rfl⟩
theorem eX7_exchangePlaces_25 : Dc MX7_exchangePlaces 25 (.aload_n 0) 1 26 := ⟨by decide +kernel, rfl⟩
theorem eX7_exchangePlaces_26 : Dc MX7_exchangePlaces 26 (.iload_n 1) 1 27 := ⟨by decide +kernel, rfl⟩
theorem eX7_exchangePlaces_27 : Dc MX7_exchangePlaces 27 (.aload_n 0) 1 28 := ⟨by decide +kernel, rfl⟩
theorem eX7_exchangePlaces_28 : Dc MX7_exchangePlaces 28 (.iload_n 2) 1 29 := ⟨by decide +kernel, rfl⟩
theorem eX7_exchangePlaces_29 : Dc MX7_exchangePlaces 29 (.iaload) 1 30 := ⟨by decide +kernel, rfl⟩
theorem eX7_exchangePlaces_30 : Dc MX7_exchangePlaces 30 (.iastore) 1 31 := ⟨by decide +kernel, rfl⟩
theorem eX7_exchangePlaces_31 : Dc MX7_exchangePlaces 31 (.aload_n 0) 1 32 := ⟨by decide +kernel, rfl⟩
theorem eX7_exchangePlaces_32 : Dc MX7_exchangePlaces 32 (.iload_n 2) 1 33 := ⟨by decide +kernel, rfl⟩
theorem eX7_exchangePlaces_33 : Dc MX7_exchangePlaces 33 (.iload_n 3) 1 34 := ⟨by decide +kernel, rfl⟩
theorem eX7_exchangePlaces_34 : Dc MX7_exchangePlaces 34 (.iastore) 1 35 := ⟨by decide +kernel, rfl⟩
theorem eX7_exchangePlaces_35 : Dc MX7_exchangePlaces 35 (.return_) 1 36 := ⟨by decide +kernel, rfl⟩
end
section
-- decode rows of X8
theorem eX8_init_0 : Dc MX8_init 0 (.aload_n 0) 1 1 := ⟨by decide +kernel, rfl⟩
theorem eX8_init_1 : Dc MX8_init 1 (.invokespecial 1) 3 4 := ⟨by decide +kernel, rfl⟩
theorem eX8_init_4 : Dc MX8_init 4 (.aload_n 0) 1 5 := ⟨by decide +kernel, rfl⟩
theorem eX8_init_5 : Dc MX8_init 5 (.bipush 8) 2 7 := ⟨by decide +kernel, rfl⟩
theorem eX8_init_7 : Dc MX8_init 7 (.newarray .int) 2 9 := ⟨by decide +kernel, rfl⟩
theorem eX8_init_9 : Dc MX8_init 9 (.putfield 9) 3 12 := ⟨by decide +kernel, rfl⟩
theorem eX8_init_12 : Dc MX8_init 12 (.aload_n 0) 1 13 := ⟨by decide +kernel, rfl⟩
theorem eX8_init_13 : Dc MX8_init 13 (.bipush 8) 2 15 := ⟨by decide +kernel, rfl⟩
theorem eX8_init_15 : Dc MX8_init 15 (.newarray .boolean) 2 17 := ⟨by decide +kernel, rfl⟩
theorem eX8_init_17 : Dc MX8_init 17 (.putfield 13) 3 20 := ⟨by decide +kernel, rfl⟩
theorem eX8_init_20 : Dc MX8_init 20 (.aload_n 0) 1 21 := ⟨by decide +kernel, rfl⟩
theorem eX8_init_21 : Dc MX8_init 21 (.bipush 8) 2 23 := ⟨by decide +kernel, rfl⟩
theorem eX8_init_23 : Dc MX8_init 23 (.newarray .int) 2 25 := ⟨by decide +kernel, rfl⟩
theorem eX8_init_25 : Dc MX8_init 25 (.putfield 17) 3 28 := ⟨by decide +kernel, rfl⟩
theorem eX8_init_28 : Dc MX8_init 28 (.aload_n 0) 1 29 := ⟨by decide +kernel, rfl⟩
theorem eX8_init_29 : Dc MX8_init 29 (.bipush 40) 2 31 := ⟨by decide +kernel, rfl⟩
theorem eX8_init_31 : Dc MX8_init 31 (.newarray .int) 2 33 := ⟨by decide +kernel, rfl⟩
theorem eX8_init_33 : Dc MX8_init 33 (.putfield 20) 3 36 := ⟨by decide +kernel, rfl⟩
theorem eX8_init_36 : Dc MX8_init 36 (.aload_n 0) 1 37 := ⟨by decide +kernel, rfl⟩
theorem eX8_init_37 : Dc MX8_init 37 (.bipush 8) 2 39 := ⟨by decide +kernel, rfl⟩
theorem eX8_init_39 : Dc MX8_init 39 (.newarray .int) 2 41 := ⟨by decide +kernel, rfl⟩
theorem eX8_init_41 : Dc MX8_init 41 (.putfield 23) 3 44 := ⟨by decide +kernel, rfl⟩
theorem eX8_init_44 : Dc MX8_init 44 (.aload_n 0) 1 45 := ⟨by decide +kernel, rfl⟩
theorem eX8_init_45 : Dc MX8_init 45 (.bipush 8) 2 47 := ⟨by decide +kernel, rfl⟩
theorem eX8_init_47 : Dc MX8_init 47 (.newarray .int) 2 49 := ⟨by decide +kernel, rfl⟩
theorem eX8_init_49 : Dc MX8_init 49 (.putfield 26) 3 52 := ⟨by decide +kernel, rfl⟩
theorem eX8_init_52 : Dc MX8_init 52 (.aload_n 0) 1 53 := ⟨by decide +kernel, rfl⟩
theorem eX8_init_53 : Dc MX8_init 53 (.bipush 64) 2 55 := ⟨by decide +kernel, rfl⟩
theorem eX8_init_55 : Dc MX8_init 55 (.newarray .boolean) 2 57 := ⟨by decide +kernel, rfl⟩
theorem eX8_init_57 : Dc MX8_init 57 (.putfield 29) 3 60 := ⟨by decide +kernel, rfl⟩
theorem eX8_init_60 : Dc MX8_init 60 (.aload_n 0) 1 61 := ⟨by decide +kernel, rfl⟩
theorem eX8_init_61 : Dc MX8_init 61 (.bipush 64) 2 63 := ⟨by decide +kernel, rfl⟩
theorem eX8_init_63 : Dc MX8_init 63 (.newarray .boolean) 2 65 := ⟨by decide +kernel, rfl⟩
theorem eX8_init_65 : Dc MX8_init 65 (.putfield 32) 3 68 := ⟨by decide +kernel, rfl⟩
theorem eX8_init_68 : Dc MX8_init 68 (.aload_n 0) 1 69 := ⟨by decide +kernel, rfl⟩
theorem eX8_init_69 : Dc MX8_init 69 (.bipush 8) 2 71 := ⟨by decide +kernel, rfl⟩
theorem eX8_init_71 : Dc MX8_init 71 (.newarray .int) 2 73 := ⟨by decide +kernel, rfl⟩
theorem eX8_init_73 : Dc MX8_init 73 (.putfield 35) 3 76 := ⟨by decide +kernel, rfl⟩
theorem eX8_init_76 : Dc MX8_init 76 (.aload_n 0) 1 77 := ⟨by decide +kernel, rfl⟩
theorem eX8_init_77 : Dc MX8_init 77 (.iconst 5) 1 78 := ⟨by decide +kernel, rfl⟩
theorem eX8_init_78 : Dc MX8_init 78 (.newarray .int) 2 80 := ⟨by decide +kernel, rfl⟩
theorem eX8_init_80 : Dc MX8_init 80 (.putfield 38) 3 83 := ⟨by decide +kernel, rfl⟩
theorem eX8_init_83 : Dc MX8_init 83 (.aload_n 0) 1 84 := ⟨by decide +kernel, rfl⟩
theorem eX8_init_84 : Dc MX8_init 84 (.iconst 5) 1 85 := ⟨by decide +kernel, rfl⟩
theorem eX8_init_85 : Dc MX8_init 85 (.newarray .int) 2 87 := ⟨by decide +kernel, rfl⟩
theorem eX8_init_87 : Dc MX8_init 87 (.putfield 41) 3 90 := ⟨by decide +kernel, rfl⟩
theorem eX8_init_90 : Dc MX8_init 90 (.aload_n 0) 1 91 := ⟨by decide +kernel, rfl⟩
theorem eX8_init_91 : Dc MX8_init 91 (.iconst 5) 1 92 := ⟨by decide +kernel, rfl⟩
theorem eX8_init_92 : Dc MX8_init 92 (.newarray .int) 2 94 := ⟨by decide +kernel, rfl⟩
theorem eX8_init_94 : Dc MX8_init 94 (.putfield 44) 3 97 := ⟨by decide +kernel, rfl⟩
theorem eX8_init_97 : Dc MX8_init 97 (.aload_n 0) 1 98 := ⟨by decide +kernel, rfl⟩
theorem eX8_init_98 : Dc MX8_init 98 (.iconst 5) 1 99 := ⟨by decide +kernel, rfl⟩
theorem eX8_init_99 : Dc MX8_init 99 (.newarray .int) 2 101 := ⟨by decide +kernel, rfl⟩
theorem eX8_init_101 : Dc MX8_init 101 (.putfield 47) 3 104 := ⟨by decide +kernel, rfl⟩
theorem eX8_init_104 : Dc MX8_init 104 (.aload_n 0) 1 105 := ⟨by decide +kernel, rfl⟩
theorem eX8_init_105 : Dc MX8_init 105 (.iconst 5) 1 106 := ⟨by decide +kernel, rfl⟩
theorem eX8_init_106 : Dc MX8_init 106 (.newarray .int) 2 108 := ⟨by decide +kernel, rfl⟩
theorem eX8_init_108 : Dc MX8_init 108 (.putfield 50) 3 111 := ⟨by decide +kernel, rfl⟩
theorem eX8_init_111 : Dc MX8_init 111 (.aload_n 0) 1 112 := ⟨by decide +kernel, rfl⟩
theorem eX8_init_112 : Dc MX8_init 112 (.iconst 5) 1 113 := ⟨by decide +kernel, rfl⟩
theorem eX8_init_113 : Dc MX8_init 113 (.newarray .boolean) 2 115 := ⟨by decide +kernel, rfl⟩
theorem eX8_init_115 : Dc MX8_init 115 (.putfield 53) 3 118 := ⟨by decide +kernel, rfl⟩
theorem eX8_init_118 : Dc MX8_init 118 (.aload_n 0) 1 119 := ⟨by decide +kernel, rfl⟩
theorem eX8_init_119 : Dc MX8_init 119 (.bipush 8) 2 121 := ⟨by decide +kernel, rfl⟩
theorem eX8_init_121 : Dc MX8_init 121 (.newarray .int) 2 123 := ⟨by decide +kernel, rfl⟩
theorem eX8_init_123 : Dc MX8_init 123 (.putfield 56) 3 126 := ⟨by decide +kernel, rfl⟩
theorem eX8_init_126 : Dc MX8_init 126 (.aload_n 0) 1 127 := ⟨by decide +kernel, rfl⟩
theorem eX8_init_127 : Dc MX8_init 127 (.bipush 8) 2 129 := ⟨by decide +kernel, rfl⟩
theorem eX8_init_129 : Dc MX8_init 129 (.newarray .int) 2 131 := ⟨by decide +kernel, rfl⟩
theorem eX8_init_131 : Dc MX8_init 131 (.putfield 59) 3 134 := ⟨by decide +kernel, rfl⟩
theorem eX8_init_134 : Dc MX8_init 134 (.aload_n 0) 1 135 := ⟨by decide +kernel, rfl⟩
theorem eX8_init_135 : Dc MX8_init 135 (.iconst 5) 1 136 := ⟨by decide +kernel, rfl⟩
theorem eX8_init_136 : Dc MX8_init 136 (.newarray .int) 2 138 := ⟨by decide +kernel, rfl⟩
theorem eX8_init_138 : Dc MX8_init 138 (.putfield 62) 3 141 := ⟨by decide +kernel, rfl⟩
theorem eX8_init_141 : Dc MX8_init 141 (.aload_n 0) 1 142 := ⟨by decide +kernel, rfl⟩
theorem eX8_init_142 : Dc MX8_init 142 (.iconst 5) 1 143 := ⟨by decide +kernel, rfl⟩
theorem eX8_init_143 : Dc MX8_init 143 (.newarray .int) 2 145 := ⟨by decide +kernel, rfl⟩
theorem eX8_init_145 : Dc MX8_init 145 (.putfield 65) 3 148 := ⟨by decide +kernel, rfl⟩
theorem eX8_init_148 : Dc MX8_init 148 (.aload_n 0) 1 149 := ⟨by decide +kernel, rfl⟩
theorem eX8_init_149 : Dc MX8_init 149 (.sipush 480) 3 152 := ⟨by decide +kernel, rfl⟩
theorem eX8_init_152 : Dc MX8_init 152 (.newarray .int) 2 154 := ⟨by decide +kernel, rfl⟩
theorem eX8_init_154 : Dc MX8_init 154 (.putfield 68) 3 157 := ⟨by decide +kernel, rfl⟩
theorem eX8_init_157 : Dc MX8_init 157 (.aload_n 0) 1 158 := ⟨by decide +kernel, rfl⟩
theorem eX8_init_158 : Dc MX8_init 158 (.sipush 480) 3 161 := ⟨by decide +kernel, rfl⟩
theorem eX8_init_161 : Dc MX8_init 161 (.newarray .int) 2 163 := ⟨by decide +kernel, rfl⟩
theorem eX8_init_163 : Dc MX8_init 163 (.putfield 71) 3 166 := ⟨by decide +kernel, rfl⟩
theorem eX8_init_166 : Dc MX8_init 166 (.aload_n 0) 1 167 := ⟨by decide +kernel, rfl⟩
theorem eX8_init_167 : Dc MX8_init 167 (.bipush 60) 2 169 := ⟨by decide +kernel, rfl⟩
theorem eX8_init_169 : Dc MX8_init 169 (.newarray .int) 2 171 := ⟨by decide +kernel, rfl⟩
theorem eX8_init_171 : Dc MX8_init 171 (.putfield 74) 3 174 := ⟨by decide +kernel, rfl⟩
theorem eX8_init_174 : Dc MX8_init 174 (.aload_n 0) 1 175 := ⟨by decide +kernel, rfl⟩
theorem eX8_init_175 : Dc MX8_init 175 (.iconst 5) 1 176 := ⟨by decide +kernel, rfl⟩
theorem eX8_init_176 : Dc MX8_init 176 (.newarray .int) 2 178 := ⟨by decide +kernel, rfl⟩
theorem eX8_init_178 : Dc MX8_init 178 (.putfield 77) 3 181 := ⟨by decide +kernel, rfl⟩
theorem eX8_init_181 : Dc MX8_init 181 (.return_) 1 182 := ⟨by decide +kernel, rfl⟩
theorem eX8_thrown_0 : Dc MX8_thrown 0 (.aload_n 0) 1 1 := ⟨by decide +kernel, rfl⟩
theorem eX8_thrown_1 : Dc MX8_thrown 1 (.getfield 80) 3 4 := ⟨by decide +kernel, rfl⟩
theorem eX8_thrown_4 : Dc MX8_thrown 4 (.ireturn) 1 5 := ⟨by decide +kernel, rfl⟩
theorem eX8_in_0 : Dc MX8_in 0 (.lload_n 0) 1 1 := ⟨by decide +kernel, rfl⟩
theorem eX8_in_1 : Dc MX8_in 1 (.lload_n 2) 1 2 := ⟨by decide +kernel, rfl⟩
theorem eX8_in_2 : Dc MX8_in 2 (.lcmp) 1 3 := ⟨by decide +kernel, rfl⟩
theorem eX8_in_3 : Dc MX8_in 3 (.ifCond .lt 14) 3 6 := ⟨by decide +kernel, rfl⟩
theorem eX8_in_6 : Dc MX8_in 6 (.lload_n 0) 1 7 := ⟨by decide +kernel, rfl⟩
theorem eX8_in_7 : Dc MX8_in 7 (.lload 4) 2 9 := ⟨by decide +kernel, rfl⟩
theorem eX8_in_9 : Dc MX8_in 9 (.lcmp) 1 10 := ⟨by decide +kernel, rfl⟩
theorem eX8_in_10 : Dc MX8_in 10 (.ifCond .gt 7) 3 13 := ⟨by decide +kernel, rfl⟩
theorem eX8_in_13 : Dc MX8_in 13 (.iconst 1) 1 14 := ⟨by decide +kernel, rfl⟩
theorem eX8_in_14 : Dc MX8_in 14 (.goto 4) 3 17 := ⟨by decide +kernel, rfl⟩
theorem eX8_in_17 : Dc MX8_in 17 (.iconst 0) 1 18 := ⟨by decide +kernel, rfl⟩
theorem eX8_in_18 : Dc MX8_in 18 (.ireturn) 1 19 := ⟨by decide +kernel, rfl⟩
theorem eX8_refuse_0 : Dc MX8_refuse 0 (.aload_n 0) 1 1 := ⟨by decide +kernel, rfl⟩
theorem eX8_refuse_1 : Dc MX8_refuse 1 (.iconst 1) 1 2 := ⟨by decide +kernel, rfl⟩
theorem eX8_refuse_2 : Dc MX8_refuse 2 (.putfield 80) 3 5 := ⟨by decide +kernel, rfl⟩
theorem eX8_refuse_5 : Dc MX8_refuse 5 (.iconst 0) 1 6 := ⟨by decide +kernel, rfl⟩
theorem eX8_refuse_6 : Dc MX8_refuse 6 (.ireturn) 1 7 := ⟨by decide +kernel, rfl⟩
theorem eX8_isPupil_0 : Dc MX8_isPupil 0 (.iload_n 1) 1 1 := ⟨by decide +kernel, rfl⟩
theorem eX8_isPupil_1 : Dc MX8_isPupil 1 (.i2l) 1 2 := ⟨by decide +kernel, rfl⟩
theorem eX8_isPupil_2 : Dc MX8_isPupil 2 (.lconst 0) 1 3 := ⟨by decide +kernel, rfl⟩
theorem eX8_isPupil_3 : Dc MX8_isPupil 3 (.aload_n 0) 1 4 := ⟨by decide +kernel, rfl⟩
theorem eX8_isPupil_4 : Dc MX8_isPupil 4 (.getfield 84) 3 7 := ⟨by decide +kernel, rfl⟩
theorem eX8_isPupil_7 : Dc MX8_isPupil 7 (.iconst 1) 1 8 := ⟨by decide +kernel, rfl⟩
theorem eX8_isPupil_8 : Dc MX8_isPupil 8 (.isub) 1 9 := ⟨by decide +kernel, rfl⟩
theorem eX8_isPupil_9 : Dc MX8_isPupil 9 (.i2l) 1 10 := ⟨by decide +kernel, rfl⟩
theorem eX8_isPupil_10 : Dc MX8_isPupil 10 (.invokestatic 87) 3 13 := ⟨by decide +kernel, rfl⟩
theorem eX8_isPupil_13 : Dc MX8_isPupil 13 (.ireturn) 1 14 := ⟨by decide +kernel, rfl⟩
theorem eX8_isProject_0 : Dc MX8_isProject 0 (.iload_n 1) 1 1 := ⟨by decide +kernel, rfl⟩
theorem eX8_isProject_1 : Dc MX8_isProject 1 (.i2l) 1 2 := ⟨by decide +kernel, rfl⟩
theorem eX8_isProject_2 : Dc MX8_isProject 2 (.lconst 0) 1 3 := ⟨by decide +kernel, rfl⟩
theorem eX8_isProject_3 : Dc MX8_isProject 3 (.aload_n 0) 1 4 := ⟨by decide +kernel, rfl⟩
theorem eX8_isProject_4 : Dc MX8_isProject 4 (.getfield 91) 3 7 := ⟨by decide +kernel, rfl⟩
theorem eX8_isProject_7 : Dc MX8_isProject 7 (.iconst 1) 1 8 := ⟨by decide +kernel, rfl⟩
theorem eX8_isProject_8 : Dc MX8_isProject 8 (.isub) 1 9 := ⟨by decide +kernel, rfl⟩
theorem eX8_isProject_9 : Dc MX8_isProject 9 (.i2l) 1 10 := ⟨by decide +kernel, rfl⟩
theorem eX8_isProject_10 : Dc MX8_isProject 10 (.invokestatic 87) 3 13 := ⟨by decide +kernel, rfl⟩
theorem eX8_isProject_13 : Dc MX8_isProject 13 (.ireturn) 1 14 := ⟨by decide +kernel, rfl⟩
theorem eX8_pupil_0 : Dc MX8_pupil 0 (.aload_n 0) 1 1 := ⟨by decide +kernel, rfl⟩
theorem eX8_pupil_1 : Dc MX8_pupil 1 (.iconst 0) 1 2 := ⟨by decide +kernel, rfl⟩
theorem eX8_pupil_2 : Dc MX8_pupil 2 (.putfield 80) 3 5 := ⟨by decide +kernel, rfl⟩
theorem eX8_pupil_5 : Dc MX8_pupil 5 (.iload_n 1) 1 6 := ⟨by decide +kernel, rfl⟩
theorem eX8_pupil_6 : Dc MX8_pupil 6 (.i2l) 1 7 := ⟨by decide +kernel, rfl⟩
theorem eX8_pupil_7 : Dc MX8_pupil 7 (.lconst 0) 1 8 := ⟨by decide +kernel, rfl⟩
theorem eX8_pupil_8 : Dc MX8_pupil 8 (.ldc2_w 94) 3 11 := ⟨by decide +kernel, rfl⟩
theorem eX8_pupil_11 : Dc MX8_pupil 11 (.invokestatic 87) 3 14 := ⟨by decide +kernel, rfl⟩
theorem eX8_pupil_14 : Dc MX8_pupil 14 (.ifCond .eq 12) 3 17 := ⟨by decide +kernel, rfl⟩
theorem eX8_pupil_17 : Dc MX8_pupil 17 (.aload_n 0) 1 18 := ⟨by decide +kernel, rfl⟩
theorem eX8_pupil_18 : Dc MX8_pupil 18 (.getfield 84) 3 21 := ⟨by decide +kernel, rfl⟩
theorem eX8_pupil_21 : Dc MX8_pupil 21 (.bipush 8) 2 23 := ⟨by decide +kernel, rfl⟩
theorem eX8_pupil_23 : Dc MX8_pupil 23 (.if_icmp .ne 5) 3 26 := ⟨by decide +kernel, rfl⟩
theorem eX8_pupil_26 : Dc MX8_pupil 26 (.iconst (-1)) 1 27 := ⟨by decide +kernel, rfl⟩
theorem eX8_pupil_27 : Dc MX8_pupil 27 (.ireturn) 1 28 := ⟨by decide +kernel, rfl⟩
theorem eX8_pupil_28 : Dc MX8_pupil 28 (.aload_n 0) 1 29 := ⟨by decide +kernel, rfl⟩
theorem eX8_pupil_29 : Dc MX8_pupil 29 (.getfield 84) 3 32 := ⟨by decide +kernel, rfl⟩
theorem eX8_pupil_32 : Dc MX8_pupil 32 (.istore_n 2) 1 33 := ⟨by decide +kernel, rfl⟩
theorem eX8_pupil_33 : Dc MX8_pupil 33 (.aload_n 0) 1 34 := ⟨by decide +kernel, rfl⟩
theorem eX8_pupil_34 : Dc MX8_pupil 34 (.dup) 1 35 := ⟨by decide +kernel, rfl⟩
theorem eX8_pupil_35 : Dc MX8_pupil 35 (.getfield 84) 3 38 := ⟨by decide +kernel, rfl⟩
theorem eX8_pupil_38 : Dc MX8_pupil 38 (.iconst 1) 1 39 := ⟨by decide +kernel, rfl⟩
theorem eX8_pupil_39 : Dc MX8_pupil 39 (.iadd) 1 40 := ⟨by decide +kernel, rfl⟩
theorem eX8_pupil_40 : Dc MX8_pupil 40 (.putfield 84) 3 43 := ⟨by decide +kernel, rfl⟩
theorem eX8_pupil_43 : Dc MX8_pupil 43 (.aload_n 0) 1 44 := ⟨by decide +kernel, rfl⟩
theorem eX8_pupil_44 : Dc MX8_pupil 44 (.getfield 9) 3 47 := ⟨by decide +kernel, rfl⟩
theorem eX8_pupil_47 : Dc MX8_pupil 47 (.iload_n 2) 1 48 := ⟨by decide +kernel, rfl⟩
theorem eX8_pupil_48 : Dc MX8_pupil 48 (.iload_n 1) 1 49 := ⟨by decide +kernel, rfl⟩
theorem eX8_pupil_49 : Dc MX8_pupil 49 (.iastore) 1 50 := ⟨by decide +kernel, rfl⟩
theorem eX8_pupil_50 : Dc MX8_pupil 50 (.aload_n 0) 1 51 := ⟨by decide +kernel, rfl⟩
theorem eX8_pupil_51 : Dc MX8_pupil 51 (.getfield 13) 3 54 := ⟨by decide +kernel, rfl⟩
theorem eX8_pupil_54 : Dc MX8_pupil 54 (.iload_n 2) 1 55 := ⟨by decide +kernel, rfl⟩
theorem eX8_pupil_55 : Dc MX8_pupil 55 (.iconst 1) 1 56 := ⟨by decide +kernel, rfl⟩
theorem eX8_pupil_56 : Dc MX8_pupil 56 (.bastore) 1 57 := ⟨by decide +kernel, rfl⟩
theorem eX8_pupil_57 : Dc MX8_pupil 57 (.aload_n 0) 1 58 := ⟨by decide +kernel, rfl⟩
theorem eX8_pupil_58 : Dc MX8_pupil 58 (.getfield 17) 3 61 := ⟨by decide +kernel, rfl⟩
theorem eX8_pupil_61 : Dc MX8_pupil 61 (.iload_n 2) 1 62 := ⟨by decide +kernel, rfl⟩
theorem eX8_pupil_62 : Dc MX8_pupil 62 (.iconst 0) 1 63 := ⟨by decide +kernel, rfl⟩
theorem eX8_pupil_63 : Dc MX8_pupil 63 (.iastore) 1 64 := ⟨by decide +kernel, rfl⟩
theorem eX8_pupil_64 : Dc MX8_pupil 64 (.aload_n 0) 1 65 := ⟨by decide +kernel, rfl⟩
theorem eX8_pupil_65 : Dc MX8_pupil 65 (.getfield 23) 3 68 := ⟨by decide +kernel, rfl⟩
theorem eX8_pupil_68 : Dc MX8_pupil 68 (.iload_n 2) 1 69 := ⟨by decide +kernel, rfl⟩
theorem eX8_pupil_69 : Dc MX8_pupil 69 (.iconst 0) 1 70 := ⟨by decide +kernel, rfl⟩
theorem eX8_pupil_70 : Dc MX8_pupil 70 (.iastore) 1 71 := ⟨by decide +kernel, rfl⟩
theorem eX8_pupil_71 : Dc MX8_pupil 71 (.aload_n 0) 1 72 := ⟨by decide +kernel, rfl⟩
theorem eX8_pupil_72 : Dc MX8_pupil 72 (.getfield 26) 3 75 := ⟨by decide +kernel, rfl⟩
theorem eX8_pupil_75 : Dc MX8_pupil 75 (.iload_n 2) 1 76 := ⟨by decide +kernel, rfl⟩
theorem eX8_pupil_76 : Dc MX8_pupil 76 (.iconst (-1)) 1 77 := ⟨by decide +kernel, rfl⟩
theorem eX8_pupil_77 : Dc MX8_pupil 77 (.iastore) 1 78 := ⟨by decide +kernel, rfl⟩
theorem eX8_pupil_78 : Dc MX8_pupil 78 (.aload_n 0) 1 79 := ⟨by decide +kernel, rfl⟩
theorem eX8_pupil_79 : Dc MX8_pupil 79 (.getfield 35) 3 82 := ⟨by decide +kernel, rfl⟩
theorem eX8_pupil_82 : Dc MX8_pupil 82 (.iload_n 2) 1 83 := ⟨by decide +kernel, rfl⟩
theorem eX8_pupil_83 : Dc MX8_pupil 83 (.iload_n 2) 1 84 := ⟨by decide +kernel, rfl⟩
theorem eX8_pupil_84 : Dc MX8_pupil 84 (.iastore) 1 85 := ⟨by decide +kernel, rfl⟩
theorem eX8_pupil_85 : Dc MX8_pupil 85 (.iload_n 2) 1 86 := ⟨by decide +kernel, rfl⟩
theorem eX8_pupil_86 : Dc MX8_pupil 86 (.ireturn) 1 87 := ⟨by decide +kernel, rfl⟩
theorem eX8_project_0 : Dc MX8_project 0 (.aload_n 0) 1 1 := ⟨by decide +kernel, rfl⟩
theorem eX8_project_1 : Dc MX8_project 1 (.iconst 0) 1 2 := ⟨by decide +kernel, rfl⟩
theorem eX8_project_2 : Dc MX8_project 2 (.putfield 80) 3 5 := ⟨by decide +kernel, rfl⟩
theorem eX8_project_5 : Dc MX8_project 5 (.iload_n 1) 1 6 := ⟨by decide +kernel, rfl⟩
theorem eX8_project_6 : Dc MX8_project 6 (.i2l) 1 7 := ⟨by decide +kernel, rfl⟩
theorem eX8_project_7 : Dc MX8_project 7 (.lconst 0) 1 8 := ⟨by decide +kernel, rfl⟩
theorem eX8_project_8 : Dc MX8_project 8 (.ldc2_w 96) 3 11 := ⟨by decide +kernel, rfl⟩
theorem eX8_project_11 : Dc MX8_project 11 (.invokestatic 87) 3 14 := ⟨by decide +kernel, rfl⟩
theorem eX8_project_14 : Dc MX8_project 14 (.ifCond .eq 67) 3 17 := ⟨by decide +kernel, rfl⟩
theorem eX8_project_17 : Dc MX8_project 17 (.iload_n 2) 1 18 := ⟨by decide +kernel, rfl⟩
theorem eX8_project_18 : Dc MX8_project 18 (.i2l) 1 19 := ⟨by decide +kernel, rfl⟩
theorem eX8_project_19 : Dc MX8_project 19 (.lconst 1) 1 20 := ⟨by decide +kernel, rfl⟩
theorem eX8_project_20 : Dc MX8_project 20 (.ldc2_w 98) 3 23 := ⟨by decide +kernel, rfl⟩
theorem eX8_project_23 : Dc MX8_project 23 (.invokestatic 87) 3 26 := ⟨by decide +kernel, rfl⟩
theorem eX8_project_26 : Dc MX8_project 26 (.ifCond .eq 55) 3 29 := ⟨by decide +kernel, rfl⟩
theorem eX8_project_29 : Dc MX8_project 29 (.iload_n 3) 1 30 := ⟨by decide +kernel, rfl⟩
theorem eX8_project_30 : Dc MX8_project 30 (.i2l) 1 31 := ⟨by decide +kernel, rfl⟩
theorem eX8_project_31 : Dc MX8_project 31 (.iload_n 2) 1 32 := ⟨by decide +kernel, rfl⟩
theorem eX8_project_32 : Dc MX8_project 32 (.i2l) 1 33 := ⟨by decide +kernel, rfl⟩
theorem eX8_project_33 : Dc MX8_project 33 (.ldc2_w 98) 3 36 := ⟨by decide +kernel, rfl⟩
theorem eX8_project_36 : Dc MX8_project 36 (.invokestatic 87) 3 39 := ⟨by decide +kernel, rfl⟩
theorem eX8_project_39 : Dc MX8_project 39 (.ifCond .eq 42) 3 42 := ⟨by decide +kernel, rfl⟩
theorem eX8_project_42 : Dc MX8_project 42 (.iload 4) 2 44 := ⟨by decide +kernel, rfl⟩
theorem eX8_project_44 : Dc MX8_project 44 (.i2l) 1 45 := ⟨by decide +kernel, rfl⟩
theorem eX8_project_45 : Dc MX8_project 45 (.lconst 0) 1 46 := ⟨by decide +kernel, rfl⟩
theorem eX8_project_46 : Dc MX8_project 46 (.ldc2_w 94) 3 49 := ⟨by decide +kernel, rfl⟩
theorem eX8_project_49 : Dc MX8_project 49 (.invokestatic 87) 3 52 := ⟨by decide +kernel, rfl⟩
theorem eX8_project_52 : Dc MX8_project 52 (.ifCond .eq 29) 3 55 := ⟨by decide +kernel, rfl⟩
theorem eX8_project_55 : Dc MX8_project 55 (.iload_n 1) 1 56 := ⟨by decide +kernel, rfl⟩
theorem eX8_project_56 : Dc MX8_project 56 (.iconst 3) 1 57 := ⟨by decide +kernel, rfl⟩
theorem eX8_project_57 : Dc MX8_project 57 (.if_icmp .ne 12) 3 60 := ⟨by decide +kernel, rfl⟩
theorem eX8_project_60 : Dc MX8_project 60 (.aload_n 0) 1 61 := ⟨by decide +kernel, rfl⟩
theorem eX8_project_61 : Dc MX8_project 61 (.iload 5) 2 63 := ⟨by decide +kernel, rfl⟩
theorem eX8_project_63 : Dc MX8_project 63 (.invokevirtual 100) 3 66 := ⟨by decide +kernel, rfl⟩
theorem eX8_project_66 : Dc MX8_project 66 (.ifCond .eq 15) 3 69 := ⟨by decide +kernel, rfl⟩
theorem eX8_project_69 : Dc MX8_project 69 (.aload_n 0) 1 70 := ⟨by decide +kernel, rfl⟩
theorem eX8_project_70 : Dc MX8_project 70 (.getfield 91) 3 73 := ⟨by decide +kernel, rfl⟩
theorem eX8_project_73 : Dc MX8_project 73 (.iconst 5) 1 74 := ⟨by decide +kernel, rfl⟩
theorem eX8_project_74 : Dc MX8_project 74 (.if_icmp .ge 7) 3 77 := ⟨by decide +kernel, rfl⟩
theorem eX8_project_77 : Dc MX8_project 77 (.iconst 1) 1 78 := ⟨by decide +kernel, rfl⟩
theorem eX8_project_78 : Dc MX8_project 78 (.goto 4) 3 81 := ⟨by decide +kernel, rfl⟩
theorem eX8_project_81 : Dc MX8_project 81 (.iconst 0) 1 82 := ⟨by decide +kernel, rfl⟩
theorem eX8_project_82 : Dc MX8_project 82 (.istore 6) 2 84 := ⟨by decide +kernel, rfl⟩
theorem eX8_project_84 : Dc MX8_project 84 (.iload 6) 2 86 := ⟨by decide +kernel, rfl⟩
theorem eX8_project_86 : Dc MX8_project 86 (.ifCond .ne 5) 3 89 := ⟨by decide +kernel, rfl⟩
theorem eX8_project_89 : Dc MX8_project 89 (.iconst (-1)) 1 90 := ⟨by decide +kernel, rfl⟩
theorem eX8_project_90 : Dc MX8_project 90 (.ireturn) 1 91 := ⟨by decide +kernel, rfl⟩
theorem eX8_project_91 : Dc MX8_project 91 (.aload_n 0) 1 92 := ⟨by decide +kernel, rfl⟩
theorem eX8_project_92 : Dc MX8_project 92 (.getfield 91) 3 95 := ⟨by decide +kernel, rfl⟩
theorem eX8_project_95 : Dc MX8_project 95 (.istore 7) 2 97 := ⟨by decide +kernel, rfl⟩
theorem eX8_project_97 : Dc MX8_project 97 (.aload_n 0) 1 98 := ⟨by decide +kernel, rfl⟩
theorem eX8_project_98 : Dc MX8_project 98 (.dup) 1 99 := ⟨by decide +kernel, rfl⟩
theorem eX8_project_99 : Dc MX8_project 99 (.getfield 91) 3 102 := ⟨by decide +kernel, rfl⟩
theorem eX8_project_102 : Dc MX8_project 102 (.iconst 1) 1 103 := ⟨by decide +kernel, rfl⟩
theorem eX8_project_103 : Dc MX8_project 103 (.iadd) 1 104 := ⟨by decide +kernel, rfl⟩
theorem eX8_project_104 : Dc MX8_project 104 (.putfield 91) 3 107 := ⟨by decide +kernel, rfl⟩
theorem eX8_project_107 : Dc MX8_project 107 (.aload_n 0) 1 108 := ⟨by decide +kernel, rfl⟩
theorem eX8_project_108 : Dc MX8_project 108 (.getfield 38) 3 111 := ⟨by decide +kernel, rfl⟩
theorem eX8_project_111 : Dc MX8_project 111 (.iload 7) 2 113 := ⟨by decide +kernel, rfl⟩
theorem eX8_project_113 : Dc MX8_project 113 (.iload_n 1) 1 114 := ⟨by decide +kernel, rfl⟩
theorem eX8_project_114 : Dc MX8_project 114 (.iastore) 1 115 := ⟨by decide +kernel, rfl⟩
theorem eX8_project_115 : Dc MX8_project 115 (.aload_n 0) 1 116 := ⟨by decide +kernel, rfl⟩
theorem eX8_project_116 : Dc MX8_project 116 (.getfield 41) 3 119 := ⟨by decide +kernel, rfl⟩
theorem eX8_project_119 : Dc MX8_project 119 (.iload 7) 2 121 := ⟨by decide +kernel, rfl⟩
theorem eX8_project_121 : Dc MX8_project 121 (.iload_n 2) 1 122 := ⟨by decide +kernel, rfl⟩
theorem eX8_project_122 : Dc MX8_project 122 (.iastore) 1 123 := ⟨by decide +kernel, rfl⟩
theorem eX8_project_123 : Dc MX8_project 123 (.aload_n 0) 1 124 := ⟨by decide +kernel, rfl⟩
theorem eX8_project_124 : Dc MX8_project 124 (.getfield 44) 3 127 := ⟨by decide +kernel, rfl⟩
theorem eX8_project_127 : Dc MX8_project 127 (.iload 7) 2 129 := ⟨by decide +kernel, rfl⟩
theorem eX8_project_129 : Dc MX8_project 129 (.iload_n 3) 1 130 := ⟨by decide +kernel, rfl⟩
theorem eX8_project_130 : Dc MX8_project 130 (.iastore) 1 131 := ⟨by decide +kernel, rfl⟩
theorem eX8_project_131 : Dc MX8_project 131 (.aload_n 0) 1 132 := ⟨by decide +kernel, rfl⟩
theorem eX8_project_132 : Dc MX8_project 132 (.getfield 47) 3 135 := ⟨by decide +kernel, rfl⟩
theorem eX8_project_135 : Dc MX8_project 135 (.iload 7) 2 137 := ⟨by decide +kernel, rfl⟩
theorem eX8_project_137 : Dc MX8_project 137 (.iload 4) 2 139 := ⟨by decide +kernel, rfl⟩
theorem eX8_project_139 : Dc MX8_project 139 (.iastore) 1 140 := ⟨by decide +kernel, rfl⟩
theorem eX8_project_140 : Dc MX8_project 140 (.aload_n 0) 1 141 := ⟨by decide +kernel, rfl⟩
theorem eX8_project_141 : Dc MX8_project 141 (.getfield 50) 3 144 := ⟨by decide +kernel, rfl⟩
theorem eX8_project_144 : Dc MX8_project 144 (.iload 7) 2 146 := ⟨by decide +kernel, rfl⟩
theorem eX8_project_146 : Dc MX8_project 146 (.iload 5) 2 148 := ⟨by decide +kernel, rfl⟩
theorem eX8_project_148 : Dc MX8_project 148 (.iastore) 1 149 := ⟨by decide +kernel, rfl⟩
theorem eX8_project_149 : Dc MX8_project 149 (.aload_n 0) 1 150 := ⟨by decide +kernel, rfl⟩
theorem eX8_project_150 : Dc MX8_project 150 (.getfield 53) 3 153 := ⟨by decide +kernel, rfl⟩
theorem eX8_project_153 : Dc MX8_project 153 (.iload 7) 2 155 := ⟨by decide +kernel, rfl⟩
theorem eX8_project_155 : Dc MX8_project 155 (.iconst 1) 1 156 := ⟨by decide +kernel, rfl⟩
theorem eX8_project_156 : Dc MX8_project 156 (.bastore) 1 157 := ⟨by decide +kernel, rfl⟩
theorem eX8_project_157 : Dc MX8_project 157 (.iload 7) 2 159 := ⟨by decide +kernel, rfl⟩
theorem eX8_project_159 : Dc MX8_project 159 (.ireturn) 1 160 := ⟨by decide +kernel, rfl⟩
theorem eX8_hasWish_0 : Dc MX8_hasWish 0 (.iconst 0) 1 1 := ⟨by decide +kernel, rfl⟩
theorem eX8_hasWish_1 : Dc MX8_hasWish 1 (.istore_n 3) 1 2 := ⟨by decide +kernel, rfl⟩
theorem eX8_hasWish_2 : Dc MX8_hasWish 2 (.iconst 0) 1 3 := ⟨by decide +kernel, rfl⟩
theorem eX8_hasWish_3 : Dc MX8_hasWish 3 (.istore 4) 2 5 := ⟨by decide +kernel, rfl⟩
theorem eX8_hasWish_5 : Dc MX8_hasWish 5 (.iload 4) 2 7 := ⟨by decide +kernel, rfl⟩
theorem eX8_hasWish_7 : Dc MX8_hasWish 7 (.aload_n 0) 1 8 := ⟨by decide +kernel, rfl⟩
theorem eX8_hasWish_8 : Dc MX8_hasWish 8 (.getfield 17) 3 11 := ⟨by decide +kernel, rfl⟩
theorem eX8_hasWish_11 : Dc MX8_hasWish 11 (.iload_n 1) 1 12 := ⟨by decide +kernel, rfl⟩
theorem eX8_hasWish_12 : Dc MX8_hasWish 12 (.iaload) 1 13 := ⟨by decide +kernel, rfl⟩
theorem eX8_hasWish_13 : Dc MX8_hasWish 13 (.if_icmp .ge 34) 3 16 := ⟨by decide +kernel, rfl⟩
theorem eX8_hasWish_16 : Dc MX8_hasWish 16 (.iload_n 3) 1 17 := ⟨by decide +kernel, rfl⟩
theorem eX8_hasWish_17 : Dc MX8_hasWish 17 (.ifCond .ne 18) 3 20 := ⟨by decide +kernel, rfl⟩
theorem eX8_hasWish_20 : Dc MX8_hasWish 20 (.aload_n 0) 1 21 := ⟨by decide +kernel, rfl⟩
theorem eX8_hasWish_21 : Dc MX8_hasWish 21 (.getfield 20) 3 24 := ⟨by decide +kernel, rfl⟩
theorem eX8_hasWish_24 : Dc MX8_hasWish 24 (.iconst 5) 1 25 := ⟨by decide +kernel, rfl⟩
theorem eX8_hasWish_25 : Dc MX8_hasWish 25 (.iload_n 1) 1 26 := ⟨by decide +kernel, rfl⟩
theorem eX8_hasWish_26 : Dc MX8_hasWish 26 (.imul) 1 27 := ⟨by decide +kernel, rfl⟩
theorem eX8_hasWish_27 : Dc MX8_hasWish 27 (.iload 4) 2 29 := ⟨by decide +kernel, rfl⟩
theorem eX8_hasWish_29 : Dc MX8_hasWish 29 (.iadd) 1 30 := ⟨by decide +kernel, rfl⟩
theorem eX8_hasWish_30 : Dc MX8_hasWish 30 (.iaload) 1 31 := ⟨by decide +kernel, rfl⟩
theorem eX8_hasWish_31 : Dc MX8_hasWish 31 (.iload_n 2) 1 32 := ⟨by decide +kernel, rfl⟩
theorem eX8_hasWish_32 : Dc MX8_hasWish 32 (.if_icmp .ne 7) 3 35 := ⟨by decide +kernel, rfl⟩
theorem eX8_hasWish_35 : Dc MX8_hasWish 35 (.iconst 1) 1 36 := ⟨by decide +kernel, rfl⟩
theorem eX8_hasWish_36 : Dc MX8_hasWish 36 (.goto 4) 3 39 := ⟨by decide +kernel, rfl⟩
theorem eX8_hasWish_39 : Dc MX8_hasWish 39 (.iconst 0) 1 40 := ⟨by decide +kernel, rfl⟩
theorem eX8_hasWish_40 : Dc MX8_hasWish 40 (.istore_n 3) 1 41 := ⟨by decide +kernel, rfl⟩
theorem eX8_hasWish_41 : Dc MX8_hasWish 41 (.iinc 4 1) 3 44 := ⟨by decide +kernel, rfl⟩
theorem eX8_hasWish_44 : Dc MX8_hasWish 44 (.goto (-39)) 3 47 := ⟨by decide +kernel, rfl⟩
theorem eX8_hasWish_47 : Dc MX8_hasWish 47 (.iload_n 3) 1 48 := ⟨by decide +kernel, rfl⟩
theorem eX8_hasWish_48 : Dc MX8_hasWish 48 (.ireturn) 1 49 := ⟨by decide +kernel, rfl⟩
theorem eX8_add_0 : Dc MX8_add 0 (.aload_n 0) 1 1 := ⟨by decide +kernel, rfl⟩
theorem eX8_add_1 : Dc MX8_add 1 (.getfield 20) 3 4 := ⟨by decide +kernel, rfl⟩
theorem eX8_add_4 : Dc MX8_add 4 (.iconst 5) 1 5 := ⟨by decide +kernel, rfl⟩
theorem eX8_add_5 : Dc MX8_add 5 (.iload_n 1) 1 6 := ⟨by decide +kernel, rfl⟩
theorem eX8_add_6 : Dc MX8_add 6 (.imul) 1 7 := ⟨by decide +kernel, rfl⟩
theorem eX8_add_7 : Dc MX8_add 7 (.aload_n 0) 1 8 := ⟨by decide +kernel, rfl⟩
theorem eX8_add_8 : Dc MX8_add 8 (.getfield 17) 3 11 := ⟨by decide +kernel, rfl⟩
theorem eX8_add_11 : Dc MX8_add 11 (.iload_n 1) 1 12 := ⟨by decide +kernel, rfl⟩
theorem eX8_add_12 : Dc MX8_add 12 (.iaload) 1 13 := ⟨by decide +kernel, rfl⟩
theorem eX8_add_13 : Dc MX8_add 13 (.iadd) 1 14 := ⟨by decide +kernel, rfl⟩
theorem eX8_add_14 : Dc MX8_add 14 (.iload_n 2) 1 15 := ⟨by decide +kernel, rfl⟩
theorem eX8_add_15 : Dc MX8_add 15 (.iastore) 1 16 := ⟨by decide +kernel, rfl⟩
theorem eX8_add_16 : Dc MX8_add 16 (.aload_n 0) 1 17 := ⟨by decide +kernel, rfl⟩
theorem eX8_add_17 : Dc MX8_add 17 (.getfield 17) 3 20 := ⟨by decide +kernel, rfl⟩
theorem eX8_add_20 : Dc MX8_add 20 (.iload_n 1) 1 21 := ⟨by decide +kernel, rfl⟩
theorem eX8_add_21 : Dc MX8_add 21 (.dup2) 1 22 := ⟨by decide +kernel, rfl⟩
theorem eX8_add_22 : Dc MX8_add 22 (.iaload) 1 23 := ⟨by decide +kernel, rfl⟩
theorem eX8_add_23 : Dc MX8_add 23 (.iconst 1) 1 24 := ⟨by decide +kernel, rfl⟩
theorem eX8_add_24 : Dc MX8_add 24 (.iadd) 1 25 := ⟨by decide +kernel, rfl⟩
theorem eX8_add_25 : Dc MX8_add 25 (.iastore) 1 26 := ⟨by decide +kernel, rfl⟩
theorem eX8_add_26 : Dc MX8_add 26 (.return_) 1 27 := ⟨by decide +kernel, rfl⟩
theorem eX8_wish_0 : Dc MX8_wish 0 (.aload_n 0) 1 1 := ⟨by decide +kernel, rfl⟩
theorem eX8_wish_1 : Dc MX8_wish 1 (.iconst 0) 1 2 := ⟨by decide +kernel, rfl⟩
theorem eX8_wish_2 : Dc MX8_wish 2 (.putfield 80) 3 5 := ⟨by decide +kernel, rfl⟩
theorem eX8_wish_5 : Dc MX8_wish 5 (.aload_n 0) 1 6 := ⟨by decide +kernel, rfl⟩
theorem eX8_wish_6 : Dc MX8_wish 6 (.iload_n 1) 1 7 := ⟨by decide +kernel, rfl⟩
theorem eX8_wish_7 : Dc MX8_wish 7 (.invokevirtual 100) 3 10 := ⟨by decide +kernel, rfl⟩
theorem eX8_wish_10 : Dc MX8_wish 10 (.ifCond .eq 20) 3 13 := ⟨by decide +kernel, rfl⟩
theorem eX8_wish_13 : Dc MX8_wish 13 (.aload_n 0) 1 14 := ⟨by decide +kernel, rfl⟩
theorem eX8_wish_14 : Dc MX8_wish 14 (.iload_n 2) 1 15 := ⟨by decide +kernel, rfl⟩
theorem eX8_wish_15 : Dc MX8_wish 15 (.invokevirtual 104) 3 18 := ⟨by decide +kernel, rfl⟩
theorem eX8_wish_18 : Dc MX8_wish 18 (.ifCond .eq 12) 3 21 := ⟨by decide +kernel, rfl⟩
theorem eX8_wish_21 : Dc MX8_wish 21 (.aload_n 0) 1 22 := ⟨by decide +kernel, rfl⟩
theorem eX8_wish_22 : Dc MX8_wish 22 (.iload_n 1) 1 23 := ⟨by decide +kernel, rfl⟩
theorem eX8_wish_23 : Dc MX8_wish 23 (.iload_n 2) 1 24 := ⟨by decide +kernel, rfl⟩
theorem eX8_wish_24 : Dc MX8_wish 24 (.invokevirtual 107) 3 27 := ⟨by decide +kernel, rfl⟩
theorem eX8_wish_27 : Dc MX8_wish 27 (.ifCond .eq 5) 3 30 := ⟨by decide +kernel, rfl⟩
theorem eX8_wish_30 : Dc MX8_wish 30 (.iconst (-1)) 1 31 := ⟨by decide +kernel, rfl⟩
theorem eX8_wish_31 : Dc MX8_wish 31 (.ireturn) 1 32 := ⟨by decide +kernel, rfl⟩
theorem eX8_wish_32 : Dc MX8_wish 32 (.aload_n 0) 1 33 := ⟨by decide +kernel, rfl⟩
theorem eX8_wish_33 : Dc MX8_wish 33 (.iload_n 1) 1 34 := ⟨by decide +kernel, rfl⟩
theorem eX8_wish_34 : Dc MX8_wish 34 (.iload_n 2) 1 35 := ⟨by decide +kernel, rfl⟩
theorem eX8_wish_35 : Dc MX8_wish 35 (.invokevirtual 111) 3 38 := ⟨by decide +kernel, rfl⟩
theorem eX8_wish_38 : Dc MX8_wish 38 (.aload_n 0) 1 39 := ⟨by decide +kernel, rfl⟩
theorem eX8_wish_39 : Dc MX8_wish 39 (.getfield 17) 3 42 := ⟨by decide +kernel, rfl⟩
theorem eX8_wish_42 : Dc MX8_wish 42 (.iload_n 1) 1 43 := ⟨by decide +kernel, rfl⟩
theorem eX8_wish_43 : Dc MX8_wish 43 (.iaload) 1 44 := ⟨by decide +kernel, rfl⟩
theorem eX8_wish_44 : Dc MX8_wish 44 (.ireturn) 1 45 := ⟨by decide +kernel, rfl⟩
theorem eX8_wishes_0 : Dc MX8_wishes 0 (.aload_n 0) 1 1 := ⟨by decide +kernel, rfl⟩
theorem eX8_wishes_1 : Dc MX8_wishes 1 (.iconst 0) 1 2 := ⟨by decide +kernel, rfl⟩
theorem eX8_wishes_2 : Dc MX8_wishes 2 (.putfield 80) 3 5 := ⟨by decide +kernel, rfl⟩
theorem eX8_wishes_5 : Dc MX8_wishes 5 (.aload_n 0) 1 6 := ⟨by decide +kernel, rfl⟩
theorem eX8_wishes_6 : Dc MX8_wishes 6 (.iload_n 1) 1 7 := ⟨by decide +kernel, rfl⟩
theorem eX8_wishes_7 : Dc MX8_wishes 7 (.invokevirtual 100) 3 10 := ⟨by decide +kernel, rfl⟩
theorem eX8_wishes_10 : Dc MX8_wishes 10 (.ifCond .eq 21) 3 13 := ⟨by decide +kernel, rfl⟩
theorem eX8_wishes_13 : Dc MX8_wishes 13 (.iload_n 2) 1 14 := ⟨by decide +kernel, rfl⟩
theorem eX8_wishes_14 : Dc MX8_wishes 14 (.i2l) 1 15 := ⟨by decide +kernel, rfl⟩
theorem eX8_wishes_15 : Dc MX8_wishes 15 (.lconst 0) 1 16 := ⟨by decide +kernel, rfl⟩
theorem eX8_wishes_16 : Dc MX8_wishes 16 (.ldc2_w 115) 3 19 := ⟨by decide +kernel, rfl⟩
theorem eX8_wishes_19 : Dc MX8_wishes 19 (.invokestatic 87) 3 22 := ⟨by decide +kernel, rfl⟩
theorem eX8_wishes_22 : Dc MX8_wishes 22 (.ifCond .eq 9) 3 25 := ⟨by decide +kernel, rfl⟩
theorem eX8_wishes_25 : Dc MX8_wishes 25 (.iload_n 3) 1 26 := ⟨by decide +kernel, rfl⟩
theorem eX8_wishes_26 : Dc MX8_wishes 26 (.bipush 20) 2 28 := ⟨by decide +kernel, rfl⟩
theorem eX8_wishes_28 : Dc MX8_wishes 28 (.if_icmp .le 5) 3 31 := ⟨by decide +kernel, rfl⟩
theorem eX8_wishes_31 : Dc MX8_wishes 31 (.iconst (-1)) 1 32 := ⟨by decide +kernel, rfl⟩
theorem eX8_wishes_32 : Dc MX8_wishes 32 (.ireturn) 1 33 := ⟨by decide +kernel, rfl⟩
theorem eX8_wishes_33 : Dc MX8_wishes 33 (.iload_n 3) 1 34 := ⟨by decide +kernel, rfl⟩
theorem eX8_wishes_34 : Dc MX8_wishes 34 (.ifCond .ge 11) 3 37 := ⟨by decide +kernel, rfl⟩
theorem eX8_wishes_37 : Dc MX8_wishes 37 (.iload_n 2) 1 38 := ⟨by decide +kernel, rfl⟩
theorem eX8_wishes_38 : Dc MX8_wishes 38 (.iconst 2) 1 39 := ⟨by decide +kernel, rfl⟩
theorem eX8_wishes_39 : Dc MX8_wishes 39 (.if_icmp .eq 6) 3 42 := ⟨by decide +kernel, rfl⟩
theorem eX8_wishes_42 : Dc MX8_wishes 42 (.bipush (-2)) 2 44 := ⟨by decide +kernel, rfl⟩
theorem eX8_wishes_44 : Dc MX8_wishes 44 (.ireturn) 1 45 := ⟨by decide +kernel, rfl⟩
theorem eX8_wishes_45 : Dc MX8_wishes 45 (.aload_n 0) 1 46 := ⟨by decide +kernel, rfl⟩
theorem eX8_wishes_46 : Dc MX8_wishes 46 (.getfield 17) 3 49 := ⟨by decide +kernel, rfl⟩
theorem eX8_wishes_49 : Dc MX8_wishes 49 (.iload_n 1) 1 50 := ⟨by decide +kernel, rfl⟩
theorem eX8_wishes_50 : Dc MX8_wishes 50 (.iconst 0) 1 51 := ⟨by decide +kernel, rfl⟩
theorem eX8_wishes_51 : Dc MX8_wishes 51 (.iastore) 1 52 := ⟨by decide +kernel, rfl⟩
theorem eX8_wishes_52 : Dc MX8_wishes 52 (.iconst 0) 1 53 := ⟨by decide +kernel, rfl⟩
theorem eX8_wishes_53 : Dc MX8_wishes 53 (.istore 6) 2 55 := ⟨by decide +kernel, rfl⟩
theorem eX8_wishes_55 : Dc MX8_wishes 55 (.iload 6) 2 57 := ⟨by decide +kernel, rfl⟩
theorem eX8_wishes_57 : Dc MX8_wishes 57 (.iload_n 3) 1 58 := ⟨by decide +kernel, rfl⟩
theorem eX8_wishes_58 : Dc MX8_wishes 58 (.if_icmp .ge 71) 3 61 := ⟨by decide +kernel, rfl⟩
theorem eX8_wishes_61 : Dc MX8_wishes 61 (.iload_n 2) 1 62 := ⟨by decide +kernel, rfl⟩
theorem eX8_wishes_62 : Dc MX8_wishes 62 (.iconst 2) 1 63 := ⟨by decide +kernel, rfl⟩
theorem eX8_wishes_63 : Dc MX8_wishes 63 (.if_icmp .eq 66) 3 66 := ⟨by decide +kernel, rfl⟩
theorem eX8_wishes_66 : Dc MX8_wishes 66 (.iload 4) 2 68 := ⟨by decide +kernel, rfl⟩
theorem eX8_wishes_68 : Dc MX8_wishes 68 (.iload 6) 2 70 := ⟨by decide +kernel, rfl⟩
theorem eX8_wishes_70 : Dc MX8_wishes 70 (.iload 5) 2 72 := ⟨by decide +kernel, rfl⟩
theorem eX8_wishes_72 : Dc MX8_wishes 72 (.imul) 1 73 := ⟨by decide +kernel, rfl⟩
theorem eX8_wishes_73 : Dc MX8_wishes 73 (.iadd) 1 74 := ⟨by decide +kernel, rfl⟩
theorem eX8_wishes_74 : Dc MX8_wishes 74 (.istore 7) 2 76 := ⟨by decide +kernel, rfl⟩
theorem eX8_wishes_76 : Dc MX8_wishes 76 (.iload_n 2) 1 77 := ⟨by decide +kernel, rfl⟩
theorem eX8_wishes_77 : Dc MX8_wishes 77 (.ifCond .ne 9) 3 80 := ⟨by decide +kernel, rfl⟩
theorem eX8_wishes_80 : Dc MX8_wishes 80 (.iload 7) 2 82 := ⟨by decide +kernel, rfl⟩
theorem eX8_wishes_82 : Dc MX8_wishes 82 (.i2b) 1 83 := ⟨by decide +kernel, rfl⟩
theorem eX8_wishes_83 : Dc MX8_wishes 83 (.goto 5) 3 86 := ⟨by decide +kernel, rfl⟩
theorem eX8_wishes_86 : Dc MX8_wishes 86 (.iload 7) 2 88 := ⟨by decide +kernel, rfl⟩
theorem eX8_wishes_88 : Dc MX8_wishes 88 (.istore 7) 2 90 := ⟨by decide +kernel, rfl⟩
theorem eX8_wishes_90 : Dc MX8_wishes 90 (.aload_n 0) 1 91 := ⟨by decide +kernel, rfl⟩
theorem eX8_wishes_91 : Dc MX8_wishes 91 (.iload 7) 2 93 := ⟨by decide +kernel, rfl⟩
theorem eX8_wishes_93 : Dc MX8_wishes 93 (.invokevirtual 104) 3 96 := ⟨by decide +kernel, rfl⟩
theorem eX8_wishes_96 : Dc MX8_wishes 96 (.ifCond .eq 13) 3 99 := ⟨by decide +kernel, rfl⟩
theorem eX8_wishes_99 : Dc MX8_wishes 99 (.aload_n 0) 1 100 := ⟨by decide +kernel, rfl⟩
theorem eX8_wishes_100 : Dc MX8_wishes 100 (.iload_n 1) 1 101 := ⟨by decide +kernel, rfl⟩
theorem eX8_wishes_101 : Dc MX8_wishes 101 (.iload 7) 2 103 := ⟨by decide +kernel, rfl⟩
theorem eX8_wishes_103 : Dc MX8_wishes 103 (.invokevirtual 107) 3 106 := ⟨by decide +kernel, rfl⟩
theorem eX8_wishes_106 : Dc MX8_wishes 106 (.ifCond .eq 10) 3 109 := ⟨by decide +kernel, rfl⟩
theorem eX8_wishes_109 : Dc MX8_wishes 109 (.aload_n 0) 1 110 := ⟨by decide +kernel, rfl⟩
theorem eX8_wishes_110 : Dc MX8_wishes 110 (.getfield 17) 3 113 := ⟨by decide +kernel, rfl⟩
theorem eX8_wishes_113 : Dc MX8_wishes 113 (.iload_n 1) 1 114 := ⟨by decide +kernel, rfl⟩
theorem eX8_wishes_114 : Dc MX8_wishes 114 (.iaload) 1 115 := ⟨by decide +kernel, rfl⟩
theorem eX8_wishes_115 : Dc MX8_wishes 115 (.ireturn) 1 116 := ⟨by decide +kernel, rfl⟩
theorem eX8_wishes_116 : Dc MX8_wishes 116 (.aload_n 0) 1 117 := ⟨by decide +kernel, rfl⟩
theorem eX8_wishes_117 : Dc MX8_wishes 117 (.iload_n 1) 1 118 := ⟨by decide +kernel, rfl⟩
theorem eX8_wishes_118 : Dc MX8_wishes 118 (.iload 7) 2 120 := ⟨by decide +kernel, rfl⟩
theorem eX8_wishes_120 : Dc MX8_wishes 120 (.invokevirtual 111) 3 123 := ⟨by decide +kernel, rfl⟩
theorem eX8_wishes_123 : Dc MX8_wishes 123 (.iinc 6 1) 3 126 := ⟨by decide +kernel, rfl⟩
theorem eX8_wishes_126 : Dc MX8_wishes 126 (.goto (-71)) 3 129 := ⟨by decide +kernel, rfl⟩
theorem eX8_wishes_129 : Dc MX8_wishes 129 (.aload_n 0) 1 130 := ⟨by decide +kernel, rfl⟩
theorem eX8_wishes_130 : Dc MX8_wishes 130 (.getfield 17) 3 133 := ⟨by decide +kernel, rfl⟩
theorem eX8_wishes_133 : Dc MX8_wishes 133 (.iload_n 1) 1 134 := ⟨by decide +kernel, rfl⟩
theorem eX8_wishes_134 : Dc MX8_wishes 134 (.iaload) 1 135 := ⟨by decide +kernel, rfl⟩
theorem eX8_wishes_135 : Dc MX8_wishes 135 (.ireturn) 1 136 := ⟨by decide +kernel, rfl⟩
theorem eX8_areTwo_0 : Dc MX8_areTwo 0 (.aload_n 0) 1 1 := ⟨by decide +kernel, rfl⟩
theorem eX8_areTwo_1 : Dc MX8_areTwo 1 (.iload_n 1) 1 2 := ⟨by decide +kernel, rfl⟩
theorem eX8_areTwo_2 : Dc MX8_areTwo 2 (.invokevirtual 100) 3 5 := ⟨by decide +kernel, rfl⟩
theorem eX8_areTwo_5 : Dc MX8_areTwo 5 (.ifCond .eq 20) 3 8 := ⟨by decide +kernel, rfl⟩
theorem eX8_areTwo_8 : Dc MX8_areTwo 8 (.aload_n 0) 1 9 := ⟨by decide +kernel, rfl⟩
theorem eX8_areTwo_9 : Dc MX8_areTwo 9 (.iload_n 2) 1 10 := ⟨by decide +kernel, rfl⟩
theorem eX8_areTwo_10 : Dc MX8_areTwo 10 (.invokevirtual 100) 3 13 := ⟨by decide +kernel, rfl⟩
theorem eX8_areTwo_13 : Dc MX8_areTwo 13 (.ifCond .eq 12) 3 16 := ⟨by decide +kernel, rfl⟩
theorem eX8_areTwo_16 : Dc MX8_areTwo 16 (.iload_n 1) 1 17 := ⟨by decide +kernel, rfl⟩
theorem eX8_areTwo_17 : Dc MX8_areTwo 17 (.iload_n 2) 1 18 := ⟨by decide +kernel, rfl⟩
theorem eX8_areTwo_18 : Dc MX8_areTwo 18 (.if_icmp .eq 7) 3 21 := ⟨by decide +kernel, rfl⟩
theorem eX8_areTwo_21 : Dc MX8_areTwo 21 (.iconst 1) 1 22 := ⟨by decide +kernel, rfl⟩
theorem eX8_areTwo_22 : Dc MX8_areTwo 22 (.goto 4) 3 25 := ⟨by decide +kernel, rfl⟩
theorem eX8_areTwo_25 : Dc MX8_areTwo 25 (.iconst 0) 1 26 := ⟨by decide +kernel, rfl⟩
theorem eX8_areTwo_26 : Dc MX8_areTwo 26 (.ireturn) 1 27 := ⟨by decide +kernel, rfl⟩
theorem eX8_friends_0 : Dc MX8_friends 0 (.aload_n 0) 1 1 := ⟨by decide +kernel, rfl⟩
theorem eX8_friends_1 : Dc MX8_friends 1 (.iconst 0) 1 2 := ⟨by decide +kernel, rfl⟩
theorem eX8_friends_2 : Dc MX8_friends 2 (.putfield 80) 3 5 := ⟨by decide +kernel, rfl⟩
theorem eX8_friends_5 : Dc MX8_friends 5 (.aload_n 0) 1 6 := ⟨by decide +kernel, rfl⟩
theorem eX8_friends_6 : Dc MX8_friends 6 (.iload_n 1) 1 7 := ⟨by decide +kernel, rfl⟩
theorem eX8_friends_7 : Dc MX8_friends 7 (.iload_n 2) 1 8 := ⟨by decide +kernel, rfl⟩
theorem eX8_friends_8 : Dc MX8_friends 8 (.invokevirtual 117) 3 11 := ⟨by decide +kernel, rfl⟩
theorem eX8_friends_11 : Dc MX8_friends 11 (.ifCond .ne 5) 3 14 := ⟨by decide +kernel, rfl⟩
theorem eX8_friends_14 : Dc MX8_friends 14 (.iconst 0) 1 15 := ⟨by decide +kernel, rfl⟩
theorem eX8_friends_15 : Dc MX8_friends 15 (.ireturn) 1 16 := ⟨by decide +kernel, rfl⟩
theorem eX8_friends_16 : Dc MX8_friends 16 (.aload_n 0) 1 17 := ⟨by decide +kernel, rfl⟩
theorem eX8_friends_17 : Dc MX8_friends 17 (.getfield 29) 3 20 := ⟨by decide +kernel, rfl⟩
theorem eX8_friends_20 : Dc MX8_friends 20 (.bipush 8) 2 22 := ⟨by decide +kernel, rfl⟩
theorem eX8_friends_22 : Dc MX8_friends 22 (.iload_n 1) 1 23 := ⟨by decide +kernel, rfl⟩
theorem eX8_friends_23 : Dc MX8_friends 23 (.imul) 1 24 := ⟨by decide +kernel, rfl⟩
theorem eX8_friends_24 : Dc MX8_friends 24 (.iload_n 2) 1 25 := ⟨by decide +kernel, rfl⟩
theorem eX8_friends_25 : Dc MX8_friends 25 (.iadd) 1 26 := ⟨by decide +kernel, rfl⟩
theorem eX8_friends_26 : Dc MX8_friends 26 (.iload_n 3) 1 27 := ⟨by decide +kernel, rfl⟩
theorem eX8_friends_27 : Dc MX8_friends 27 (.bastore) 1 28 := ⟨by decide +kernel, rfl⟩
theorem eX8_friends_28 : Dc MX8_friends 28 (.aload_n 0) 1 29 := ⟨by decide +kernel, rfl⟩
theorem eX8_friends_29 : Dc MX8_friends 29 (.getfield 29) 3 32 := ⟨by decide +kernel, rfl⟩
theorem eX8_friends_32 : Dc MX8_friends 32 (.bipush 8) 2 34 := ⟨by decide +kernel, rfl⟩
theorem eX8_friends_34 : Dc MX8_friends 34 (.iload_n 2) 1 35 := ⟨by decide +kernel, rfl⟩
theorem eX8_friends_35 : Dc MX8_friends 35 (.imul) 1 36 := ⟨by decide +kernel, rfl⟩
theorem eX8_friends_36 : Dc MX8_friends 36 (.iload_n 1) 1 37 := ⟨by decide +kernel, rfl⟩
theorem eX8_friends_37 : Dc MX8_friends 37 (.iadd) 1 38 := ⟨by decide +kernel, rfl⟩
theorem eX8_friends_38 : Dc MX8_friends 38 (.iload_n 3) 1 39 := ⟨by decide +kernel, rfl⟩
theorem eX8_friends_39 : Dc MX8_friends 39 (.bastore) 1 40 := ⟨by decide +kernel, rfl⟩
theorem eX8_friends_40 : Dc MX8_friends 40 (.iconst 1) 1 41 := ⟨by decide +kernel, rfl⟩
theorem eX8_friends_41 : Dc MX8_friends 41 (.ireturn) 1 42 := ⟨by decide +kernel, rfl⟩
theorem eX8_apart_0 : Dc MX8_apart 0 (.aload_n 0) 1 1 := ⟨by decide +kernel, rfl⟩
theorem eX8_apart_1 : Dc MX8_apart 1 (.iconst 0) 1 2 := ⟨by decide +kernel, rfl⟩
theorem eX8_apart_2 : Dc MX8_apart 2 (.putfield 80) 3 5 := ⟨by decide +kernel, rfl⟩
theorem eX8_apart_5 : Dc MX8_apart 5 (.aload_n 0) 1 6 := ⟨by decide +kernel, rfl⟩
theorem eX8_apart_6 : Dc MX8_apart 6 (.iload_n 1) 1 7 := ⟨by decide +kernel, rfl⟩
theorem eX8_apart_7 : Dc MX8_apart 7 (.iload_n 2) 1 8 := ⟨by decide +kernel, rfl⟩
theorem eX8_apart_8 : Dc MX8_apart 8 (.invokevirtual 117) 3 11 := ⟨by decide +kernel, rfl⟩
theorem eX8_apart_11 : Dc MX8_apart 11 (.ifCond .ne 5) 3 14 := ⟨by decide +kernel, rfl⟩
theorem eX8_apart_14 : Dc MX8_apart 14 (.iconst 0) 1 15 := ⟨by decide +kernel, rfl⟩
theorem eX8_apart_15 : Dc MX8_apart 15 (.ireturn) 1 16 := ⟨by decide +kernel, rfl⟩
theorem eX8_apart_16 : Dc MX8_apart 16 (.aload_n 0) 1 17 := ⟨by decide +kernel, rfl⟩
theorem eX8_apart_17 : Dc MX8_apart 17 (.getfield 32) 3 20 := ⟨by decide +kernel, rfl⟩
theorem eX8_apart_20 : Dc MX8_apart 20 (.bipush 8) 2 22 := ⟨by decide +kernel, rfl⟩
theorem eX8_apart_22 : Dc MX8_apart 22 (.iload_n 1) 1 23 := ⟨by decide +kernel, rfl⟩
theorem eX8_apart_23 : Dc MX8_apart 23 (.imul) 1 24 := ⟨by decide +kernel, rfl⟩
theorem eX8_apart_24 : Dc MX8_apart 24 (.iload_n 2) 1 25 := ⟨by decide +kernel, rfl⟩
theorem eX8_apart_25 : Dc MX8_apart 25 (.iadd) 1 26 := ⟨by decide +kernel, rfl⟩
theorem eX8_apart_26 : Dc MX8_apart 26 (.iload_n 3) 1 27 := ⟨by decide +kernel, rfl⟩
theorem eX8_apart_27 : Dc MX8_apart 27 (.bastore) 1 28 := ⟨by decide +kernel, rfl⟩
theorem eX8_apart_28 : Dc MX8_apart 28 (.aload_n 0) 1 29 := ⟨by decide +kernel, rfl⟩
theorem eX8_apart_29 : Dc MX8_apart 29 (.getfield 32) 3 32 := ⟨by decide +kernel, rfl⟩
theorem eX8_apart_32 : Dc MX8_apart 32 (.bipush 8) 2 34 := ⟨by decide +kernel, rfl⟩
theorem eX8_apart_34 : Dc MX8_apart 34 (.iload_n 2) 1 35 := ⟨by decide +kernel, rfl⟩
theorem eX8_apart_35 : Dc MX8_apart 35 (.imul) 1 36 := ⟨by decide +kernel, rfl⟩
theorem eX8_apart_36 : Dc MX8_apart 36 (.iload_n 1) 1 37 := ⟨by decide +kernel, rfl⟩
theorem eX8_apart_37 : Dc MX8_apart 37 (.iadd) 1 38 := ⟨by decide +kernel, rfl⟩
theorem eX8_apart_38 : Dc MX8_apart 38 (.iload_n 3) 1 39 := ⟨by decide +kernel, rfl⟩
theorem eX8_apart_39 : Dc MX8_apart 39 (.bastore) 1 40 := ⟨by decide +kernel, rfl⟩
theorem eX8_apart_40 : Dc MX8_apart 40 (.iconst 1) 1 41 := ⟨by decide +kernel, rfl⟩
theorem eX8_apart_41 : Dc MX8_apart 41 (.ireturn) 1 42 := ⟨by decide +kernel, rfl⟩
theorem eX8_here_0 : Dc MX8_here 0 (.aload_n 0) 1 1 := ⟨by decide +kernel, rfl⟩
theorem eX8_here_1 : Dc MX8_here 1 (.iconst 0) 1 2 := ⟨by decide +kernel, rfl⟩
theorem eX8_here_2 : Dc MX8_here 2 (.putfield 80) 3 5 := ⟨by decide +kernel, rfl⟩
theorem eX8_here_5 : Dc MX8_here 5 (.aload_n 0) 1 6 := ⟨by decide +kernel, rfl⟩
theorem eX8_here_6 : Dc MX8_here 6 (.iload_n 1) 1 7 := ⟨by decide +kernel, rfl⟩
theorem eX8_here_7 : Dc MX8_here 7 (.invokevirtual 100) 3 10 := ⟨by decide +kernel, rfl⟩
theorem eX8_here_10 : Dc MX8_here 10 (.ifCond .ne 5) 3 13 := ⟨by decide +kernel, rfl⟩
theorem eX8_here_13 : Dc MX8_here 13 (.iconst 0) 1 14 := ⟨by decide +kernel, rfl⟩
theorem eX8_here_14 : Dc MX8_here 14 (.ireturn) 1 15 := ⟨by decide +kernel, rfl⟩
theorem eX8_here_15 : Dc MX8_here 15 (.aload_n 0) 1 16 := ⟨by decide +kernel, rfl⟩
theorem eX8_here_16 : Dc MX8_here 16 (.getfield 13) 3 19 := ⟨by decide +kernel, rfl⟩
theorem eX8_here_19 : Dc MX8_here 19 (.iload_n 1) 1 20 := ⟨by decide +kernel, rfl⟩
theorem eX8_here_20 : Dc MX8_here 20 (.iload_n 2) 1 21 := ⟨by decide +kernel, rfl⟩
theorem eX8_here_21 : Dc MX8_here 21 (.bastore) 1 22 := ⟨by decide +kernel, rfl⟩
theorem eX8_here_22 : Dc MX8_here 22 (.iconst 1) 1 23 := ⟨by decide +kernel, rfl⟩
theorem eX8_here_23 : Dc MX8_here 23 (.ireturn) 1 24 := ⟨by decide +kernel, rfl⟩
theorem eX8_offered_0 : Dc MX8_offered 0 (.aload_n 0) 1 1 := ⟨by decide +kernel, rfl⟩
theorem eX8_offered_1 : Dc MX8_offered 1 (.iconst 0) 1 2 := ⟨by decide +kernel, rfl⟩
theorem eX8_offered_2 : Dc MX8_offered 2 (.putfield 80) 3 5 := ⟨by decide +kernel, rfl⟩
theorem eX8_offered_5 : Dc MX8_offered 5 (.aload_n 0) 1 6 := ⟨by decide +kernel, rfl⟩
theorem eX8_offered_6 : Dc MX8_offered 6 (.iload_n 1) 1 7 := ⟨by decide +kernel, rfl⟩
theorem eX8_offered_7 : Dc MX8_offered 7 (.invokevirtual 104) 3 10 := ⟨by decide +kernel, rfl⟩
theorem eX8_offered_10 : Dc MX8_offered 10 (.ifCond .ne 5) 3 13 := ⟨by decide +kernel, rfl⟩
theorem eX8_offered_13 : Dc MX8_offered 13 (.iconst 0) 1 14 := ⟨by decide +kernel, rfl⟩
theorem eX8_offered_14 : Dc MX8_offered 14 (.ireturn) 1 15 := ⟨by decide +kernel, rfl⟩
theorem eX8_offered_15 : Dc MX8_offered 15 (.aload_n 0) 1 16 := ⟨by decide +kernel, rfl⟩
theorem eX8_offered_16 : Dc MX8_offered 16 (.getfield 53) 3 19 := ⟨by decide +kernel, rfl⟩
theorem eX8_offered_19 : Dc MX8_offered 19 (.iload_n 1) 1 20 := ⟨by decide +kernel, rfl⟩
theorem eX8_offered_20 : Dc MX8_offered 20 (.iload_n 2) 1 21 := ⟨by decide +kernel, rfl⟩
theorem eX8_offered_21 : Dc MX8_offered 21 (.bastore) 1 22 := ⟨by decide +kernel, rfl⟩
theorem eX8_offered_22 : Dc MX8_offered 22 (.iconst 1) 1 23 := ⟨by decide +kernel, rfl⟩
theorem eX8_offered_23 : Dc MX8_offered 23 (.ireturn) 1 24 := ⟨by decide +kernel, rfl⟩
theorem eX8_lots_0 : Dc MX8_lots 0 (.aload_n 0) 1 1 := ⟨by decide +kernel, rfl⟩
theorem eX8_lots_1 : Dc MX8_lots 1 (.iconst 0) 1 2 := ⟨by decide +kernel, rfl⟩
theorem eX8_lots_2 : Dc MX8_lots 2 (.putfield 80) 3 5 := ⟨by decide +kernel, rfl⟩
theorem eX8_lots_5 : Dc MX8_lots 5 (.iload_n 1) 1 6 := ⟨by decide +kernel, rfl⟩
theorem eX8_lots_6 : Dc MX8_lots 6 (.istore_n 2) 1 7 := ⟨by decide +kernel, rfl⟩
theorem eX8_lots_7 : Dc MX8_lots 7 (.iconst 0) 1 8 := ⟨by decide +kernel, rfl⟩
theorem eX8_lots_8 : Dc MX8_lots 8 (.istore_n 3) 1 9 := ⟨by decide +kernel, rfl⟩
theorem eX8_lots_9 : Dc MX8_lots 9 (.iload_n 3) 1 10 := ⟨by decide +kernel, rfl⟩
theorem eX8_lots_10 : Dc MX8_lots 10 (.aload_n 0) 1 11 := ⟨by decide +kernel, rfl⟩
theorem eX8_lots_11 : Dc MX8_lots 11 (.getfield 84) 3 14 := ⟨by decide +kernel, rfl⟩
theorem eX8_lots_14 : Dc MX8_lots 14 (.if_icmp .ge 16) 3 17 := ⟨by decide +kernel, rfl⟩
theorem eX8_lots_17 : Dc MX8_lots 17 (.aload_n 0) 1 18 := ⟨by decide +kernel, rfl⟩
theorem eX8_lots_18 : Dc MX8_lots 18 (.getfield 35) 3 21 := ⟨by decide +kernel, rfl⟩
theorem eX8_lots_21 : Dc MX8_lots 21 (.iload_n 3) 1 22 := ⟨by decide +kernel, rfl⟩
theorem eX8_lots_22 : Dc MX8_lots 22 (.iload_n 3) 1 23 := ⟨by decide +kernel, rfl⟩
theorem eX8_lots_23 : Dc MX8_lots 23 (.iastore) 1 24 := ⟨by decide +kernel, rfl⟩
theorem eX8_lots_24 : Dc MX8_lots 24 (.iinc 3 1) 3 27 := ⟨by decide +kernel, rfl⟩
theorem eX8_lots_27 : Dc MX8_lots 27 (.goto (-18)) 3 30 := ⟨by decide +kernel, rfl⟩
theorem eX8_lots_30 : Dc MX8_lots 30 (.aload_n 0) 1 31 := ⟨by decide +kernel, rfl⟩
theorem eX8_lots_31 : Dc MX8_lots 31 (.getfield 84) 3 34 := ⟨by decide +kernel, rfl⟩
theorem eX8_lots_34 : Dc MX8_lots 34 (.iconst 1) 1 35 := ⟨by decide +kernel, rfl⟩
theorem eX8_lots_35 : Dc MX8_lots 35 (.isub) 1 36 := ⟨by decide +kernel, rfl⟩
theorem eX8_lots_36 : Dc MX8_lots 36 (.istore_n 3) 1 37 := ⟨by decide +kernel, rfl⟩
theorem eX8_lots_37 : Dc MX8_lots 37 (.iload_n 3) 1 38 := ⟨by decide +kernel, rfl⟩
theorem eX8_lots_38 : Dc MX8_lots 38 (.ifCond .le 58) 3 41 := ⟨by decide +kernel, rfl⟩
theorem eX8_lots_41 : Dc MX8_lots 41 (.iload_n 2) 1 42 := ⟨by decide +kernel, rfl⟩
theorem eX8_lots_42 : Dc MX8_lots 42 (.ldc 120) 2 44 := ⟨by decide +kernel, rfl⟩
theorem eX8_lots_44 : Dc MX8_lots 44 (.imul) 1 45 := ⟨by decide +kernel, rfl⟩
theorem eX8_lots_45 : Dc MX8_lots 45 (.sipush 12345) 3 48 := ⟨by decide +kernel, rfl⟩
theorem eX8_lots_48 : Dc MX8_lots 48 (.iadd) 1 49 := ⟨by decide +kernel, rfl⟩
theorem eX8_lots_49 : Dc MX8_lots 49 (.istore_n 2) 1 50 := ⟨by decide +kernel, rfl⟩
theorem eX8_lots_50 : Dc MX8_lots 50 (.iload_n 2) 1 51 := ⟨by decide +kernel, rfl⟩
theorem eX8_lots_51 : Dc MX8_lots 51 (.bipush 16) 2 53 := ⟨by decide +kernel, rfl⟩
theorem eX8_lots_53 : Dc MX8_lots 53 (.iushr) 1 54 := ⟨by decide +kernel, rfl⟩
theorem eX8_lots_54 : Dc MX8_lots 54 (.iload_n 3) 1 55 := ⟨by decide +kernel, rfl⟩
theorem eX8_lots_55 : Dc MX8_lots 55 (.iconst 1) 1 56 := ⟨by decide +kernel, rfl⟩
theorem eX8_lots_56 : Dc MX8_lots 56 (.iadd) 1 57 := ⟨by decide +kernel, rfl⟩
theorem eX8_lots_57 : Dc MX8_lots 57 (.irem) 1 58 := ⟨by decide +kernel, rfl⟩
theorem eX8_lots_58 : Dc MX8_lots 58 (.istore 4) 2 60 := ⟨by decide +kernel, rfl⟩
theorem eX8_lots_60 : Dc MX8_lots 60 (.aload_n 0) 1 61 := ⟨by decide +kernel, rfl⟩
theorem eX8_lots_61 : Dc MX8_lots 61 (.getfield 35) 3 64 := ⟨by decide +kernel, rfl⟩
theorem eX8_lots_64 : Dc MX8_lots 64 (.iload_n 3) 1 65 := ⟨by decide +kernel, rfl⟩
theorem eX8_lots_65 : Dc MX8_lots 65 (.iaload) 1 66 := ⟨by decide +kernel, rfl⟩
theorem eX8_lots_66 : Dc MX8_lots 66 (.istore 5) 2 68 := ⟨by decide +kernel, rfl⟩
theorem eX8_lots_68 : Dc MX8_lots 68 (.aload_n 0) 1 69 := ⟨by decide +kernel, rfl⟩
theorem eX8_lots_69 : Dc MX8_lots 69 (.getfield 35) 3 72 := ⟨by decide +kernel, rfl⟩
theorem eX8_lots_72 : Dc MX8_lots 72 (.iload_n 3) 1 73 := ⟨by decide +kernel, rfl⟩
theorem eX8_lots_73 : Dc MX8_lots 73 (.aload_n 0) 1 74 := ⟨by decide +kernel, rfl⟩
theorem eX8_lots_74 : Dc MX8_lots 74 (.getfield 35) 3 77 := ⟨by decide +kernel, rfl⟩
theorem eX8_lots_77 : Dc MX8_lots 77 (.iload 4) 2 79 := ⟨by decide +kernel, rfl⟩
theorem eX8_lots_79 : Dc MX8_lots 79 (.iaload) 1 80 := ⟨by decide +kernel, rfl⟩
theorem eX8_lots_80 : Dc MX8_lots 80 (.iastore) 1 81 := ⟨by decide +kernel, rfl⟩
theorem eX8_lots_81 : Dc MX8_lots 81 (.aload_n 0) 1 82 := ⟨by decide +kernel, rfl⟩
theorem eX8_lots_82 : Dc MX8_lots 82 (.getfield 35) 3 85 := ⟨by decide +kernel, rfl⟩
theorem eX8_lots_85 : Dc MX8_lots 85 (.iload 4) 2 87 := ⟨by decide +kernel, rfl⟩
theorem eX8_lots_87 : Dc MX8_lots 87 (.iload 5) 2 89 := ⟨by decide +kernel, rfl⟩
theorem eX8_lots_89 : Dc MX8_lots 89 (.iastore) 1 90 := ⟨by decide +kernel, rfl⟩
theorem eX8_lots_90 : Dc MX8_lots 90 (.iinc 3 (-1)) 3 93 := ⟨by decide +kernel, rfl⟩
theorem eX8_lots_93 : Dc MX8_lots 93 (.goto (-56)) 3 96 := ⟨by decide +kernel, rfl⟩
theorem eX8_lots_96 : Dc MX8_lots 96 (.iconst 1) 1 97 := ⟨by decide +kernel, rfl⟩
theorem eX8_lots_97 : Dc MX8_lots 97 (.ireturn) 1 98 := ⟨by decide +kernel, rfl⟩
theorem eX8_present_0 : Dc MX8_present 0 (.iconst 0) 1 1 := ⟨by decide +kernel, rfl⟩
theorem eX8_present_1 : Dc MX8_present 1 (.istore_n 1) 1 2 := ⟨by decide +kernel, rfl⟩
theorem eX8_present_2 : Dc MX8_present 2 (.iconst 0) 1 3 := ⟨by decide +kernel, rfl⟩
theorem eX8_present_3 : Dc MX8_present 3 (.istore_n 2) 1 4 := ⟨by decide +kernel, rfl⟩
theorem eX8_present_4 : Dc MX8_present 4 (.iload_n 2) 1 5 := ⟨by decide +kernel, rfl⟩
theorem eX8_present_5 : Dc MX8_present 5 (.aload_n 0) 1 6 := ⟨by decide +kernel, rfl⟩
theorem eX8_present_6 : Dc MX8_present 6 (.getfield 84) 3 9 := ⟨by decide +kernel, rfl⟩
theorem eX8_present_9 : Dc MX8_present 9 (.if_icmp .ge 26) 3 12 := ⟨by decide +kernel, rfl⟩
theorem eX8_present_12 : Dc MX8_present 12 (.iload_n 1) 1 13 := ⟨by decide +kernel, rfl⟩
theorem eX8_present_13 : Dc MX8_present 13 (.aload_n 0) 1 14 := ⟨by decide +kernel, rfl⟩
theorem eX8_present_14 : Dc MX8_present 14 (.getfield 13) 3 17 := ⟨by decide +kernel, rfl⟩
theorem eX8_present_17 : Dc MX8_present 17 (.iload_n 2) 1 18 := ⟨by decide +kernel, rfl⟩
theorem eX8_present_18 : Dc MX8_present 18 (.baload) 1 19 := ⟨by decide +kernel, rfl⟩
theorem eX8_present_19 : Dc MX8_present 19 (.ifCond .eq 7) 3 22 := ⟨by decide +kernel, rfl⟩
theorem eX8_present_22 : Dc MX8_present 22 (.iconst 1) 1 23 := ⟨by decide +kernel, rfl⟩
theorem eX8_present_23 : Dc MX8_present 23 (.goto 4) 3 26 := ⟨by decide +kernel, rfl⟩
theorem eX8_present_26 : Dc MX8_present 26 (.iconst 0) 1 27 := ⟨by decide +kernel, rfl⟩
theorem eX8_present_27 : Dc MX8_present 27 (.iadd) 1 28 := ⟨by decide +kernel, rfl⟩
theorem eX8_present_28 : Dc MX8_present 28 (.istore_n 1) 1 29 := ⟨by decide +kernel, rfl⟩
theorem eX8_present_29 : Dc MX8_present 29 (.iinc 2 1) 3 32 := ⟨by decide +kernel, rfl⟩
theorem eX8_present_32 : Dc MX8_present 32 (.goto (-28)) 3 35 := ⟨by decide +kernel, rfl⟩
theorem eX8_present_35 : Dc MX8_present 35 (.iload_n 1) 1 36 := ⟨by decide +kernel, rfl⟩
theorem eX8_present_36 : Dc MX8_present 36 (.ireturn) 1 37 := ⟨by decide +kernel, rfl⟩
theorem eX8_count_0 : Dc MX8_count 0 (.aload_n 0) 1 1 := ⟨by decide +kernel, rfl⟩
theorem eX8_count_1 : Dc MX8_count 1 (.iconst 0) 1 2 := ⟨by decide +kernel, rfl⟩
theorem eX8_count_2 : Dc MX8_count 2 (.putfield 80) 3 5 := ⟨by decide +kernel, rfl⟩
theorem eX8_count_5 : Dc MX8_count 5 (.iconst 0) 1 6 := ⟨by decide +kernel, rfl⟩
theorem eX8_count_6 : Dc MX8_count 6 (.istore_n 2) 1 7 := ⟨by decide +kernel, rfl⟩
theorem eX8_count_7 : Dc MX8_count 7 (.iconst 0) 1 8 := ⟨by decide +kernel, rfl⟩
theorem eX8_count_8 : Dc MX8_count 8 (.istore_n 3) 1 9 := ⟨by decide +kernel, rfl⟩
theorem eX8_count_9 : Dc MX8_count 9 (.iload_n 3) 1 10 := ⟨by decide +kernel, rfl⟩
theorem eX8_count_10 : Dc MX8_count 10 (.aload_n 0) 1 11 := ⟨by decide +kernel, rfl⟩
theorem eX8_count_11 : Dc MX8_count 11 (.getfield 91) 3 14 := ⟨by decide +kernel, rfl⟩
theorem eX8_count_14 : Dc MX8_count 14 (.if_icmp .ge 26) 3 17 := ⟨by decide +kernel, rfl⟩
theorem eX8_count_17 : Dc MX8_count 17 (.iload_n 2) 1 18 := ⟨by decide +kernel, rfl⟩
theorem eX8_count_18 : Dc MX8_count 18 (.aload_n 0) 1 19 := ⟨by decide +kernel, rfl⟩
theorem eX8_count_19 : Dc MX8_count 19 (.getfield 53) 3 22 := ⟨by decide +kernel, rfl⟩
theorem eX8_count_22 : Dc MX8_count 22 (.iload_n 3) 1 23 := ⟨by decide +kernel, rfl⟩
theorem eX8_count_23 : Dc MX8_count 23 (.baload) 1 24 := ⟨by decide +kernel, rfl⟩
theorem eX8_count_24 : Dc MX8_count 24 (.ifCond .eq 7) 3 27 := ⟨by decide +kernel, rfl⟩
theorem eX8_count_27 : Dc MX8_count 27 (.iconst 1) 1 28 := ⟨by decide +kernel, rfl⟩
theorem eX8_count_28 : Dc MX8_count 28 (.goto 4) 3 31 := ⟨by decide +kernel, rfl⟩
theorem eX8_count_31 : Dc MX8_count 31 (.iconst 0) 1 32 := ⟨by decide +kernel, rfl⟩
theorem eX8_count_32 : Dc MX8_count 32 (.iadd) 1 33 := ⟨by decide +kernel, rfl⟩
theorem eX8_count_33 : Dc MX8_count 33 (.istore_n 2) 1 34 := ⟨by decide +kernel, rfl⟩
theorem eX8_count_34 : Dc MX8_count 34 (.iinc 3 1) 3 37 := ⟨by decide +kernel, rfl⟩
theorem eX8_count_37 : Dc MX8_count 37 (.goto (-28)) 3 40 := ⟨by decide +kernel, rfl⟩
theorem eX8_count_40 : Dc MX8_count 40 (.iload_n 1) 1 41 := ⟨by decide +kernel, rfl⟩
theorem eX8_count_41 : Dc MX8_count 41 (.tableswitch 66 0 5 #[39, 44, 49, 54, 59, 64]) 39 80 := ⟨by decide +kernel, rfl⟩
theorem eX8_count_80 : Dc MX8_count 80 (.aload_n 0) 1 81 := ⟨by decide +kernel, rfl⟩
theorem eX8_count_81 : Dc MX8_count 81 (.getfield 84) 3 84 := ⟨by decide +kernel, rfl⟩
theorem eX8_count_84 : Dc MX8_count 84 (.ireturn) 1 85 := ⟨by decide +kernel, rfl⟩
theorem eX8_count_85 : Dc MX8_count 85 (.aload_n 0) 1 86 := ⟨by decide +kernel, rfl⟩
theorem eX8_count_86 : Dc MX8_count 86 (.getfield 91) 3 89 := ⟨by decide +kernel, rfl⟩
theorem eX8_count_89 : Dc MX8_count 89 (.ireturn) 1 90 := ⟨by decide +kernel, rfl⟩
theorem eX8_count_90 : Dc MX8_count 90 (.aload_n 0) 1 91 := ⟨by decide +kernel, rfl⟩
theorem eX8_count_91 : Dc MX8_count 91 (.invokevirtual 121) 3 94 := ⟨by decide +kernel, rfl⟩
theorem eX8_count_94 : Dc MX8_count 94 (.ireturn) 1 95 := ⟨by decide +kernel, rfl⟩
theorem eX8_count_95 : Dc MX8_count 95 (.aload_n 0) 1 96 := ⟨by decide +kernel, rfl⟩
theorem eX8_count_96 : Dc MX8_count 96 (.getfield 125) 3 99 := ⟨by decide +kernel, rfl⟩
theorem eX8_count_99 : Dc MX8_count 99 (.ireturn) 1 100 := ⟨by decide +kernel, rfl⟩
theorem eX8_count_100 : Dc MX8_count 100 (.aload_n 0) 1 101 := ⟨by decide +kernel, rfl⟩
theorem eX8_count_101 : Dc MX8_count 101 (.getfield 128) 3 104 := ⟨by decide +kernel, rfl⟩
theorem eX8_count_104 : Dc MX8_count 104 (.ireturn) 1 105 := ⟨by decide +kernel, rfl⟩
theorem eX8_count_105 : Dc MX8_count 105 (.iload_n 2) 1 106 := ⟨by decide +kernel, rfl⟩
theorem eX8_count_106 : Dc MX8_count 106 (.ireturn) 1 107 := ⟨by decide +kernel, rfl⟩
theorem eX8_count_107 : Dc MX8_count 107 (.iconst (-1)) 1 108 := ⟨by decide +kernel, rfl⟩
theorem eX8_count_108 : Dc MX8_count 108 (.ireturn) 1 109 := ⟨by decide +kernel, rfl⟩
theorem eX8_rankOf_0 : Dc MX8_rankOf 0 (.iconst 0) 1 1 := ⟨by decide +kernel, rfl⟩
theorem eX8_rankOf_1 : Dc MX8_rankOf 1 (.istore_n 3) 1 2 := ⟨by decide +kernel, rfl⟩
theorem eX8_rankOf_2 : Dc MX8_rankOf 2 (.iload_n 3) 1 3 := ⟨by decide +kernel, rfl⟩
theorem eX8_rankOf_3 : Dc MX8_rankOf 3 (.aload_n 0) 1 4 := ⟨by decide +kernel, rfl⟩
theorem eX8_rankOf_4 : Dc MX8_rankOf 4 (.getfield 17) 3 7 := ⟨by decide +kernel, rfl⟩
theorem eX8_rankOf_7 : Dc MX8_rankOf 7 (.iload_n 1) 1 8 := ⟨by decide +kernel, rfl⟩
theorem eX8_rankOf_8 : Dc MX8_rankOf 8 (.iaload) 1 9 := ⟨by decide +kernel, rfl⟩
theorem eX8_rankOf_9 : Dc MX8_rankOf 9 (.if_icmp .ge 27) 3 12 := ⟨by decide +kernel, rfl⟩
theorem eX8_rankOf_12 : Dc MX8_rankOf 12 (.aload_n 0) 1 13 := ⟨by decide +kernel, rfl⟩
theorem eX8_rankOf_13 : Dc MX8_rankOf 13 (.getfield 20) 3 16 := ⟨by decide +kernel, rfl⟩
theorem eX8_rankOf_16 : Dc MX8_rankOf 16 (.iconst 5) 1 17 := ⟨by decide +kernel, rfl⟩
theorem eX8_rankOf_17 : Dc MX8_rankOf 17 (.iload_n 1) 1 18 := ⟨by decide +kernel, rfl⟩
theorem eX8_rankOf_18 : Dc MX8_rankOf 18 (.imul) 1 19 := ⟨by decide +kernel, rfl⟩
theorem eX8_rankOf_19 : Dc MX8_rankOf 19 (.iload_n 3) 1 20 := ⟨by decide +kernel, rfl⟩
theorem eX8_rankOf_20 : Dc MX8_rankOf 20 (.iadd) 1 21 := ⟨by decide +kernel, rfl⟩
theorem eX8_rankOf_21 : Dc MX8_rankOf 21 (.iaload) 1 22 := ⟨by decide +kernel, rfl⟩
theorem eX8_rankOf_22 : Dc MX8_rankOf 22 (.iload_n 2) 1 23 := ⟨by decide +kernel, rfl⟩
theorem eX8_rankOf_23 : Dc MX8_rankOf 23 (.if_icmp .ne 7) 3 26 := ⟨by decide +kernel, rfl⟩
theorem eX8_rankOf_26 : Dc MX8_rankOf 26 (.iload_n 3) 1 27 := ⟨by decide +kernel, rfl⟩
theorem eX8_rankOf_27 : Dc MX8_rankOf 27 (.iconst 1) 1 28 := ⟨by decide +kernel, rfl⟩
theorem eX8_rankOf_28 : Dc MX8_rankOf 28 (.iadd) 1 29 := ⟨by decide +kernel, rfl⟩
theorem eX8_rankOf_29 : Dc MX8_rankOf 29 (.ireturn) 1 30 := ⟨by decide +kernel, rfl⟩
theorem eX8_rankOf_30 : Dc MX8_rankOf 30 (.iinc 3 1) 3 33 := ⟨by decide +kernel, rfl⟩
theorem eX8_rankOf_33 : Dc MX8_rankOf 33 (.goto (-31)) 3 36 := ⟨by decide +kernel, rfl⟩
theorem eX8_rankOf_36 : Dc MX8_rankOf 36 (.bipush 6) 2 38 := ⟨by decide +kernel, rfl⟩
theorem eX8_rankOf_38 : Dc MX8_rankOf 38 (.ireturn) 1 39 := ⟨by decide +kernel, rfl⟩
theorem eX8_of_0 : Dc MX8_of 0 (.aload_n 0) 1 1 := ⟨by decide +kernel, rfl⟩
theorem eX8_of_1 : Dc MX8_of 1 (.iconst 0) 1 2 := ⟨by decide +kernel, rfl⟩
theorem eX8_of_2 : Dc MX8_of 2 (.putfield 80) 3 5 := ⟨by decide +kernel, rfl⟩
theorem eX8_of_5 : Dc MX8_of 5 (.aload_n 0) 1 6 := ⟨by decide +kernel, rfl⟩
theorem eX8_of_6 : Dc MX8_of 6 (.iload_n 1) 1 7 := ⟨by decide +kernel, rfl⟩
theorem eX8_of_7 : Dc MX8_of 7 (.invokevirtual 100) 3 10 := ⟨by decide +kernel, rfl⟩
theorem eX8_of_10 : Dc MX8_of 10 (.ifCond .eq 15) 3 13 := ⟨by decide +kernel, rfl⟩
theorem eX8_of_13 : Dc MX8_of 13 (.iload_n 2) 1 14 := ⟨by decide +kernel, rfl⟩
theorem eX8_of_14 : Dc MX8_of 14 (.i2l) 1 15 := ⟨by decide +kernel, rfl⟩
theorem eX8_of_15 : Dc MX8_of 15 (.lconst 0) 1 16 := ⟨by decide +kernel, rfl⟩
theorem eX8_of_16 : Dc MX8_of 16 (.ldc2_w 131) 3 19 := ⟨by decide +kernel, rfl⟩
theorem eX8_of_19 : Dc MX8_of 19 (.invokestatic 87) 3 22 := ⟨by decide +kernel, rfl⟩
theorem eX8_of_22 : Dc MX8_of 22 (.ifCond .ne 8) 3 25 := ⟨by decide +kernel, rfl⟩
theorem eX8_of_25 : Dc MX8_of 25 (.aload_n 0) 1 26 := ⟨by decide +kernel, rfl⟩
theorem eX8_of_26 : Dc MX8_of 26 (.invokevirtual 133) 3 29 := ⟨by decide +kernel, rfl⟩
theorem eX8_of_29 : Dc MX8_of 29 (.ireturn) 1 30 := ⟨by decide +kernel, rfl⟩
theorem eX8_of_30 : Dc MX8_of 30 (.iload_n 2) 1 31 := ⟨by decide +kernel, rfl⟩
theorem eX8_of_31 : Dc MX8_of 31 (.tableswitch 105 0 5 #[37, 44, 59, 66, 73, 80]) 37 68 := ⟨by decide +kernel, rfl⟩
theorem eX8_of_68 : Dc MX8_of 68 (.aload_n 0) 1 69 := ⟨by decide +kernel, rfl⟩
theorem eX8_of_69 : Dc MX8_of 69 (.getfield 9) 3 72 := ⟨by decide +kernel, rfl⟩
theorem eX8_of_72 : Dc MX8_of 72 (.iload_n 1) 1 73 := ⟨by decide +kernel, rfl⟩
theorem eX8_of_73 : Dc MX8_of 73 (.iaload) 1 74 := ⟨by decide +kernel, rfl⟩
theorem eX8_of_74 : Dc MX8_of 74 (.ireturn) 1 75 := ⟨by decide +kernel, rfl⟩
theorem eX8_of_75 : Dc MX8_of 75 (.aload_n 0) 1 76 := ⟨by decide +kernel, rfl⟩
theorem eX8_of_76 : Dc MX8_of 76 (.getfield 13) 3 79 := ⟨by decide +kernel, rfl⟩
theorem eX8_of_79 : Dc MX8_of 79 (.iload_n 1) 1 80 := ⟨by decide +kernel, rfl⟩
theorem eX8_of_80 : Dc MX8_of 80 (.baload) 1 81 := ⟨by decide +kernel, rfl⟩
theorem eX8_of_81 : Dc MX8_of 81 (.ifCond .eq 7) 3 84 := ⟨by decide +kernel, rfl⟩
theorem eX8_of_84 : Dc MX8_of 84 (.iconst 1) 1 85 := ⟨by decide +kernel, rfl⟩
theorem eX8_of_85 : Dc MX8_of 85 (.goto 4) 3 88 := ⟨by decide +kernel, rfl⟩
theorem eX8_of_88 : Dc MX8_of 88 (.iconst 0) 1 89 := ⟨by decide +kernel, rfl⟩
theorem eX8_of_89 : Dc MX8_of 89 (.ireturn) 1 90 := ⟨by decide +kernel, rfl⟩
theorem eX8_of_90 : Dc MX8_of 90 (.aload_n 0) 1 91 := ⟨by decide +kernel, rfl⟩
theorem eX8_of_91 : Dc MX8_of 91 (.getfield 17) 3 94 := ⟨by decide +kernel, rfl⟩
theorem eX8_of_94 : Dc MX8_of 94 (.iload_n 1) 1 95 := ⟨by decide +kernel, rfl⟩
theorem eX8_of_95 : Dc MX8_of 95 (.iaload) 1 96 := ⟨by decide +kernel, rfl⟩
theorem eX8_of_96 : Dc MX8_of 96 (.ireturn) 1 97 := ⟨by decide +kernel, rfl⟩
theorem eX8_of_97 : Dc MX8_of 97 (.aload_n 0) 1 98 := ⟨by decide +kernel, rfl⟩
theorem eX8_of_98 : Dc MX8_of 98 (.getfield 23) 3 101 := ⟨by decide +kernel, rfl⟩
theorem eX8_of_101 : Dc MX8_of 101 (.iload_n 1) 1 102 := ⟨by decide +kernel, rfl⟩
theorem eX8_of_102 : Dc MX8_of 102 (.iaload) 1 103 := ⟨by decide +kernel, rfl⟩
theorem eX8_of_103 : Dc MX8_of 103 (.ireturn) 1 104 := ⟨by decide +kernel, rfl⟩
theorem eX8_of_104 : Dc MX8_of 104 (.aload_n 0) 1 105 := ⟨by decide +kernel, rfl⟩
theorem eX8_of_105 : Dc MX8_of 105 (.getfield 26) 3 108 := ⟨by decide +kernel, rfl⟩
theorem eX8_of_108 : Dc MX8_of 108 (.iload_n 1) 1 109 := ⟨by decide +kernel, rfl⟩
theorem eX8_of_109 : Dc MX8_of 109 (.iaload) 1 110 := ⟨by decide +kernel, rfl⟩
theorem eX8_of_110 : Dc MX8_of 110 (.ireturn) 1 111 := ⟨by decide +kernel, rfl⟩
theorem eX8_of_111 : Dc MX8_of 111 (.aload_n 0) 1 112 := ⟨by decide +kernel, rfl⟩
theorem eX8_of_112 : Dc MX8_of 112 (.getfield 26) 3 115 := ⟨by decide +kernel, rfl⟩
theorem eX8_of_115 : Dc MX8_of 115 (.iload_n 1) 1 116 := ⟨by decide +kernel, rfl⟩
theorem eX8_of_116 : Dc MX8_of 116 (.iaload) 1 117 := ⟨by decide +kernel, rfl⟩
theorem eX8_of_117 : Dc MX8_of 117 (.ifCond .ge 7) 3 120 := ⟨by decide +kernel, rfl⟩
theorem eX8_of_120 : Dc MX8_of 120 (.iconst 0) 1 121 := ⟨by decide +kernel, rfl⟩
theorem eX8_of_121 : Dc MX8_of 121 (.goto 14) 3 124 := ⟨by decide +kernel, rfl⟩
theorem eX8_of_124 : Dc MX8_of 124 (.aload_n 0) 1 125 := ⟨by decide +kernel, rfl⟩
theorem eX8_of_125 : Dc MX8_of 125 (.iload_n 1) 1 126 := ⟨by decide +kernel, rfl⟩
theorem eX8_of_126 : Dc MX8_of 126 (.aload_n 0) 1 127 := ⟨by decide +kernel, rfl⟩
theorem eX8_of_127 : Dc MX8_of 127 (.getfield 26) 3 130 := ⟨by decide +kernel, rfl⟩
theorem eX8_of_130 : Dc MX8_of 130 (.iload_n 1) 1 131 := ⟨by decide +kernel, rfl⟩
theorem eX8_of_131 : Dc MX8_of 131 (.iaload) 1 132 := ⟨by decide +kernel, rfl⟩
theorem eX8_of_132 : Dc MX8_of 132 (.invokevirtual 136) 3 135 := ⟨by decide +kernel, rfl⟩
theorem eX8_of_135 : Dc MX8_of 135 (.ireturn) 1 136 := ⟨by decide +kernel, rfl⟩
theorem eX8_of_136 : Dc MX8_of 136 (.iconst 0) 1 137 := ⟨by decide +kernel, rfl⟩
theorem eX8_of_137 : Dc MX8_of 137 (.istore_n 3) 1 138 := ⟨by decide +kernel, rfl⟩
theorem eX8_of_138 : Dc MX8_of 138 (.aload_n 0) 1 139 := ⟨by decide +kernel, rfl⟩
theorem eX8_of_139 : Dc MX8_of 139 (.getfield 35) 3 142 := ⟨by decide +kernel, rfl⟩
theorem eX8_of_142 : Dc MX8_of 142 (.iload_n 3) 1 143 := ⟨by decide +kernel, rfl⟩
theorem eX8_of_143 : Dc MX8_of 143 (.iaload) 1 144 := ⟨by decide +kernel, rfl⟩
theorem eX8_of_144 : Dc MX8_of 144 (.iload_n 1) 1 145 := ⟨by decide +kernel, rfl⟩
theorem eX8_of_145 : Dc MX8_of 145 (.if_icmp .eq 9) 3 148 := ⟨by decide +kernel, rfl⟩
theorem eX8_of_148 : Dc MX8_of 148 (.iinc 3 1) 3 151 := ⟨by decide +kernel, rfl⟩
theorem eX8_of_151 : Dc MX8_of 151 (.goto (-13)) 3 154 := ⟨by decide +kernel, rfl⟩
theorem eX8_of_154 : Dc MX8_of 154 (.iload_n 3) 1 155 := ⟨by decide +kernel, rfl⟩
theorem eX8_of_155 : Dc MX8_of 155 (.ireturn) 1 156 := ⟨by decide +kernel, rfl⟩
theorem eX8_rank_0 : Dc MX8_rank 0 (.aload_n 0) 1 1 := ⟨by decide +kernel, rfl⟩
theorem eX8_rank_1 : Dc MX8_rank 1 (.iconst 0) 1 2 := ⟨by decide +kernel, rfl⟩
theorem eX8_rank_2 : Dc MX8_rank 2 (.putfield 80) 3 5 := ⟨by decide +kernel, rfl⟩
theorem eX8_rank_5 : Dc MX8_rank 5 (.aload_n 0) 1 6 := ⟨by decide +kernel, rfl⟩
theorem eX8_rank_6 : Dc MX8_rank 6 (.iload_n 1) 1 7 := ⟨by decide +kernel, rfl⟩
theorem eX8_rank_7 : Dc MX8_rank 7 (.invokevirtual 100) 3 10 := ⟨by decide +kernel, rfl⟩
theorem eX8_rank_10 : Dc MX8_rank 10 (.ifCond .eq 20) 3 13 := ⟨by decide +kernel, rfl⟩
theorem eX8_rank_13 : Dc MX8_rank 13 (.aload_n 0) 1 14 := ⟨by decide +kernel, rfl⟩
theorem eX8_rank_14 : Dc MX8_rank 14 (.iload_n 2) 1 15 := ⟨by decide +kernel, rfl⟩
theorem eX8_rank_15 : Dc MX8_rank 15 (.invokevirtual 104) 3 18 := ⟨by decide +kernel, rfl⟩
theorem eX8_rank_18 : Dc MX8_rank 18 (.ifCond .eq 12) 3 21 := ⟨by decide +kernel, rfl⟩
theorem eX8_rank_21 : Dc MX8_rank 21 (.aload_n 0) 1 22 := ⟨by decide +kernel, rfl⟩
theorem eX8_rank_22 : Dc MX8_rank 22 (.iload_n 1) 1 23 := ⟨by decide +kernel, rfl⟩
theorem eX8_rank_23 : Dc MX8_rank 23 (.iload_n 2) 1 24 := ⟨by decide +kernel, rfl⟩
theorem eX8_rank_24 : Dc MX8_rank 24 (.invokevirtual 136) 3 27 := ⟨by decide +kernel, rfl⟩
theorem eX8_rank_27 : Dc MX8_rank 27 (.goto 4) 3 30 := ⟨by decide +kernel, rfl⟩
theorem eX8_rank_30 : Dc MX8_rank 30 (.iconst (-1)) 1 31 := ⟨by decide +kernel, rfl⟩
theorem eX8_rank_31 : Dc MX8_rank 31 (.ireturn) 1 32 := ⟨by decide +kernel, rfl⟩
theorem eX8_put_0 : Dc MX8_put 0 (.aload_n 0) 1 1 := ⟨by decide +kernel, rfl⟩
theorem eX8_put_1 : Dc MX8_put 1 (.iconst 0) 1 2 := ⟨by decide +kernel, rfl⟩
theorem eX8_put_2 : Dc MX8_put 2 (.putfield 80) 3 5 := ⟨by decide +kernel, rfl⟩
theorem eX8_put_5 : Dc MX8_put 5 (.aload_n 0) 1 6 := ⟨by decide +kernel, rfl⟩
theorem eX8_put_6 : Dc MX8_put 6 (.iload_n 1) 1 7 := ⟨by decide +kernel, rfl⟩
theorem eX8_put_7 : Dc MX8_put 7 (.invokevirtual 100) 3 10 := ⟨by decide +kernel, rfl⟩
theorem eX8_put_10 : Dc MX8_put 10 (.ifCond .eq 16) 3 13 := ⟨by decide +kernel, rfl⟩
theorem eX8_put_13 : Dc MX8_put 13 (.iload_n 2) 1 14 := ⟨by decide +kernel, rfl⟩
theorem eX8_put_14 : Dc MX8_put 14 (.iconst (-1)) 1 15 := ⟨by decide +kernel, rfl⟩
theorem eX8_put_15 : Dc MX8_put 15 (.if_icmp .eq 13) 3 18 := ⟨by decide +kernel, rfl⟩
theorem eX8_put_18 : Dc MX8_put 18 (.aload_n 0) 1 19 := ⟨by decide +kernel, rfl⟩
theorem eX8_put_19 : Dc MX8_put 19 (.iload_n 2) 1 20 := ⟨by decide +kernel, rfl⟩
theorem eX8_put_20 : Dc MX8_put 20 (.invokevirtual 104) 3 23 := ⟨by decide +kernel, rfl⟩
theorem eX8_put_23 : Dc MX8_put 23 (.ifCond .ne 5) 3 26 := ⟨by decide +kernel, rfl⟩
theorem eX8_put_26 : Dc MX8_put 26 (.iconst 0) 1 27 := ⟨by decide +kernel, rfl⟩
theorem eX8_put_27 : Dc MX8_put 27 (.ireturn) 1 28 := ⟨by decide +kernel, rfl⟩
theorem eX8_put_28 : Dc MX8_put 28 (.aload_n 0) 1 29 := ⟨by decide +kernel, rfl⟩
theorem eX8_put_29 : Dc MX8_put 29 (.getfield 26) 3 32 := ⟨by decide +kernel, rfl⟩
theorem eX8_put_32 : Dc MX8_put 32 (.iload_n 1) 1 33 := ⟨by decide +kernel, rfl⟩
theorem eX8_put_33 : Dc MX8_put 33 (.iload_n 2) 1 34 := ⟨by decide +kernel, rfl⟩
theorem eX8_put_34 : Dc MX8_put 34 (.iastore) 1 35 := ⟨by decide +kernel, rfl⟩
theorem eX8_put_35 : Dc MX8_put 35 (.iconst 1) 1 36 := ⟨by decide +kernel, rfl⟩
theorem eX8_put_36 : Dc MX8_put 36 (.ireturn) 1 37 := ⟨by decide +kernel, rfl⟩
theorem eX8_sizeOf_0 : Dc MX8_sizeOf 0 (.iconst 0) 1 1 := ⟨by decide +kernel, rfl⟩
theorem eX8_sizeOf_1 : Dc MX8_sizeOf 1 (.istore_n 3) 1 2 := ⟨by decide +kernel, rfl⟩
theorem eX8_sizeOf_2 : Dc MX8_sizeOf 2 (.iconst 0) 1 3 := ⟨by decide +kernel, rfl⟩
theorem eX8_sizeOf_3 : Dc MX8_sizeOf 3 (.istore 4) 2 5 := ⟨by decide +kernel, rfl⟩
theorem eX8_sizeOf_5 : Dc MX8_sizeOf 5 (.iload 4) 2 7 := ⟨by decide +kernel, rfl⟩
theorem eX8_sizeOf_7 : Dc MX8_sizeOf 7 (.iload_n 2) 1 8 := ⟨by decide +kernel, rfl⟩
theorem eX8_sizeOf_8 : Dc MX8_sizeOf 8 (.if_icmp .ge 25) 3 11 := ⟨by decide +kernel, rfl⟩
theorem eX8_sizeOf_11 : Dc MX8_sizeOf 11 (.iload_n 3) 1 12 := ⟨by decide +kernel, rfl⟩
theorem eX8_sizeOf_12 : Dc MX8_sizeOf 12 (.aload_n 0) 1 13 := ⟨by decide +kernel, rfl⟩
theorem eX8_sizeOf_13 : Dc MX8_sizeOf 13 (.iload 4) 2 15 := ⟨by decide +kernel, rfl⟩
theorem eX8_sizeOf_15 : Dc MX8_sizeOf 15 (.iaload) 1 16 := ⟨by decide +kernel, rfl⟩
theorem eX8_sizeOf_16 : Dc MX8_sizeOf 16 (.iload_n 1) 1 17 := ⟨by decide +kernel, rfl⟩
theorem eX8_sizeOf_17 : Dc MX8_sizeOf 17 (.if_icmp .ne 7) 3 20 := ⟨by decide +kernel, rfl⟩
theorem eX8_sizeOf_20 : Dc MX8_sizeOf 20 (.iconst 1) 1 21 := ⟨by decide +kernel, rfl⟩
theorem eX8_sizeOf_21 : Dc MX8_sizeOf 21 (.goto 4) 3 24 := ⟨by decide +kernel, rfl⟩
theorem eX8_sizeOf_24 : Dc MX8_sizeOf 24 (.iconst 0) 1 25 := ⟨by decide +kernel, rfl⟩
theorem eX8_sizeOf_25 : Dc MX8_sizeOf 25 (.iadd) 1 26 := ⟨by decide +kernel, rfl⟩
theorem eX8_sizeOf_26 : Dc MX8_sizeOf 26 (.istore_n 3) 1 27 := ⟨by decide +kernel, rfl⟩
theorem eX8_sizeOf_27 : Dc MX8_sizeOf 27 (.iinc 4 1) 3 30 := ⟨by decide +kernel, rfl⟩
theorem eX8_sizeOf_30 : Dc MX8_sizeOf 30 (.goto (-25)) 3 33 := ⟨by decide +kernel, rfl⟩
theorem eX8_sizeOf_33 : Dc MX8_sizeOf 33 (.iload_n 3) 1 34 := ⟨by decide +kernel, rfl⟩
theorem eX8_sizeOf_34 : Dc MX8_sizeOf 34 (.ireturn) 1 35 := ⟨by decide +kernel, rfl⟩
theorem eX8_isTwice_0 : Dc MX8_isTwice 0 (.aload_n 0) 1 1 := ⟨by decide +kernel, rfl⟩
theorem eX8_isTwice_1 : Dc MX8_isTwice 1 (.getfield 38) 3 4 := ⟨by decide +kernel, rfl⟩
theorem eX8_isTwice_4 : Dc MX8_isTwice 4 (.iload_n 1) 1 5 := ⟨by decide +kernel, rfl⟩
theorem eX8_isTwice_5 : Dc MX8_isTwice 5 (.iaload) 1 6 := ⟨by decide +kernel, rfl⟩
theorem eX8_isTwice_6 : Dc MX8_isTwice 6 (.iconst 2) 1 7 := ⟨by decide +kernel, rfl⟩
theorem eX8_isTwice_7 : Dc MX8_isTwice 7 (.if_icmp .ne 17) 3 10 := ⟨by decide +kernel, rfl⟩
theorem eX8_isTwice_10 : Dc MX8_isTwice 10 (.iload_n 2) 1 11 := ⟨by decide +kernel, rfl⟩
theorem eX8_isTwice_11 : Dc MX8_isTwice 11 (.aload_n 0) 1 12 := ⟨by decide +kernel, rfl⟩
theorem eX8_isTwice_12 : Dc MX8_isTwice 12 (.getfield 44) 3 15 := ⟨by decide +kernel, rfl⟩
theorem eX8_isTwice_15 : Dc MX8_isTwice 15 (.iload_n 1) 1 16 := ⟨by decide +kernel, rfl⟩
theorem eX8_isTwice_16 : Dc MX8_isTwice 16 (.iaload) 1 17 := ⟨by decide +kernel, rfl⟩
theorem eX8_isTwice_17 : Dc MX8_isTwice 17 (.if_icmp .le 7) 3 20 := ⟨by decide +kernel, rfl⟩
theorem eX8_isTwice_20 : Dc MX8_isTwice 20 (.iconst 1) 1 21 := ⟨by decide +kernel, rfl⟩
theorem eX8_isTwice_21 : Dc MX8_isTwice 21 (.goto 4) 3 24 := ⟨by decide +kernel, rfl⟩
theorem eX8_isTwice_24 : Dc MX8_isTwice 24 (.iconst 0) 1 25 := ⟨by decide +kernel, rfl⟩
theorem eX8_isTwice_25 : Dc MX8_isTwice 25 (.ireturn) 1 26 := ⟨by decide +kernel, rfl⟩
theorem eX8_isSize_0 : Dc MX8_isSize 0 (.iload_n 2) 1 1 := ⟨by decide +kernel, rfl⟩
theorem eX8_isSize_1 : Dc MX8_isSize 1 (.ifCond .ne 5) 3 4 := ⟨by decide +kernel, rfl⟩
theorem eX8_isSize_4 : Dc MX8_isSize 4 (.iconst 1) 1 5 := ⟨by decide +kernel, rfl⟩
theorem eX8_isSize_5 : Dc MX8_isSize 5 (.ireturn) 1 6 := ⟨by decide +kernel, rfl⟩
theorem eX8_isSize_6 : Dc MX8_isSize 6 (.aload_n 0) 1 7 := ⟨by decide +kernel, rfl⟩
theorem eX8_isSize_7 : Dc MX8_isSize 7 (.iload_n 1) 1 8 := ⟨by decide +kernel, rfl⟩
theorem eX8_isSize_8 : Dc MX8_isSize 8 (.iload_n 2) 1 9 := ⟨by decide +kernel, rfl⟩
theorem eX8_isSize_9 : Dc MX8_isSize 9 (.invokevirtual 140) 3 12 := ⟨by decide +kernel, rfl⟩
theorem eX8_isSize_12 : Dc MX8_isSize 12 (.ifCond .eq 27) 3 15 := ⟨by decide +kernel, rfl⟩
theorem eX8_isSize_15 : Dc MX8_isSize 15 (.iload_n 2) 1 16 := ⟨by decide +kernel, rfl⟩
theorem eX8_isSize_16 : Dc MX8_isSize 16 (.i2l) 1 17 := ⟨by decide +kernel, rfl⟩
theorem eX8_isSize_17 : Dc MX8_isSize 17 (.iconst 2) 1 18 := ⟨by decide +kernel, rfl⟩
theorem eX8_isSize_18 : Dc MX8_isSize 18 (.aload_n 0) 1 19 := ⟨by decide +kernel, rfl⟩
theorem eX8_isSize_19 : Dc MX8_isSize 19 (.getfield 41) 3 22 := ⟨by decide +kernel, rfl⟩
theorem eX8_isSize_22 : Dc MX8_isSize 22 (.iload_n 1) 1 23 := ⟨by decide +kernel, rfl⟩
theorem eX8_isSize_23 : Dc MX8_isSize 23 (.iaload) 1 24 := ⟨by decide +kernel, rfl⟩
theorem eX8_isSize_24 : Dc MX8_isSize 24 (.imul) 1 25 := ⟨by decide +kernel, rfl⟩
theorem eX8_isSize_25 : Dc MX8_isSize 25 (.i2l) 1 26 := ⟨by decide +kernel, rfl⟩
theorem eX8_isSize_26 : Dc MX8_isSize 26 (.iconst 2) 1 27 := ⟨by decide +kernel, rfl⟩
theorem eX8_isSize_27 : Dc MX8_isSize 27 (.aload_n 0) 1 28 := ⟨by decide +kernel, rfl⟩
theorem eX8_isSize_28 : Dc MX8_isSize 28 (.getfield 44) 3 31 := ⟨by decide +kernel, rfl⟩
theorem eX8_isSize_31 : Dc MX8_isSize 31 (.iload_n 1) 1 32 := ⟨by decide +kernel, rfl⟩
theorem eX8_isSize_32 : Dc MX8_isSize 32 (.iaload) 1 33 := ⟨by decide +kernel, rfl⟩
theorem eX8_isSize_33 : Dc MX8_isSize 33 (.imul) 1 34 := ⟨by decide +kernel, rfl⟩
theorem eX8_isSize_34 : Dc MX8_isSize 34 (.i2l) 1 35 := ⟨by decide +kernel, rfl⟩
theorem eX8_isSize_35 : Dc MX8_isSize 35 (.invokestatic 87) 3 38 := ⟨by decide +kernel, rfl⟩
theorem eX8_isSize_38 : Dc MX8_isSize 38 (.ireturn) 1 39 := ⟨by decide +kernel, rfl⟩
theorem eX8_isSize_39 : Dc MX8_isSize 39 (.iload_n 2) 1 40 := ⟨by decide +kernel, rfl⟩
theorem eX8_isSize_40 : Dc MX8_isSize 40 (.i2l) 1 41 := ⟨by decide +kernel, rfl⟩
theorem eX8_isSize_41 : Dc MX8_isSize 41 (.aload_n 0) 1 42 := ⟨by decide +kernel, rfl⟩
theorem eX8_isSize_42 : Dc MX8_isSize 42 (.getfield 41) 3 45 := ⟨by decide +kernel, rfl⟩
theorem eX8_isSize_45 : Dc MX8_isSize 45 (.iload_n 1) 1 46 := ⟨by decide +kernel, rfl⟩
theorem eX8_isSize_46 : Dc MX8_isSize 46 (.iaload) 1 47 := ⟨by decide +kernel, rfl⟩
theorem eX8_isSize_47 : Dc MX8_isSize 47 (.i2l) 1 48 := ⟨by decide +kernel, rfl⟩
theorem eX8_isSize_48 : Dc MX8_isSize 48 (.aload_n 0) 1 49 := ⟨by decide +kernel, rfl⟩
theorem eX8_isSize_49 : Dc MX8_isSize 49 (.getfield 44) 3 52 := ⟨by decide +kernel, rfl⟩
theorem eX8_isSize_52 : Dc MX8_isSize 52 (.iload_n 1) 1 53 := ⟨by decide +kernel, rfl⟩
theorem eX8_isSize_53 : Dc MX8_isSize 53 (.iaload) 1 54 := ⟨by decide +kernel, rfl⟩
theorem eX8_isSize_54 : Dc MX8_isSize 54 (.i2l) 1 55 := ⟨by decide +kernel, rfl⟩
theorem eX8_isSize_55 : Dc MX8_isSize 55 (.invokestatic 87) 3 58 := ⟨by decide +kernel, rfl⟩
theorem eX8_isSize_58 : Dc MX8_isSize 58 (.ifCond .eq 23) 3 61 := ⟨by decide +kernel, rfl⟩
theorem eX8_isSize_61 : Dc MX8_isSize 61 (.aload_n 0) 1 62 := ⟨by decide +kernel, rfl⟩
theorem eX8_isSize_62 : Dc MX8_isSize 62 (.getfield 38) 3 65 := ⟨by decide +kernel, rfl⟩
theorem eX8_isSize_65 : Dc MX8_isSize 65 (.iload_n 1) 1 66 := ⟨by decide +kernel, rfl⟩
theorem eX8_isSize_66 : Dc MX8_isSize 66 (.iaload) 1 67 := ⟨by decide +kernel, rfl⟩
theorem eX8_isSize_67 : Dc MX8_isSize 67 (.iconst 1) 1 68 := ⟨by decide +kernel, rfl⟩
theorem eX8_isSize_68 : Dc MX8_isSize 68 (.if_icmp .ne 9) 3 71 := ⟨by decide +kernel, rfl⟩
theorem eX8_isSize_71 : Dc MX8_isSize 71 (.iload_n 2) 1 72 := ⟨by decide +kernel, rfl⟩
theorem eX8_isSize_72 : Dc MX8_isSize 72 (.iconst 2) 1 73 := ⟨by decide +kernel, rfl⟩
theorem eX8_isSize_73 : Dc MX8_isSize 73 (.irem) 1 74 := ⟨by decide +kernel, rfl⟩
theorem eX8_isSize_74 : Dc MX8_isSize 74 (.ifCond .ne 7) 3 77 := ⟨by decide +kernel, rfl⟩
theorem eX8_isSize_77 : Dc MX8_isSize 77 (.iconst 1) 1 78 := ⟨by decide +kernel, rfl⟩
theorem eX8_isSize_78 : Dc MX8_isSize 78 (.goto 4) 3 81 := ⟨by decide +kernel, rfl⟩
theorem eX8_isSize_81 : Dc MX8_isSize 81 (.iconst 0) 1 82 := ⟨by decide +kernel, rfl⟩
theorem eX8_isSize_82 : Dc MX8_isSize 82 (.ireturn) 1 83 := ⟨by decide +kernel, rfl⟩
theorem eX8_hasSkills_0 : Dc MX8_hasSkills 0 (.iconst 0) 1 1 := ⟨by decide +kernel, rfl⟩
theorem eX8_hasSkills_1 : Dc MX8_hasSkills 1 (.istore 4) 2 3 := ⟨by decide +kernel, rfl⟩
theorem eX8_hasSkills_3 : Dc MX8_hasSkills 3 (.iload 4) 2 5 := ⟨by decide +kernel, rfl⟩
theorem eX8_hasSkills_5 : Dc MX8_hasSkills 5 (.bipush 8) 2 7 := ⟨by decide +kernel, rfl⟩
theorem eX8_hasSkills_7 : Dc MX8_hasSkills 7 (.if_icmp .ge 104) 3 10 := ⟨by decide +kernel, rfl⟩
theorem eX8_hasSkills_10 : Dc MX8_hasSkills 10 (.iload_n 3) 1 11 := ⟨by decide +kernel, rfl⟩
theorem eX8_hasSkills_11 : Dc MX8_hasSkills 11 (.ifCond .le 100) 3 14 := ⟨by decide +kernel, rfl⟩
theorem eX8_hasSkills_14 : Dc MX8_hasSkills 14 (.iconst 0) 1 15 := ⟨by decide +kernel, rfl⟩
theorem eX8_hasSkills_15 : Dc MX8_hasSkills 15 (.istore 5) 2 17 := ⟨by decide +kernel, rfl⟩
theorem eX8_hasSkills_17 : Dc MX8_hasSkills 17 (.iconst 0) 1 18 := ⟨by decide +kernel, rfl⟩
theorem eX8_hasSkills_18 : Dc MX8_hasSkills 18 (.istore 6) 2 20 := ⟨by decide +kernel, rfl⟩
theorem eX8_hasSkills_20 : Dc MX8_hasSkills 20 (.iload 6) 2 22 := ⟨by decide +kernel, rfl⟩
theorem eX8_hasSkills_22 : Dc MX8_hasSkills 22 (.aload_n 0) 1 23 := ⟨by decide +kernel, rfl⟩
theorem eX8_hasSkills_23 : Dc MX8_hasSkills 23 (.getfield 84) 3 26 := ⟨by decide +kernel, rfl⟩
theorem eX8_hasSkills_26 : Dc MX8_hasSkills 26 (.if_icmp .ge 43) 3 29 := ⟨by decide +kernel, rfl⟩
theorem eX8_hasSkills_29 : Dc MX8_hasSkills 29 (.iload 5) 2 31 := ⟨by decide +kernel, rfl⟩
theorem eX8_hasSkills_31 : Dc MX8_hasSkills 31 (.aload_n 1) 1 32 := ⟨by decide +kernel, rfl⟩
theorem eX8_hasSkills_32 : Dc MX8_hasSkills 32 (.iload 6) 2 34 := ⟨by decide +kernel, rfl⟩
theorem eX8_hasSkills_34 : Dc MX8_hasSkills 34 (.iaload) 1 35 := ⟨by decide +kernel, rfl⟩
theorem eX8_hasSkills_35 : Dc MX8_hasSkills 35 (.iload_n 2) 1 36 := ⟨by decide +kernel, rfl⟩
theorem eX8_hasSkills_36 : Dc MX8_hasSkills 36 (.if_icmp .ne 23) 3 39 := ⟨by decide +kernel, rfl⟩
theorem eX8_hasSkills_39 : Dc MX8_hasSkills 39 (.aload_n 0) 1 40 := ⟨by decide +kernel, rfl⟩
theorem eX8_hasSkills_40 : Dc MX8_hasSkills 40 (.getfield 9) 3 43 := ⟨by decide +kernel, rfl⟩
theorem eX8_hasSkills_43 : Dc MX8_hasSkills 43 (.iload 6) 2 45 := ⟨by decide +kernel, rfl⟩
theorem eX8_hasSkills_45 : Dc MX8_hasSkills 45 (.iaload) 1 46 := ⟨by decide +kernel, rfl⟩
theorem eX8_hasSkills_46 : Dc MX8_hasSkills 46 (.iload 4) 2 48 := ⟨by decide +kernel, rfl⟩
theorem eX8_hasSkills_48 : Dc MX8_hasSkills 48 (.ishr) 1 49 := ⟨by decide +kernel, rfl⟩
theorem eX8_hasSkills_49 : Dc MX8_hasSkills 49 (.iconst 1) 1 50 := ⟨by decide +kernel, rfl⟩
theorem eX8_hasSkills_50 : Dc MX8_hasSkills 50 (.iand) 1 51 := ⟨by decide +kernel, rfl⟩
theorem eX8_hasSkills_51 : Dc MX8_hasSkills 51 (.iconst 1) 1 52 := ⟨by decide +kernel, rfl⟩
theorem eX8_hasSkills_52 : Dc MX8_hasSkills 52 (.if_icmp .ne 7) 3 55 := ⟨by decide +kernel, rfl⟩
theorem eX8_hasSkills_55 : Dc MX8_hasSkills 55 (.iconst 1) 1 56 := ⟨by decide +kernel, rfl⟩
theorem eX8_hasSkills_56 : Dc MX8_hasSkills 56 (.goto 4) 3 59 := ⟨by decide +kernel, rfl⟩
theorem eX8_hasSkills_59 : Dc MX8_hasSkills 59 (.iconst 0) 1 60 := ⟨by decide +kernel, rfl⟩
theorem eX8_hasSkills_60 : Dc MX8_hasSkills 60 (.iadd) 1 61 := ⟨by decide +kernel, rfl⟩
theorem eX8_hasSkills_61 : Dc MX8_hasSkills 61 (.istore 5) 2 63 := ⟨by decide +kernel, rfl⟩
theorem eX8_hasSkills_63 : Dc MX8_hasSkills 63 (.iinc 6 1) 3 66 := ⟨by decide +kernel, rfl⟩
theorem eX8_hasSkills_66 : Dc MX8_hasSkills 66 (.goto (-46)) 3 69 := ⟨by decide +kernel, rfl⟩
theorem eX8_hasSkills_69 : Dc MX8_hasSkills 69 (.aload_n 0) 1 70 := ⟨by decide +kernel, rfl⟩
theorem eX8_hasSkills_70 : Dc MX8_hasSkills 70 (.getfield 47) 3 73 := ⟨by decide +kernel, rfl⟩
theorem eX8_hasSkills_73 : Dc MX8_hasSkills 73 (.iload_n 2) 1 74 := ⟨by decide +kernel, rfl⟩
theorem eX8_hasSkills_74 : Dc MX8_hasSkills 74 (.iaload) 1 75 := ⟨by decide +kernel, rfl⟩
theorem eX8_hasSkills_75 : Dc MX8_hasSkills 75 (.iload 4) 2 77 := ⟨by decide +kernel, rfl⟩
theorem eX8_hasSkills_77 : Dc MX8_hasSkills 77 (.ishr) 1 78 := ⟨by decide +kernel, rfl⟩
theorem eX8_hasSkills_78 : Dc MX8_hasSkills 78 (.iconst 1) 1 79 := ⟨by decide +kernel, rfl⟩
theorem eX8_hasSkills_79 : Dc MX8_hasSkills 79 (.iand) 1 80 := ⟨by decide +kernel, rfl⟩
theorem eX8_hasSkills_80 : Dc MX8_hasSkills 80 (.iconst 1) 1 81 := ⟨by decide +kernel, rfl⟩
theorem eX8_hasSkills_81 : Dc MX8_hasSkills 81 (.if_icmp .ne 24) 3 84 := ⟨by decide +kernel, rfl⟩
theorem eX8_hasSkills_84 : Dc MX8_hasSkills 84 (.iload 5) 2 86 := ⟨by decide +kernel, rfl⟩
theorem eX8_hasSkills_86 : Dc MX8_hasSkills 86 (.aload_n 0) 1 87 := ⟨by decide +kernel, rfl⟩
theorem eX8_hasSkills_87 : Dc MX8_hasSkills 87 (.iload_n 2) 1 88 := ⟨by decide +kernel, rfl⟩
theorem eX8_hasSkills_88 : Dc MX8_hasSkills 88 (.iload_n 3) 1 89 := ⟨by decide +kernel, rfl⟩
theorem eX8_hasSkills_89 : Dc MX8_hasSkills 89 (.invokevirtual 140) 3 92 := ⟨by decide +kernel, rfl⟩
theorem eX8_hasSkills_92 : Dc MX8_hasSkills 92 (.ifCond .eq 7) 3 95 := ⟨by decide +kernel, rfl⟩
theorem eX8_hasSkills_95 : Dc MX8_hasSkills 95 (.iconst 2) 1 96 := ⟨by decide +kernel, rfl⟩
theorem eX8_hasSkills_96 : Dc MX8_hasSkills 96 (.goto 4) 3 99 := ⟨by decide +kernel, rfl⟩
theorem eX8_hasSkills_99 : Dc MX8_hasSkills 99 (.iconst 1) 1 100 := ⟨by decide +kernel, rfl⟩
theorem eX8_hasSkills_100 : Dc MX8_hasSkills 100 (.if_icmp .ge 5) 3 103 := ⟨by decide +kernel, rfl⟩
theorem eX8_hasSkills_103 : Dc MX8_hasSkills 103 (.iconst 0) 1 104 := ⟨by decide +kernel, rfl⟩
theorem eX8_hasSkills_104 : Dc MX8_hasSkills 104 (.ireturn) 1 105 := ⟨by decide +kernel, rfl⟩
theorem eX8_hasSkills_105 : Dc MX8_hasSkills 105 (.iinc 4 1) 3 108 := ⟨by decide +kernel, rfl⟩
theorem eX8_hasSkills_108 : Dc MX8_hasSkills 108 (.goto (-105)) 3 111 := ⟨by decide +kernel, rfl⟩
theorem eX8_hasSkills_111 : Dc MX8_hasSkills 111 (.iconst 1) 1 112 := ⟨by decide +kernel, rfl⟩
theorem eX8_hasSkills_112 : Dc MX8_hasSkills 112 (.ireturn) 1 113 := ⟨by decide +kernel, rfl⟩
theorem eX8_isLed_0 : Dc MX8_isLed 0 (.aload_n 0) 1 1 := ⟨by decide +kernel, rfl⟩
theorem eX8_isLed_1 : Dc MX8_isLed 1 (.getfield 38) 3 4 := ⟨by decide +kernel, rfl⟩
theorem eX8_isLed_4 : Dc MX8_isLed 4 (.iload_n 2) 1 5 := ⟨by decide +kernel, rfl⟩
theorem eX8_isLed_5 : Dc MX8_isLed 5 (.iaload) 1 6 := ⟨by decide +kernel, rfl⟩
theorem eX8_isLed_6 : Dc MX8_isLed 6 (.iconst 3) 1 7 := ⟨by decide +kernel, rfl⟩
theorem eX8_isLed_7 : Dc MX8_isLed 7 (.if_icmp .ne 19) 3 10 := ⟨by decide +kernel, rfl⟩
theorem eX8_isLed_10 : Dc MX8_isLed 10 (.iload_n 3) 1 11 := ⟨by decide +kernel, rfl⟩
theorem eX8_isLed_11 : Dc MX8_isLed 11 (.ifCond .eq 15) 3 14 := ⟨by decide +kernel, rfl⟩
theorem eX8_isLed_14 : Dc MX8_isLed 14 (.aload_n 1) 1 15 := ⟨by decide +kernel, rfl⟩
theorem eX8_isLed_15 : Dc MX8_isLed 15 (.aload_n 0) 1 16 := ⟨by decide +kernel, rfl⟩
theorem eX8_isLed_16 : Dc MX8_isLed 16 (.getfield 50) 3 19 := ⟨by decide +kernel, rfl⟩
theorem eX8_isLed_19 : Dc MX8_isLed 19 (.iload_n 2) 1 20 := ⟨by decide +kernel, rfl⟩
theorem eX8_isLed_20 : Dc MX8_isLed 20 (.iaload) 1 21 := ⟨by decide +kernel, rfl⟩
theorem eX8_isLed_21 : Dc MX8_isLed 21 (.iaload) 1 22 := ⟨by decide +kernel, rfl⟩
theorem eX8_isLed_22 : Dc MX8_isLed 22 (.iload_n 2) 1 23 := ⟨by decide +kernel, rfl⟩
theorem eX8_isLed_23 : Dc MX8_isLed 23 (.if_icmp .ne 7) 3 26 := ⟨by decide +kernel, rfl⟩
theorem eX8_isLed_26 : Dc MX8_isLed 26 (.iconst 1) 1 27 := ⟨by decide +kernel, rfl⟩
theorem eX8_isLed_27 : Dc MX8_isLed 27 (.goto 4) 3 30 := ⟨by decide +kernel, rfl⟩
theorem eX8_isLed_30 : Dc MX8_isLed 30 (.iconst 0) 1 31 := ⟨by decide +kernel, rfl⟩
theorem eX8_isLed_31 : Dc MX8_isLed 31 (.ireturn) 1 32 := ⟨by decide +kernel, rfl⟩
theorem eX8_wrongOf_0 : Dc MX8_wrongOf 0 (.iconst 0) 1 1 := ⟨by decide +kernel, rfl⟩
theorem eX8_wrongOf_1 : Dc MX8_wrongOf 1 (.istore_n 2) 1 2 := ⟨by decide +kernel, rfl⟩
theorem eX8_wrongOf_2 : Dc MX8_wrongOf 2 (.iload_n 2) 1 3 := ⟨by decide +kernel, rfl⟩
theorem eX8_wrongOf_3 : Dc MX8_wrongOf 3 (.aload_n 0) 1 4 := ⟨by decide +kernel, rfl⟩
theorem eX8_wrongOf_4 : Dc MX8_wrongOf 4 (.getfield 84) 3 7 := ⟨by decide +kernel, rfl⟩
theorem eX8_wrongOf_7 : Dc MX8_wrongOf 7 (.if_icmp .ge 29) 3 10 := ⟨by decide +kernel, rfl⟩
theorem eX8_wrongOf_10 : Dc MX8_wrongOf 10 (.aload_n 0) 1 11 := ⟨by decide +kernel, rfl⟩
theorem eX8_wrongOf_11 : Dc MX8_wrongOf 11 (.getfield 13) 3 14 := ⟨by decide +kernel, rfl⟩
theorem eX8_wrongOf_14 : Dc MX8_wrongOf 14 (.iload_n 2) 1 15 := ⟨by decide +kernel, rfl⟩
theorem eX8_wrongOf_15 : Dc MX8_wrongOf 15 (.baload) 1 16 := ⟨by decide +kernel, rfl⟩
theorem eX8_wrongOf_16 : Dc MX8_wrongOf 16 (.ifCond .eq 14) 3 19 := ⟨by decide +kernel, rfl⟩
theorem eX8_wrongOf_19 : Dc MX8_wrongOf 19 (.aload_n 1) 1 20 := ⟨by decide +kernel, rfl⟩
theorem eX8_wrongOf_20 : Dc MX8_wrongOf 20 (.iload_n 2) 1 21 := ⟨by decide +kernel, rfl⟩
theorem eX8_wrongOf_21 : Dc MX8_wrongOf 21 (.iaload) 1 22 := ⟨by decide +kernel, rfl⟩
theorem eX8_wrongOf_22 : Dc MX8_wrongOf 22 (.ifCond .ge 8) 3 25 := ⟨by decide +kernel, rfl⟩
theorem eX8_wrongOf_25 : Dc MX8_wrongOf 25 (.bipush 10) 2 27 := ⟨by decide +kernel, rfl⟩
theorem eX8_wrongOf_27 : Dc MX8_wrongOf 27 (.iload_n 2) 1 28 := ⟨by decide +kernel, rfl⟩
theorem eX8_wrongOf_28 : Dc MX8_wrongOf 28 (.iadd) 1 29 := ⟨by decide +kernel, rfl⟩
theorem eX8_wrongOf_29 : Dc MX8_wrongOf 29 (.ireturn) 1 30 := ⟨by decide +kernel, rfl⟩
theorem eX8_wrongOf_30 : Dc MX8_wrongOf 30 (.iinc 2 1) 3 33 := ⟨by decide +kernel, rfl⟩
theorem eX8_wrongOf_33 : Dc MX8_wrongOf 33 (.goto (-31)) 3 36 := ⟨by decide +kernel, rfl⟩
theorem eX8_wrongOf_36 : Dc MX8_wrongOf 36 (.iconst 0) 1 37 := ⟨by decide +kernel, rfl⟩
theorem eX8_wrongOf_37 : Dc MX8_wrongOf 37 (.istore_n 2) 1 38 := ⟨by decide +kernel, rfl⟩
theorem eX8_wrongOf_38 : Dc MX8_wrongOf 38 (.iload_n 2) 1 39 := ⟨by decide +kernel, rfl⟩
theorem eX8_wrongOf_39 : Dc MX8_wrongOf 39 (.aload_n 0) 1 40 := ⟨by decide +kernel, rfl⟩
theorem eX8_wrongOf_40 : Dc MX8_wrongOf 40 (.getfield 84) 3 43 := ⟨by decide +kernel, rfl⟩
theorem eX8_wrongOf_43 : Dc MX8_wrongOf 43 (.if_icmp .ge 29) 3 46 := ⟨by decide +kernel, rfl⟩
theorem eX8_wrongOf_46 : Dc MX8_wrongOf 46 (.aload_n 0) 1 47 := ⟨by decide +kernel, rfl⟩
theorem eX8_wrongOf_47 : Dc MX8_wrongOf 47 (.getfield 13) 3 50 := ⟨by decide +kernel, rfl⟩
theorem eX8_wrongOf_50 : Dc MX8_wrongOf 50 (.iload_n 2) 1 51 := ⟨by decide +kernel, rfl⟩
theorem eX8_wrongOf_51 : Dc MX8_wrongOf 51 (.baload) 1 52 := ⟨by decide +kernel, rfl⟩
theorem eX8_wrongOf_52 : Dc MX8_wrongOf 52 (.ifCond .ne 14) 3 55 := ⟨by decide +kernel, rfl⟩
theorem eX8_wrongOf_55 : Dc MX8_wrongOf 55 (.aload_n 1) 1 56 := ⟨by decide +kernel, rfl⟩
theorem eX8_wrongOf_56 : Dc MX8_wrongOf 56 (.iload_n 2) 1 57 := ⟨by decide +kernel, rfl⟩
theorem eX8_wrongOf_57 : Dc MX8_wrongOf 57 (.iaload) 1 58 := ⟨by decide +kernel, rfl⟩
theorem eX8_wrongOf_58 : Dc MX8_wrongOf 58 (.ifCond .lt 8) 3 61 := ⟨by decide +kernel, rfl⟩
theorem eX8_wrongOf_61 : Dc MX8_wrongOf 61 (.bipush 20) 2 63 := ⟨by decide +kernel, rfl⟩
theorem eX8_wrongOf_63 : Dc MX8_wrongOf 63 (.iload_n 2) 1 64 := ⟨by decide +kernel, rfl⟩
theorem eX8_wrongOf_64 : Dc MX8_wrongOf 64 (.iadd) 1 65 := ⟨by decide +kernel, rfl⟩
theorem eX8_wrongOf_65 : Dc MX8_wrongOf 65 (.ireturn) 1 66 := ⟨by decide +kernel, rfl⟩
theorem eX8_wrongOf_66 : Dc MX8_wrongOf 66 (.iinc 2 1) 3 69 := ⟨by decide +kernel, rfl⟩
theorem eX8_wrongOf_69 : Dc MX8_wrongOf 69 (.goto (-31)) 3 72 := ⟨by decide +kernel, rfl⟩
theorem eX8_wrongOf_72 : Dc MX8_wrongOf 72 (.iconst 3) 1 73 := ⟨by decide +kernel, rfl⟩
theorem eX8_wrongOf_73 : Dc MX8_wrongOf 73 (.istore_n 2) 1 74 := ⟨by decide +kernel, rfl⟩
theorem eX8_wrongOf_74 : Dc MX8_wrongOf 74 (.iload_n 2) 1 75 := ⟨by decide +kernel, rfl⟩
theorem eX8_wrongOf_75 : Dc MX8_wrongOf 75 (.bipush 6) 2 77 := ⟨by decide +kernel, rfl⟩
theorem eX8_wrongOf_77 : Dc MX8_wrongOf 77 (.if_icmp .gt 116) 3 80 := ⟨by decide +kernel, rfl⟩
theorem eX8_wrongOf_80 : Dc MX8_wrongOf 80 (.iconst 0) 1 81 := ⟨by decide +kernel, rfl⟩
theorem eX8_wrongOf_81 : Dc MX8_wrongOf 81 (.istore_n 3) 1 82 := ⟨by decide +kernel, rfl⟩
theorem eX8_wrongOf_82 : Dc MX8_wrongOf 82 (.iload_n 3) 1 83 := ⟨by decide +kernel, rfl⟩
theorem eX8_wrongOf_83 : Dc MX8_wrongOf 83 (.aload_n 0) 1 84 := ⟨by decide +kernel, rfl⟩
theorem eX8_wrongOf_84 : Dc MX8_wrongOf 84 (.getfield 91) 3 87 := ⟨by decide +kernel, rfl⟩
theorem eX8_wrongOf_87 : Dc MX8_wrongOf 87 (.if_icmp .ge 100) 3 90 := ⟨by decide +kernel, rfl⟩
theorem eX8_wrongOf_90 : Dc MX8_wrongOf 90 (.aload_n 1) 1 91 := ⟨by decide +kernel, rfl⟩
theorem eX8_wrongOf_91 : Dc MX8_wrongOf 91 (.iload_n 3) 1 92 := ⟨by decide +kernel, rfl⟩
theorem eX8_wrongOf_92 : Dc MX8_wrongOf 92 (.aload_n 0) 1 93 := ⟨by decide +kernel, rfl⟩
theorem eX8_wrongOf_93 : Dc MX8_wrongOf 93 (.getfield 84) 3 96 := ⟨by decide +kernel, rfl⟩
theorem eX8_wrongOf_96 : Dc MX8_wrongOf 96 (.invokestatic 143) 3 99 := ⟨by decide +kernel, rfl⟩
theorem eX8_wrongOf_99 : Dc MX8_wrongOf 99 (.istore 4) 2 101 := ⟨by decide +kernel, rfl⟩
theorem eX8_wrongOf_101 : Dc MX8_wrongOf 101 (.iload_n 2) 1 102 := ⟨by decide +kernel, rfl⟩
theorem eX8_wrongOf_102 : Dc MX8_wrongOf 102 (.iconst 3) 1 103 := ⟨by decide +kernel, rfl⟩
theorem eX8_wrongOf_103 : Dc MX8_wrongOf 103 (.if_icmp .ne 25) 3 106 := ⟨by decide +kernel, rfl⟩
theorem eX8_wrongOf_106 : Dc MX8_wrongOf 106 (.aload_n 0) 1 107 := ⟨by decide +kernel, rfl⟩
theorem eX8_wrongOf_107 : Dc MX8_wrongOf 107 (.getfield 53) 3 110 := ⟨by decide +kernel, rfl⟩
theorem eX8_wrongOf_110 : Dc MX8_wrongOf 110 (.iload_n 3) 1 111 := ⟨by decide +kernel, rfl⟩
theorem eX8_wrongOf_111 : Dc MX8_wrongOf 111 (.baload) 1 112 := ⟨by decide +kernel, rfl⟩
theorem eX8_wrongOf_112 : Dc MX8_wrongOf 112 (.ifCond .ne 8) 3 115 := ⟨by decide +kernel, rfl⟩
theorem eX8_wrongOf_115 : Dc MX8_wrongOf 115 (.iload 4) 2 117 := ⟨by decide +kernel, rfl⟩
theorem eX8_wrongOf_117 : Dc MX8_wrongOf 117 (.ifCond .ne 7) 3 120 := ⟨by decide +kernel, rfl⟩
theorem eX8_wrongOf_120 : Dc MX8_wrongOf 120 (.iconst 1) 1 121 := ⟨by decide +kernel, rfl⟩
theorem eX8_wrongOf_121 : Dc MX8_wrongOf 121 (.goto 46) 3 124 := ⟨by decide +kernel, rfl⟩
theorem eX8_wrongOf_124 : Dc MX8_wrongOf 124 (.iconst 0) 1 125 := ⟨by decide +kernel, rfl⟩
theorem eX8_wrongOf_125 : Dc MX8_wrongOf 125 (.goto 42) 3 128 := ⟨by decide +kernel, rfl⟩
theorem eX8_wrongOf_128 : Dc MX8_wrongOf 128 (.iload_n 2) 1 129 := ⟨by decide +kernel, rfl⟩
theorem eX8_wrongOf_129 : Dc MX8_wrongOf 129 (.iconst 4) 1 130 := ⟨by decide +kernel, rfl⟩
theorem eX8_wrongOf_130 : Dc MX8_wrongOf 130 (.if_icmp .ne 13) 3 133 := ⟨by decide +kernel, rfl⟩
theorem eX8_wrongOf_133 : Dc MX8_wrongOf 133 (.aload_n 0) 1 134 := ⟨by decide +kernel, rfl⟩
theorem eX8_wrongOf_134 : Dc MX8_wrongOf 134 (.iload_n 3) 1 135 := ⟨by decide +kernel, rfl⟩
theorem eX8_wrongOf_135 : Dc MX8_wrongOf 135 (.iload 4) 2 137 := ⟨by decide +kernel, rfl⟩
theorem eX8_wrongOf_137 : Dc MX8_wrongOf 137 (.invokevirtual 147) 3 140 := ⟨by decide +kernel, rfl⟩
theorem eX8_wrongOf_140 : Dc MX8_wrongOf 140 (.goto 27) 3 143 := ⟨by decide +kernel, rfl⟩
theorem eX8_wrongOf_143 : Dc MX8_wrongOf 143 (.iload_n 2) 1 144 := ⟨by decide +kernel, rfl⟩
theorem eX8_wrongOf_144 : Dc MX8_wrongOf 144 (.iconst 5) 1 145 := ⟨by decide +kernel, rfl⟩
theorem eX8_wrongOf_145 : Dc MX8_wrongOf 145 (.if_icmp .ne 14) 3 148 := ⟨by decide +kernel, rfl⟩
theorem eX8_wrongOf_148 : Dc MX8_wrongOf 148 (.aload_n 0) 1 149 := ⟨by decide +kernel, rfl⟩
theorem eX8_wrongOf_149 : Dc MX8_wrongOf 149 (.aload_n 1) 1 150 := ⟨by decide +kernel, rfl⟩
theorem eX8_wrongOf_150 : Dc MX8_wrongOf 150 (.iload_n 3) 1 151 := ⟨by decide +kernel, rfl⟩
theorem eX8_wrongOf_151 : Dc MX8_wrongOf 151 (.iload 4) 2 153 := ⟨by decide +kernel, rfl⟩
theorem eX8_wrongOf_153 : Dc MX8_wrongOf 153 (.invokevirtual 150) 3 156 := ⟨by decide +kernel, rfl⟩
theorem eX8_wrongOf_156 : Dc MX8_wrongOf 156 (.goto 11) 3 159 := ⟨by decide +kernel, rfl⟩
theorem eX8_wrongOf_159 : Dc MX8_wrongOf 159 (.aload_n 0) 1 160 := ⟨by decide +kernel, rfl⟩
theorem eX8_wrongOf_160 : Dc MX8_wrongOf 160 (.aload_n 1) 1 161 := ⟨by decide +kernel, rfl⟩
theorem eX8_wrongOf_161 : Dc MX8_wrongOf 161 (.iload_n 3) 1 162 := ⟨by decide +kernel, rfl⟩
theorem eX8_wrongOf_162 : Dc MX8_wrongOf 162 (.iload 4) 2 164 := ⟨by decide +kernel, rfl⟩
theorem eX8_wrongOf_164 : Dc MX8_wrongOf 164 (.invokevirtual 154) 3 167 := ⟨by decide +kernel, rfl⟩
theorem eX8_wrongOf_167 : Dc MX8_wrongOf 167 (.istore 5) 2 169 := ⟨by decide +kernel, rfl⟩
theorem eX8_wrongOf_169 : Dc MX8_wrongOf 169 (.iload 5) 2 171 := ⟨by decide +kernel, rfl⟩
theorem eX8_wrongOf_171 : Dc MX8_wrongOf 171 (.ifCond .ne 10) 3 174 := ⟨by decide +kernel, rfl⟩
theorem eX8_wrongOf_174 : Dc MX8_wrongOf 174 (.bipush 10) 2 176 := ⟨by decide +kernel, rfl⟩
theorem eX8_wrongOf_176 : Dc MX8_wrongOf 176 (.iload_n 2) 1 177 := ⟨by decide +kernel, rfl⟩
theorem eX8_wrongOf_177 : Dc MX8_wrongOf 177 (.imul) 1 178 := ⟨by decide +kernel, rfl⟩
theorem eX8_wrongOf_178 : Dc MX8_wrongOf 178 (.iload_n 3) 1 179 := ⟨by decide +kernel, rfl⟩
theorem eX8_wrongOf_179 : Dc MX8_wrongOf 179 (.iadd) 1 180 := ⟨by decide +kernel, rfl⟩
theorem eX8_wrongOf_180 : Dc MX8_wrongOf 180 (.ireturn) 1 181 := ⟨by decide +kernel, rfl⟩
theorem eX8_wrongOf_181 : Dc MX8_wrongOf 181 (.iinc 3 1) 3 184 := ⟨by decide +kernel, rfl⟩
theorem eX8_wrongOf_184 : Dc MX8_wrongOf 184 (.goto (-102)) 3 187 := ⟨by decide +kernel, rfl⟩
theorem eX8_wrongOf_187 : Dc MX8_wrongOf 187 (.iinc 2 1) 3 190 := ⟨by decide +kernel, rfl⟩
theorem eX8_wrongOf_190 : Dc MX8_wrongOf 190 (.goto (-116)) 3 193 := ⟨by decide +kernel, rfl⟩
theorem eX8_wrongOf_193 : Dc MX8_wrongOf 193 (.iconst 0) 1 194 := ⟨by decide +kernel, rfl⟩
theorem eX8_wrongOf_194 : Dc MX8_wrongOf 194 (.istore_n 2) 1 195 := ⟨by decide +kernel, rfl⟩
theorem eX8_wrongOf_195 : Dc MX8_wrongOf 195 (.iload_n 2) 1 196 := ⟨by decide +kernel, rfl⟩
theorem eX8_wrongOf_196 : Dc MX8_wrongOf 196 (.aload_n 0) 1 197 := ⟨by decide +kernel, rfl⟩
theorem eX8_wrongOf_197 : Dc MX8_wrongOf 197 (.getfield 84) 3 200 := ⟨by decide +kernel, rfl⟩
theorem eX8_wrongOf_200 : Dc MX8_wrongOf 200 (.if_icmp .ge 61) 3 203 := ⟨by decide +kernel, rfl⟩
theorem eX8_wrongOf_203 : Dc MX8_wrongOf 203 (.iload_n 2) 1 204 := ⟨by decide +kernel, rfl⟩
theorem eX8_wrongOf_204 : Dc MX8_wrongOf 204 (.iconst 1) 1 205 := ⟨by decide +kernel, rfl⟩
theorem eX8_wrongOf_205 : Dc MX8_wrongOf 205 (.iadd) 1 206 := ⟨by decide +kernel, rfl⟩
theorem eX8_wrongOf_206 : Dc MX8_wrongOf 206 (.istore_n 3) 1 207 := ⟨by decide +kernel, rfl⟩
theorem eX8_wrongOf_207 : Dc MX8_wrongOf 207 (.iload_n 3) 1 208 := ⟨by decide +kernel, rfl⟩
theorem eX8_wrongOf_208 : Dc MX8_wrongOf 208 (.aload_n 0) 1 209 := ⟨by decide +kernel, rfl⟩
theorem eX8_wrongOf_209 : Dc MX8_wrongOf 209 (.getfield 84) 3 212 := ⟨by decide +kernel, rfl⟩
theorem eX8_wrongOf_212 : Dc MX8_wrongOf 212 (.if_icmp .ge 43) 3 215 := ⟨by decide +kernel, rfl⟩
theorem eX8_wrongOf_215 : Dc MX8_wrongOf 215 (.aload_n 0) 1 216 := ⟨by decide +kernel, rfl⟩
theorem eX8_wrongOf_216 : Dc MX8_wrongOf 216 (.getfield 32) 3 219 := ⟨by decide +kernel, rfl⟩
theorem eX8_wrongOf_219 : Dc MX8_wrongOf 219 (.bipush 8) 2 221 := ⟨by decide +kernel, rfl⟩
theorem eX8_wrongOf_221 : Dc MX8_wrongOf 221 (.iload_n 2) 1 222 := ⟨by decide +kernel, rfl⟩
theorem eX8_wrongOf_222 : Dc MX8_wrongOf 222 (.imul) 1 223 := ⟨by decide +kernel, rfl⟩
theorem eX8_wrongOf_223 : Dc MX8_wrongOf 223 (.iload_n 3) 1 224 := ⟨by decide +kernel, rfl⟩
theorem eX8_wrongOf_224 : Dc MX8_wrongOf 224 (.iadd) 1 225 := ⟨by decide +kernel, rfl⟩
theorem eX8_wrongOf_225 : Dc MX8_wrongOf 225 (.baload) 1 226 := ⟨by decide +kernel, rfl⟩
theorem eX8_wrongOf_226 : Dc MX8_wrongOf 226 (.ifCond .eq 23) 3 229 := ⟨by decide +kernel, rfl⟩
theorem eX8_wrongOf_229 : Dc MX8_wrongOf 229 (.aload_n 1) 1 230 := ⟨by decide +kernel, rfl⟩
theorem eX8_wrongOf_230 : Dc MX8_wrongOf 230 (.iload_n 2) 1 231 := ⟨by decide +kernel, rfl⟩
theorem eX8_wrongOf_231 : Dc MX8_wrongOf 231 (.iaload) 1 232 := ⟨by decide +kernel, rfl⟩
theorem eX8_wrongOf_232 : Dc MX8_wrongOf 232 (.ifCond .lt 17) 3 235 := ⟨by decide +kernel, rfl⟩
theorem eX8_wrongOf_235 : Dc MX8_wrongOf 235 (.aload_n 1) 1 236 := ⟨by decide +kernel, rfl⟩
theorem eX8_wrongOf_236 : Dc MX8_wrongOf 236 (.iload_n 2) 1 237 := ⟨by decide +kernel, rfl⟩
theorem eX8_wrongOf_237 : Dc MX8_wrongOf 237 (.iaload) 1 238 := ⟨by decide +kernel, rfl⟩
theorem eX8_wrongOf_238 : Dc MX8_wrongOf 238 (.aload_n 1) 1 239 := ⟨by decide +kernel, rfl⟩
theorem eX8_wrongOf_239 : Dc MX8_wrongOf 239 (.iload_n 3) 1 240 := ⟨by decide +kernel, rfl⟩
theorem eX8_wrongOf_240 : Dc MX8_wrongOf 240 (.iaload) 1 241 := ⟨by decide +kernel, rfl⟩
theorem eX8_wrongOf_241 : Dc MX8_wrongOf 241 (.if_icmp .ne 8) 3 244 := ⟨by decide +kernel, rfl⟩
theorem eX8_wrongOf_244 : Dc MX8_wrongOf 244 (.bipush 70) 2 246 := ⟨by decide +kernel, rfl⟩
theorem eX8_wrongOf_246 : Dc MX8_wrongOf 246 (.iload_n 2) 1 247 := ⟨by decide +kernel, rfl⟩
theorem eX8_wrongOf_247 : Dc MX8_wrongOf 247 (.iadd) 1 248 := ⟨by decide +kernel, rfl⟩
theorem eX8_wrongOf_248 : Dc MX8_wrongOf 248 (.ireturn) 1 249 := ⟨by decide +kernel, rfl⟩
theorem eX8_wrongOf_249 : Dc MX8_wrongOf 249 (.iinc 3 1) 3 252 := ⟨by decide +kernel, rfl⟩
theorem eX8_wrongOf_252 : Dc MX8_wrongOf 252 (.goto (-45)) 3 255 := ⟨by decide +kernel, rfl⟩
theorem eX8_wrongOf_255 : Dc MX8_wrongOf 255 (.iinc 2 1) 3 258 := ⟨by decide +kernel, rfl⟩
theorem eX8_wrongOf_258 : Dc MX8_wrongOf 258 (.goto (-63)) 3 261 := ⟨by decide +kernel, rfl⟩
theorem eX8_wrongOf_261 : Dc MX8_wrongOf 261 (.iconst 0) 1 262 := ⟨by decide +kernel, rfl⟩
theorem eX8_wrongOf_262 : Dc MX8_wrongOf 262 (.ireturn) 1 263 := ⟨by decide +kernel, rfl⟩
theorem eX8_wrong_0 : Dc MX8_wrong 0 (.aload_n 0) 1 1 := ⟨by decide +kernel, rfl⟩
theorem eX8_wrong_1 : Dc MX8_wrong 1 (.iconst 0) 1 2 := ⟨by decide +kernel, rfl⟩
theorem eX8_wrong_2 : Dc MX8_wrong 2 (.putfield 80) 3 5 := ⟨by decide +kernel, rfl⟩
theorem eX8_wrong_5 : Dc MX8_wrong 5 (.aload_n 0) 1 6 := ⟨by decide +kernel, rfl⟩
theorem eX8_wrong_6 : Dc MX8_wrong 6 (.aload_n 0) 1 7 := ⟨by decide +kernel, rfl⟩
theorem eX8_wrong_7 : Dc MX8_wrong 7 (.getfield 26) 3 10 := ⟨by decide +kernel, rfl⟩
theorem eX8_wrong_10 : Dc MX8_wrong 10 (.invokevirtual 157) 3 13 := ⟨by decide +kernel, rfl⟩
theorem eX8_wrong_13 : Dc MX8_wrong 13 (.ireturn) 1 14 := ⟨by decide +kernel, rfl⟩
theorem eX8_nines_0 : Dc MX8_nines 0 (.iconst 1) 1 1 := ⟨by decide +kernel, rfl⟩
theorem eX8_nines_1 : Dc MX8_nines 1 (.istore_n 1) 1 2 := ⟨by decide +kernel, rfl⟩
theorem eX8_nines_2 : Dc MX8_nines 2 (.iconst 2) 1 3 := ⟨by decide +kernel, rfl⟩
theorem eX8_nines_3 : Dc MX8_nines 3 (.istore_n 2) 1 4 := ⟨by decide +kernel, rfl⟩
theorem eX8_nines_4 : Dc MX8_nines 4 (.iload_n 2) 1 5 := ⟨by decide +kernel, rfl⟩
theorem eX8_nines_5 : Dc MX8_nines 5 (.iload_n 0) 1 6 := ⟨by decide +kernel, rfl⟩
theorem eX8_nines_6 : Dc MX8_nines 6 (.if_icmp .ge 14) 3 9 := ⟨by decide +kernel, rfl⟩
theorem eX8_nines_9 : Dc MX8_nines 9 (.iload_n 1) 1 10 := ⟨by decide +kernel, rfl⟩
theorem eX8_nines_10 : Dc MX8_nines 10 (.bipush 9) 2 12 := ⟨by decide +kernel, rfl⟩
theorem eX8_nines_12 : Dc MX8_nines 12 (.imul) 1 13 := ⟨by decide +kernel, rfl⟩
theorem eX8_nines_13 : Dc MX8_nines 13 (.istore_n 1) 1 14 := ⟨by decide +kernel, rfl⟩
theorem eX8_nines_14 : Dc MX8_nines 14 (.iinc 2 1) 3 17 := ⟨by decide +kernel, rfl⟩
theorem eX8_nines_17 : Dc MX8_nines 17 (.goto (-13)) 3 20 := ⟨by decide +kernel, rfl⟩
theorem eX8_nines_20 : Dc MX8_nines 20 (.iload_n 0) 1 21 := ⟨by decide +kernel, rfl⟩
theorem eX8_nines_21 : Dc MX8_nines 21 (.iconst 2) 1 22 := ⟨by decide +kernel, rfl⟩
theorem eX8_nines_22 : Dc MX8_nines 22 (.if_icmp .ge 7) 3 25 := ⟨by decide +kernel, rfl⟩
theorem eX8_nines_25 : Dc MX8_nines 25 (.iconst 0) 1 26 := ⟨by decide +kernel, rfl⟩
theorem eX8_nines_26 : Dc MX8_nines 26 (.goto 4) 3 29 := ⟨by decide +kernel, rfl⟩
theorem eX8_nines_29 : Dc MX8_nines 29 (.iload_n 1) 1 30 := ⟨by decide +kernel, rfl⟩
theorem eX8_nines_30 : Dc MX8_nines 30 (.ireturn) 1 31 := ⟨by decide +kernel, rfl⟩
theorem eX8_rankBy_0 : Dc MX8_rankBy 0 (.iload_n 2) 1 1 := ⟨by decide +kernel, rfl⟩
theorem eX8_rankBy_1 : Dc MX8_rankBy 1 (.ifCond .ge 8) 3 4 := ⟨by decide +kernel, rfl⟩
theorem eX8_rankBy_4 : Dc MX8_rankBy 4 (.bipush 6) 2 6 := ⟨by decide +kernel, rfl⟩
theorem eX8_rankBy_6 : Dc MX8_rankBy 6 (.goto 9) 3 9 := ⟨by decide +kernel, rfl⟩
theorem eX8_rankBy_9 : Dc MX8_rankBy 9 (.aload_n 0) 1 10 := ⟨by decide +kernel, rfl⟩
theorem eX8_rankBy_10 : Dc MX8_rankBy 10 (.iload_n 1) 1 11 := ⟨by decide +kernel, rfl⟩
theorem eX8_rankBy_11 : Dc MX8_rankBy 11 (.iload_n 2) 1 12 := ⟨by decide +kernel, rfl⟩
theorem eX8_rankBy_12 : Dc MX8_rankBy 12 (.invokevirtual 136) 3 15 := ⟨by decide +kernel, rfl⟩
theorem eX8_rankBy_15 : Dc MX8_rankBy 15 (.ireturn) 1 16 := ⟨by decide +kernel, rfl⟩
theorem eX8_weigh_0 : Dc MX8_weigh 0 (.aload_n 0) 1 1 := ⟨by decide +kernel, rfl⟩
theorem eX8_weigh_1 : Dc MX8_weigh 1 (.iconst 0) 1 2 := ⟨by decide +kernel, rfl⟩
theorem eX8_weigh_2 : Dc MX8_weigh 2 (.putfield 161) 3 5 := ⟨by decide +kernel, rfl⟩
theorem eX8_weigh_5 : Dc MX8_weigh 5 (.aload_n 0) 1 6 := ⟨by decide +kernel, rfl⟩
theorem eX8_weigh_6 : Dc MX8_weigh 6 (.iconst 0) 1 7 := ⟨by decide +kernel, rfl⟩
theorem eX8_weigh_7 : Dc MX8_weigh 7 (.putfield 164) 3 10 := ⟨by decide +kernel, rfl⟩
theorem eX8_weigh_10 : Dc MX8_weigh 10 (.aload_n 0) 1 11 := ⟨by decide +kernel, rfl⟩
theorem eX8_weigh_11 : Dc MX8_weigh 11 (.iconst 0) 1 12 := ⟨by decide +kernel, rfl⟩
theorem eX8_weigh_12 : Dc MX8_weigh 12 (.putfield 167) 3 15 := ⟨by decide +kernel, rfl⟩
theorem eX8_weigh_15 : Dc MX8_weigh 15 (.iconst 0) 1 16 := ⟨by decide +kernel, rfl⟩
theorem eX8_weigh_16 : Dc MX8_weigh 16 (.istore_n 2) 1 17 := ⟨by decide +kernel, rfl⟩
theorem eX8_weigh_17 : Dc MX8_weigh 17 (.iload_n 2) 1 18 := ⟨by decide +kernel, rfl⟩
theorem eX8_weigh_18 : Dc MX8_weigh 18 (.aload_n 0) 1 19 := ⟨by decide +kernel, rfl⟩
theorem eX8_weigh_19 : Dc MX8_weigh 19 (.getfield 84) 3 22 := ⟨by decide +kernel, rfl⟩
theorem eX8_weigh_22 : Dc MX8_weigh 22 (.if_icmp .ge 137) 3 25 := ⟨by decide +kernel, rfl⟩
theorem eX8_weigh_25 : Dc MX8_weigh 25 (.aload_n 0) 1 26 := ⟨by decide +kernel, rfl⟩
theorem eX8_weigh_26 : Dc MX8_weigh 26 (.getfield 13) 3 29 := ⟨by decide +kernel, rfl⟩
theorem eX8_weigh_29 : Dc MX8_weigh 29 (.iload_n 2) 1 30 := ⟨by decide +kernel, rfl⟩
theorem eX8_weigh_30 : Dc MX8_weigh 30 (.baload) 1 31 := ⟨by decide +kernel, rfl⟩
theorem eX8_weigh_31 : Dc MX8_weigh 31 (.ifCond .ne 6) 3 34 := ⟨by decide +kernel, rfl⟩
theorem eX8_weigh_34 : Dc MX8_weigh 34 (.goto 119) 3 37 := ⟨by decide +kernel, rfl⟩
theorem eX8_weigh_37 : Dc MX8_weigh 37 (.aload_n 0) 1 38 := ⟨by decide +kernel, rfl⟩
theorem eX8_weigh_38 : Dc MX8_weigh 38 (.iload_n 2) 1 39 := ⟨by decide +kernel, rfl⟩
theorem eX8_weigh_39 : Dc MX8_weigh 39 (.aload_n 1) 1 40 := ⟨by decide +kernel, rfl⟩
theorem eX8_weigh_40 : Dc MX8_weigh 40 (.iload_n 2) 1 41 := ⟨by decide +kernel, rfl⟩
theorem eX8_weigh_41 : Dc MX8_weigh 41 (.iaload) 1 42 := ⟨by decide +kernel, rfl⟩
theorem eX8_weigh_42 : Dc MX8_weigh 42 (.invokevirtual 170) 3 45 := ⟨by decide +kernel, rfl⟩
theorem eX8_weigh_45 : Dc MX8_weigh 45 (.istore_n 3) 1 46 := ⟨by decide +kernel, rfl⟩
theorem eX8_weigh_46 : Dc MX8_weigh 46 (.aload_n 0) 1 47 := ⟨by decide +kernel, rfl⟩
theorem eX8_weigh_47 : Dc MX8_weigh 47 (.dup) 1 48 := ⟨by decide +kernel, rfl⟩
theorem eX8_weigh_48 : Dc MX8_weigh 48 (.getfield 161) 3 51 := ⟨by decide +kernel, rfl⟩
theorem eX8_weigh_51 : Dc MX8_weigh 51 (.iload_n 3) 1 52 := ⟨by decide +kernel, rfl⟩
theorem eX8_weigh_52 : Dc MX8_weigh 52 (.invokestatic 173) 3 55 := ⟨by decide +kernel, rfl⟩
theorem eX8_weigh_55 : Dc MX8_weigh 55 (.iadd) 1 56 := ⟨by decide +kernel, rfl⟩
theorem eX8_weigh_56 : Dc MX8_weigh 56 (.putfield 161) 3 59 := ⟨by decide +kernel, rfl⟩
theorem eX8_weigh_59 : Dc MX8_weigh 59 (.aload_n 0) 1 60 := ⟨by decide +kernel, rfl⟩
theorem eX8_weigh_60 : Dc MX8_weigh 60 (.dup) 1 61 := ⟨by decide +kernel, rfl⟩
theorem eX8_weigh_61 : Dc MX8_weigh 61 (.getfield 164) 3 64 := ⟨by decide +kernel, rfl⟩
theorem eX8_weigh_64 : Dc MX8_weigh 64 (.iload_n 3) 1 65 := ⟨by decide +kernel, rfl⟩
theorem eX8_weigh_65 : Dc MX8_weigh 65 (.aload_n 0) 1 66 := ⟨by decide +kernel, rfl⟩
theorem eX8_weigh_66 : Dc MX8_weigh 66 (.getfield 23) 3 69 := ⟨by decide +kernel, rfl⟩
theorem eX8_weigh_69 : Dc MX8_weigh 69 (.iload_n 2) 1 70 := ⟨by decide +kernel, rfl⟩
theorem eX8_weigh_70 : Dc MX8_weigh 70 (.iaload) 1 71 := ⟨by decide +kernel, rfl⟩
theorem eX8_weigh_71 : Dc MX8_weigh 71 (.iconst 1) 1 72 := ⟨by decide +kernel, rfl⟩
theorem eX8_weigh_72 : Dc MX8_weigh 72 (.iadd) 1 73 := ⟨by decide +kernel, rfl⟩
theorem eX8_weigh_73 : Dc MX8_weigh 73 (.imul) 1 74 := ⟨by decide +kernel, rfl⟩
theorem eX8_weigh_74 : Dc MX8_weigh 74 (.iadd) 1 75 := ⟨by decide +kernel, rfl⟩
theorem eX8_weigh_75 : Dc MX8_weigh 75 (.putfield 164) 3 78 := ⟨by decide +kernel, rfl⟩
theorem eX8_weigh_78 : Dc MX8_weigh 78 (.iload_n 2) 1 79 := ⟨by decide +kernel, rfl⟩
theorem eX8_weigh_79 : Dc MX8_weigh 79 (.iconst 1) 1 80 := ⟨by decide +kernel, rfl⟩
theorem eX8_weigh_80 : Dc MX8_weigh 80 (.iadd) 1 81 := ⟨by decide +kernel, rfl⟩
theorem eX8_weigh_81 : Dc MX8_weigh 81 (.istore 4) 2 83 := ⟨by decide +kernel, rfl⟩
theorem eX8_weigh_83 : Dc MX8_weigh 83 (.iload 4) 2 85 := ⟨by decide +kernel, rfl⟩
theorem eX8_weigh_85 : Dc MX8_weigh 85 (.aload_n 0) 1 86 := ⟨by decide +kernel, rfl⟩
theorem eX8_weigh_86 : Dc MX8_weigh 86 (.getfield 84) 3 89 := ⟨by decide +kernel, rfl⟩
theorem eX8_weigh_89 : Dc MX8_weigh 89 (.if_icmp .ge 64) 3 92 := ⟨by decide +kernel, rfl⟩
theorem eX8_weigh_92 : Dc MX8_weigh 92 (.aload_n 0) 1 93 := ⟨by decide +kernel, rfl⟩
theorem eX8_weigh_93 : Dc MX8_weigh 93 (.dup) 1 94 := ⟨by decide +kernel, rfl⟩
theorem eX8_weigh_94 : Dc MX8_weigh 94 (.getfield 167) 3 97 := ⟨by decide +kernel, rfl⟩
theorem eX8_weigh_97 : Dc MX8_weigh 97 (.aload_n 0) 1 98 := ⟨by decide +kernel, rfl⟩
theorem eX8_weigh_98 : Dc MX8_weigh 98 (.getfield 29) 3 101 := ⟨by decide +kernel, rfl⟩
theorem eX8_weigh_101 : Dc MX8_weigh 101 (.bipush 8) 2 103 := ⟨by decide +kernel, rfl⟩
theorem eX8_weigh_103 : Dc MX8_weigh 103 (.iload_n 2) 1 104 := ⟨by decide +kernel, rfl⟩
theorem eX8_weigh_104 : Dc MX8_weigh 104 (.imul) 1 105 := ⟨by decide +kernel, rfl⟩
theorem eX8_weigh_105 : Dc MX8_weigh 105 (.iload 4) 2 107 := ⟨by decide +kernel, rfl⟩
theorem eX8_weigh_107 : Dc MX8_weigh 107 (.iadd) 1 108 := ⟨by decide +kernel, rfl⟩
theorem eX8_weigh_108 : Dc MX8_weigh 108 (.baload) 1 109 := ⟨by decide +kernel, rfl⟩
theorem eX8_weigh_109 : Dc MX8_weigh 109 (.ifCond .eq 33) 3 112 := ⟨by decide +kernel, rfl⟩
theorem eX8_weigh_112 : Dc MX8_weigh 112 (.aload_n 0) 1 113 := ⟨by decide +kernel, rfl⟩
theorem eX8_weigh_113 : Dc MX8_weigh 113 (.getfield 13) 3 116 := ⟨by decide +kernel, rfl⟩
theorem eX8_weigh_116 : Dc MX8_weigh 116 (.iload 4) 2 118 := ⟨by decide +kernel, rfl⟩
theorem eX8_weigh_118 : Dc MX8_weigh 118 (.baload) 1 119 := ⟨by decide +kernel, rfl⟩
theorem eX8_weigh_119 : Dc MX8_weigh 119 (.ifCond .eq 23) 3 122 := ⟨by decide +kernel, rfl⟩
theorem eX8_weigh_122 : Dc MX8_weigh 122 (.aload_n 1) 1 123 := ⟨by decide +kernel, rfl⟩
theorem eX8_weigh_123 : Dc MX8_weigh 123 (.iload_n 2) 1 124 := ⟨by decide +kernel, rfl⟩
theorem eX8_weigh_124 : Dc MX8_weigh 124 (.iaload) 1 125 := ⟨by decide +kernel, rfl⟩
theorem eX8_weigh_125 : Dc MX8_weigh 125 (.ifCond .lt 17) 3 128 := ⟨by decide +kernel, rfl⟩
theorem eX8_weigh_128 : Dc MX8_weigh 128 (.aload_n 1) 1 129 := ⟨by decide +kernel, rfl⟩
theorem eX8_weigh_129 : Dc MX8_weigh 129 (.iload_n 2) 1 130 := ⟨by decide +kernel, rfl⟩
theorem eX8_weigh_130 : Dc MX8_weigh 130 (.iaload) 1 131 := ⟨by decide +kernel, rfl⟩
theorem eX8_weigh_131 : Dc MX8_weigh 131 (.aload_n 1) 1 132 := ⟨by decide +kernel, rfl⟩
theorem eX8_weigh_132 : Dc MX8_weigh 132 (.iload 4) 2 134 := ⟨by decide +kernel, rfl⟩
theorem eX8_weigh_134 : Dc MX8_weigh 134 (.iaload) 1 135 := ⟨by decide +kernel, rfl⟩
theorem eX8_weigh_135 : Dc MX8_weigh 135 (.if_icmp .ne 7) 3 138 := ⟨by decide +kernel, rfl⟩
theorem eX8_weigh_138 : Dc MX8_weigh 138 (.iconst 1) 1 139 := ⟨by decide +kernel, rfl⟩
theorem eX8_weigh_139 : Dc MX8_weigh 139 (.goto 4) 3 142 := ⟨by decide +kernel, rfl⟩
theorem eX8_weigh_142 : Dc MX8_weigh 142 (.iconst 0) 1 143 := ⟨by decide +kernel, rfl⟩
theorem eX8_weigh_143 : Dc MX8_weigh 143 (.iadd) 1 144 := ⟨by decide +kernel, rfl⟩
theorem eX8_weigh_144 : Dc MX8_weigh 144 (.putfield 167) 3 147 := ⟨by decide +kernel, rfl⟩
theorem eX8_weigh_147 : Dc MX8_weigh 147 (.iinc 4 1) 3 150 := ⟨by decide +kernel, rfl⟩
theorem eX8_weigh_150 : Dc MX8_weigh 150 (.goto (-67)) 3 153 := ⟨by decide +kernel, rfl⟩
theorem eX8_weigh_153 : Dc MX8_weigh 153 (.iinc 2 1) 3 156 := ⟨by decide +kernel, rfl⟩
theorem eX8_weigh_156 : Dc MX8_weigh 156 (.goto (-139)) 3 159 := ⟨by decide +kernel, rfl⟩
theorem eX8_weigh_159 : Dc MX8_weigh 159 (.return_) 1 160 := ⟨by decide +kernel, rfl⟩
theorem eX8_isAhead_0 : Dc MX8_isAhead 0 (.iconst 0) 1 1 := ⟨by decide +kernel, rfl⟩
theorem eX8_isAhead_1 : Dc MX8_isAhead 1 (.istore_n 3) 1 2 := ⟨by decide +kernel, rfl⟩
theorem eX8_isAhead_2 : Dc MX8_isAhead 2 (.iload_n 3) 1 3 := ⟨by decide +kernel, rfl⟩
theorem eX8_isAhead_3 : Dc MX8_isAhead 3 (.aload_n 0) 1 4 := ⟨by decide +kernel, rfl⟩
theorem eX8_isAhead_4 : Dc MX8_isAhead 4 (.getfield 84) 3 7 := ⟨by decide +kernel, rfl⟩
theorem eX8_isAhead_7 : Dc MX8_isAhead 7 (.if_icmp .ge 124) 3 10 := ⟨by decide +kernel, rfl⟩
theorem eX8_isAhead_10 : Dc MX8_isAhead 10 (.aload_n 0) 1 11 := ⟨by decide +kernel, rfl⟩
theorem eX8_isAhead_11 : Dc MX8_isAhead 11 (.getfield 35) 3 14 := ⟨by decide +kernel, rfl⟩
theorem eX8_isAhead_14 : Dc MX8_isAhead 14 (.iload_n 3) 1 15 := ⟨by decide +kernel, rfl⟩
theorem eX8_isAhead_15 : Dc MX8_isAhead 15 (.iaload) 1 16 := ⟨by decide +kernel, rfl⟩
theorem eX8_isAhead_16 : Dc MX8_isAhead 16 (.istore 4) 2 18 := ⟨by decide +kernel, rfl⟩
theorem eX8_isAhead_18 : Dc MX8_isAhead 18 (.aload_n 0) 1 19 := ⟨by decide +kernel, rfl⟩
theorem eX8_isAhead_19 : Dc MX8_isAhead 19 (.getfield 13) 3 22 := ⟨by decide +kernel, rfl⟩
theorem eX8_isAhead_22 : Dc MX8_isAhead 22 (.iload 4) 2 24 := ⟨by decide +kernel, rfl⟩
theorem eX8_isAhead_24 : Dc MX8_isAhead 24 (.baload) 1 25 := ⟨by decide +kernel, rfl⟩
theorem eX8_isAhead_25 : Dc MX8_isAhead 25 (.ifCond .eq 100) 3 28 := ⟨by decide +kernel, rfl⟩
theorem eX8_isAhead_28 : Dc MX8_isAhead 28 (.aload_n 1) 1 29 := ⟨by decide +kernel, rfl⟩
theorem eX8_isAhead_29 : Dc MX8_isAhead 29 (.iload 4) 2 31 := ⟨by decide +kernel, rfl⟩
theorem eX8_isAhead_31 : Dc MX8_isAhead 31 (.iaload) 1 32 := ⟨by decide +kernel, rfl⟩
theorem eX8_isAhead_32 : Dc MX8_isAhead 32 (.aload_n 2) 1 33 := ⟨by decide +kernel, rfl⟩
theorem eX8_isAhead_33 : Dc MX8_isAhead 33 (.iload 4) 2 35 := ⟨by decide +kernel, rfl⟩
theorem eX8_isAhead_35 : Dc MX8_isAhead 35 (.iaload) 1 36 := ⟨by decide +kernel, rfl⟩
theorem eX8_isAhead_36 : Dc MX8_isAhead 36 (.if_icmp .ne 6) 3 39 := ⟨by decide +kernel, rfl⟩
theorem eX8_isAhead_39 : Dc MX8_isAhead 39 (.goto 86) 3 42 := ⟨by decide +kernel, rfl⟩
theorem eX8_isAhead_42 : Dc MX8_isAhead 42 (.aload_n 0) 1 43 := ⟨by decide +kernel, rfl⟩
theorem eX8_isAhead_43 : Dc MX8_isAhead 43 (.iload 4) 2 45 := ⟨by decide +kernel, rfl⟩
theorem eX8_isAhead_45 : Dc MX8_isAhead 45 (.aload_n 1) 1 46 := ⟨by decide +kernel, rfl⟩
theorem eX8_isAhead_46 : Dc MX8_isAhead 46 (.iload 4) 2 48 := ⟨by decide +kernel, rfl⟩
theorem eX8_isAhead_48 : Dc MX8_isAhead 48 (.iaload) 1 49 := ⟨by decide +kernel, rfl⟩
theorem eX8_isAhead_49 : Dc MX8_isAhead 49 (.invokevirtual 170) 3 52 := ⟨by decide +kernel, rfl⟩
theorem eX8_isAhead_52 : Dc MX8_isAhead 52 (.istore 5) 2 54 := ⟨by decide +kernel, rfl⟩
theorem eX8_isAhead_54 : Dc MX8_isAhead 54 (.aload_n 0) 1 55 := ⟨by decide +kernel, rfl⟩
theorem eX8_isAhead_55 : Dc MX8_isAhead 55 (.iload 4) 2 57 := ⟨by decide +kernel, rfl⟩
theorem eX8_isAhead_57 : Dc MX8_isAhead 57 (.aload_n 2) 1 58 := ⟨by decide +kernel, rfl⟩
theorem eX8_isAhead_58 : Dc MX8_isAhead 58 (.iload 4) 2 60 := ⟨by decide +kernel, rfl⟩
theorem eX8_isAhead_60 : Dc MX8_isAhead 60 (.iaload) 1 61 := ⟨by decide +kernel, rfl⟩
theorem eX8_isAhead_61 : Dc MX8_isAhead 61 (.invokevirtual 170) 3 64 := ⟨by decide +kernel, rfl⟩
theorem eX8_isAhead_64 : Dc MX8_isAhead 64 (.istore 6) 2 66 := ⟨by decide +kernel, rfl⟩
theorem eX8_isAhead_66 : Dc MX8_isAhead 66 (.iload 5) 2 68 := ⟨by decide +kernel, rfl⟩
theorem eX8_isAhead_68 : Dc MX8_isAhead 68 (.iload 6) 2 70 := ⟨by decide +kernel, rfl⟩
theorem eX8_isAhead_70 : Dc MX8_isAhead 70 (.if_icmp .eq 16) 3 73 := ⟨by decide +kernel, rfl⟩
theorem eX8_isAhead_73 : Dc MX8_isAhead 73 (.iload 5) 2 75 := ⟨by decide +kernel, rfl⟩
theorem eX8_isAhead_75 : Dc MX8_isAhead 75 (.iload 6) 2 77 := ⟨by decide +kernel, rfl⟩
theorem eX8_isAhead_77 : Dc MX8_isAhead 77 (.if_icmp .ge 7) 3 80 := ⟨by decide +kernel, rfl⟩
theorem eX8_isAhead_80 : Dc MX8_isAhead 80 (.iconst 1) 1 81 := ⟨by decide +kernel, rfl⟩
theorem eX8_isAhead_81 : Dc MX8_isAhead 81 (.goto 4) 3 84 := ⟨by decide +kernel, rfl⟩
theorem eX8_isAhead_84 : Dc MX8_isAhead 84 (.iconst 0) 1 85 := ⟨by decide +kernel, rfl⟩
theorem eX8_isAhead_85 : Dc MX8_isAhead 85 (.ireturn) 1 86 := ⟨by decide +kernel, rfl⟩
theorem eX8_isAhead_86 : Dc MX8_isAhead 86 (.aload_n 1) 1 87 := ⟨by decide +kernel, rfl⟩
theorem eX8_isAhead_87 : Dc MX8_isAhead 87 (.iload 4) 2 89 := ⟨by decide +kernel, rfl⟩
theorem eX8_isAhead_89 : Dc MX8_isAhead 89 (.iaload) 1 90 := ⟨by decide +kernel, rfl⟩
theorem eX8_isAhead_90 : Dc MX8_isAhead 90 (.ifCond .ge 7) 3 93 := ⟨by decide +kernel, rfl⟩
theorem eX8_isAhead_93 : Dc MX8_isAhead 93 (.iconst 5) 1 94 := ⟨by decide +kernel, rfl⟩
theorem eX8_isAhead_94 : Dc MX8_isAhead 94 (.goto 7) 3 97 := ⟨by decide +kernel, rfl⟩
theorem eX8_isAhead_97 : Dc MX8_isAhead 97 (.aload_n 1) 1 98 := ⟨by decide +kernel, rfl⟩
theorem eX8_isAhead_98 : Dc MX8_isAhead 98 (.iload 4) 2 100 := ⟨by decide +kernel, rfl⟩
theorem eX8_isAhead_100 : Dc MX8_isAhead 100 (.iaload) 1 101 := ⟨by decide +kernel, rfl⟩
theorem eX8_isAhead_101 : Dc MX8_isAhead 101 (.aload_n 2) 1 102 := ⟨by decide +kernel, rfl⟩
theorem eX8_isAhead_102 : Dc MX8_isAhead 102 (.iload 4) 2 104 := ⟨by decide +kernel, rfl⟩
theorem eX8_isAhead_104 : Dc MX8_isAhead 104 (.iaload) 1 105 := ⟨by decide +kernel, rfl⟩
theorem eX8_isAhead_105 : Dc MX8_isAhead 105 (.ifCond .ge 7) 3 108 := ⟨by decide +kernel, rfl⟩
theorem eX8_isAhead_108 : Dc MX8_isAhead 108 (.iconst 5) 1 109 := ⟨by decide +kernel, rfl⟩
theorem eX8_isAhead_109 : Dc MX8_isAhead 109 (.goto 7) 3 112 := ⟨by decide +kernel, rfl⟩
theorem eX8_isAhead_112 : Dc MX8_isAhead 112 (.aload_n 2) 1 113 := ⟨by decide +kernel, rfl⟩
theorem eX8_isAhead_113 : Dc MX8_isAhead 113 (.iload 4) 2 115 := ⟨by decide +kernel, rfl⟩
theorem eX8_isAhead_115 : Dc MX8_isAhead 115 (.iaload) 1 116 := ⟨by decide +kernel, rfl⟩
theorem eX8_isAhead_116 : Dc MX8_isAhead 116 (.if_icmp .ge 7) 3 119 := ⟨by decide +kernel, rfl⟩
theorem eX8_isAhead_119 : Dc MX8_isAhead 119 (.iconst 1) 1 120 := ⟨by decide +kernel, rfl⟩
theorem eX8_isAhead_120 : Dc MX8_isAhead 120 (.goto 4) 3 123 := ⟨by decide +kernel, rfl⟩
theorem eX8_isAhead_123 : Dc MX8_isAhead 123 (.iconst 0) 1 124 := ⟨by decide +kernel, rfl⟩
theorem eX8_isAhead_124 : Dc MX8_isAhead 124 (.ireturn) 1 125 := ⟨by decide +kernel, rfl⟩
theorem eX8_isAhead_125 : Dc MX8_isAhead 125 (.iinc 3 1) 3 128 := ⟨by decide +kernel, rfl⟩
theorem eX8_isAhead_128 : Dc MX8_isAhead 128 (.goto (-126)) 3 131 := ⟨by decide +kernel, rfl⟩
theorem eX8_isAhead_131 : Dc MX8_isAhead 131 (.iconst 0) 1 132 := ⟨by decide +kernel, rfl⟩
theorem eX8_isAhead_132 : Dc MX8_isAhead 132 (.ireturn) 1 133 := ⟨by decide +kernel, rfl⟩
theorem eX8_isBetter_0 : Dc MX8_isBetter 0 (.aload_n 0) 1 1 := ⟨by decide +kernel, rfl⟩
theorem eX8_isBetter_1 : Dc MX8_isBetter 1 (.aload_n 1) 1 2 := ⟨by decide +kernel, rfl⟩
theorem eX8_isBetter_2 : Dc MX8_isBetter 2 (.invokevirtual 177) 3 5 := ⟨by decide +kernel, rfl⟩
theorem eX8_isBetter_5 : Dc MX8_isBetter 5 (.aload_n 0) 1 6 := ⟨by decide +kernel, rfl⟩
theorem eX8_isBetter_6 : Dc MX8_isBetter 6 (.getfield 161) 3 9 := ⟨by decide +kernel, rfl⟩
theorem eX8_isBetter_9 : Dc MX8_isBetter 9 (.aload_n 0) 1 10 := ⟨by decide +kernel, rfl⟩
theorem eX8_isBetter_10 : Dc MX8_isBetter 10 (.getfield 181) 3 13 := ⟨by decide +kernel, rfl⟩
theorem eX8_isBetter_13 : Dc MX8_isBetter 13 (.if_icmp .eq 20) 3 16 := ⟨by decide +kernel, rfl⟩
theorem eX8_isBetter_16 : Dc MX8_isBetter 16 (.aload_n 0) 1 17 := ⟨by decide +kernel, rfl⟩
theorem eX8_isBetter_17 : Dc MX8_isBetter 17 (.getfield 161) 3 20 := ⟨by decide +kernel, rfl⟩
theorem eX8_isBetter_20 : Dc MX8_isBetter 20 (.aload_n 0) 1 21 := ⟨by decide +kernel, rfl⟩
theorem eX8_isBetter_21 : Dc MX8_isBetter 21 (.getfield 181) 3 24 := ⟨by decide +kernel, rfl⟩
theorem eX8_isBetter_24 : Dc MX8_isBetter 24 (.if_icmp .ge 7) 3 27 := ⟨by decide +kernel, rfl⟩
theorem eX8_isBetter_27 : Dc MX8_isBetter 27 (.iconst 1) 1 28 := ⟨by decide +kernel, rfl⟩
theorem eX8_isBetter_28 : Dc MX8_isBetter 28 (.goto 4) 3 31 := ⟨by decide +kernel, rfl⟩
theorem eX8_isBetter_31 : Dc MX8_isBetter 31 (.iconst 0) 1 32 := ⟨by decide +kernel, rfl⟩
theorem eX8_isBetter_32 : Dc MX8_isBetter 32 (.ireturn) 1 33 := ⟨by decide +kernel, rfl⟩
theorem eX8_isBetter_33 : Dc MX8_isBetter 33 (.aload_n 0) 1 34 := ⟨by decide +kernel, rfl⟩
theorem eX8_isBetter_34 : Dc MX8_isBetter 34 (.getfield 164) 3 37 := ⟨by decide +kernel, rfl⟩
theorem eX8_isBetter_37 : Dc MX8_isBetter 37 (.aload_n 0) 1 38 := ⟨by decide +kernel, rfl⟩
theorem eX8_isBetter_38 : Dc MX8_isBetter 38 (.getfield 184) 3 41 := ⟨by decide +kernel, rfl⟩
theorem eX8_isBetter_41 : Dc MX8_isBetter 41 (.if_icmp .eq 20) 3 44 := ⟨by decide +kernel, rfl⟩
theorem eX8_isBetter_44 : Dc MX8_isBetter 44 (.aload_n 0) 1 45 := ⟨by decide +kernel, rfl⟩
theorem eX8_isBetter_45 : Dc MX8_isBetter 45 (.getfield 164) 3 48 := ⟨by decide +kernel, rfl⟩
theorem eX8_isBetter_48 : Dc MX8_isBetter 48 (.aload_n 0) 1 49 := ⟨by decide +kernel, rfl⟩
theorem eX8_isBetter_49 : Dc MX8_isBetter 49 (.getfield 184) 3 52 := ⟨by decide +kernel, rfl⟩
theorem eX8_isBetter_52 : Dc MX8_isBetter 52 (.if_icmp .ge 7) 3 55 := ⟨by decide +kernel, rfl⟩
theorem eX8_isBetter_55 : Dc MX8_isBetter 55 (.iconst 1) 1 56 := ⟨by decide +kernel, rfl⟩
theorem eX8_isBetter_56 : Dc MX8_isBetter 56 (.goto 4) 3 59 := ⟨by decide +kernel, rfl⟩
theorem eX8_isBetter_59 : Dc MX8_isBetter 59 (.iconst 0) 1 60 := ⟨by decide +kernel, rfl⟩
theorem eX8_isBetter_60 : Dc MX8_isBetter 60 (.ireturn) 1 61 := ⟨by decide +kernel, rfl⟩
theorem eX8_isBetter_61 : Dc MX8_isBetter 61 (.aload_n 0) 1 62 := ⟨by decide +kernel, rfl⟩
theorem eX8_isBetter_62 : Dc MX8_isBetter 62 (.getfield 167) 3 65 := ⟨by decide +kernel, rfl⟩
theorem eX8_isBetter_65 : Dc MX8_isBetter 65 (.aload_n 0) 1 66 := ⟨by decide +kernel, rfl⟩
theorem eX8_isBetter_66 : Dc MX8_isBetter 66 (.getfield 187) 3 69 := ⟨by decide +kernel, rfl⟩
theorem eX8_isBetter_69 : Dc MX8_isBetter 69 (.if_icmp .eq 22) 3 72 := ⟨by decide +kernel, rfl⟩
theorem eX8_isBetter_72 : Dc MX8_isBetter 72 (.aload_n 0) 1 73 := ⟨by decide +kernel, rfl⟩
theorem eX8_isBetter_73 : Dc MX8_isBetter 73 (.getfield 167) 3 76 := ⟨by decide +kernel, rfl⟩
theorem eX8_isBetter_76 : Dc MX8_isBetter 76 (.aload_n 0) 1 77 := ⟨by decide +kernel, rfl⟩
theorem eX8_isBetter_77 : Dc MX8_isBetter 77 (.getfield 187) 3 80 := ⟨by decide +kernel, rfl⟩
theorem eX8_isBetter_80 : Dc MX8_isBetter 80 (.if_icmp .le 7) 3 83 := ⟨by decide +kernel, rfl⟩
theorem eX8_isBetter_83 : Dc MX8_isBetter 83 (.iconst 1) 1 84 := ⟨by decide +kernel, rfl⟩
theorem eX8_isBetter_84 : Dc MX8_isBetter 84 (.goto 16) 3 87 := ⟨by decide +kernel, rfl⟩
theorem eX8_isBetter_87 : Dc MX8_isBetter 87 (.iconst 0) 1 88 := ⟨by decide +kernel, rfl⟩
theorem eX8_isBetter_88 : Dc MX8_isBetter 88 (.goto 12) 3 91 := ⟨by decide +kernel, rfl⟩
theorem eX8_isBetter_91 : Dc MX8_isBetter 91 (.aload_n 0) 1 92 := ⟨by decide +kernel, rfl⟩
theorem eX8_isBetter_92 : Dc MX8_isBetter 92 (.aload_n 1) 1 93 := ⟨by decide +kernel, rfl⟩
theorem eX8_isBetter_93 : Dc MX8_isBetter 93 (.aload_n 0) 1 94 := ⟨by decide +kernel, rfl⟩
theorem eX8_isBetter_94 : Dc MX8_isBetter 94 (.getfield 59) 3 97 := ⟨by decide +kernel, rfl⟩
theorem eX8_isBetter_97 : Dc MX8_isBetter 97 (.invokevirtual 190) 3 100 := ⟨by decide +kernel, rfl⟩
theorem eX8_isBetter_100 : Dc MX8_isBetter 100 (.ireturn) 1 101 := ⟨by decide +kernel, rfl⟩
theorem eX8_keeps_0 : Dc MX8_keeps 0 (.aload_n 0) 1 1 := ⟨by decide +kernel, rfl⟩
theorem eX8_keeps_1 : Dc MX8_keeps 1 (.aload_n 1) 1 2 := ⟨by decide +kernel, rfl⟩
theorem eX8_keeps_2 : Dc MX8_keeps 2 (.invokevirtual 177) 3 5 := ⟨by decide +kernel, rfl⟩
theorem eX8_keeps_5 : Dc MX8_keeps 5 (.aload_n 0) 1 6 := ⟨by decide +kernel, rfl⟩
theorem eX8_keeps_6 : Dc MX8_keeps 6 (.aload_n 0) 1 7 := ⟨by decide +kernel, rfl⟩
theorem eX8_keeps_7 : Dc MX8_keeps 7 (.getfield 161) 3 10 := ⟨by decide +kernel, rfl⟩
theorem eX8_keeps_10 : Dc MX8_keeps 10 (.putfield 181) 3 13 := ⟨by decide +kernel, rfl⟩
theorem eX8_keeps_13 : Dc MX8_keeps 13 (.aload_n 0) 1 14 := ⟨by decide +kernel, rfl⟩
theorem eX8_keeps_14 : Dc MX8_keeps 14 (.aload_n 0) 1 15 := ⟨by decide +kernel, rfl⟩
theorem eX8_keeps_15 : Dc MX8_keeps 15 (.getfield 164) 3 18 := ⟨by decide +kernel, rfl⟩
theorem eX8_keeps_18 : Dc MX8_keeps 18 (.putfield 184) 3 21 := ⟨by decide +kernel, rfl⟩
theorem eX8_keeps_21 : Dc MX8_keeps 21 (.aload_n 0) 1 22 := ⟨by decide +kernel, rfl⟩
theorem eX8_keeps_22 : Dc MX8_keeps 22 (.aload_n 0) 1 23 := ⟨by decide +kernel, rfl⟩
theorem eX8_keeps_23 : Dc MX8_keeps 23 (.getfield 167) 3 26 := ⟨by decide +kernel, rfl⟩
theorem eX8_keeps_26 : Dc MX8_keeps 26 (.putfield 187) 3 29 := ⟨by decide +kernel, rfl⟩
theorem eX8_keeps_29 : Dc MX8_keeps 29 (.iconst 0) 1 30 := ⟨by decide +kernel, rfl⟩
theorem eX8_keeps_30 : Dc MX8_keeps 30 (.istore_n 2) 1 31 := ⟨by decide +kernel, rfl⟩
theorem eX8_keeps_31 : Dc MX8_keeps 31 (.iload_n 2) 1 32 := ⟨by decide +kernel, rfl⟩
theorem eX8_keeps_32 : Dc MX8_keeps 32 (.bipush 8) 2 34 := ⟨by decide +kernel, rfl⟩
theorem eX8_keeps_34 : Dc MX8_keeps 34 (.if_icmp .ge 18) 3 37 := ⟨by decide +kernel, rfl⟩
theorem eX8_keeps_37 : Dc MX8_keeps 37 (.aload_n 0) 1 38 := ⟨by decide +kernel, rfl⟩
theorem eX8_keeps_38 : Dc MX8_keeps 38 (.getfield 59) 3 41 := ⟨by decide +kernel, rfl⟩
theorem eX8_keeps_41 : Dc MX8_keeps 41 (.iload_n 2) 1 42 := ⟨by decide +kernel, rfl⟩
theorem eX8_keeps_42 : Dc MX8_keeps 42 (.aload_n 1) 1 43 := ⟨by decide +kernel, rfl⟩
theorem eX8_keeps_43 : Dc MX8_keeps 43 (.iload_n 2) 1 44 := ⟨by decide +kernel, rfl⟩
theorem eX8_keeps_44 : Dc MX8_keeps 44 (.iaload) 1 45 := ⟨by decide +kernel, rfl⟩
theorem eX8_keeps_45 : Dc MX8_keeps 45 (.iastore) 1 46 := ⟨by decide +kernel, rfl⟩
theorem eX8_keeps_46 : Dc MX8_keeps 46 (.iinc 2 1) 3 49 := ⟨by decide +kernel, rfl⟩
theorem eX8_keeps_49 : Dc MX8_keeps 49 (.goto (-18)) 3 52 := ⟨by decide +kernel, rfl⟩
theorem eX8_keeps_52 : Dc MX8_keeps 52 (.return_) 1 53 := ⟨by decide +kernel, rfl⟩
theorem eX8_movesOf_0 : Dc MX8_movesOf 0 (.iconst 0) 1 1 := ⟨by decide +kernel, rfl⟩
theorem eX8_movesOf_1 : Dc MX8_movesOf 1 (.istore_n 2) 1 2 := ⟨by decide +kernel, rfl⟩
theorem eX8_movesOf_2 : Dc MX8_movesOf 2 (.iconst 0) 1 3 := ⟨by decide +kernel, rfl⟩
theorem eX8_movesOf_3 : Dc MX8_movesOf 3 (.istore_n 3) 1 4 := ⟨by decide +kernel, rfl⟩
theorem eX8_movesOf_4 : Dc MX8_movesOf 4 (.iload_n 3) 1 5 := ⟨by decide +kernel, rfl⟩
theorem eX8_movesOf_5 : Dc MX8_movesOf 5 (.aload_n 0) 1 6 := ⟨by decide +kernel, rfl⟩
theorem eX8_movesOf_6 : Dc MX8_movesOf 6 (.getfield 84) 3 9 := ⟨by decide +kernel, rfl⟩
theorem eX8_movesOf_9 : Dc MX8_movesOf 9 (.if_icmp .ge 47) 3 12 := ⟨by decide +kernel, rfl⟩
theorem eX8_movesOf_12 : Dc MX8_movesOf 12 (.iload_n 2) 1 13 := ⟨by decide +kernel, rfl⟩
theorem eX8_movesOf_13 : Dc MX8_movesOf 13 (.aload_n 0) 1 14 := ⟨by decide +kernel, rfl⟩
theorem eX8_movesOf_14 : Dc MX8_movesOf 14 (.getfield 13) 3 17 := ⟨by decide +kernel, rfl⟩
theorem eX8_movesOf_17 : Dc MX8_movesOf 17 (.iload_n 3) 1 18 := ⟨by decide +kernel, rfl⟩
theorem eX8_movesOf_18 : Dc MX8_movesOf 18 (.baload) 1 19 := ⟨by decide +kernel, rfl⟩
theorem eX8_movesOf_19 : Dc MX8_movesOf 19 (.ifCond .eq 28) 3 22 := ⟨by decide +kernel, rfl⟩
theorem eX8_movesOf_22 : Dc MX8_movesOf 22 (.aload_n 0) 1 23 := ⟨by decide +kernel, rfl⟩
theorem eX8_movesOf_23 : Dc MX8_movesOf 23 (.getfield 26) 3 26 := ⟨by decide +kernel, rfl⟩
theorem eX8_movesOf_26 : Dc MX8_movesOf 26 (.iload_n 3) 1 27 := ⟨by decide +kernel, rfl⟩
theorem eX8_movesOf_27 : Dc MX8_movesOf 27 (.iaload) 1 28 := ⟨by decide +kernel, rfl⟩
theorem eX8_movesOf_28 : Dc MX8_movesOf 28 (.ifCond .lt 19) 3 31 := ⟨by decide +kernel, rfl⟩
theorem eX8_movesOf_31 : Dc MX8_movesOf 31 (.aload_n 0) 1 32 := ⟨by decide +kernel, rfl⟩
theorem eX8_movesOf_32 : Dc MX8_movesOf 32 (.getfield 26) 3 35 := ⟨by decide +kernel, rfl⟩
theorem eX8_movesOf_35 : Dc MX8_movesOf 35 (.iload_n 3) 1 36 := ⟨by decide +kernel, rfl⟩
theorem eX8_movesOf_36 : Dc MX8_movesOf 36 (.iaload) 1 37 := ⟨by decide +kernel, rfl⟩
theorem eX8_movesOf_37 : Dc MX8_movesOf 37 (.aload_n 1) 1 38 := ⟨by decide +kernel, rfl⟩
theorem eX8_movesOf_38 : Dc MX8_movesOf 38 (.iload_n 3) 1 39 := ⟨by decide +kernel, rfl⟩
theorem eX8_movesOf_39 : Dc MX8_movesOf 39 (.iaload) 1 40 := ⟨by decide +kernel, rfl⟩
theorem eX8_movesOf_40 : Dc MX8_movesOf 40 (.if_icmp .eq 7) 3 43 := ⟨by decide +kernel, rfl⟩
theorem eX8_movesOf_43 : Dc MX8_movesOf 43 (.iconst 1) 1 44 := ⟨by decide +kernel, rfl⟩
theorem eX8_movesOf_44 : Dc MX8_movesOf 44 (.goto 4) 3 47 := ⟨by decide +kernel, rfl⟩
theorem eX8_movesOf_47 : Dc MX8_movesOf 47 (.iconst 0) 1 48 := ⟨by decide +kernel, rfl⟩
theorem eX8_movesOf_48 : Dc MX8_movesOf 48 (.iadd) 1 49 := ⟨by decide +kernel, rfl⟩
theorem eX8_movesOf_49 : Dc MX8_movesOf 49 (.istore_n 2) 1 50 := ⟨by decide +kernel, rfl⟩
theorem eX8_movesOf_50 : Dc MX8_movesOf 50 (.iinc 3 1) 3 53 := ⟨by decide +kernel, rfl⟩
theorem eX8_movesOf_53 : Dc MX8_movesOf 53 (.goto (-49)) 3 56 := ⟨by decide +kernel, rfl⟩
theorem eX8_movesOf_56 : Dc MX8_movesOf 56 (.iload_n 2) 1 57 := ⟨by decide +kernel, rfl⟩
theorem eX8_movesOf_57 : Dc MX8_movesOf 57 (.ireturn) 1 58 := ⟨by decide +kernel, rfl⟩
theorem eX8_finds_0 : Dc MX8_finds 0 (.iconst 0) 1 1 := ⟨by decide +kernel, rfl⟩
theorem eX8_finds_1 : Dc MX8_finds 1 (.istore_n 1) 1 2 := ⟨by decide +kernel, rfl⟩
theorem eX8_finds_2 : Dc MX8_finds 2 (.iload_n 1) 1 3 := ⟨by decide +kernel, rfl⟩
theorem eX8_finds_3 : Dc MX8_finds 3 (.aload_n 0) 1 4 := ⟨by decide +kernel, rfl⟩
theorem eX8_finds_4 : Dc MX8_finds 4 (.getfield 91) 3 7 := ⟨by decide +kernel, rfl⟩
theorem eX8_finds_7 : Dc MX8_finds 7 (.if_icmp .ge 58) 3 10 := ⟨by decide +kernel, rfl⟩
theorem eX8_finds_10 : Dc MX8_finds 10 (.aload_n 0) 1 11 := ⟨by decide +kernel, rfl⟩
theorem eX8_finds_11 : Dc MX8_finds 11 (.getfield 56) 3 14 := ⟨by decide +kernel, rfl⟩
theorem eX8_finds_14 : Dc MX8_finds 14 (.iload_n 1) 1 15 := ⟨by decide +kernel, rfl⟩
theorem eX8_finds_15 : Dc MX8_finds 15 (.aload_n 0) 1 16 := ⟨by decide +kernel, rfl⟩
theorem eX8_finds_16 : Dc MX8_finds 16 (.getfield 84) 3 19 := ⟨by decide +kernel, rfl⟩
theorem eX8_finds_19 : Dc MX8_finds 19 (.invokestatic 143) 3 22 := ⟨by decide +kernel, rfl⟩
theorem eX8_finds_22 : Dc MX8_finds 22 (.istore_n 2) 1 23 := ⟨by decide +kernel, rfl⟩
theorem eX8_finds_23 : Dc MX8_finds 23 (.aload_n 0) 1 24 := ⟨by decide +kernel, rfl⟩
theorem eX8_finds_24 : Dc MX8_finds 24 (.iload_n 1) 1 25 := ⟨by decide +kernel, rfl⟩
theorem eX8_finds_25 : Dc MX8_finds 25 (.iload_n 2) 1 26 := ⟨by decide +kernel, rfl⟩
theorem eX8_finds_26 : Dc MX8_finds 26 (.invokevirtual 147) 3 29 := ⟨by decide +kernel, rfl⟩
theorem eX8_finds_29 : Dc MX8_finds 29 (.ifCond .eq 29) 3 32 := ⟨by decide +kernel, rfl⟩
theorem eX8_finds_32 : Dc MX8_finds 32 (.aload_n 0) 1 33 := ⟨by decide +kernel, rfl⟩
theorem eX8_finds_33 : Dc MX8_finds 33 (.aload_n 0) 1 34 := ⟨by decide +kernel, rfl⟩
theorem eX8_finds_34 : Dc MX8_finds 34 (.getfield 56) 3 37 := ⟨by decide +kernel, rfl⟩
theorem eX8_finds_37 : Dc MX8_finds 37 (.iload_n 1) 1 38 := ⟨by decide +kernel, rfl⟩
theorem eX8_finds_38 : Dc MX8_finds 38 (.iload_n 2) 1 39 := ⟨by decide +kernel, rfl⟩
theorem eX8_finds_39 : Dc MX8_finds 39 (.invokevirtual 150) 3 42 := ⟨by decide +kernel, rfl⟩
theorem eX8_finds_42 : Dc MX8_finds 42 (.ifCond .eq 16) 3 45 := ⟨by decide +kernel, rfl⟩
theorem eX8_finds_45 : Dc MX8_finds 45 (.aload_n 0) 1 46 := ⟨by decide +kernel, rfl⟩
theorem eX8_finds_46 : Dc MX8_finds 46 (.aload_n 0) 1 47 := ⟨by decide +kernel, rfl⟩
theorem eX8_finds_47 : Dc MX8_finds 47 (.getfield 56) 3 50 := ⟨by decide +kernel, rfl⟩
theorem eX8_finds_50 : Dc MX8_finds 50 (.iload_n 1) 1 51 := ⟨by decide +kernel, rfl⟩
theorem eX8_finds_51 : Dc MX8_finds 51 (.iload_n 2) 1 52 := ⟨by decide +kernel, rfl⟩
theorem eX8_finds_52 : Dc MX8_finds 52 (.invokevirtual 154) 3 55 := ⟨by decide +kernel, rfl⟩
theorem eX8_finds_55 : Dc MX8_finds 55 (.ifCond .ne 4) 3 58 := ⟨by decide +kernel, rfl⟩
theorem eX8_finds_58 : Dc MX8_finds 58 (.return_) 1 59 := ⟨by decide +kernel, rfl⟩
theorem eX8_finds_59 : Dc MX8_finds 59 (.iinc 1 1) 3 62 := ⟨by decide +kernel, rfl⟩
theorem eX8_finds_62 : Dc MX8_finds 62 (.goto (-60)) 3 65 := ⟨by decide +kernel, rfl⟩
theorem eX8_finds_65 : Dc MX8_finds 65 (.aload_n 0) 1 66 := ⟨by decide +kernel, rfl⟩
theorem eX8_finds_66 : Dc MX8_finds 66 (.getfield 194) 3 69 := ⟨by decide +kernel, rfl⟩
theorem eX8_finds_69 : Dc MX8_finds 69 (.iconst 3) 1 70 := ⟨by decide +kernel, rfl⟩
theorem eX8_finds_70 : Dc MX8_finds 70 (.if_icmp .ne 14) 3 73 := ⟨by decide +kernel, rfl⟩
theorem eX8_finds_73 : Dc MX8_finds 73 (.aload_n 0) 1 74 := ⟨by decide +kernel, rfl⟩
theorem eX8_finds_74 : Dc MX8_finds 74 (.aload_n 0) 1 75 := ⟨by decide +kernel, rfl⟩
theorem eX8_finds_75 : Dc MX8_finds 75 (.getfield 56) 3 78 := ⟨by decide +kernel, rfl⟩
theorem eX8_finds_78 : Dc MX8_finds 78 (.invokevirtual 197) 3 81 := ⟨by decide +kernel, rfl⟩
theorem eX8_finds_81 : Dc MX8_finds 81 (.goto 4) 3 84 := ⟨by decide +kernel, rfl⟩
theorem eX8_finds_84 : Dc MX8_finds 84 (.iconst 0) 1 85 := ⟨by decide +kernel, rfl⟩
theorem eX8_finds_85 : Dc MX8_finds 85 (.istore_n 1) 1 86 := ⟨by decide +kernel, rfl⟩
theorem eX8_finds_86 : Dc MX8_finds 86 (.aload_n 0) 1 87 := ⟨by decide +kernel, rfl⟩
theorem eX8_finds_87 : Dc MX8_finds 87 (.getfield 194) 3 90 := ⟨by decide +kernel, rfl⟩
theorem eX8_finds_90 : Dc MX8_finds 90 (.ifCond .ne 16) 3 93 := ⟨by decide +kernel, rfl⟩
theorem eX8_finds_93 : Dc MX8_finds 93 (.aload_n 0) 1 94 := ⟨by decide +kernel, rfl⟩
theorem eX8_finds_94 : Dc MX8_finds 94 (.dup) 1 95 := ⟨by decide +kernel, rfl⟩
theorem eX8_finds_95 : Dc MX8_finds 95 (.getfield 200) 3 98 := ⟨by decide +kernel, rfl⟩
theorem eX8_finds_98 : Dc MX8_finds 98 (.iconst 1) 1 99 := ⟨by decide +kernel, rfl⟩
theorem eX8_finds_99 : Dc MX8_finds 99 (.iadd) 1 100 := ⟨by decide +kernel, rfl⟩
theorem eX8_finds_100 : Dc MX8_finds 100 (.putfield 200) 3 103 := ⟨by decide +kernel, rfl⟩
theorem eX8_finds_103 : Dc MX8_finds 103 (.goto 91) 3 106 := ⟨by decide +kernel, rfl⟩
theorem eX8_finds_106 : Dc MX8_finds 106 (.aload_n 0) 1 107 := ⟨by decide +kernel, rfl⟩
theorem eX8_finds_107 : Dc MX8_finds 107 (.getfield 194) 3 110 := ⟨by decide +kernel, rfl⟩
theorem eX8_finds_110 : Dc MX8_finds 110 (.iconst 1) 1 111 := ⟨by decide +kernel, rfl⟩
theorem eX8_finds_111 : Dc MX8_finds 111 (.if_icmp .ne 31) 3 114 := ⟨by decide +kernel, rfl⟩
theorem eX8_finds_114 : Dc MX8_finds 114 (.aload_n 0) 1 115 := ⟨by decide +kernel, rfl⟩
theorem eX8_finds_115 : Dc MX8_finds 115 (.dup) 1 116 := ⟨by decide +kernel, rfl⟩
theorem eX8_finds_116 : Dc MX8_finds 116 (.getfield 200) 3 119 := ⟨by decide +kernel, rfl⟩
theorem eX8_finds_119 : Dc MX8_finds 119 (.aload_n 0) 1 120 := ⟨by decide +kernel, rfl⟩
theorem eX8_finds_120 : Dc MX8_finds 120 (.aload_n 0) 1 121 := ⟨by decide +kernel, rfl⟩
theorem eX8_finds_121 : Dc MX8_finds 121 (.getfield 56) 3 124 := ⟨by decide +kernel, rfl⟩
theorem eX8_finds_124 : Dc MX8_finds 124 (.invokevirtual 203) 3 127 := ⟨by decide +kernel, rfl⟩
theorem eX8_finds_127 : Dc MX8_finds 127 (.ifCond .eq 7) 3 130 := ⟨by decide +kernel, rfl⟩
theorem eX8_finds_130 : Dc MX8_finds 130 (.iconst 1) 1 131 := ⟨by decide +kernel, rfl⟩
theorem eX8_finds_131 : Dc MX8_finds 131 (.goto 4) 3 134 := ⟨by decide +kernel, rfl⟩
theorem eX8_finds_134 : Dc MX8_finds 134 (.iconst 0) 1 135 := ⟨by decide +kernel, rfl⟩
theorem eX8_finds_135 : Dc MX8_finds 135 (.iadd) 1 136 := ⟨by decide +kernel, rfl⟩
theorem eX8_finds_136 : Dc MX8_finds 136 (.putfield 200) 3 139 := ⟨by decide +kernel, rfl⟩
theorem eX8_finds_139 : Dc MX8_finds 139 (.goto 55) 3 142 := ⟨by decide +kernel, rfl⟩
theorem eX8_finds_142 : Dc MX8_finds 142 (.aload_n 0) 1 143 := ⟨by decide +kernel, rfl⟩
theorem eX8_finds_143 : Dc MX8_finds 143 (.getfield 200) 3 146 := ⟨by decide +kernel, rfl⟩
theorem eX8_finds_146 : Dc MX8_finds 146 (.ifCond .eq 30) 3 149 := ⟨by decide +kernel, rfl⟩
theorem eX8_finds_149 : Dc MX8_finds 149 (.iload_n 1) 1 150 := ⟨by decide +kernel, rfl⟩
theorem eX8_finds_150 : Dc MX8_finds 150 (.aload_n 0) 1 151 := ⟨by decide +kernel, rfl⟩
theorem eX8_finds_151 : Dc MX8_finds 151 (.getfield 207) 3 154 := ⟨by decide +kernel, rfl⟩
theorem eX8_finds_154 : Dc MX8_finds 154 (.if_icmp .lt 22) 3 157 := ⟨by decide +kernel, rfl⟩
theorem eX8_finds_157 : Dc MX8_finds 157 (.iload_n 1) 1 158 := ⟨by decide +kernel, rfl⟩
theorem eX8_finds_158 : Dc MX8_finds 158 (.aload_n 0) 1 159 := ⟨by decide +kernel, rfl⟩
theorem eX8_finds_159 : Dc MX8_finds 159 (.getfield 207) 3 162 := ⟨by decide +kernel, rfl⟩
theorem eX8_finds_162 : Dc MX8_finds 162 (.if_icmp .ne 32) 3 165 := ⟨by decide +kernel, rfl⟩
theorem eX8_finds_165 : Dc MX8_finds 165 (.aload_n 0) 1 166 := ⟨by decide +kernel, rfl⟩
theorem eX8_finds_166 : Dc MX8_finds 166 (.aload_n 0) 1 167 := ⟨by decide +kernel, rfl⟩
theorem eX8_finds_167 : Dc MX8_finds 167 (.getfield 56) 3 170 := ⟨by decide +kernel, rfl⟩
theorem eX8_finds_170 : Dc MX8_finds 170 (.invokevirtual 203) 3 173 := ⟨by decide +kernel, rfl⟩
theorem eX8_finds_173 : Dc MX8_finds 173 (.ifCond .eq 21) 3 176 := ⟨by decide +kernel, rfl⟩
theorem eX8_finds_176 : Dc MX8_finds 176 (.aload_n 0) 1 177 := ⟨by decide +kernel, rfl⟩
theorem eX8_finds_177 : Dc MX8_finds 177 (.aload_n 0) 1 178 := ⟨by decide +kernel, rfl⟩
theorem eX8_finds_178 : Dc MX8_finds 178 (.getfield 56) 3 181 := ⟨by decide +kernel, rfl⟩
theorem eX8_finds_181 : Dc MX8_finds 181 (.invokevirtual 210) 3 184 := ⟨by decide +kernel, rfl⟩
theorem eX8_finds_184 : Dc MX8_finds 184 (.aload_n 0) 1 185 := ⟨by decide +kernel, rfl⟩
theorem eX8_finds_185 : Dc MX8_finds 185 (.iload_n 1) 1 186 := ⟨by decide +kernel, rfl⟩
theorem eX8_finds_186 : Dc MX8_finds 186 (.putfield 207) 3 189 := ⟨by decide +kernel, rfl⟩
theorem eX8_finds_189 : Dc MX8_finds 189 (.aload_n 0) 1 190 := ⟨by decide +kernel, rfl⟩
theorem eX8_finds_190 : Dc MX8_finds 190 (.iconst 1) 1 191 := ⟨by decide +kernel, rfl⟩
theorem eX8_finds_191 : Dc MX8_finds 191 (.putfield 200) 3 194 := ⟨by decide +kernel, rfl⟩
theorem eX8_finds_194 : Dc MX8_finds 194 (.return_) 1 195 := ⟨by decide +kernel, rfl⟩
theorem eX8_may_0 : Dc MX8_may 0 (.aload_n 0) 1 1 := ⟨by decide +kernel, rfl⟩
theorem eX8_may_1 : Dc MX8_may 1 (.getfield 53) 3 4 := ⟨by decide +kernel, rfl⟩
theorem eX8_may_4 : Dc MX8_may 4 (.iload_n 2) 1 5 := ⟨by decide +kernel, rfl⟩
theorem eX8_may_5 : Dc MX8_may 5 (.baload) 1 6 := ⟨by decide +kernel, rfl⟩
theorem eX8_may_6 : Dc MX8_may 6 (.ifCond .eq 37) 3 9 := ⟨by decide +kernel, rfl⟩
theorem eX8_may_9 : Dc MX8_may 9 (.aload_n 0) 1 10 := ⟨by decide +kernel, rfl⟩
theorem eX8_may_10 : Dc MX8_may 10 (.getfield 56) 3 13 := ⟨by decide +kernel, rfl⟩
theorem eX8_may_13 : Dc MX8_may 13 (.iload_n 2) 1 14 := ⟨by decide +kernel, rfl⟩
theorem eX8_may_14 : Dc MX8_may 14 (.iload_n 1) 1 15 := ⟨by decide +kernel, rfl⟩
theorem eX8_may_15 : Dc MX8_may 15 (.invokestatic 143) 3 18 := ⟨by decide +kernel, rfl⟩
theorem eX8_may_18 : Dc MX8_may 18 (.aload_n 0) 1 19 := ⟨by decide +kernel, rfl⟩
theorem eX8_may_19 : Dc MX8_may 19 (.getfield 44) 3 22 := ⟨by decide +kernel, rfl⟩
theorem eX8_may_22 : Dc MX8_may 22 (.iload_n 2) 1 23 := ⟨by decide +kernel, rfl⟩
theorem eX8_may_23 : Dc MX8_may 23 (.iaload) 1 24 := ⟨by decide +kernel, rfl⟩
theorem eX8_may_24 : Dc MX8_may 24 (.aload_n 0) 1 25 := ⟨by decide +kernel, rfl⟩
theorem eX8_may_25 : Dc MX8_may 25 (.getfield 38) 3 28 := ⟨by decide +kernel, rfl⟩
theorem eX8_may_28 : Dc MX8_may 28 (.iload_n 2) 1 29 := ⟨by decide +kernel, rfl⟩
theorem eX8_may_29 : Dc MX8_may 29 (.iaload) 1 30 := ⟨by decide +kernel, rfl⟩
theorem eX8_may_30 : Dc MX8_may 30 (.iconst 2) 1 31 := ⟨by decide +kernel, rfl⟩
theorem eX8_may_31 : Dc MX8_may 31 (.if_icmp .ne 7) 3 34 := ⟨by decide +kernel, rfl⟩
theorem eX8_may_34 : Dc MX8_may 34 (.iconst 2) 1 35 := ⟨by decide +kernel, rfl⟩
theorem eX8_may_35 : Dc MX8_may 35 (.goto 4) 3 38 := ⟨by decide +kernel, rfl⟩
theorem eX8_may_38 : Dc MX8_may 38 (.iconst 1) 1 39 := ⟨by decide +kernel, rfl⟩
theorem eX8_may_39 : Dc MX8_may 39 (.imul) 1 40 := ⟨by decide +kernel, rfl⟩
theorem eX8_may_40 : Dc MX8_may 40 (.if_icmp .lt 5) 3 43 := ⟨by decide +kernel, rfl⟩
theorem eX8_may_43 : Dc MX8_may 43 (.iconst 0) 1 44 := ⟨by decide +kernel, rfl⟩
theorem eX8_may_44 : Dc MX8_may 44 (.ireturn) 1 45 := ⟨by decide +kernel, rfl⟩
theorem eX8_may_45 : Dc MX8_may 45 (.iconst 1) 1 46 := ⟨by decide +kernel, rfl⟩
theorem eX8_may_46 : Dc MX8_may 46 (.istore_n 3) 1 47 := ⟨by decide +kernel, rfl⟩
theorem eX8_may_47 : Dc MX8_may 47 (.iconst 0) 1 48 := ⟨by decide +kernel, rfl⟩
theorem eX8_may_48 : Dc MX8_may 48 (.istore 4) 2 50 := ⟨by decide +kernel, rfl⟩
theorem eX8_may_50 : Dc MX8_may 50 (.iload 4) 2 52 := ⟨by decide +kernel, rfl⟩
theorem eX8_may_52 : Dc MX8_may 52 (.iload_n 1) 1 53 := ⟨by decide +kernel, rfl⟩
theorem eX8_may_53 : Dc MX8_may 53 (.if_icmp .ge 45) 3 56 := ⟨by decide +kernel, rfl⟩
theorem eX8_may_56 : Dc MX8_may 56 (.iload_n 3) 1 57 := ⟨by decide +kernel, rfl⟩
theorem eX8_may_57 : Dc MX8_may 57 (.ifCond .eq 33) 3 60 := ⟨by decide +kernel, rfl⟩
theorem eX8_may_60 : Dc MX8_may 60 (.aload_n 0) 1 61 := ⟨by decide +kernel, rfl⟩
theorem eX8_may_61 : Dc MX8_may 61 (.getfield 56) 3 64 := ⟨by decide +kernel, rfl⟩
theorem eX8_may_64 : Dc MX8_may 64 (.iload 4) 2 66 := ⟨by decide +kernel, rfl⟩
theorem eX8_may_66 : Dc MX8_may 66 (.iaload) 1 67 := ⟨by decide +kernel, rfl⟩
theorem eX8_may_67 : Dc MX8_may 67 (.iload_n 2) 1 68 := ⟨by decide +kernel, rfl⟩
theorem eX8_may_68 : Dc MX8_may 68 (.if_icmp .ne 18) 3 71 := ⟨by decide +kernel, rfl⟩
theorem eX8_may_71 : Dc MX8_may 71 (.aload_n 0) 1 72 := ⟨by decide +kernel, rfl⟩
theorem eX8_may_72 : Dc MX8_may 72 (.getfield 32) 3 75 := ⟨by decide +kernel, rfl⟩
theorem eX8_may_75 : Dc MX8_may 75 (.bipush 8) 2 77 := ⟨by decide +kernel, rfl⟩
theorem eX8_may_77 : Dc MX8_may 77 (.iload 4) 2 79 := ⟨by decide +kernel, rfl⟩
theorem eX8_may_79 : Dc MX8_may 79 (.imul) 1 80 := ⟨by decide +kernel, rfl⟩
theorem eX8_may_80 : Dc MX8_may 80 (.iload_n 1) 1 81 := ⟨by decide +kernel, rfl⟩
theorem eX8_may_81 : Dc MX8_may 81 (.iadd) 1 82 := ⟨by decide +kernel, rfl⟩
theorem eX8_may_82 : Dc MX8_may 82 (.baload) 1 83 := ⟨by decide +kernel, rfl⟩
theorem eX8_may_83 : Dc MX8_may 83 (.ifCond .ne 7) 3 86 := ⟨by decide +kernel, rfl⟩
theorem eX8_may_86 : Dc MX8_may 86 (.iconst 1) 1 87 := ⟨by decide +kernel, rfl⟩
theorem eX8_may_87 : Dc MX8_may 87 (.goto 4) 3 90 := ⟨by decide +kernel, rfl⟩
theorem eX8_may_90 : Dc MX8_may 90 (.iconst 0) 1 91 := ⟨by decide +kernel, rfl⟩
theorem eX8_may_91 : Dc MX8_may 91 (.istore_n 3) 1 92 := ⟨by decide +kernel, rfl⟩
theorem eX8_may_92 : Dc MX8_may 92 (.iinc 4 1) 3 95 := ⟨by decide +kernel, rfl⟩
theorem eX8_may_95 : Dc MX8_may 95 (.goto (-45)) 3 98 := ⟨by decide +kernel, rfl⟩
theorem eX8_may_98 : Dc MX8_may 98 (.iload_n 3) 1 99 := ⟨by decide +kernel, rfl⟩
theorem eX8_may_99 : Dc MX8_may 99 (.ireturn) 1 100 := ⟨by decide +kernel, rfl⟩
theorem eX8_goes_0 : Dc MX8_goes 0 (.iload_n 1) 1 1 := ⟨by decide +kernel, rfl⟩
theorem eX8_goes_1 : Dc MX8_goes 1 (.aload_n 0) 1 2 := ⟨by decide +kernel, rfl⟩
theorem eX8_goes_2 : Dc MX8_goes 2 (.getfield 84) 3 5 := ⟨by decide +kernel, rfl⟩
theorem eX8_goes_5 : Dc MX8_goes 5 (.if_icmp .ne 8) 3 8 := ⟨by decide +kernel, rfl⟩
theorem eX8_goes_8 : Dc MX8_goes 8 (.aload_n 0) 1 9 := ⟨by decide +kernel, rfl⟩
theorem eX8_goes_9 : Dc MX8_goes 9 (.invokevirtual 213) 3 12 := ⟨by decide +kernel, rfl⟩
theorem eX8_goes_12 : Dc MX8_goes 12 (.return_) 1 13 := ⟨by decide +kernel, rfl⟩
theorem eX8_goes_13 : Dc MX8_goes 13 (.aload_n 0) 1 14 := ⟨by decide +kernel, rfl⟩
theorem eX8_goes_14 : Dc MX8_goes 14 (.getfield 13) 3 17 := ⟨by decide +kernel, rfl⟩
theorem eX8_goes_17 : Dc MX8_goes 17 (.iload_n 1) 1 18 := ⟨by decide +kernel, rfl⟩
theorem eX8_goes_18 : Dc MX8_goes 18 (.baload) 1 19 := ⟨by decide +kernel, rfl⟩
theorem eX8_goes_19 : Dc MX8_goes 19 (.ifCond .ne 18) 3 22 := ⟨by decide +kernel, rfl⟩
theorem eX8_goes_22 : Dc MX8_goes 22 (.aload_n 0) 1 23 := ⟨by decide +kernel, rfl⟩
theorem eX8_goes_23 : Dc MX8_goes 23 (.getfield 56) 3 26 := ⟨by decide +kernel, rfl⟩
theorem eX8_goes_26 : Dc MX8_goes 26 (.iload_n 1) 1 27 := ⟨by decide +kernel, rfl⟩
theorem eX8_goes_27 : Dc MX8_goes 27 (.iconst (-1)) 1 28 := ⟨by decide +kernel, rfl⟩
theorem eX8_goes_28 : Dc MX8_goes 28 (.iastore) 1 29 := ⟨by decide +kernel, rfl⟩
theorem eX8_goes_29 : Dc MX8_goes 29 (.aload_n 0) 1 30 := ⟨by decide +kernel, rfl⟩
theorem eX8_goes_30 : Dc MX8_goes 30 (.iload_n 1) 1 31 := ⟨by decide +kernel, rfl⟩
theorem eX8_goes_31 : Dc MX8_goes 31 (.iconst 1) 1 32 := ⟨by decide +kernel, rfl⟩
theorem eX8_goes_32 : Dc MX8_goes 32 (.iadd) 1 33 := ⟨by decide +kernel, rfl⟩
theorem eX8_goes_33 : Dc MX8_goes 33 (.invokevirtual 216) 3 36 := ⟨by decide +kernel, rfl⟩
theorem eX8_goes_36 : Dc MX8_goes 36 (.return_) 1 37 := ⟨by decide +kernel, rfl⟩
theorem eX8_goes_37 : Dc MX8_goes 37 (.iconst 0) 1 38 := ⟨by decide +kernel, rfl⟩
theorem eX8_goes_38 : Dc MX8_goes 38 (.istore_n 2) 1 39 := ⟨by decide +kernel, rfl⟩
theorem eX8_goes_39 : Dc MX8_goes 39 (.iload_n 2) 1 40 := ⟨by decide +kernel, rfl⟩
theorem eX8_goes_40 : Dc MX8_goes 40 (.aload_n 0) 1 41 := ⟨by decide +kernel, rfl⟩
theorem eX8_goes_41 : Dc MX8_goes 41 (.getfield 91) 3 44 := ⟨by decide +kernel, rfl⟩
theorem eX8_goes_44 : Dc MX8_goes 44 (.if_icmp .ge 32) 3 47 := ⟨by decide +kernel, rfl⟩
theorem eX8_goes_47 : Dc MX8_goes 47 (.aload_n 0) 1 48 := ⟨by decide +kernel, rfl⟩
theorem eX8_goes_48 : Dc MX8_goes 48 (.iload_n 1) 1 49 := ⟨by decide +kernel, rfl⟩
theorem eX8_goes_49 : Dc MX8_goes 49 (.iload_n 2) 1 50 := ⟨by decide +kernel, rfl⟩
theorem eX8_goes_50 : Dc MX8_goes 50 (.invokevirtual 220) 3 53 := ⟨by decide +kernel, rfl⟩
theorem eX8_goes_53 : Dc MX8_goes 53 (.ifCond .eq 17) 3 56 := ⟨by decide +kernel, rfl⟩
theorem eX8_goes_56 : Dc MX8_goes 56 (.aload_n 0) 1 57 := ⟨by decide +kernel, rfl⟩
theorem eX8_goes_57 : Dc MX8_goes 57 (.getfield 56) 3 60 := ⟨by decide +kernel, rfl⟩
theorem eX8_goes_60 : Dc MX8_goes 60 (.iload_n 1) 1 61 := ⟨by decide +kernel, rfl⟩
theorem eX8_goes_61 : Dc MX8_goes 61 (.iload_n 2) 1 62 := ⟨by decide +kernel, rfl⟩
theorem eX8_goes_62 : Dc MX8_goes 62 (.iastore) 1 63 := ⟨by decide +kernel, rfl⟩
theorem eX8_goes_63 : Dc MX8_goes 63 (.aload_n 0) 1 64 := ⟨by decide +kernel, rfl⟩
theorem eX8_goes_64 : Dc MX8_goes 64 (.iload_n 1) 1 65 := ⟨by decide +kernel, rfl⟩
theorem eX8_goes_65 : Dc MX8_goes 65 (.iconst 1) 1 66 := ⟨by decide +kernel, rfl⟩
theorem eX8_goes_66 : Dc MX8_goes 66 (.iadd) 1 67 := ⟨by decide +kernel, rfl⟩
theorem eX8_goes_67 : Dc MX8_goes 67 (.invokevirtual 216) 3 70 := ⟨by decide +kernel, rfl⟩
theorem eX8_goes_70 : Dc MX8_goes 70 (.iinc 2 1) 3 73 := ⟨by decide +kernel, rfl⟩
theorem eX8_goes_73 : Dc MX8_goes 73 (.goto (-34)) 3 76 := ⟨by decide +kernel, rfl⟩
theorem eX8_goes_76 : Dc MX8_goes 76 (.return_) 1 77 := ⟨by decide +kernel, rfl⟩
theorem eX8_all_0 : Dc MX8_all 0 (.aload_n 0) 1 1 := ⟨by decide +kernel, rfl⟩
theorem eX8_all_1 : Dc MX8_all 1 (.iload_n 1) 1 2 := ⟨by decide +kernel, rfl⟩
theorem eX8_all_2 : Dc MX8_all 2 (.putfield 194) 3 5 := ⟨by decide +kernel, rfl⟩
theorem eX8_all_5 : Dc MX8_all 5 (.aload_n 0) 1 6 := ⟨by decide +kernel, rfl⟩
theorem eX8_all_6 : Dc MX8_all 6 (.iconst 0) 1 7 := ⟨by decide +kernel, rfl⟩
theorem eX8_all_7 : Dc MX8_all 7 (.putfield 200) 3 10 := ⟨by decide +kernel, rfl⟩
theorem eX8_all_10 : Dc MX8_all 10 (.aload_n 0) 1 11 := ⟨by decide +kernel, rfl⟩
theorem eX8_all_11 : Dc MX8_all 11 (.ldc 223) 2 13 := ⟨by decide +kernel, rfl⟩
theorem eX8_all_13 : Dc MX8_all 13 (.putfield 207) 3 16 := ⟨by decide +kernel, rfl⟩
theorem eX8_all_16 : Dc MX8_all 16 (.aload_n 0) 1 17 := ⟨by decide +kernel, rfl⟩
theorem eX8_all_17 : Dc MX8_all 17 (.iconst 0) 1 18 := ⟨by decide +kernel, rfl⟩
theorem eX8_all_18 : Dc MX8_all 18 (.invokevirtual 216) 3 21 := ⟨by decide +kernel, rfl⟩
theorem eX8_all_21 : Dc MX8_all 21 (.return_) 1 22 := ⟨by decide +kernel, rfl⟩
theorem eX8_takes_0 : Dc MX8_takes 0 (.iconst 0) 1 1 := ⟨by decide +kernel, rfl⟩
theorem eX8_takes_1 : Dc MX8_takes 1 (.istore_n 1) 1 2 := ⟨by decide +kernel, rfl⟩
theorem eX8_takes_2 : Dc MX8_takes 2 (.iload_n 1) 1 3 := ⟨by decide +kernel, rfl⟩
theorem eX8_takes_3 : Dc MX8_takes 3 (.aload_n 0) 1 4 := ⟨by decide +kernel, rfl⟩
theorem eX8_takes_4 : Dc MX8_takes 4 (.getfield 84) 3 7 := ⟨by decide +kernel, rfl⟩
theorem eX8_takes_7 : Dc MX8_takes 7 (.if_icmp .ge 21) 3 10 := ⟨by decide +kernel, rfl⟩
theorem eX8_takes_10 : Dc MX8_takes 10 (.aload_n 0) 1 11 := ⟨by decide +kernel, rfl⟩
theorem eX8_takes_11 : Dc MX8_takes 11 (.getfield 26) 3 14 := ⟨by decide +kernel, rfl⟩
theorem eX8_takes_14 : Dc MX8_takes 14 (.iload_n 1) 1 15 := ⟨by decide +kernel, rfl⟩
theorem eX8_takes_15 : Dc MX8_takes 15 (.aload_n 0) 1 16 := ⟨by decide +kernel, rfl⟩
theorem eX8_takes_16 : Dc MX8_takes 16 (.getfield 59) 3 19 := ⟨by decide +kernel, rfl⟩
theorem eX8_takes_19 : Dc MX8_takes 19 (.iload_n 1) 1 20 := ⟨by decide +kernel, rfl⟩
theorem eX8_takes_20 : Dc MX8_takes 20 (.iaload) 1 21 := ⟨by decide +kernel, rfl⟩
theorem eX8_takes_21 : Dc MX8_takes 21 (.iastore) 1 22 := ⟨by decide +kernel, rfl⟩
theorem eX8_takes_22 : Dc MX8_takes 22 (.iinc 1 1) 3 25 := ⟨by decide +kernel, rfl⟩
theorem eX8_takes_25 : Dc MX8_takes 25 (.goto (-23)) 3 28 := ⟨by decide +kernel, rfl⟩
theorem eX8_takes_28 : Dc MX8_takes 28 (.return_) 1 29 := ⟨by decide +kernel, rfl⟩
theorem eX8_best_0 : Dc MX8_best 0 (.aload_n 0) 1 1 := ⟨by decide +kernel, rfl⟩
theorem eX8_best_1 : Dc MX8_best 1 (.iconst 0) 1 2 := ⟨by decide +kernel, rfl⟩
theorem eX8_best_2 : Dc MX8_best 2 (.putfield 80) 3 5 := ⟨by decide +kernel, rfl⟩
theorem eX8_best_5 : Dc MX8_best 5 (.aload_n 0) 1 6 := ⟨by decide +kernel, rfl⟩
theorem eX8_best_6 : Dc MX8_best 6 (.iconst 2) 1 7 := ⟨by decide +kernel, rfl⟩
theorem eX8_best_7 : Dc MX8_best 7 (.invokevirtual 224) 3 10 := ⟨by decide +kernel, rfl⟩
theorem eX8_best_10 : Dc MX8_best 10 (.aload_n 0) 1 11 := ⟨by decide +kernel, rfl⟩
theorem eX8_best_11 : Dc MX8_best 11 (.getfield 200) 3 14 := ⟨by decide +kernel, rfl⟩
theorem eX8_best_14 : Dc MX8_best 14 (.ifCond .le 7) 3 17 := ⟨by decide +kernel, rfl⟩
theorem eX8_best_17 : Dc MX8_best 17 (.aload_n 0) 1 18 := ⟨by decide +kernel, rfl⟩
theorem eX8_best_18 : Dc MX8_best 18 (.invokevirtual 227) 3 21 := ⟨by decide +kernel, rfl⟩
theorem eX8_best_21 : Dc MX8_best 21 (.aload_n 0) 1 22 := ⟨by decide +kernel, rfl⟩
theorem eX8_best_22 : Dc MX8_best 22 (.getfield 200) 3 25 := ⟨by decide +kernel, rfl⟩
theorem eX8_best_25 : Dc MX8_best 25 (.ireturn) 1 26 := ⟨by decide +kernel, rfl⟩
theorem eX8_plans_0 : Dc MX8_plans 0 (.aload_n 0) 1 1 := ⟨by decide +kernel, rfl⟩
theorem eX8_plans_1 : Dc MX8_plans 1 (.iconst 0) 1 2 := ⟨by decide +kernel, rfl⟩
theorem eX8_plans_2 : Dc MX8_plans 2 (.putfield 80) 3 5 := ⟨by decide +kernel, rfl⟩
theorem eX8_plans_5 : Dc MX8_plans 5 (.iload_n 1) 1 6 := ⟨by decide +kernel, rfl⟩
theorem eX8_plans_6 : Dc MX8_plans 6 (.i2l) 1 7 := ⟨by decide +kernel, rfl⟩
theorem eX8_plans_7 : Dc MX8_plans 7 (.lconst 0) 1 8 := ⟨by decide +kernel, rfl⟩
theorem eX8_plans_8 : Dc MX8_plans 8 (.lconst 1) 1 9 := ⟨by decide +kernel, rfl⟩
theorem eX8_plans_9 : Dc MX8_plans 9 (.invokestatic 87) 3 12 := ⟨by decide +kernel, rfl⟩
theorem eX8_plans_12 : Dc MX8_plans 12 (.ifCond .ne 5) 3 15 := ⟨by decide +kernel, rfl⟩
theorem eX8_plans_15 : Dc MX8_plans 15 (.iconst (-1)) 1 16 := ⟨by decide +kernel, rfl⟩
theorem eX8_plans_16 : Dc MX8_plans 16 (.ireturn) 1 17 := ⟨by decide +kernel, rfl⟩
theorem eX8_plans_17 : Dc MX8_plans 17 (.aload_n 0) 1 18 := ⟨by decide +kernel, rfl⟩
theorem eX8_plans_18 : Dc MX8_plans 18 (.aload_n 0) 1 19 := ⟨by decide +kernel, rfl⟩
theorem eX8_plans_19 : Dc MX8_plans 19 (.getfield 26) 3 22 := ⟨by decide +kernel, rfl⟩
theorem eX8_plans_22 : Dc MX8_plans 22 (.invokevirtual 210) 3 25 := ⟨by decide +kernel, rfl⟩
theorem eX8_plans_25 : Dc MX8_plans 25 (.aload_n 0) 1 26 := ⟨by decide +kernel, rfl⟩
theorem eX8_plans_26 : Dc MX8_plans 26 (.iload_n 1) 1 27 := ⟨by decide +kernel, rfl⟩
theorem eX8_plans_27 : Dc MX8_plans 27 (.invokevirtual 224) 3 30 := ⟨by decide +kernel, rfl⟩
theorem eX8_plans_30 : Dc MX8_plans 30 (.aload_n 0) 1 31 := ⟨by decide +kernel, rfl⟩
theorem eX8_plans_31 : Dc MX8_plans 31 (.getfield 200) 3 34 := ⟨by decide +kernel, rfl⟩
theorem eX8_plans_34 : Dc MX8_plans 34 (.ireturn) 1 35 := ⟨by decide +kernel, rfl⟩
theorem eX8_worth_0 : Dc MX8_worth 0 (.aload_n 0) 1 1 := ⟨by decide +kernel, rfl⟩
theorem eX8_worth_1 : Dc MX8_worth 1 (.iconst 0) 1 2 := ⟨by decide +kernel, rfl⟩
theorem eX8_worth_2 : Dc MX8_worth 2 (.putfield 80) 3 5 := ⟨by decide +kernel, rfl⟩
theorem eX8_worth_5 : Dc MX8_worth 5 (.iload_n 1) 1 6 := ⟨by decide +kernel, rfl⟩
theorem eX8_worth_6 : Dc MX8_worth 6 (.i2l) 1 7 := ⟨by decide +kernel, rfl⟩
theorem eX8_worth_7 : Dc MX8_worth 7 (.lconst 1) 1 8 := ⟨by decide +kernel, rfl⟩
theorem eX8_worth_8 : Dc MX8_worth 8 (.ldc2_w 230) 3 11 := ⟨by decide +kernel, rfl⟩
theorem eX8_worth_11 : Dc MX8_worth 11 (.invokestatic 87) 3 14 := ⟨by decide +kernel, rfl⟩
theorem eX8_worth_14 : Dc MX8_worth 14 (.ifCond .ne 5) 3 17 := ⟨by decide +kernel, rfl⟩
theorem eX8_worth_17 : Dc MX8_worth 17 (.iconst (-1)) 1 18 := ⟨by decide +kernel, rfl⟩
theorem eX8_worth_18 : Dc MX8_worth 18 (.ireturn) 1 19 := ⟨by decide +kernel, rfl⟩
theorem eX8_worth_19 : Dc MX8_worth 19 (.iconst 0) 1 20 := ⟨by decide +kernel, rfl⟩
theorem eX8_worth_20 : Dc MX8_worth 20 (.istore_n 2) 1 21 := ⟨by decide +kernel, rfl⟩
theorem eX8_worth_21 : Dc MX8_worth 21 (.iconst 0) 1 22 := ⟨by decide +kernel, rfl⟩
theorem eX8_worth_22 : Dc MX8_worth 22 (.istore_n 3) 1 23 := ⟨by decide +kernel, rfl⟩
theorem eX8_worth_23 : Dc MX8_worth 23 (.iconst 0) 1 24 := ⟨by decide +kernel, rfl⟩
theorem eX8_worth_24 : Dc MX8_worth 24 (.istore 4) 2 26 := ⟨by decide +kernel, rfl⟩
theorem eX8_worth_26 : Dc MX8_worth 26 (.iconst 0) 1 27 := ⟨by decide +kernel, rfl⟩
theorem eX8_worth_27 : Dc MX8_worth 27 (.istore 5) 2 29 := ⟨by decide +kernel, rfl⟩
theorem eX8_worth_29 : Dc MX8_worth 29 (.iconst 0) 1 30 := ⟨by decide +kernel, rfl⟩
theorem eX8_worth_30 : Dc MX8_worth 30 (.istore 6) 2 32 := ⟨by decide +kernel, rfl⟩
theorem eX8_worth_32 : Dc MX8_worth 32 (.iload 6) 2 34 := ⟨by decide +kernel, rfl⟩
theorem eX8_worth_34 : Dc MX8_worth 34 (.aload_n 0) 1 35 := ⟨by decide +kernel, rfl⟩
theorem eX8_worth_35 : Dc MX8_worth 35 (.getfield 84) 3 38 := ⟨by decide +kernel, rfl⟩
theorem eX8_worth_38 : Dc MX8_worth 38 (.if_icmp .ge 164) 3 41 := ⟨by decide +kernel, rfl⟩
theorem eX8_worth_41 : Dc MX8_worth 41 (.aload_n 0) 1 42 := ⟨by decide +kernel, rfl⟩
theorem eX8_worth_42 : Dc MX8_worth 42 (.getfield 13) 3 45 := ⟨by decide +kernel, rfl⟩
theorem eX8_worth_45 : Dc MX8_worth 45 (.iload 6) 2 47 := ⟨by decide +kernel, rfl⟩
theorem eX8_worth_47 : Dc MX8_worth 47 (.baload) 1 48 := ⟨by decide +kernel, rfl⟩
theorem eX8_worth_48 : Dc MX8_worth 48 (.ifCond .eq 148) 3 51 := ⟨by decide +kernel, rfl⟩
theorem eX8_worth_51 : Dc MX8_worth 51 (.aload_n 0) 1 52 := ⟨by decide +kernel, rfl⟩
theorem eX8_worth_52 : Dc MX8_worth 52 (.getfield 26) 3 55 := ⟨by decide +kernel, rfl⟩
theorem eX8_worth_55 : Dc MX8_worth 55 (.iload 6) 2 57 := ⟨by decide +kernel, rfl⟩
theorem eX8_worth_57 : Dc MX8_worth 57 (.iaload) 1 58 := ⟨by decide +kernel, rfl⟩
theorem eX8_worth_58 : Dc MX8_worth 58 (.ifCond .ge 6) 3 61 := ⟨by decide +kernel, rfl⟩
theorem eX8_worth_61 : Dc MX8_worth 61 (.goto 135) 3 64 := ⟨by decide +kernel, rfl⟩
theorem eX8_worth_64 : Dc MX8_worth 64 (.aload_n 0) 1 65 := ⟨by decide +kernel, rfl⟩
theorem eX8_worth_65 : Dc MX8_worth 65 (.iload 6) 2 67 := ⟨by decide +kernel, rfl⟩
theorem eX8_worth_67 : Dc MX8_worth 67 (.aload_n 0) 1 68 := ⟨by decide +kernel, rfl⟩
theorem eX8_worth_68 : Dc MX8_worth 68 (.getfield 26) 3 71 := ⟨by decide +kernel, rfl⟩
theorem eX8_worth_71 : Dc MX8_worth 71 (.iload 6) 2 73 := ⟨by decide +kernel, rfl⟩
theorem eX8_worth_73 : Dc MX8_worth 73 (.iaload) 1 74 := ⟨by decide +kernel, rfl⟩
theorem eX8_worth_74 : Dc MX8_worth 74 (.invokevirtual 136) 3 77 := ⟨by decide +kernel, rfl⟩
theorem eX8_worth_77 : Dc MX8_worth 77 (.istore 7) 2 79 := ⟨by decide +kernel, rfl⟩
theorem eX8_worth_79 : Dc MX8_worth 79 (.iload_n 2) 1 80 := ⟨by decide +kernel, rfl⟩
theorem eX8_worth_80 : Dc MX8_worth 80 (.iload 7) 2 82 := ⟨by decide +kernel, rfl⟩
theorem eX8_worth_82 : Dc MX8_worth 82 (.iload_n 1) 1 83 := ⟨by decide +kernel, rfl⟩
theorem eX8_worth_83 : Dc MX8_worth 83 (.if_icmp .ne 7) 3 86 := ⟨by decide +kernel, rfl⟩
theorem eX8_worth_86 : Dc MX8_worth 86 (.iconst 1) 1 87 := ⟨by decide +kernel, rfl⟩
theorem eX8_worth_87 : Dc MX8_worth 87 (.goto 4) 3 90 := ⟨by decide +kernel, rfl⟩
theorem eX8_worth_90 : Dc MX8_worth 90 (.iconst 0) 1 91 := ⟨by decide +kernel, rfl⟩
theorem eX8_worth_91 : Dc MX8_worth 91 (.iadd) 1 92 := ⟨by decide +kernel, rfl⟩
theorem eX8_worth_92 : Dc MX8_worth 92 (.istore_n 2) 1 93 := ⟨by decide +kernel, rfl⟩
theorem eX8_worth_93 : Dc MX8_worth 93 (.iload_n 3) 1 94 := ⟨by decide +kernel, rfl⟩
theorem eX8_worth_94 : Dc MX8_worth 94 (.iload 7) 2 96 := ⟨by decide +kernel, rfl⟩
theorem eX8_worth_96 : Dc MX8_worth 96 (.aload_n 0) 1 97 := ⟨by decide +kernel, rfl⟩
theorem eX8_worth_97 : Dc MX8_worth 97 (.getfield 23) 3 100 := ⟨by decide +kernel, rfl⟩
theorem eX8_worth_100 : Dc MX8_worth 100 (.iload 6) 2 102 := ⟨by decide +kernel, rfl⟩
theorem eX8_worth_102 : Dc MX8_worth 102 (.iaload) 1 103 := ⟨by decide +kernel, rfl⟩
theorem eX8_worth_103 : Dc MX8_worth 103 (.iconst 1) 1 104 := ⟨by decide +kernel, rfl⟩
theorem eX8_worth_104 : Dc MX8_worth 104 (.iadd) 1 105 := ⟨by decide +kernel, rfl⟩
theorem eX8_worth_105 : Dc MX8_worth 105 (.imul) 1 106 := ⟨by decide +kernel, rfl⟩
theorem eX8_worth_106 : Dc MX8_worth 106 (.iadd) 1 107 := ⟨by decide +kernel, rfl⟩
theorem eX8_worth_107 : Dc MX8_worth 107 (.istore_n 3) 1 108 := ⟨by decide +kernel, rfl⟩
theorem eX8_worth_108 : Dc MX8_worth 108 (.iload 4) 2 110 := ⟨by decide +kernel, rfl⟩
theorem eX8_worth_110 : Dc MX8_worth 110 (.iconst 1) 1 111 := ⟨by decide +kernel, rfl⟩
theorem eX8_worth_111 : Dc MX8_worth 111 (.aload_n 0) 1 112 := ⟨by decide +kernel, rfl⟩
theorem eX8_worth_112 : Dc MX8_worth 112 (.getfield 26) 3 115 := ⟨by decide +kernel, rfl⟩
theorem eX8_worth_115 : Dc MX8_worth 115 (.iload 6) 2 117 := ⟨by decide +kernel, rfl⟩
theorem eX8_worth_117 : Dc MX8_worth 117 (.iaload) 1 118 := ⟨by decide +kernel, rfl⟩
theorem eX8_worth_118 : Dc MX8_worth 118 (.ishl) 1 119 := ⟨by decide +kernel, rfl⟩
theorem eX8_worth_119 : Dc MX8_worth 119 (.ior) 1 120 := ⟨by decide +kernel, rfl⟩
theorem eX8_worth_120 : Dc MX8_worth 120 (.istore 4) 2 122 := ⟨by decide +kernel, rfl⟩
theorem eX8_worth_122 : Dc MX8_worth 122 (.iload 6) 2 124 := ⟨by decide +kernel, rfl⟩
theorem eX8_worth_124 : Dc MX8_worth 124 (.iconst 1) 1 125 := ⟨by decide +kernel, rfl⟩
theorem eX8_worth_125 : Dc MX8_worth 125 (.iadd) 1 126 := ⟨by decide +kernel, rfl⟩
theorem eX8_worth_126 : Dc MX8_worth 126 (.istore 8) 2 128 := ⟨by decide +kernel, rfl⟩
theorem eX8_worth_128 : Dc MX8_worth 128 (.iload 8) 2 130 := ⟨by decide +kernel, rfl⟩
theorem eX8_worth_130 : Dc MX8_worth 130 (.aload_n 0) 1 131 := ⟨by decide +kernel, rfl⟩
theorem eX8_worth_131 : Dc MX8_worth 131 (.getfield 84) 3 134 := ⟨by decide +kernel, rfl⟩
theorem eX8_worth_134 : Dc MX8_worth 134 (.if_icmp .ge 62) 3 137 := ⟨by decide +kernel, rfl⟩
theorem eX8_worth_137 : Dc MX8_worth 137 (.iload 5) 2 139 := ⟨by decide +kernel, rfl⟩
theorem eX8_worth_139 : Dc MX8_worth 139 (.aload_n 0) 1 140 := ⟨by decide +kernel, rfl⟩
theorem eX8_worth_140 : Dc MX8_worth 140 (.getfield 29) 3 143 := ⟨by decide +kernel, rfl⟩
theorem eX8_worth_143 : Dc MX8_worth 143 (.bipush 8) 2 145 := ⟨by decide +kernel, rfl⟩
theorem eX8_worth_145 : Dc MX8_worth 145 (.iload 6) 2 147 := ⟨by decide +kernel, rfl⟩
theorem eX8_worth_147 : Dc MX8_worth 147 (.imul) 1 148 := ⟨by decide +kernel, rfl⟩
theorem eX8_worth_148 : Dc MX8_worth 148 (.iload 8) 2 150 := ⟨by decide +kernel, rfl⟩
theorem eX8_worth_150 : Dc MX8_worth 150 (.iadd) 1 151 := ⟨by decide +kernel, rfl⟩
theorem eX8_worth_151 : Dc MX8_worth 151 (.baload) 1 152 := ⟨by decide +kernel, rfl⟩
theorem eX8_worth_152 : Dc MX8_worth 152 (.ifCond .eq 34) 3 155 := ⟨by decide +kernel, rfl⟩
theorem eX8_worth_155 : Dc MX8_worth 155 (.aload_n 0) 1 156 := ⟨by decide +kernel, rfl⟩
theorem eX8_worth_156 : Dc MX8_worth 156 (.getfield 13) 3 159 := ⟨by decide +kernel, rfl⟩
theorem eX8_worth_159 : Dc MX8_worth 159 (.iload 8) 2 161 := ⟨by decide +kernel, rfl⟩
theorem eX8_worth_161 : Dc MX8_worth 161 (.baload) 1 162 := ⟨by decide +kernel, rfl⟩
theorem eX8_worth_162 : Dc MX8_worth 162 (.ifCond .eq 24) 3 165 := ⟨by decide +kernel, rfl⟩
theorem eX8_worth_165 : Dc MX8_worth 165 (.aload_n 0) 1 166 := ⟨by decide +kernel, rfl⟩
theorem eX8_worth_166 : Dc MX8_worth 166 (.getfield 26) 3 169 := ⟨by decide +kernel, rfl⟩
theorem eX8_worth_169 : Dc MX8_worth 169 (.iload 8) 2 171 := ⟨by decide +kernel, rfl⟩
theorem eX8_worth_171 : Dc MX8_worth 171 (.iaload) 1 172 := ⟨by decide +kernel, rfl⟩
theorem eX8_worth_172 : Dc MX8_worth 172 (.aload_n 0) 1 173 := ⟨by decide +kernel, rfl⟩
theorem eX8_worth_173 : Dc MX8_worth 173 (.getfield 26) 3 176 := ⟨by decide +kernel, rfl⟩
theorem eX8_worth_176 : Dc MX8_worth 176 (.iload 6) 2 178 := ⟨by decide +kernel, rfl⟩
theorem eX8_worth_178 : Dc MX8_worth 178 (.iaload) 1 179 := ⟨by decide +kernel, rfl⟩
theorem eX8_worth_179 : Dc MX8_worth 179 (.if_icmp .ne 7) 3 182 := ⟨by decide +kernel, rfl⟩
theorem eX8_worth_182 : Dc MX8_worth 182 (.iconst 1) 1 183 := ⟨by decide +kernel, rfl⟩
theorem eX8_worth_183 : Dc MX8_worth 183 (.goto 4) 3 186 := ⟨by decide +kernel, rfl⟩
theorem eX8_worth_186 : Dc MX8_worth 186 (.iconst 0) 1 187 := ⟨by decide +kernel, rfl⟩
theorem eX8_worth_187 : Dc MX8_worth 187 (.iadd) 1 188 := ⟨by decide +kernel, rfl⟩
theorem eX8_worth_188 : Dc MX8_worth 188 (.istore 5) 2 190 := ⟨by decide +kernel, rfl⟩
theorem eX8_worth_190 : Dc MX8_worth 190 (.iinc 8 1) 3 193 := ⟨by decide +kernel, rfl⟩
theorem eX8_worth_193 : Dc MX8_worth 193 (.goto (-65)) 3 196 := ⟨by decide +kernel, rfl⟩
theorem eX8_worth_196 : Dc MX8_worth 196 (.iinc 6 1) 3 199 := ⟨by decide +kernel, rfl⟩
theorem eX8_worth_199 : Dc MX8_worth 199 (.goto (-167)) 3 202 := ⟨by decide +kernel, rfl⟩
theorem eX8_worth_202 : Dc MX8_worth 202 (.iload_n 1) 1 203 := ⟨by decide +kernel, rfl⟩
theorem eX8_worth_203 : Dc MX8_worth 203 (.bipush 7) 2 205 := ⟨by decide +kernel, rfl⟩
theorem eX8_worth_205 : Dc MX8_worth 205 (.if_icmp .ge 7) 3 208 := ⟨by decide +kernel, rfl⟩
theorem eX8_worth_208 : Dc MX8_worth 208 (.iload_n 2) 1 209 := ⟨by decide +kernel, rfl⟩
theorem eX8_worth_209 : Dc MX8_worth 209 (.goto 29) 3 212 := ⟨by decide +kernel, rfl⟩
theorem eX8_worth_212 : Dc MX8_worth 212 (.iload_n 1) 1 213 := ⟨by decide +kernel, rfl⟩
theorem eX8_worth_213 : Dc MX8_worth 213 (.bipush 7) 2 215 := ⟨by decide +kernel, rfl⟩
theorem eX8_worth_215 : Dc MX8_worth 215 (.if_icmp .ne 7) 3 218 := ⟨by decide +kernel, rfl⟩
theorem eX8_worth_218 : Dc MX8_worth 218 (.iload_n 3) 1 219 := ⟨by decide +kernel, rfl⟩
theorem eX8_worth_219 : Dc MX8_worth 219 (.goto 19) 3 222 := ⟨by decide +kernel, rfl⟩
theorem eX8_worth_222 : Dc MX8_worth 222 (.iload_n 1) 1 223 := ⟨by decide +kernel, rfl⟩
theorem eX8_worth_223 : Dc MX8_worth 223 (.bipush 8) 2 225 := ⟨by decide +kernel, rfl⟩
theorem eX8_worth_225 : Dc MX8_worth 225 (.if_icmp .ne 8) 3 228 := ⟨by decide +kernel, rfl⟩
theorem eX8_worth_228 : Dc MX8_worth 228 (.iload 5) 2 230 := ⟨by decide +kernel, rfl⟩
theorem eX8_worth_230 : Dc MX8_worth 230 (.goto 8) 3 233 := ⟨by decide +kernel, rfl⟩
theorem eX8_worth_233 : Dc MX8_worth 233 (.iload 4) 2 235 := ⟨by decide +kernel, rfl⟩
theorem eX8_worth_235 : Dc MX8_worth 235 (.invokestatic 232) 3 238 := ⟨by decide +kernel, rfl⟩
theorem eX8_worth_238 : Dc MX8_worth 238 (.ireturn) 1 239 := ⟨by decide +kernel, rfl⟩
theorem eX8_wouldSwap_0 : Dc MX8_wouldSwap 0 (.aload_n 0) 1 1 := ⟨by decide +kernel, rfl⟩
theorem eX8_wouldSwap_1 : Dc MX8_wouldSwap 1 (.getfield 13) 3 4 := ⟨by decide +kernel, rfl⟩
theorem eX8_wouldSwap_4 : Dc MX8_wouldSwap 4 (.iload_n 1) 1 5 := ⟨by decide +kernel, rfl⟩
theorem eX8_wouldSwap_5 : Dc MX8_wouldSwap 5 (.baload) 1 6 := ⟨by decide +kernel, rfl⟩
theorem eX8_wouldSwap_6 : Dc MX8_wouldSwap 6 (.ifCond .eq 45) 3 9 := ⟨by decide +kernel, rfl⟩
theorem eX8_wouldSwap_9 : Dc MX8_wouldSwap 9 (.aload_n 0) 1 10 := ⟨by decide +kernel, rfl⟩
theorem eX8_wouldSwap_10 : Dc MX8_wouldSwap 10 (.getfield 13) 3 13 := ⟨by decide +kernel, rfl⟩
theorem eX8_wouldSwap_13 : Dc MX8_wouldSwap 13 (.iload_n 2) 1 14 := ⟨by decide +kernel, rfl⟩
theorem eX8_wouldSwap_14 : Dc MX8_wouldSwap 14 (.baload) 1 15 := ⟨by decide +kernel, rfl⟩
theorem eX8_wouldSwap_15 : Dc MX8_wouldSwap 15 (.ifCond .eq 36) 3 18 := ⟨by decide +kernel, rfl⟩
theorem eX8_wouldSwap_18 : Dc MX8_wouldSwap 18 (.aload_n 0) 1 19 := ⟨by decide +kernel, rfl⟩
theorem eX8_wouldSwap_19 : Dc MX8_wouldSwap 19 (.getfield 26) 3 22 := ⟨by decide +kernel, rfl⟩
theorem eX8_wouldSwap_22 : Dc MX8_wouldSwap 22 (.iload_n 1) 1 23 := ⟨by decide +kernel, rfl⟩
theorem eX8_wouldSwap_23 : Dc MX8_wouldSwap 23 (.iaload) 1 24 := ⟨by decide +kernel, rfl⟩
theorem eX8_wouldSwap_24 : Dc MX8_wouldSwap 24 (.ifCond .lt 27) 3 27 := ⟨by decide +kernel, rfl⟩
theorem eX8_wouldSwap_27 : Dc MX8_wouldSwap 27 (.aload_n 0) 1 28 := ⟨by decide +kernel, rfl⟩
theorem eX8_wouldSwap_28 : Dc MX8_wouldSwap 28 (.getfield 26) 3 31 := ⟨by decide +kernel, rfl⟩
theorem eX8_wouldSwap_31 : Dc MX8_wouldSwap 31 (.iload_n 2) 1 32 := ⟨by decide +kernel, rfl⟩
theorem eX8_wouldSwap_32 : Dc MX8_wouldSwap 32 (.iaload) 1 33 := ⟨by decide +kernel, rfl⟩
theorem eX8_wouldSwap_33 : Dc MX8_wouldSwap 33 (.ifCond .lt 18) 3 36 := ⟨by decide +kernel, rfl⟩
theorem eX8_wouldSwap_36 : Dc MX8_wouldSwap 36 (.aload_n 0) 1 37 := ⟨by decide +kernel, rfl⟩
theorem eX8_wouldSwap_37 : Dc MX8_wouldSwap 37 (.getfield 26) 3 40 := ⟨by decide +kernel, rfl⟩
theorem eX8_wouldSwap_40 : Dc MX8_wouldSwap 40 (.iload_n 1) 1 41 := ⟨by decide +kernel, rfl⟩
theorem eX8_wouldSwap_41 : Dc MX8_wouldSwap 41 (.iaload) 1 42 := ⟨by decide +kernel, rfl⟩
theorem eX8_wouldSwap_42 : Dc MX8_wouldSwap 42 (.aload_n 0) 1 43 := ⟨by decide +kernel, rfl⟩
theorem eX8_wouldSwap_43 : Dc MX8_wouldSwap 43 (.getfield 26) 3 46 := ⟨by decide +kernel, rfl⟩
theorem eX8_wouldSwap_46 : Dc MX8_wouldSwap 46 (.iload_n 2) 1 47 := ⟨by decide +kernel, rfl⟩
theorem eX8_wouldSwap_47 : Dc MX8_wouldSwap 47 (.iaload) 1 48 := ⟨by decide +kernel, rfl⟩
theorem eX8_wouldSwap_48 : Dc MX8_wouldSwap 48 (.if_icmp .ne 5) 3 51 := ⟨by decide +kernel, rfl⟩
theorem eX8_wouldSwap_51 : Dc MX8_wouldSwap 51 (.iconst 0) 1 52 := ⟨by decide +kernel, rfl⟩
theorem eX8_wouldSwap_52 : Dc MX8_wouldSwap 52 (.ireturn) 1 53 := ⟨by decide +kernel, rfl⟩
theorem eX8_wouldSwap_53 : Dc MX8_wouldSwap 53 (.aload_n 0) 1 54 := ⟨by decide +kernel, rfl⟩
theorem eX8_wouldSwap_54 : Dc MX8_wouldSwap 54 (.iload_n 1) 1 55 := ⟨by decide +kernel, rfl⟩
theorem eX8_wouldSwap_55 : Dc MX8_wouldSwap 55 (.aload_n 0) 1 56 := ⟨by decide +kernel, rfl⟩
theorem eX8_wouldSwap_56 : Dc MX8_wouldSwap 56 (.getfield 26) 3 59 := ⟨by decide +kernel, rfl⟩
theorem eX8_wouldSwap_59 : Dc MX8_wouldSwap 59 (.iload_n 2) 1 60 := ⟨by decide +kernel, rfl⟩
theorem eX8_wouldSwap_60 : Dc MX8_wouldSwap 60 (.iaload) 1 61 := ⟨by decide +kernel, rfl⟩
theorem eX8_wouldSwap_61 : Dc MX8_wouldSwap 61 (.invokevirtual 136) 3 64 := ⟨by decide +kernel, rfl⟩
theorem eX8_wouldSwap_64 : Dc MX8_wouldSwap 64 (.aload_n 0) 1 65 := ⟨by decide +kernel, rfl⟩
theorem eX8_wouldSwap_65 : Dc MX8_wouldSwap 65 (.iload_n 1) 1 66 := ⟨by decide +kernel, rfl⟩
theorem eX8_wouldSwap_66 : Dc MX8_wouldSwap 66 (.aload_n 0) 1 67 := ⟨by decide +kernel, rfl⟩
theorem eX8_wouldSwap_67 : Dc MX8_wouldSwap 67 (.getfield 26) 3 70 := ⟨by decide +kernel, rfl⟩
theorem eX8_wouldSwap_70 : Dc MX8_wouldSwap 70 (.iload_n 1) 1 71 := ⟨by decide +kernel, rfl⟩
theorem eX8_wouldSwap_71 : Dc MX8_wouldSwap 71 (.iaload) 1 72 := ⟨by decide +kernel, rfl⟩
theorem eX8_wouldSwap_72 : Dc MX8_wouldSwap 72 (.invokevirtual 136) 3 75 := ⟨by decide +kernel, rfl⟩
theorem eX8_wouldSwap_75 : Dc MX8_wouldSwap 75 (.if_icmp .ge 28) 3 78 := ⟨by decide +kernel, rfl⟩
theorem eX8_wouldSwap_78 : Dc MX8_wouldSwap 78 (.aload_n 0) 1 79 := ⟨by decide +kernel, rfl⟩
theorem eX8_wouldSwap_79 : Dc MX8_wouldSwap 79 (.iload_n 2) 1 80 := ⟨by decide +kernel, rfl⟩
theorem eX8_wouldSwap_80 : Dc MX8_wouldSwap 80 (.aload_n 0) 1 81 := ⟨by decide +kernel, rfl⟩
theorem eX8_wouldSwap_81 : Dc MX8_wouldSwap 81 (.getfield 26) 3 84 := ⟨by decide +kernel, rfl⟩
theorem eX8_wouldSwap_84 : Dc MX8_wouldSwap 84 (.iload_n 1) 1 85 := ⟨by decide +kernel, rfl⟩
theorem eX8_wouldSwap_85 : Dc MX8_wouldSwap 85 (.iaload) 1 86 := ⟨by decide +kernel, rfl⟩
theorem eX8_wouldSwap_86 : Dc MX8_wouldSwap 86 (.invokevirtual 136) 3 89 := ⟨by decide +kernel, rfl⟩
theorem eX8_wouldSwap_89 : Dc MX8_wouldSwap 89 (.aload_n 0) 1 90 := ⟨by decide +kernel, rfl⟩
theorem eX8_wouldSwap_90 : Dc MX8_wouldSwap 90 (.iload_n 2) 1 91 := ⟨by decide +kernel, rfl⟩
theorem eX8_wouldSwap_91 : Dc MX8_wouldSwap 91 (.aload_n 0) 1 92 := ⟨by decide +kernel, rfl⟩
theorem eX8_wouldSwap_92 : Dc MX8_wouldSwap 92 (.getfield 26) 3 95 := ⟨by decide +kernel, rfl⟩
theorem eX8_wouldSwap_95 : Dc MX8_wouldSwap 95 (.iload_n 2) 1 96 := ⟨by decide +kernel, rfl⟩
theorem eX8_wouldSwap_96 : Dc MX8_wouldSwap 96 (.iaload) 1 97 := ⟨by decide +kernel, rfl⟩
theorem eX8_wouldSwap_97 : Dc MX8_wouldSwap 97 (.invokevirtual 136) 3 100 := ⟨by decide +kernel, rfl⟩
theorem eX8_wouldSwap_100 : Dc MX8_wouldSwap 100 (.if_icmp .lt 5) 3 103 := ⟨by decide +kernel, rfl⟩
theorem eX8_wouldSwap_103 : Dc MX8_wouldSwap 103 (.iconst 0) 1 104 := ⟨by decide +kernel, rfl⟩
theorem eX8_wouldSwap_104 : Dc MX8_wouldSwap 104 (.ireturn) 1 105 := ⟨by decide +kernel, rfl⟩
theorem eX8_wouldSwap_105 : Dc MX8_wouldSwap 105 (.iconst 0) 1 106 := ⟨by decide +kernel, rfl⟩
theorem eX8_wouldSwap_106 : Dc MX8_wouldSwap 106 (.istore_n 3) 1 107 := ⟨by decide +kernel, rfl⟩
theorem eX8_wouldSwap_107 : Dc MX8_wouldSwap 107 (.iload_n 3) 1 108 := ⟨by decide +kernel, rfl⟩
theorem eX8_wouldSwap_108 : Dc MX8_wouldSwap 108 (.aload_n 0) 1 109 := ⟨by decide +kernel, rfl⟩
theorem eX8_wouldSwap_109 : Dc MX8_wouldSwap 109 (.getfield 84) 3 112 := ⟨by decide +kernel, rfl⟩
theorem eX8_wouldSwap_112 : Dc MX8_wouldSwap 112 (.if_icmp .ge 49) 3 115 := ⟨by decide +kernel, rfl⟩
theorem eX8_wouldSwap_115 : Dc MX8_wouldSwap 115 (.aload_n 0) 1 116 := ⟨by decide +kernel, rfl⟩
theorem eX8_wouldSwap_116 : Dc MX8_wouldSwap 116 (.getfield 56) 3 119 := ⟨by decide +kernel, rfl⟩
theorem eX8_wouldSwap_119 : Dc MX8_wouldSwap 119 (.iload_n 3) 1 120 := ⟨by decide +kernel, rfl⟩
theorem eX8_wouldSwap_120 : Dc MX8_wouldSwap 120 (.iload_n 3) 1 121 := ⟨by decide +kernel, rfl⟩
theorem eX8_wouldSwap_121 : Dc MX8_wouldSwap 121 (.iload_n 1) 1 122 := ⟨by decide +kernel, rfl⟩
theorem eX8_wouldSwap_122 : Dc MX8_wouldSwap 122 (.if_icmp .ne 12) 3 125 := ⟨by decide +kernel, rfl⟩
theorem eX8_wouldSwap_125 : Dc MX8_wouldSwap 125 (.aload_n 0) 1 126 := ⟨by decide +kernel, rfl⟩
theorem eX8_wouldSwap_126 : Dc MX8_wouldSwap 126 (.getfield 26) 3 129 := ⟨by decide +kernel, rfl⟩
theorem eX8_wouldSwap_129 : Dc MX8_wouldSwap 129 (.iload_n 2) 1 130 := ⟨by decide +kernel, rfl⟩
theorem eX8_wouldSwap_130 : Dc MX8_wouldSwap 130 (.iaload) 1 131 := ⟨by decide +kernel, rfl⟩
theorem eX8_wouldSwap_131 : Dc MX8_wouldSwap 131 (.goto 23) 3 134 := ⟨by decide +kernel, rfl⟩
theorem eX8_wouldSwap_134 : Dc MX8_wouldSwap 134 (.iload_n 3) 1 135 := ⟨by decide +kernel, rfl⟩
theorem eX8_wouldSwap_135 : Dc MX8_wouldSwap 135 (.iload_n 2) 1 136 := ⟨by decide +kernel, rfl⟩
theorem eX8_wouldSwap_136 : Dc MX8_wouldSwap 136 (.if_icmp .ne 12) 3 139 := ⟨by decide +kernel, rfl⟩
theorem eX8_wouldSwap_139 : Dc MX8_wouldSwap 139 (.aload_n 0) 1 140 := ⟨by decide +kernel, rfl⟩
theorem eX8_wouldSwap_140 : Dc MX8_wouldSwap 140 (.getfield 26) 3 143 := ⟨by decide +kernel, rfl⟩
theorem eX8_wouldSwap_143 : Dc MX8_wouldSwap 143 (.iload_n 1) 1 144 := ⟨by decide +kernel, rfl⟩
theorem eX8_wouldSwap_144 : Dc MX8_wouldSwap 144 (.iaload) 1 145 := ⟨by decide +kernel, rfl⟩
theorem eX8_wouldSwap_145 : Dc MX8_wouldSwap 145 (.goto 9) 3 148 := ⟨by decide +kernel, rfl⟩
theorem eX8_wouldSwap_148 : Dc MX8_wouldSwap 148 (.aload_n 0) 1 149 := ⟨by decide +kernel, rfl⟩
theorem eX8_wouldSwap_149 : Dc MX8_wouldSwap 149 (.getfield 26) 3 152 := ⟨by decide +kernel, rfl⟩
theorem eX8_wouldSwap_152 : Dc MX8_wouldSwap 152 (.iload_n 3) 1 153 := ⟨by decide +kernel, rfl⟩
theorem eX8_wouldSwap_153 : Dc MX8_wouldSwap 153 (.iaload) 1 154 := ⟨by decide +kernel, rfl⟩
theorem eX8_wouldSwap_154 : Dc MX8_wouldSwap 154 (.iastore) 1 155 := ⟨by decide +kernel, rfl⟩
theorem eX8_wouldSwap_155 : Dc MX8_wouldSwap 155 (.iinc 3 1) 3 158 := ⟨by decide +kernel, rfl⟩
theorem eX8_wouldSwap_158 : Dc MX8_wouldSwap 158 (.goto (-51)) 3 161 := ⟨by decide +kernel, rfl⟩
theorem eX8_wouldSwap_161 : Dc MX8_wouldSwap 161 (.aload_n 0) 1 162 := ⟨by decide +kernel, rfl⟩
theorem eX8_wouldSwap_162 : Dc MX8_wouldSwap 162 (.aload_n 0) 1 163 := ⟨by decide +kernel, rfl⟩
theorem eX8_wouldSwap_163 : Dc MX8_wouldSwap 163 (.getfield 56) 3 166 := ⟨by decide +kernel, rfl⟩
theorem eX8_wouldSwap_166 : Dc MX8_wouldSwap 166 (.invokevirtual 157) 3 169 := ⟨by decide +kernel, rfl⟩
theorem eX8_wouldSwap_169 : Dc MX8_wouldSwap 169 (.ifCond .ne 7) 3 172 := ⟨by decide +kernel, rfl⟩
theorem eX8_wouldSwap_172 : Dc MX8_wouldSwap 172 (.iconst 1) 1 173 := ⟨by decide +kernel, rfl⟩
theorem eX8_wouldSwap_173 : Dc MX8_wouldSwap 173 (.goto 4) 3 176 := ⟨by decide +kernel, rfl⟩
theorem eX8_wouldSwap_176 : Dc MX8_wouldSwap 176 (.iconst 0) 1 177 := ⟨by decide +kernel, rfl⟩
theorem eX8_wouldSwap_177 : Dc MX8_wouldSwap 177 (.ireturn) 1 178 := ⟨by decide +kernel, rfl⟩
theorem eX8_swap_0 : Dc MX8_swap 0 (.aload_n 0) 1 1 := ⟨by decide +kernel, rfl⟩
theorem eX8_swap_1 : Dc MX8_swap 1 (.iconst 0) 1 2 := ⟨by decide +kernel, rfl⟩
theorem eX8_swap_2 : Dc MX8_swap 2 (.putfield 80) 3 5 := ⟨by decide +kernel, rfl⟩
theorem eX8_swap_5 : Dc MX8_swap 5 (.iconst 0) 1 6 := ⟨by decide +kernel, rfl⟩
theorem eX8_swap_6 : Dc MX8_swap 6 (.istore_n 1) 1 7 := ⟨by decide +kernel, rfl⟩
theorem eX8_swap_7 : Dc MX8_swap 7 (.iload_n 1) 1 8 := ⟨by decide +kernel, rfl⟩
theorem eX8_swap_8 : Dc MX8_swap 8 (.aload_n 0) 1 9 := ⟨by decide +kernel, rfl⟩
theorem eX8_swap_9 : Dc MX8_swap 9 (.getfield 84) 3 12 := ⟨by decide +kernel, rfl⟩
theorem eX8_swap_12 : Dc MX8_swap 12 (.if_icmp .ge 57) 3 15 := ⟨by decide +kernel, rfl⟩
theorem eX8_swap_15 : Dc MX8_swap 15 (.iload_n 1) 1 16 := ⟨by decide +kernel, rfl⟩
theorem eX8_swap_16 : Dc MX8_swap 16 (.iconst 1) 1 17 := ⟨by decide +kernel, rfl⟩
theorem eX8_swap_17 : Dc MX8_swap 17 (.iadd) 1 18 := ⟨by decide +kernel, rfl⟩
theorem eX8_swap_18 : Dc MX8_swap 18 (.istore_n 2) 1 19 := ⟨by decide +kernel, rfl⟩
theorem eX8_swap_19 : Dc MX8_swap 19 (.iload_n 2) 1 20 := ⟨by decide +kernel, rfl⟩
theorem eX8_swap_20 : Dc MX8_swap 20 (.aload_n 0) 1 21 := ⟨by decide +kernel, rfl⟩
theorem eX8_swap_21 : Dc MX8_swap 21 (.getfield 84) 3 24 := ⟨by decide +kernel, rfl⟩
theorem eX8_swap_24 : Dc MX8_swap 24 (.if_icmp .ge 39) 3 27 := ⟨by decide +kernel, rfl⟩
theorem eX8_swap_27 : Dc MX8_swap 27 (.aload_n 0) 1 28 := ⟨by decide +kernel, rfl⟩
theorem eX8_swap_28 : Dc MX8_swap 28 (.iload_n 1) 1 29 := ⟨by decide +kernel, rfl⟩
theorem eX8_swap_29 : Dc MX8_swap 29 (.iload_n 2) 1 30 := ⟨by decide +kernel, rfl⟩
theorem eX8_swap_30 : Dc MX8_swap 30 (.invokevirtual 237) 3 33 := ⟨by decide +kernel, rfl⟩
theorem eX8_swap_33 : Dc MX8_swap 33 (.ifCond .eq 24) 3 36 := ⟨by decide +kernel, rfl⟩
theorem eX8_swap_36 : Dc MX8_swap 36 (.aload_n 0) 1 37 := ⟨by decide +kernel, rfl⟩
theorem eX8_swap_37 : Dc MX8_swap 37 (.iconst 2) 1 38 := ⟨by decide +kernel, rfl⟩
theorem eX8_swap_38 : Dc MX8_swap 38 (.putfield 128) 3 41 := ⟨by decide +kernel, rfl⟩
theorem eX8_swap_41 : Dc MX8_swap 41 (.aload_n 0) 1 42 := ⟨by decide +kernel, rfl⟩
theorem eX8_swap_42 : Dc MX8_swap 42 (.getfield 77) 3 45 := ⟨by decide +kernel, rfl⟩
theorem eX8_swap_45 : Dc MX8_swap 45 (.iconst 0) 1 46 := ⟨by decide +kernel, rfl⟩
theorem eX8_swap_46 : Dc MX8_swap 46 (.iload_n 1) 1 47 := ⟨by decide +kernel, rfl⟩
theorem eX8_swap_47 : Dc MX8_swap 47 (.iastore) 1 48 := ⟨by decide +kernel, rfl⟩
theorem eX8_swap_48 : Dc MX8_swap 48 (.aload_n 0) 1 49 := ⟨by decide +kernel, rfl⟩
theorem eX8_swap_49 : Dc MX8_swap 49 (.getfield 77) 3 52 := ⟨by decide +kernel, rfl⟩
theorem eX8_swap_52 : Dc MX8_swap 52 (.iconst 1) 1 53 := ⟨by decide +kernel, rfl⟩
theorem eX8_swap_53 : Dc MX8_swap 53 (.iload_n 2) 1 54 := ⟨by decide +kernel, rfl⟩
theorem eX8_swap_54 : Dc MX8_swap 54 (.iastore) 1 55 := ⟨by decide +kernel, rfl⟩
theorem eX8_swap_55 : Dc MX8_swap 55 (.iconst 1) 1 56 := ⟨by decide +kernel, rfl⟩
theorem eX8_swap_56 : Dc MX8_swap 56 (.ireturn) 1 57 := ⟨by decide +kernel, rfl⟩
theorem eX8_swap_57 : Dc MX8_swap 57 (.iinc 2 1) 3 60 := ⟨by decide +kernel, rfl⟩
theorem eX8_swap_60 : Dc MX8_swap 60 (.goto (-41)) 3 63 := ⟨by decide +kernel, rfl⟩
theorem eX8_swap_63 : Dc MX8_swap 63 (.iinc 1 1) 3 66 := ⟨by decide +kernel, rfl⟩
theorem eX8_swap_66 : Dc MX8_swap 66 (.goto (-59)) 3 69 := ⟨by decide +kernel, rfl⟩
theorem eX8_swap_69 : Dc MX8_swap 69 (.iconst 0) 1 70 := ⟨by decide +kernel, rfl⟩
theorem eX8_swap_70 : Dc MX8_swap 70 (.ireturn) 1 71 := ⟨by decide +kernel, rfl⟩
theorem eX8_change_0 : Dc MX8_change 0 (.aload_n 0) 1 1 := ⟨by decide +kernel, rfl⟩
theorem eX8_change_1 : Dc MX8_change 1 (.iconst 0) 1 2 := ⟨by decide +kernel, rfl⟩
theorem eX8_change_2 : Dc MX8_change 2 (.putfield 80) 3 5 := ⟨by decide +kernel, rfl⟩
theorem eX8_change_5 : Dc MX8_change 5 (.aload_n 0) 1 6 := ⟨by decide +kernel, rfl⟩
theorem eX8_change_6 : Dc MX8_change 6 (.iconst 3) 1 7 := ⟨by decide +kernel, rfl⟩
theorem eX8_change_7 : Dc MX8_change 7 (.invokevirtual 224) 3 10 := ⟨by decide +kernel, rfl⟩
theorem eX8_change_10 : Dc MX8_change 10 (.aload_n 0) 1 11 := ⟨by decide +kernel, rfl⟩
theorem eX8_change_11 : Dc MX8_change 11 (.getfield 200) 3 14 := ⟨by decide +kernel, rfl⟩
theorem eX8_change_14 : Dc MX8_change 14 (.ifCond .ne 5) 3 17 := ⟨by decide +kernel, rfl⟩
theorem eX8_change_17 : Dc MX8_change 17 (.iconst (-1)) 1 18 := ⟨by decide +kernel, rfl⟩
theorem eX8_change_18 : Dc MX8_change 18 (.ireturn) 1 19 := ⟨by decide +kernel, rfl⟩
theorem eX8_change_19 : Dc MX8_change 19 (.aload_n 0) 1 20 := ⟨by decide +kernel, rfl⟩
theorem eX8_change_20 : Dc MX8_change 20 (.invokevirtual 227) 3 23 := ⟨by decide +kernel, rfl⟩
theorem eX8_change_23 : Dc MX8_change 23 (.aload_n 0) 1 24 := ⟨by decide +kernel, rfl⟩
theorem eX8_change_24 : Dc MX8_change 24 (.getfield 207) 3 27 := ⟨by decide +kernel, rfl⟩
theorem eX8_change_27 : Dc MX8_change 27 (.ireturn) 1 28 := ⟨by decide +kernel, rfl⟩
theorem eX8_nextOrder_0 : Dc MX8_nextOrder 0 (.aload_n 0) 1 1 := ⟨by decide +kernel, rfl⟩
theorem eX8_nextOrder_1 : Dc MX8_nextOrder 1 (.getfield 91) 3 4 := ⟨by decide +kernel, rfl⟩
theorem eX8_nextOrder_4 : Dc MX8_nextOrder 4 (.iconst 2) 1 5 := ⟨by decide +kernel, rfl⟩
theorem eX8_nextOrder_5 : Dc MX8_nextOrder 5 (.isub) 1 6 := ⟨by decide +kernel, rfl⟩
theorem eX8_nextOrder_6 : Dc MX8_nextOrder 6 (.istore_n 1) 1 7 := ⟨by decide +kernel, rfl⟩
theorem eX8_nextOrder_7 : Dc MX8_nextOrder 7 (.iload_n 1) 1 8 := ⟨by decide +kernel, rfl⟩
theorem eX8_nextOrder_8 : Dc MX8_nextOrder 8 (.ifCond .lt 26) 3 11 := ⟨by decide +kernel, rfl⟩
theorem eX8_nextOrder_11 : Dc MX8_nextOrder 11 (.aload_n 0) 1 12 := ⟨by decide +kernel, rfl⟩
theorem eX8_nextOrder_12 : Dc MX8_nextOrder 12 (.getfield 62) 3 15 := ⟨by decide +kernel, rfl⟩
theorem eX8_nextOrder_15 : Dc MX8_nextOrder 15 (.iload_n 1) 1 16 := ⟨by decide +kernel, rfl⟩
theorem eX8_nextOrder_16 : Dc MX8_nextOrder 16 (.iaload) 1 17 := ⟨by decide +kernel, rfl⟩
theorem eX8_nextOrder_17 : Dc MX8_nextOrder 17 (.aload_n 0) 1 18 := ⟨by decide +kernel, rfl⟩
theorem eX8_nextOrder_18 : Dc MX8_nextOrder 18 (.getfield 62) 3 21 := ⟨by decide +kernel, rfl⟩
theorem eX8_nextOrder_21 : Dc MX8_nextOrder 21 (.iload_n 1) 1 22 := ⟨by decide +kernel, rfl⟩
theorem eX8_nextOrder_22 : Dc MX8_nextOrder 22 (.iconst 1) 1 23 := ⟨by decide +kernel, rfl⟩
theorem eX8_nextOrder_23 : Dc MX8_nextOrder 23 (.iadd) 1 24 := ⟨by decide +kernel, rfl⟩
theorem eX8_nextOrder_24 : Dc MX8_nextOrder 24 (.iaload) 1 25 := ⟨by decide +kernel, rfl⟩
theorem eX8_nextOrder_25 : Dc MX8_nextOrder 25 (.if_icmp .le 9) 3 28 := ⟨by decide +kernel, rfl⟩
theorem eX8_nextOrder_28 : Dc MX8_nextOrder 28 (.iinc 1 (-1)) 3 31 := ⟨by decide +kernel, rfl⟩
theorem eX8_nextOrder_31 : Dc MX8_nextOrder 31 (.goto (-24)) 3 34 := ⟨by decide +kernel, rfl⟩
theorem eX8_nextOrder_34 : Dc MX8_nextOrder 34 (.iload_n 1) 1 35 := ⟨by decide +kernel, rfl⟩
theorem eX8_nextOrder_35 : Dc MX8_nextOrder 35 (.ifCond .ge 5) 3 38 := ⟨by decide +kernel, rfl⟩
theorem eX8_nextOrder_38 : Dc MX8_nextOrder 38 (.iconst 0) 1 39 := ⟨by decide +kernel, rfl⟩
theorem eX8_nextOrder_39 : Dc MX8_nextOrder 39 (.ireturn) 1 40 := ⟨by decide +kernel, rfl⟩
theorem eX8_nextOrder_40 : Dc MX8_nextOrder 40 (.aload_n 0) 1 41 := ⟨by decide +kernel, rfl⟩
theorem eX8_nextOrder_41 : Dc MX8_nextOrder 41 (.getfield 91) 3 44 := ⟨by decide +kernel, rfl⟩
theorem eX8_nextOrder_44 : Dc MX8_nextOrder 44 (.iconst 1) 1 45 := ⟨by decide +kernel, rfl⟩
theorem eX8_nextOrder_45 : Dc MX8_nextOrder 45 (.isub) 1 46 := ⟨by decide +kernel, rfl⟩
theorem eX8_nextOrder_46 : Dc MX8_nextOrder 46 (.istore_n 2) 1 47 := ⟨by decide +kernel, rfl⟩
theorem eX8_nextOrder_47 : Dc MX8_nextOrder 47 (.aload_n 0) 1 48 := ⟨by decide +kernel, rfl⟩
theorem eX8_nextOrder_48 : Dc MX8_nextOrder 48 (.getfield 62) 3 51 := ⟨by decide +kernel, rfl⟩
theorem eX8_nextOrder_51 : Dc MX8_nextOrder 51 (.iload_n 2) 1 52 := ⟨by decide +kernel, rfl⟩
theorem eX8_nextOrder_52 : Dc MX8_nextOrder 52 (.iaload) 1 53 := ⟨by decide +kernel, rfl⟩
theorem eX8_nextOrder_53 : Dc MX8_nextOrder 53 (.aload_n 0) 1 54 := ⟨by decide +kernel, rfl⟩
theorem eX8_nextOrder_54 : Dc MX8_nextOrder 54 (.getfield 62) 3 57 := ⟨by decide +kernel, rfl⟩
theorem eX8_nextOrder_57 : Dc MX8_nextOrder 57 (.iload_n 1) 1 58 := ⟨by decide +kernel, rfl⟩
theorem eX8_nextOrder_58 : Dc MX8_nextOrder 58 (.iaload) 1 59 := ⟨by decide +kernel, rfl⟩
theorem eX8_nextOrder_59 : Dc MX8_nextOrder 59 (.if_icmp .ge 9) 3 62 := ⟨by decide +kernel, rfl⟩
theorem eX8_nextOrder_62 : Dc MX8_nextOrder 62 (.iinc 2 (-1)) 3 65 := ⟨by decide +kernel, rfl⟩
theorem eX8_nextOrder_65 : Dc MX8_nextOrder 65 (.goto (-18)) 3 68 := ⟨by decide +kernel, rfl⟩
theorem eX8_nextOrder_68 : Dc MX8_nextOrder 68 (.aload_n 0) 1 69 := ⟨by decide +kernel, rfl⟩
theorem eX8_nextOrder_69 : Dc MX8_nextOrder 69 (.iload_n 1) 1 70 := ⟨by decide +kernel, rfl⟩
theorem eX8_nextOrder_70 : Dc MX8_nextOrder 70 (.iload_n 2) 1 71 := ⟨by decide +kernel, rfl⟩
theorem eX8_nextOrder_71 : Dc MX8_nextOrder 71 (.invokevirtual 240) 3 74 := ⟨by decide +kernel, rfl⟩
theorem eX8_nextOrder_74 : Dc MX8_nextOrder 74 (.iload_n 1) 1 75 := ⟨by decide +kernel, rfl⟩
theorem eX8_nextOrder_75 : Dc MX8_nextOrder 75 (.iconst 1) 1 76 := ⟨by decide +kernel, rfl⟩
theorem eX8_nextOrder_76 : Dc MX8_nextOrder 76 (.iadd) 1 77 := ⟨by decide +kernel, rfl⟩
theorem eX8_nextOrder_77 : Dc MX8_nextOrder 77 (.istore_n 3) 1 78 := ⟨by decide +kernel, rfl⟩
theorem eX8_nextOrder_78 : Dc MX8_nextOrder 78 (.aload_n 0) 1 79 := ⟨by decide +kernel, rfl⟩
theorem eX8_nextOrder_79 : Dc MX8_nextOrder 79 (.getfield 91) 3 82 := ⟨by decide +kernel, rfl⟩
theorem eX8_nextOrder_82 : Dc MX8_nextOrder 82 (.iconst 1) 1 83 := ⟨by decide +kernel, rfl⟩
theorem eX8_nextOrder_83 : Dc MX8_nextOrder 83 (.isub) 1 84 := ⟨by decide +kernel, rfl⟩
theorem eX8_nextOrder_84 : Dc MX8_nextOrder 84 (.istore 4) 2 86 := ⟨by decide +kernel, rfl⟩
theorem eX8_nextOrder_86 : Dc MX8_nextOrder 86 (.iload_n 3) 1 87 := ⟨by decide +kernel, rfl⟩
theorem eX8_nextOrder_87 : Dc MX8_nextOrder 87 (.iload 4) 2 89 := ⟨by decide +kernel, rfl⟩
theorem eX8_nextOrder_89 : Dc MX8_nextOrder 89 (.if_icmp .ge 19) 3 92 := ⟨by decide +kernel, rfl⟩
theorem eX8_nextOrder_92 : Dc MX8_nextOrder 92 (.aload_n 0) 1 93 := ⟨by decide +kernel, rfl⟩
theorem eX8_nextOrder_93 : Dc MX8_nextOrder 93 (.iload_n 3) 1 94 := ⟨by decide +kernel, rfl⟩
theorem eX8_nextOrder_94 : Dc MX8_nextOrder 94 (.iload 4) 2 96 := ⟨by decide +kernel, rfl⟩
theorem eX8_nextOrder_96 : Dc MX8_nextOrder 96 (.invokevirtual 240) 3 99 := ⟨by decide +kernel, rfl⟩
theorem eX8_nextOrder_99 : Dc MX8_nextOrder 99 (.iinc 3 1) 3 102 := ⟨by decide +kernel, rfl⟩
theorem eX8_nextOrder_102 : Dc MX8_nextOrder 102 (.iinc 4 (-1)) 3 105 := ⟨by decide +kernel, rfl⟩
theorem eX8_nextOrder_105 : Dc MX8_nextOrder 105 (.goto (-19)) 3 108 := ⟨by decide +kernel, rfl⟩
theorem eX8_nextOrder_108 : Dc MX8_nextOrder 108 (.iconst 1) 1 109 := ⟨by decide +kernel, rfl⟩
theorem eX8_nextOrder_109 : Dc MX8_nextOrder 109 (.ireturn) 1 110 := ⟨by decide +kernel, rfl⟩
theorem eX8_exchange_0 : Dc MX8_exchange 0 (.aload_n 0) 1 1 := ⟨by decide +kernel, rfl⟩
theorem eX8_exchange_1 : Dc MX8_exchange 1 (.getfield 62) 3 4 := ⟨by decide +kernel, rfl⟩
theorem eX8_exchange_4 : Dc MX8_exchange 4 (.iload_n 1) 1 5 := ⟨by decide +kernel, rfl⟩
theorem eX8_exchange_5 : Dc MX8_exchange 5 (.iaload) 1 6 := ⟨by decide +kernel, rfl⟩
theorem eX8_exchange_6 : Dc MX8_exchange 6 (.istore_n 3) 1 7 := ⟨by decide +kernel, rfl⟩
theorem eX8_exchange_7 : Dc MX8_exchange 7 (.aload_n 0) 1 8 := ⟨by decide +kernel, rfl⟩
theorem eX8_exchange_8 : Dc MX8_exchange 8 (.getfield 62) 3 11 := ⟨by decide +kernel, rfl⟩
theorem eX8_exchange_11 : Dc MX8_exchange 11 (.iload_n 1) 1 12 := ⟨by decide +kernel, rfl⟩
theorem eX8_exchange_12 : Dc MX8_exchange 12 (.aload_n 0) 1 13 := ⟨by decide +kernel, rfl⟩
theorem eX8_exchange_13 : Dc MX8_exchange 13 (.getfield 62) 3 16 := ⟨by decide +kernel, rfl⟩
theorem eX8_exchange_16 : Dc MX8_exchange 16 (.iload_n 2) 1 17 := ⟨by decide +kernel, rfl⟩
theorem eX8_exchange_17 : Dc MX8_exchange 17 (.iaload) 1 18 := ⟨by decide +kernel, rfl⟩
theorem eX8_exchange_18 : Dc MX8_exchange 18 (.iastore) 1 19 := ⟨by decide +kernel, rfl⟩
theorem eX8_exchange_19 : Dc MX8_exchange 19 (.aload_n 0) 1 20 := ⟨by decide +kernel, rfl⟩
theorem eX8_exchange_20 : Dc MX8_exchange 20 (.getfield 62) 3 23 := ⟨by decide +kernel, rfl⟩
theorem eX8_exchange_23 : Dc MX8_exchange 23 (.iload_n 2) 1 24 := ⟨by decide +kernel, rfl⟩
theorem eX8_exchange_24 : Dc MX8_exchange 24 (.iload_n 3) 1 25 := ⟨by decide +kernel, rfl⟩
theorem eX8_exchange_25 : Dc MX8_exchange 25 (.iastore) 1 26 := ⟨by decide +kernel, rfl⟩
theorem eX8_exchange_26 : Dc MX8_exchange 26 (.return_) 1 27 := ⟨by decide +kernel, rfl⟩
theorem eX8_lie_0 : Dc MX8_lie 0 (.aload_n 0) 1 1 := ⟨by decide +kernel, rfl⟩
theorem eX8_lie_1 : Dc MX8_lie 1 (.iconst 0) 1 2 := ⟨by decide +kernel, rfl⟩
theorem eX8_lie_2 : Dc MX8_lie 2 (.putfield 80) 3 5 := ⟨by decide +kernel, rfl⟩
theorem eX8_lie_5 : Dc MX8_lie 5 (.aload_n 0) 1 6 := ⟨by decide +kernel, rfl⟩
theorem eX8_lie_6 : Dc MX8_lie 6 (.iload_n 1) 1 7 := ⟨by decide +kernel, rfl⟩
theorem eX8_lie_7 : Dc MX8_lie 7 (.invokevirtual 100) 3 10 := ⟨by decide +kernel, rfl⟩
theorem eX8_lie_10 : Dc MX8_lie 10 (.ifCond .eq 20) 3 13 := ⟨by decide +kernel, rfl⟩
theorem eX8_lie_13 : Dc MX8_lie 13 (.aload_n 0) 1 14 := ⟨by decide +kernel, rfl⟩
theorem eX8_lie_14 : Dc MX8_lie 14 (.getfield 13) 3 17 := ⟨by decide +kernel, rfl⟩
theorem eX8_lie_17 : Dc MX8_lie 17 (.iload_n 1) 1 18 := ⟨by decide +kernel, rfl⟩
theorem eX8_lie_18 : Dc MX8_lie 18 (.baload) 1 19 := ⟨by decide +kernel, rfl⟩
theorem eX8_lie_19 : Dc MX8_lie 19 (.ifCond .eq 11) 3 22 := ⟨by decide +kernel, rfl⟩
theorem eX8_lie_22 : Dc MX8_lie 22 (.aload_n 0) 1 23 := ⟨by decide +kernel, rfl⟩
theorem eX8_lie_23 : Dc MX8_lie 23 (.invokevirtual 121) 3 26 := ⟨by decide +kernel, rfl⟩
theorem eX8_lie_26 : Dc MX8_lie 26 (.iconst 5) 1 27 := ⟨by decide +kernel, rfl⟩
theorem eX8_lie_27 : Dc MX8_lie 27 (.if_icmp .le 5) 3 30 := ⟨by decide +kernel, rfl⟩
theorem eX8_lie_30 : Dc MX8_lie 30 (.iconst (-1)) 1 31 := ⟨by decide +kernel, rfl⟩
theorem eX8_lie_31 : Dc MX8_lie 31 (.ireturn) 1 32 := ⟨by decide +kernel, rfl⟩
theorem eX8_lie_32 : Dc MX8_lie 32 (.aload_n 0) 1 33 := ⟨by decide +kernel, rfl⟩
theorem eX8_lie_33 : Dc MX8_lie 33 (.iconst 2) 1 34 := ⟨by decide +kernel, rfl⟩
theorem eX8_lie_34 : Dc MX8_lie 34 (.invokevirtual 224) 3 37 := ⟨by decide +kernel, rfl⟩
theorem eX8_lie_37 : Dc MX8_lie 37 (.aload_n 0) 1 38 := ⟨by decide +kernel, rfl⟩
theorem eX8_lie_38 : Dc MX8_lie 38 (.getfield 200) 3 41 := ⟨by decide +kernel, rfl⟩
theorem eX8_lie_41 : Dc MX8_lie 41 (.ifCond .ne 6) 3 44 := ⟨by decide +kernel, rfl⟩
theorem eX8_lie_44 : Dc MX8_lie 44 (.bipush (-2)) 2 46 := ⟨by decide +kernel, rfl⟩
theorem eX8_lie_46 : Dc MX8_lie 46 (.ireturn) 1 47 := ⟨by decide +kernel, rfl⟩
theorem eX8_lie_47 : Dc MX8_lie 47 (.aload_n 0) 1 48 := ⟨by decide +kernel, rfl⟩
theorem eX8_lie_48 : Dc MX8_lie 48 (.getfield 17) 3 51 := ⟨by decide +kernel, rfl⟩
theorem eX8_lie_51 : Dc MX8_lie 51 (.iload_n 1) 1 52 := ⟨by decide +kernel, rfl⟩
theorem eX8_lie_52 : Dc MX8_lie 52 (.iaload) 1 53 := ⟨by decide +kernel, rfl⟩
theorem eX8_lie_53 : Dc MX8_lie 53 (.istore_n 2) 1 54 := ⟨by decide +kernel, rfl⟩
theorem eX8_lie_54 : Dc MX8_lie 54 (.aload_n 0) 1 55 := ⟨by decide +kernel, rfl⟩
theorem eX8_lie_55 : Dc MX8_lie 55 (.iload_n 1) 1 56 := ⟨by decide +kernel, rfl⟩
theorem eX8_lie_56 : Dc MX8_lie 56 (.aload_n 0) 1 57 := ⟨by decide +kernel, rfl⟩
theorem eX8_lie_57 : Dc MX8_lie 57 (.getfield 59) 3 60 := ⟨by decide +kernel, rfl⟩
theorem eX8_lie_60 : Dc MX8_lie 60 (.iload_n 1) 1 61 := ⟨by decide +kernel, rfl⟩
theorem eX8_lie_61 : Dc MX8_lie 61 (.iaload) 1 62 := ⟨by decide +kernel, rfl⟩
theorem eX8_lie_62 : Dc MX8_lie 62 (.invokevirtual 136) 3 65 := ⟨by decide +kernel, rfl⟩
theorem eX8_lie_65 : Dc MX8_lie 65 (.istore_n 3) 1 66 := ⟨by decide +kernel, rfl⟩
theorem eX8_lie_66 : Dc MX8_lie 66 (.iconst 0) 1 67 := ⟨by decide +kernel, rfl⟩
theorem eX8_lie_67 : Dc MX8_lie 67 (.istore 4) 2 69 := ⟨by decide +kernel, rfl⟩
theorem eX8_lie_69 : Dc MX8_lie 69 (.iload 4) 2 71 := ⟨by decide +kernel, rfl⟩
theorem eX8_lie_71 : Dc MX8_lie 71 (.iconst 5) 1 72 := ⟨by decide +kernel, rfl⟩
theorem eX8_lie_72 : Dc MX8_lie 72 (.if_icmp .ge 36) 3 75 := ⟨by decide +kernel, rfl⟩
theorem eX8_lie_75 : Dc MX8_lie 75 (.aload_n 0) 1 76 := ⟨by decide +kernel, rfl⟩
theorem eX8_lie_76 : Dc MX8_lie 76 (.getfield 65) 3 79 := ⟨by decide +kernel, rfl⟩
theorem eX8_lie_79 : Dc MX8_lie 79 (.iload 4) 2 81 := ⟨by decide +kernel, rfl⟩
theorem eX8_lie_81 : Dc MX8_lie 81 (.aload_n 0) 1 82 := ⟨by decide +kernel, rfl⟩
theorem eX8_lie_82 : Dc MX8_lie 82 (.getfield 20) 3 85 := ⟨by decide +kernel, rfl⟩
theorem eX8_lie_85 : Dc MX8_lie 85 (.iconst 5) 1 86 := ⟨by decide +kernel, rfl⟩
theorem eX8_lie_86 : Dc MX8_lie 86 (.iload_n 1) 1 87 := ⟨by decide +kernel, rfl⟩
theorem eX8_lie_87 : Dc MX8_lie 87 (.imul) 1 88 := ⟨by decide +kernel, rfl⟩
theorem eX8_lie_88 : Dc MX8_lie 88 (.iload 4) 2 90 := ⟨by decide +kernel, rfl⟩
theorem eX8_lie_90 : Dc MX8_lie 90 (.iadd) 1 91 := ⟨by decide +kernel, rfl⟩
theorem eX8_lie_91 : Dc MX8_lie 91 (.iaload) 1 92 := ⟨by decide +kernel, rfl⟩
theorem eX8_lie_92 : Dc MX8_lie 92 (.iastore) 1 93 := ⟨by decide +kernel, rfl⟩
theorem eX8_lie_93 : Dc MX8_lie 93 (.aload_n 0) 1 94 := ⟨by decide +kernel, rfl⟩
theorem eX8_lie_94 : Dc MX8_lie 94 (.getfield 62) 3 97 := ⟨by decide +kernel, rfl⟩
theorem eX8_lie_97 : Dc MX8_lie 97 (.iload 4) 2 99 := ⟨by decide +kernel, rfl⟩
theorem eX8_lie_99 : Dc MX8_lie 99 (.iload 4) 2 101 := ⟨by decide +kernel, rfl⟩
theorem eX8_lie_101 : Dc MX8_lie 101 (.iastore) 1 102 := ⟨by decide +kernel, rfl⟩
theorem eX8_lie_102 : Dc MX8_lie 102 (.iinc 4 1) 3 105 := ⟨by decide +kernel, rfl⟩
theorem eX8_lie_105 : Dc MX8_lie 105 (.goto (-36)) 3 108 := ⟨by decide +kernel, rfl⟩
theorem eX8_lie_108 : Dc MX8_lie 108 (.iconst 0) 1 109 := ⟨by decide +kernel, rfl⟩
theorem eX8_lie_109 : Dc MX8_lie 109 (.istore 4) 2 111 := ⟨by decide +kernel, rfl⟩
theorem eX8_lie_111 : Dc MX8_lie 111 (.iconst 1) 1 112 := ⟨by decide +kernel, rfl⟩
theorem eX8_lie_112 : Dc MX8_lie 112 (.istore 5) 2 114 := ⟨by decide +kernel, rfl⟩
theorem eX8_lie_114 : Dc MX8_lie 114 (.iload 5) 2 116 := ⟨by decide +kernel, rfl⟩
theorem eX8_lie_116 : Dc MX8_lie 116 (.ifCond .eq 147) 3 119 := ⟨by decide +kernel, rfl⟩
theorem eX8_lie_119 : Dc MX8_lie 119 (.iload 4) 2 121 := ⟨by decide +kernel, rfl⟩
theorem eX8_lie_121 : Dc MX8_lie 121 (.ifCond .ne 142) 3 124 := ⟨by decide +kernel, rfl⟩
theorem eX8_lie_124 : Dc MX8_lie 124 (.aload_n 0) 1 125 := ⟨by decide +kernel, rfl⟩
theorem eX8_lie_125 : Dc MX8_lie 125 (.getfield 17) 3 128 := ⟨by decide +kernel, rfl⟩
theorem eX8_lie_128 : Dc MX8_lie 128 (.iload_n 1) 1 129 := ⟨by decide +kernel, rfl⟩
theorem eX8_lie_129 : Dc MX8_lie 129 (.aload_n 0) 1 130 := ⟨by decide +kernel, rfl⟩
theorem eX8_lie_130 : Dc MX8_lie 130 (.getfield 91) 3 133 := ⟨by decide +kernel, rfl⟩
theorem eX8_lie_133 : Dc MX8_lie 133 (.iastore) 1 134 := ⟨by decide +kernel, rfl⟩
theorem eX8_lie_134 : Dc MX8_lie 134 (.iconst 0) 1 135 := ⟨by decide +kernel, rfl⟩
theorem eX8_lie_135 : Dc MX8_lie 135 (.istore 6) 2 137 := ⟨by decide +kernel, rfl⟩
theorem eX8_lie_137 : Dc MX8_lie 137 (.iload 6) 2 139 := ⟨by decide +kernel, rfl⟩
theorem eX8_lie_139 : Dc MX8_lie 139 (.aload_n 0) 1 140 := ⟨by decide +kernel, rfl⟩
theorem eX8_lie_140 : Dc MX8_lie 140 (.getfield 91) 3 143 := ⟨by decide +kernel, rfl⟩
theorem eX8_lie_143 : Dc MX8_lie 143 (.if_icmp .ge 27) 3 146 := ⟨by decide +kernel, rfl⟩
theorem eX8_lie_146 : Dc MX8_lie 146 (.aload_n 0) 1 147 := ⟨by decide +kernel, rfl⟩
theorem eX8_lie_147 : Dc MX8_lie 147 (.getfield 20) 3 150 := ⟨by decide +kernel, rfl⟩
theorem eX8_lie_150 : Dc MX8_lie 150 (.iconst 5) 1 151 := ⟨by decide +kernel, rfl⟩
theorem eX8_lie_151 : Dc MX8_lie 151 (.iload_n 1) 1 152 := ⟨by decide +kernel, rfl⟩
theorem eX8_lie_152 : Dc MX8_lie 152 (.imul) 1 153 := ⟨by decide +kernel, rfl⟩
theorem eX8_lie_153 : Dc MX8_lie 153 (.iload 6) 2 155 := ⟨by decide +kernel, rfl⟩
theorem eX8_lie_155 : Dc MX8_lie 155 (.iadd) 1 156 := ⟨by decide +kernel, rfl⟩
theorem eX8_lie_156 : Dc MX8_lie 156 (.aload_n 0) 1 157 := ⟨by decide +kernel, rfl⟩
theorem eX8_lie_157 : Dc MX8_lie 157 (.getfield 62) 3 160 := ⟨by decide +kernel, rfl⟩
theorem eX8_lie_160 : Dc MX8_lie 160 (.iload 6) 2 162 := ⟨by decide +kernel, rfl⟩
theorem eX8_lie_162 : Dc MX8_lie 162 (.iaload) 1 163 := ⟨by decide +kernel, rfl⟩
theorem eX8_lie_163 : Dc MX8_lie 163 (.iastore) 1 164 := ⟨by decide +kernel, rfl⟩
theorem eX8_lie_164 : Dc MX8_lie 164 (.iinc 6 1) 3 167 := ⟨by decide +kernel, rfl⟩
theorem eX8_lie_167 : Dc MX8_lie 167 (.goto (-30)) 3 170 := ⟨by decide +kernel, rfl⟩
theorem eX8_lie_170 : Dc MX8_lie 170 (.aload_n 0) 1 171 := ⟨by decide +kernel, rfl⟩
theorem eX8_lie_171 : Dc MX8_lie 171 (.iconst 2) 1 172 := ⟨by decide +kernel, rfl⟩
theorem eX8_lie_172 : Dc MX8_lie 172 (.invokevirtual 224) 3 175 := ⟨by decide +kernel, rfl⟩
theorem eX8_lie_175 : Dc MX8_lie 175 (.aload_n 0) 1 176 := ⟨by decide +kernel, rfl⟩
theorem eX8_lie_176 : Dc MX8_lie 176 (.getfield 59) 3 179 := ⟨by decide +kernel, rfl⟩
theorem eX8_lie_179 : Dc MX8_lie 179 (.iload_n 1) 1 180 := ⟨by decide +kernel, rfl⟩
theorem eX8_lie_180 : Dc MX8_lie 180 (.iaload) 1 181 := ⟨by decide +kernel, rfl⟩
theorem eX8_lie_181 : Dc MX8_lie 181 (.istore 6) 2 183 := ⟨by decide +kernel, rfl⟩
theorem eX8_lie_183 : Dc MX8_lie 183 (.aload_n 0) 1 184 := ⟨by decide +kernel, rfl⟩
theorem eX8_lie_184 : Dc MX8_lie 184 (.getfield 17) 3 187 := ⟨by decide +kernel, rfl⟩
theorem eX8_lie_187 : Dc MX8_lie 187 (.iload_n 1) 1 188 := ⟨by decide +kernel, rfl⟩
theorem eX8_lie_188 : Dc MX8_lie 188 (.iload_n 2) 1 189 := ⟨by decide +kernel, rfl⟩
theorem eX8_lie_189 : Dc MX8_lie 189 (.iastore) 1 190 := ⟨by decide +kernel, rfl⟩
theorem eX8_lie_190 : Dc MX8_lie 190 (.iconst 0) 1 191 := ⟨by decide +kernel, rfl⟩
theorem eX8_lie_191 : Dc MX8_lie 191 (.istore 7) 2 193 := ⟨by decide +kernel, rfl⟩
theorem eX8_lie_193 : Dc MX8_lie 193 (.iload 7) 2 195 := ⟨by decide +kernel, rfl⟩
theorem eX8_lie_195 : Dc MX8_lie 195 (.iconst 5) 1 196 := ⟨by decide +kernel, rfl⟩
theorem eX8_lie_196 : Dc MX8_lie 196 (.if_icmp .ge 27) 3 199 := ⟨by decide +kernel, rfl⟩
theorem eX8_lie_199 : Dc MX8_lie 199 (.aload_n 0) 1 200 := ⟨by decide +kernel, rfl⟩
theorem eX8_lie_200 : Dc MX8_lie 200 (.getfield 20) 3 203 := ⟨by decide +kernel, rfl⟩
theorem eX8_lie_203 : Dc MX8_lie 203 (.iconst 5) 1 204 := ⟨by decide +kernel, rfl⟩
theorem eX8_lie_204 : Dc MX8_lie 204 (.iload_n 1) 1 205 := ⟨by decide +kernel, rfl⟩
theorem eX8_lie_205 : Dc MX8_lie 205 (.imul) 1 206 := ⟨by decide +kernel, rfl⟩
theorem eX8_lie_206 : Dc MX8_lie 206 (.iload 7) 2 208 := ⟨by decide +kernel, rfl⟩
theorem eX8_lie_208 : Dc MX8_lie 208 (.iadd) 1 209 := ⟨by decide +kernel, rfl⟩
theorem eX8_lie_209 : Dc MX8_lie 209 (.aload_n 0) 1 210 := ⟨by decide +kernel, rfl⟩
theorem eX8_lie_210 : Dc MX8_lie 210 (.getfield 65) 3 213 := ⟨by decide +kernel, rfl⟩
theorem eX8_lie_213 : Dc MX8_lie 213 (.iload 7) 2 215 := ⟨by decide +kernel, rfl⟩
theorem eX8_lie_215 : Dc MX8_lie 215 (.iaload) 1 216 := ⟨by decide +kernel, rfl⟩
theorem eX8_lie_216 : Dc MX8_lie 216 (.iastore) 1 217 := ⟨by decide +kernel, rfl⟩
theorem eX8_lie_217 : Dc MX8_lie 217 (.iinc 7 1) 3 220 := ⟨by decide +kernel, rfl⟩
theorem eX8_lie_220 : Dc MX8_lie 220 (.goto (-27)) 3 223 := ⟨by decide +kernel, rfl⟩
theorem eX8_lie_223 : Dc MX8_lie 223 (.aload_n 0) 1 224 := ⟨by decide +kernel, rfl⟩
theorem eX8_lie_224 : Dc MX8_lie 224 (.iload_n 1) 1 225 := ⟨by decide +kernel, rfl⟩
theorem eX8_lie_225 : Dc MX8_lie 225 (.iload 6) 2 227 := ⟨by decide +kernel, rfl⟩
theorem eX8_lie_227 : Dc MX8_lie 227 (.invokevirtual 136) 3 230 := ⟨by decide +kernel, rfl⟩
theorem eX8_lie_230 : Dc MX8_lie 230 (.iload_n 3) 1 231 := ⟨by decide +kernel, rfl⟩
theorem eX8_lie_231 : Dc MX8_lie 231 (.if_icmp .ge 7) 3 234 := ⟨by decide +kernel, rfl⟩
theorem eX8_lie_234 : Dc MX8_lie 234 (.iconst 1) 1 235 := ⟨by decide +kernel, rfl⟩
theorem eX8_lie_235 : Dc MX8_lie 235 (.goto 4) 3 238 := ⟨by decide +kernel, rfl⟩
theorem eX8_lie_238 : Dc MX8_lie 238 (.iconst 0) 1 239 := ⟨by decide +kernel, rfl⟩
theorem eX8_lie_239 : Dc MX8_lie 239 (.istore 4) 2 241 := ⟨by decide +kernel, rfl⟩
theorem eX8_lie_241 : Dc MX8_lie 241 (.iload 4) 2 243 := ⟨by decide +kernel, rfl⟩
theorem eX8_lie_243 : Dc MX8_lie 243 (.ifCond .ne 10) 3 246 := ⟨by decide +kernel, rfl⟩
theorem eX8_lie_246 : Dc MX8_lie 246 (.aload_n 0) 1 247 := ⟨by decide +kernel, rfl⟩
theorem eX8_lie_247 : Dc MX8_lie 247 (.invokevirtual 243) 3 250 := ⟨by decide +kernel, rfl⟩
theorem eX8_lie_250 : Dc MX8_lie 250 (.ifCond .eq 7) 3 253 := ⟨by decide +kernel, rfl⟩
theorem eX8_lie_253 : Dc MX8_lie 253 (.iconst 1) 1 254 := ⟨by decide +kernel, rfl⟩
theorem eX8_lie_254 : Dc MX8_lie 254 (.goto 4) 3 257 := ⟨by decide +kernel, rfl⟩
theorem eX8_lie_257 : Dc MX8_lie 257 (.iconst 0) 1 258 := ⟨by decide +kernel, rfl⟩
theorem eX8_lie_258 : Dc MX8_lie 258 (.istore 5) 2 260 := ⟨by decide +kernel, rfl⟩
theorem eX8_lie_260 : Dc MX8_lie 260 (.goto (-146)) 3 263 := ⟨by decide +kernel, rfl⟩
theorem eX8_lie_263 : Dc MX8_lie 263 (.iload 4) 2 265 := ⟨by decide +kernel, rfl⟩
theorem eX8_lie_265 : Dc MX8_lie 265 (.ifCond .ne 5) 3 268 := ⟨by decide +kernel, rfl⟩
theorem eX8_lie_268 : Dc MX8_lie 268 (.iconst 0) 1 269 := ⟨by decide +kernel, rfl⟩
theorem eX8_lie_269 : Dc MX8_lie 269 (.ireturn) 1 270 := ⟨by decide +kernel, rfl⟩
theorem eX8_lie_270 : Dc MX8_lie 270 (.aload_n 0) 1 271 := ⟨by decide +kernel, rfl⟩
theorem eX8_lie_271 : Dc MX8_lie 271 (.aload_n 0) 1 272 := ⟨by decide +kernel, rfl⟩
theorem eX8_lie_272 : Dc MX8_lie 272 (.getfield 91) 3 275 := ⟨by decide +kernel, rfl⟩
theorem eX8_lie_275 : Dc MX8_lie 275 (.putfield 128) 3 278 := ⟨by decide +kernel, rfl⟩
theorem eX8_lie_278 : Dc MX8_lie 278 (.iconst 0) 1 279 := ⟨by decide +kernel, rfl⟩
theorem eX8_lie_279 : Dc MX8_lie 279 (.istore 6) 2 281 := ⟨by decide +kernel, rfl⟩
theorem eX8_lie_281 : Dc MX8_lie 281 (.iload 6) 2 283 := ⟨by decide +kernel, rfl⟩
theorem eX8_lie_283 : Dc MX8_lie 283 (.aload_n 0) 1 284 := ⟨by decide +kernel, rfl⟩
theorem eX8_lie_284 : Dc MX8_lie 284 (.getfield 91) 3 287 := ⟨by decide +kernel, rfl⟩
theorem eX8_lie_287 : Dc MX8_lie 287 (.if_icmp .ge 23) 3 290 := ⟨by decide +kernel, rfl⟩
theorem eX8_lie_290 : Dc MX8_lie 290 (.aload_n 0) 1 291 := ⟨by decide +kernel, rfl⟩
theorem eX8_lie_291 : Dc MX8_lie 291 (.getfield 77) 3 294 := ⟨by decide +kernel, rfl⟩
theorem eX8_lie_294 : Dc MX8_lie 294 (.iload 6) 2 296 := ⟨by decide +kernel, rfl⟩
theorem eX8_lie_296 : Dc MX8_lie 296 (.aload_n 0) 1 297 := ⟨by decide +kernel, rfl⟩
theorem eX8_lie_297 : Dc MX8_lie 297 (.getfield 62) 3 300 := ⟨by decide +kernel, rfl⟩
theorem eX8_lie_300 : Dc MX8_lie 300 (.iload 6) 2 302 := ⟨by decide +kernel, rfl⟩
theorem eX8_lie_302 : Dc MX8_lie 302 (.iaload) 1 303 := ⟨by decide +kernel, rfl⟩
theorem eX8_lie_303 : Dc MX8_lie 303 (.iastore) 1 304 := ⟨by decide +kernel, rfl⟩
theorem eX8_lie_304 : Dc MX8_lie 304 (.iinc 6 1) 3 307 := ⟨by decide +kernel, rfl⟩
theorem eX8_lie_307 : Dc MX8_lie 307 (.goto (-26)) 3 310 := ⟨by decide +kernel, rfl⟩
theorem eX8_lie_310 : Dc MX8_lie 310 (.iconst 1) 1 311 := ⟨by decide +kernel, rfl⟩
theorem eX8_lie_311 : Dc MX8_lie 311 (.ireturn) 1 312 := ⟨by decide +kernel, rfl⟩
theorem eX8_book_0 : Dc MX8_book 0 (.aload_n 0) 1 1 := ⟨by decide +kernel, rfl⟩
theorem eX8_book_1 : Dc MX8_book 1 (.iconst 0) 1 2 := ⟨by decide +kernel, rfl⟩
theorem eX8_book_2 : Dc MX8_book 2 (.putfield 80) 3 5 := ⟨by decide +kernel, rfl⟩
theorem eX8_book_5 : Dc MX8_book 5 (.aload_n 0) 1 6 := ⟨by decide +kernel, rfl⟩
theorem eX8_book_6 : Dc MX8_book 6 (.getfield 125) 3 9 := ⟨by decide +kernel, rfl⟩
theorem eX8_book_9 : Dc MX8_book 9 (.bipush 60) 2 11 := ⟨by decide +kernel, rfl⟩
theorem eX8_book_11 : Dc MX8_book 11 (.if_icmp .ne 5) 3 14 := ⟨by decide +kernel, rfl⟩
theorem eX8_book_14 : Dc MX8_book 14 (.iconst (-1)) 1 15 := ⟨by decide +kernel, rfl⟩
theorem eX8_book_15 : Dc MX8_book 15 (.ireturn) 1 16 := ⟨by decide +kernel, rfl⟩
theorem eX8_book_16 : Dc MX8_book 16 (.aload_n 0) 1 17 := ⟨by decide +kernel, rfl⟩
theorem eX8_book_17 : Dc MX8_book 17 (.aload_n 0) 1 18 := ⟨by decide +kernel, rfl⟩
theorem eX8_book_18 : Dc MX8_book 18 (.getfield 26) 3 21 := ⟨by decide +kernel, rfl⟩
theorem eX8_book_21 : Dc MX8_book 21 (.invokevirtual 157) 3 24 := ⟨by decide +kernel, rfl⟩
theorem eX8_book_24 : Dc MX8_book 24 (.ifCond .eq 5) 3 27 := ⟨by decide +kernel, rfl⟩
theorem eX8_book_27 : Dc MX8_book 27 (.iconst 0) 1 28 := ⟨by decide +kernel, rfl⟩
theorem eX8_book_28 : Dc MX8_book 28 (.ireturn) 1 29 := ⟨by decide +kernel, rfl⟩
theorem eX8_book_29 : Dc MX8_book 29 (.aload_n 0) 1 30 := ⟨by decide +kernel, rfl⟩
theorem eX8_book_30 : Dc MX8_book 30 (.getfield 74) 3 33 := ⟨by decide +kernel, rfl⟩
theorem eX8_book_33 : Dc MX8_book 33 (.aload_n 0) 1 34 := ⟨by decide +kernel, rfl⟩
theorem eX8_book_34 : Dc MX8_book 34 (.getfield 125) 3 37 := ⟨by decide +kernel, rfl⟩
theorem eX8_book_37 : Dc MX8_book 37 (.aload_n 0) 1 38 := ⟨by decide +kernel, rfl⟩
theorem eX8_book_38 : Dc MX8_book 38 (.getfield 84) 3 41 := ⟨by decide +kernel, rfl⟩
theorem eX8_book_41 : Dc MX8_book 41 (.iastore) 1 42 := ⟨by decide +kernel, rfl⟩
theorem eX8_book_42 : Dc MX8_book 42 (.iconst 0) 1 43 := ⟨by decide +kernel, rfl⟩
theorem eX8_book_43 : Dc MX8_book 43 (.istore_n 1) 1 44 := ⟨by decide +kernel, rfl⟩
theorem eX8_book_44 : Dc MX8_book 44 (.iload_n 1) 1 45 := ⟨by decide +kernel, rfl⟩
theorem eX8_book_45 : Dc MX8_book 45 (.aload_n 0) 1 46 := ⟨by decide +kernel, rfl⟩
theorem eX8_book_46 : Dc MX8_book 46 (.getfield 84) 3 49 := ⟨by decide +kernel, rfl⟩
theorem eX8_book_49 : Dc MX8_book 49 (.if_icmp .ge 92) 3 52 := ⟨by decide +kernel, rfl⟩
theorem eX8_book_52 : Dc MX8_book 52 (.aload_n 0) 1 53 := ⟨by decide +kernel, rfl⟩
theorem eX8_book_53 : Dc MX8_book 53 (.getfield 13) 3 56 := ⟨by decide +kernel, rfl⟩
theorem eX8_book_56 : Dc MX8_book 56 (.iload_n 1) 1 57 := ⟨by decide +kernel, rfl⟩
theorem eX8_book_57 : Dc MX8_book 57 (.baload) 1 58 := ⟨by decide +kernel, rfl⟩
theorem eX8_book_58 : Dc MX8_book 58 (.ifCond .eq 17) 3 61 := ⟨by decide +kernel, rfl⟩
theorem eX8_book_61 : Dc MX8_book 61 (.aload_n 0) 1 62 := ⟨by decide +kernel, rfl⟩
theorem eX8_book_62 : Dc MX8_book 62 (.iload_n 1) 1 63 := ⟨by decide +kernel, rfl⟩
theorem eX8_book_63 : Dc MX8_book 63 (.aload_n 0) 1 64 := ⟨by decide +kernel, rfl⟩
theorem eX8_book_64 : Dc MX8_book 64 (.getfield 26) 3 67 := ⟨by decide +kernel, rfl⟩
theorem eX8_book_67 : Dc MX8_book 67 (.iload_n 1) 1 68 := ⟨by decide +kernel, rfl⟩
theorem eX8_book_68 : Dc MX8_book 68 (.iaload) 1 69 := ⟨by decide +kernel, rfl⟩
theorem eX8_book_69 : Dc MX8_book 69 (.invokevirtual 136) 3 72 := ⟨by decide +kernel, rfl⟩
theorem eX8_book_72 : Dc MX8_book 72 (.goto 4) 3 75 := ⟨by decide +kernel, rfl⟩
theorem eX8_book_75 : Dc MX8_book 75 (.iconst 0) 1 76 := ⟨by decide +kernel, rfl⟩
theorem eX8_book_76 : Dc MX8_book 76 (.istore_n 2) 1 77 := ⟨by decide +kernel, rfl⟩
theorem eX8_book_77 : Dc MX8_book 77 (.aload_n 0) 1 78 := ⟨by decide +kernel, rfl⟩
theorem eX8_book_78 : Dc MX8_book 78 (.getfield 68) 3 81 := ⟨by decide +kernel, rfl⟩
theorem eX8_book_81 : Dc MX8_book 81 (.bipush 8) 2 83 := ⟨by decide +kernel, rfl⟩
theorem eX8_book_83 : Dc MX8_book 83 (.aload_n 0) 1 84 := ⟨by decide +kernel, rfl⟩
theorem eX8_book_84 : Dc MX8_book 84 (.getfield 125) 3 87 := ⟨by decide +kernel, rfl⟩
theorem eX8_book_87 : Dc MX8_book 87 (.imul) 1 88 := ⟨by decide +kernel, rfl⟩
theorem eX8_book_88 : Dc MX8_book 88 (.iload_n 1) 1 89 := ⟨by decide +kernel, rfl⟩
theorem eX8_book_89 : Dc MX8_book 89 (.iadd) 1 90 := ⟨by decide +kernel, rfl⟩
theorem eX8_book_90 : Dc MX8_book 90 (.aload_n 0) 1 91 := ⟨by decide +kernel, rfl⟩
theorem eX8_book_91 : Dc MX8_book 91 (.getfield 26) 3 94 := ⟨by decide +kernel, rfl⟩
theorem eX8_book_94 : Dc MX8_book 94 (.iload_n 1) 1 95 := ⟨by decide +kernel, rfl⟩
theorem eX8_book_95 : Dc MX8_book 95 (.iaload) 1 96 := ⟨by decide +kernel, rfl⟩
theorem eX8_book_96 : Dc MX8_book 96 (.iastore) 1 97 := ⟨by decide +kernel, rfl⟩
theorem eX8_book_97 : Dc MX8_book 97 (.aload_n 0) 1 98 := ⟨by decide +kernel, rfl⟩
theorem eX8_book_98 : Dc MX8_book 98 (.getfield 71) 3 101 := ⟨by decide +kernel, rfl⟩
theorem eX8_book_101 : Dc MX8_book 101 (.bipush 8) 2 103 := ⟨by decide +kernel, rfl⟩
theorem eX8_book_103 : Dc MX8_book 103 (.aload_n 0) 1 104 := ⟨by decide +kernel, rfl⟩
theorem eX8_book_104 : Dc MX8_book 104 (.getfield 125) 3 107 := ⟨by decide +kernel, rfl⟩
theorem eX8_book_107 : Dc MX8_book 107 (.imul) 1 108 := ⟨by decide +kernel, rfl⟩
theorem eX8_book_108 : Dc MX8_book 108 (.iload_n 1) 1 109 := ⟨by decide +kernel, rfl⟩
theorem eX8_book_109 : Dc MX8_book 109 (.iadd) 1 110 := ⟨by decide +kernel, rfl⟩
theorem eX8_book_110 : Dc MX8_book 110 (.iload_n 2) 1 111 := ⟨by decide +kernel, rfl⟩
theorem eX8_book_111 : Dc MX8_book 111 (.iastore) 1 112 := ⟨by decide +kernel, rfl⟩
theorem eX8_book_112 : Dc MX8_book 112 (.aload_n 0) 1 113 := ⟨by decide +kernel, rfl⟩
theorem eX8_book_113 : Dc MX8_book 113 (.getfield 23) 3 116 := ⟨by decide +kernel, rfl⟩
theorem eX8_book_116 : Dc MX8_book 116 (.iload_n 1) 1 117 := ⟨by decide +kernel, rfl⟩
theorem eX8_book_117 : Dc MX8_book 117 (.dup2) 1 118 := ⟨by decide +kernel, rfl⟩
theorem eX8_book_118 : Dc MX8_book 118 (.iaload) 1 119 := ⟨by decide +kernel, rfl⟩
theorem eX8_book_119 : Dc MX8_book 119 (.iconst 0) 1 120 := ⟨by decide +kernel, rfl⟩
theorem eX8_book_120 : Dc MX8_book 120 (.iload_n 2) 1 121 := ⟨by decide +kernel, rfl⟩
theorem eX8_book_121 : Dc MX8_book 121 (.iconst 1) 1 122 := ⟨by decide +kernel, rfl⟩
theorem eX8_book_122 : Dc MX8_book 122 (.isub) 1 123 := ⟨by decide +kernel, rfl⟩
theorem eX8_book_123 : Dc MX8_book 123 (.invokestatic 247) 3 126 := ⟨by decide +kernel, rfl⟩
theorem eX8_book_126 : Dc MX8_book 126 (.iadd) 1 127 := ⟨by decide +kernel, rfl⟩
theorem eX8_book_127 : Dc MX8_book 127 (.iastore) 1 128 := ⟨by decide +kernel, rfl⟩
theorem eX8_book_128 : Dc MX8_book 128 (.aload_n 0) 1 129 := ⟨by decide +kernel, rfl⟩
theorem eX8_book_129 : Dc MX8_book 129 (.getfield 26) 3 132 := ⟨by decide +kernel, rfl⟩
theorem eX8_book_132 : Dc MX8_book 132 (.iload_n 1) 1 133 := ⟨by decide +kernel, rfl⟩
theorem eX8_book_133 : Dc MX8_book 133 (.iconst (-1)) 1 134 := ⟨by decide +kernel, rfl⟩
theorem eX8_book_134 : Dc MX8_book 134 (.iastore) 1 135 := ⟨by decide +kernel, rfl⟩
theorem eX8_book_135 : Dc MX8_book 135 (.iinc 1 1) 3 138 := ⟨by decide +kernel, rfl⟩
theorem eX8_book_138 : Dc MX8_book 138 (.goto (-94)) 3 141 := ⟨by decide +kernel, rfl⟩
theorem eX8_book_141 : Dc MX8_book 141 (.aload_n 0) 1 142 := ⟨by decide +kernel, rfl⟩
theorem eX8_book_142 : Dc MX8_book 142 (.dup) 1 143 := ⟨by decide +kernel, rfl⟩
theorem eX8_book_143 : Dc MX8_book 143 (.getfield 125) 3 146 := ⟨by decide +kernel, rfl⟩
theorem eX8_book_146 : Dc MX8_book 146 (.iconst 1) 1 147 := ⟨by decide +kernel, rfl⟩
theorem eX8_book_147 : Dc MX8_book 147 (.iadd) 1 148 := ⟨by decide +kernel, rfl⟩
theorem eX8_book_148 : Dc MX8_book 148 (.putfield 125) 3 151 := ⟨by decide +kernel, rfl⟩
theorem eX8_book_151 : Dc MX8_book 151 (.iconst 1) 1 152 := ⟨by decide +kernel, rfl⟩
theorem eX8_book_152 : Dc MX8_book 152 (.ireturn) 1 153 := ⟨by decide +kernel, rfl⟩
theorem eX8_year_0 : Dc MX8_year 0 (.aload_n 0) 1 1 := ⟨by decide +kernel, rfl⟩
theorem eX8_year_1 : Dc MX8_year 1 (.iconst 0) 1 2 := ⟨by decide +kernel, rfl⟩
theorem eX8_year_2 : Dc MX8_year 2 (.putfield 80) 3 5 := ⟨by decide +kernel, rfl⟩
theorem eX8_year_5 : Dc MX8_year 5 (.iload_n 1) 1 6 := ⟨by decide +kernel, rfl⟩
theorem eX8_year_6 : Dc MX8_year 6 (.i2l) 1 7 := ⟨by decide +kernel, rfl⟩
theorem eX8_year_7 : Dc MX8_year 7 (.lconst 0) 1 8 := ⟨by decide +kernel, rfl⟩
theorem eX8_year_8 : Dc MX8_year 8 (.aload_n 0) 1 9 := ⟨by decide +kernel, rfl⟩
theorem eX8_year_9 : Dc MX8_year 9 (.getfield 125) 3 12 := ⟨by decide +kernel, rfl⟩
theorem eX8_year_12 : Dc MX8_year 12 (.iconst 1) 1 13 := ⟨by decide +kernel, rfl⟩
theorem eX8_year_13 : Dc MX8_year 13 (.isub) 1 14 := ⟨by decide +kernel, rfl⟩
theorem eX8_year_14 : Dc MX8_year 14 (.i2l) 1 15 := ⟨by decide +kernel, rfl⟩
theorem eX8_year_15 : Dc MX8_year 15 (.invokestatic 87) 3 18 := ⟨by decide +kernel, rfl⟩
theorem eX8_year_18 : Dc MX8_year 18 (.ifCond .eq 11) 3 21 := ⟨by decide +kernel, rfl⟩
theorem eX8_year_21 : Dc MX8_year 21 (.aload_n 0) 1 22 := ⟨by decide +kernel, rfl⟩
theorem eX8_year_22 : Dc MX8_year 22 (.iload_n 2) 1 23 := ⟨by decide +kernel, rfl⟩
theorem eX8_year_23 : Dc MX8_year 23 (.invokevirtual 100) 3 26 := ⟨by decide +kernel, rfl⟩
theorem eX8_year_26 : Dc MX8_year 26 (.ifCond .ne 5) 3 29 := ⟨by decide +kernel, rfl⟩
theorem eX8_year_29 : Dc MX8_year 29 (.iconst (-1)) 1 30 := ⟨by decide +kernel, rfl⟩
theorem eX8_year_30 : Dc MX8_year 30 (.ireturn) 1 31 := ⟨by decide +kernel, rfl⟩
theorem eX8_year_31 : Dc MX8_year 31 (.iload_n 2) 1 32 := ⟨by decide +kernel, rfl⟩
theorem eX8_year_32 : Dc MX8_year 32 (.aload_n 0) 1 33 := ⟨by decide +kernel, rfl⟩
theorem eX8_year_33 : Dc MX8_year 33 (.getfield 74) 3 36 := ⟨by decide +kernel, rfl⟩
theorem eX8_year_36 : Dc MX8_year 36 (.iload_n 1) 1 37 := ⟨by decide +kernel, rfl⟩
theorem eX8_year_37 : Dc MX8_year 37 (.iaload) 1 38 := ⟨by decide +kernel, rfl⟩
theorem eX8_year_38 : Dc MX8_year 38 (.if_icmp .ge 17) 3 41 := ⟨by decide +kernel, rfl⟩
theorem eX8_year_41 : Dc MX8_year 41 (.aload_n 0) 1 42 := ⟨by decide +kernel, rfl⟩
theorem eX8_year_42 : Dc MX8_year 42 (.getfield 71) 3 45 := ⟨by decide +kernel, rfl⟩
theorem eX8_year_45 : Dc MX8_year 45 (.bipush 8) 2 47 := ⟨by decide +kernel, rfl⟩
theorem eX8_year_47 : Dc MX8_year 47 (.iload_n 1) 1 48 := ⟨by decide +kernel, rfl⟩
theorem eX8_year_48 : Dc MX8_year 48 (.imul) 1 49 := ⟨by decide +kernel, rfl⟩
theorem eX8_year_49 : Dc MX8_year 49 (.iload_n 2) 1 50 := ⟨by decide +kernel, rfl⟩
theorem eX8_year_50 : Dc MX8_year 50 (.iadd) 1 51 := ⟨by decide +kernel, rfl⟩
theorem eX8_year_51 : Dc MX8_year 51 (.iaload) 1 52 := ⟨by decide +kernel, rfl⟩
theorem eX8_year_52 : Dc MX8_year 52 (.goto 4) 3 55 := ⟨by decide +kernel, rfl⟩
theorem eX8_year_55 : Dc MX8_year 55 (.iconst 0) 1 56 := ⟨by decide +kernel, rfl⟩
theorem eX8_year_56 : Dc MX8_year 56 (.ireturn) 1 57 := ⟨by decide +kernel, rfl⟩
theorem eX8_undo_0 : Dc MX8_undo 0 (.aload_n 0) 1 1 := ⟨by decide +kernel, rfl⟩
theorem eX8_undo_1 : Dc MX8_undo 1 (.iconst 0) 1 2 := ⟨by decide +kernel, rfl⟩
theorem eX8_undo_2 : Dc MX8_undo 2 (.putfield 80) 3 5 := ⟨by decide +kernel, rfl⟩
theorem eX8_undo_5 : Dc MX8_undo 5 (.aload_n 0) 1 6 := ⟨by decide +kernel, rfl⟩
theorem eX8_undo_6 : Dc MX8_undo 6 (.getfield 125) 3 9 := ⟨by decide +kernel, rfl⟩
theorem eX8_undo_9 : Dc MX8_undo 9 (.ifCond .ne 5) 3 12 := ⟨by decide +kernel, rfl⟩
theorem eX8_undo_12 : Dc MX8_undo 12 (.iconst (-1)) 1 13 := ⟨by decide +kernel, rfl⟩
theorem eX8_undo_13 : Dc MX8_undo 13 (.ireturn) 1 14 := ⟨by decide +kernel, rfl⟩
theorem eX8_undo_14 : Dc MX8_undo 14 (.aload_n 0) 1 15 := ⟨by decide +kernel, rfl⟩
theorem eX8_undo_15 : Dc MX8_undo 15 (.dup) 1 16 := ⟨by decide +kernel, rfl⟩
theorem eX8_undo_16 : Dc MX8_undo 16 (.getfield 125) 3 19 := ⟨by decide +kernel, rfl⟩
theorem eX8_undo_19 : Dc MX8_undo 19 (.iconst 1) 1 20 := ⟨by decide +kernel, rfl⟩
theorem eX8_undo_20 : Dc MX8_undo 20 (.isub) 1 21 := ⟨by decide +kernel, rfl⟩
theorem eX8_undo_21 : Dc MX8_undo 21 (.putfield 125) 3 24 := ⟨by decide +kernel, rfl⟩
theorem eX8_undo_24 : Dc MX8_undo 24 (.iconst 0) 1 25 := ⟨by decide +kernel, rfl⟩
theorem eX8_undo_25 : Dc MX8_undo 25 (.istore_n 1) 1 26 := ⟨by decide +kernel, rfl⟩
theorem eX8_undo_26 : Dc MX8_undo 26 (.iload_n 1) 1 27 := ⟨by decide +kernel, rfl⟩
theorem eX8_undo_27 : Dc MX8_undo 27 (.aload_n 0) 1 28 := ⟨by decide +kernel, rfl⟩
theorem eX8_undo_28 : Dc MX8_undo 28 (.getfield 84) 3 31 := ⟨by decide +kernel, rfl⟩
theorem eX8_undo_31 : Dc MX8_undo 31 (.if_icmp .ge 93) 3 34 := ⟨by decide +kernel, rfl⟩
theorem eX8_undo_34 : Dc MX8_undo 34 (.iload_n 1) 1 35 := ⟨by decide +kernel, rfl⟩
theorem eX8_undo_35 : Dc MX8_undo 35 (.aload_n 0) 1 36 := ⟨by decide +kernel, rfl⟩
theorem eX8_undo_36 : Dc MX8_undo 36 (.getfield 74) 3 39 := ⟨by decide +kernel, rfl⟩
theorem eX8_undo_39 : Dc MX8_undo 39 (.aload_n 0) 1 40 := ⟨by decide +kernel, rfl⟩
theorem eX8_undo_40 : Dc MX8_undo 40 (.getfield 125) 3 43 := ⟨by decide +kernel, rfl⟩
theorem eX8_undo_43 : Dc MX8_undo 43 (.iaload) 1 44 := ⟨by decide +kernel, rfl⟩
theorem eX8_undo_44 : Dc MX8_undo 44 (.if_icmp .ge 7) 3 47 := ⟨by decide +kernel, rfl⟩
theorem eX8_undo_47 : Dc MX8_undo 47 (.iconst 1) 1 48 := ⟨by decide +kernel, rfl⟩
theorem eX8_undo_48 : Dc MX8_undo 48 (.goto 4) 3 51 := ⟨by decide +kernel, rfl⟩
theorem eX8_undo_51 : Dc MX8_undo 51 (.iconst 0) 1 52 := ⟨by decide +kernel, rfl⟩
theorem eX8_undo_52 : Dc MX8_undo 52 (.istore_n 2) 1 53 := ⟨by decide +kernel, rfl⟩
theorem eX8_undo_53 : Dc MX8_undo 53 (.aload_n 0) 1 54 := ⟨by decide +kernel, rfl⟩
theorem eX8_undo_54 : Dc MX8_undo 54 (.getfield 26) 3 57 := ⟨by decide +kernel, rfl⟩
theorem eX8_undo_57 : Dc MX8_undo 57 (.iload_n 1) 1 58 := ⟨by decide +kernel, rfl⟩
theorem eX8_undo_58 : Dc MX8_undo 58 (.iload_n 2) 1 59 := ⟨by decide +kernel, rfl⟩
theorem eX8_undo_59 : Dc MX8_undo 59 (.ifCond .eq 20) 3 62 := ⟨by decide +kernel, rfl⟩
theorem eX8_undo_62 : Dc MX8_undo 62 (.aload_n 0) 1 63 := ⟨by decide +kernel, rfl⟩
theorem eX8_undo_63 : Dc MX8_undo 63 (.getfield 68) 3 66 := ⟨by decide +kernel, rfl⟩
theorem eX8_undo_66 : Dc MX8_undo 66 (.bipush 8) 2 68 := ⟨by decide +kernel, rfl⟩
theorem eX8_undo_68 : Dc MX8_undo 68 (.aload_n 0) 1 69 := ⟨by decide +kernel, rfl⟩
theorem eX8_undo_69 : Dc MX8_undo 69 (.getfield 125) 3 72 := ⟨by decide +kernel, rfl⟩
theorem eX8_undo_72 : Dc MX8_undo 72 (.imul) 1 73 := ⟨by decide +kernel, rfl⟩
theorem eX8_undo_73 : Dc MX8_undo 73 (.iload_n 1) 1 74 := ⟨by decide +kernel, rfl⟩
theorem eX8_undo_74 : Dc MX8_undo 74 (.iadd) 1 75 := ⟨by decide +kernel, rfl⟩
theorem eX8_undo_75 : Dc MX8_undo 75 (.iaload) 1 76 := ⟨by decide +kernel, rfl⟩
theorem eX8_undo_76 : Dc MX8_undo 76 (.goto 4) 3 79 := ⟨by decide +kernel, rfl⟩
theorem eX8_undo_79 : Dc MX8_undo 79 (.iconst (-1)) 1 80 := ⟨by decide +kernel, rfl⟩
theorem eX8_undo_80 : Dc MX8_undo 80 (.iastore) 1 81 := ⟨by decide +kernel, rfl⟩
theorem eX8_undo_81 : Dc MX8_undo 81 (.aload_n 0) 1 82 := ⟨by decide +kernel, rfl⟩
theorem eX8_undo_82 : Dc MX8_undo 82 (.getfield 23) 3 85 := ⟨by decide +kernel, rfl⟩
theorem eX8_undo_85 : Dc MX8_undo 85 (.iload_n 1) 1 86 := ⟨by decide +kernel, rfl⟩
theorem eX8_undo_86 : Dc MX8_undo 86 (.dup2) 1 87 := ⟨by decide +kernel, rfl⟩
theorem eX8_undo_87 : Dc MX8_undo 87 (.iaload) 1 88 := ⟨by decide +kernel, rfl⟩
theorem eX8_undo_88 : Dc MX8_undo 88 (.iload_n 2) 1 89 := ⟨by decide +kernel, rfl⟩
theorem eX8_undo_89 : Dc MX8_undo 89 (.ifCond .eq 26) 3 92 := ⟨by decide +kernel, rfl⟩
theorem eX8_undo_92 : Dc MX8_undo 92 (.iconst 0) 1 93 := ⟨by decide +kernel, rfl⟩
theorem eX8_undo_93 : Dc MX8_undo 93 (.aload_n 0) 1 94 := ⟨by decide +kernel, rfl⟩
theorem eX8_undo_94 : Dc MX8_undo 94 (.getfield 71) 3 97 := ⟨by decide +kernel, rfl⟩
theorem eX8_undo_97 : Dc MX8_undo 97 (.bipush 8) 2 99 := ⟨by decide +kernel, rfl⟩
theorem eX8_undo_99 : Dc MX8_undo 99 (.aload_n 0) 1 100 := ⟨by decide +kernel, rfl⟩
theorem eX8_undo_100 : Dc MX8_undo 100 (.getfield 125) 3 103 := ⟨by decide +kernel, rfl⟩
theorem eX8_undo_103 : Dc MX8_undo 103 (.imul) 1 104 := ⟨by decide +kernel, rfl⟩
theorem eX8_undo_104 : Dc MX8_undo 104 (.iload_n 1) 1 105 := ⟨by decide +kernel, rfl⟩
theorem eX8_undo_105 : Dc MX8_undo 105 (.iadd) 1 106 := ⟨by decide +kernel, rfl⟩
theorem eX8_undo_106 : Dc MX8_undo 106 (.iaload) 1 107 := ⟨by decide +kernel, rfl⟩
theorem eX8_undo_107 : Dc MX8_undo 107 (.iconst 1) 1 108 := ⟨by decide +kernel, rfl⟩
theorem eX8_undo_108 : Dc MX8_undo 108 (.isub) 1 109 := ⟨by decide +kernel, rfl⟩
theorem eX8_undo_109 : Dc MX8_undo 109 (.invokestatic 247) 3 112 := ⟨by decide +kernel, rfl⟩
theorem eX8_undo_112 : Dc MX8_undo 112 (.goto 4) 3 115 := ⟨by decide +kernel, rfl⟩
theorem eX8_undo_115 : Dc MX8_undo 115 (.iconst 0) 1 116 := ⟨by decide +kernel, rfl⟩
theorem eX8_undo_116 : Dc MX8_undo 116 (.isub) 1 117 := ⟨by decide +kernel, rfl⟩
theorem eX8_undo_117 : Dc MX8_undo 117 (.iastore) 1 118 := ⟨by decide +kernel, rfl⟩
theorem eX8_undo_118 : Dc MX8_undo 118 (.iinc 1 1) 3 121 := ⟨by decide +kernel, rfl⟩
theorem eX8_undo_121 : Dc MX8_undo 121 (.goto (-95)) 3 124 := ⟨by decide +kernel, rfl⟩
theorem eX8_undo_124 : Dc MX8_undo 124 (.aload_n 0) 1 125 := ⟨by decide +kernel, rfl⟩
theorem eX8_undo_125 : Dc MX8_undo 125 (.getfield 125) 3 128 := ⟨by decide +kernel, rfl⟩
theorem eX8_undo_128 : Dc MX8_undo 128 (.ireturn) 1 129 := ⟨by decide +kernel, rfl⟩
theorem eX8_row_0 : Dc MX8_row 0 (.aload_n 0) 1 1 := ⟨by decide +kernel, rfl⟩
theorem eX8_row_1 : Dc MX8_row 1 (.iconst 0) 1 2 := ⟨by decide +kernel, rfl⟩
theorem eX8_row_2 : Dc MX8_row 2 (.putfield 80) 3 5 := ⟨by decide +kernel, rfl⟩
theorem eX8_row_5 : Dc MX8_row 5 (.iload_n 1) 1 6 := ⟨by decide +kernel, rfl⟩
theorem eX8_row_6 : Dc MX8_row 6 (.i2l) 1 7 := ⟨by decide +kernel, rfl⟩
theorem eX8_row_7 : Dc MX8_row 7 (.lconst 0) 1 8 := ⟨by decide +kernel, rfl⟩
theorem eX8_row_8 : Dc MX8_row 8 (.aload_n 0) 1 9 := ⟨by decide +kernel, rfl⟩
theorem eX8_row_9 : Dc MX8_row 9 (.getfield 128) 3 12 := ⟨by decide +kernel, rfl⟩
theorem eX8_row_12 : Dc MX8_row 12 (.iconst 1) 1 13 := ⟨by decide +kernel, rfl⟩
theorem eX8_row_13 : Dc MX8_row 13 (.isub) 1 14 := ⟨by decide +kernel, rfl⟩
theorem eX8_row_14 : Dc MX8_row 14 (.i2l) 1 15 := ⟨by decide +kernel, rfl⟩
theorem eX8_row_15 : Dc MX8_row 15 (.invokestatic 87) 3 18 := ⟨by decide +kernel, rfl⟩
theorem eX8_row_18 : Dc MX8_row 18 (.ifCond .eq 12) 3 21 := ⟨by decide +kernel, rfl⟩
theorem eX8_row_21 : Dc MX8_row 21 (.aload_n 0) 1 22 := ⟨by decide +kernel, rfl⟩
theorem eX8_row_22 : Dc MX8_row 22 (.getfield 77) 3 25 := ⟨by decide +kernel, rfl⟩
theorem eX8_row_25 : Dc MX8_row 25 (.iload_n 1) 1 26 := ⟨by decide +kernel, rfl⟩
theorem eX8_row_26 : Dc MX8_row 26 (.iaload) 1 27 := ⟨by decide +kernel, rfl⟩
theorem eX8_row_27 : Dc MX8_row 27 (.goto 7) 3 30 := ⟨by decide +kernel, rfl⟩
theorem eX8_row_30 : Dc MX8_row 30 (.aload_n 0) 1 31 := ⟨by decide +kernel, rfl⟩
theorem eX8_row_31 : Dc MX8_row 31 (.invokevirtual 133) 3 34 := ⟨by decide +kernel, rfl⟩
theorem eX8_row_34 : Dc MX8_row 34 (.ireturn) 1 35 := ⟨by decide +kernel, rfl⟩
end
section
-- THE V LAYER: a state of the system as numbers; a judgement over it; a rule an instruction
abbrev MV : Type := (Int ⊕ Int) ⊕ Option Nat
abbrev mI (z : Int) : MV := .inl (.inl z)
abbrev mL (z : Int) : MV := .inl (.inr z)
abbrev mA (k : Nat) : MV := .inr (some k)
abbrev mN : MV := .inr none
abbrev Hp : Type := Nat → Nat → Int
def up (h : Hp) (k j : Nat) (v : Int) : Hp := fun a b => if a = k ∧ b = j then v else h a b
def conc (al : Nat → Nat) : MV → Value
  | .inl (.inl z) => .int (Int32.ofInt z)
  | .inl (.inr z) => .long (Int64.ofInt z)
  | .inr (some k) => .ref (al k)
  | .inr none => .null
def mcat : MV → Nat
  | .inl (.inr _) => 2
  | _ => 1
theorem conc_cat (al : Nat → Nat) (v : MV) : (conc al v).category = mcat v := by
  rcases v with (z | z) | (_ | k) <;> rfl
/-! the heap's shape: objects by their class, arrays by their kind (0 int, 1 boolean, 2 long, 3 Pupil, 4 Project) and length -/
def SHL : List (Nat ⊕ (Nat × Nat)) := [.inl 7, .inl 4, .inl 6, .inl 1, .inr (0, 8), .inr (0, 5), .inr (0, 5), .inr (0, 5), .inr (3, 8), .inr (4, 5), .inr (0, 8), .inl 0, .inl 5, .inr (0, 8), .inr (0, 5), .inr (0, 8), .inr (0, 8), .inr (0, 256), .inr (0, 256), .inr (2, 48), .inr (2, 48), .inr (0, 480), .inr (0, 480),
  .inl 3, .inl 3, .inl 3, .inl 3, .inl 3, .inl 3, .inl 3, .inl 3, .inr (0, 5), .inr (0, 5), .inr (0, 5), .inr (0, 5), .inr (0, 5), .inr (0, 5), .inr (0, 5), .inr (0, 5), .inl 2, .inl 2, .inl 2, .inl 2, .inl 2,
  .inl 8, .inr (0, 8), .inr (1, 8), .inr (0, 8), .inr (0, 40), .inr (0, 8), .inr (0, 8), .inr (1, 64), .inr (1, 64), .inr (0, 8), .inr (0, 5), .inr (0, 5), .inr (0, 5), .inr (0, 5), .inr (0, 5), .inr (1, 5), .inr (0, 8), .inr (0, 8), .inr (0, 5), .inr (0, 5), .inr (0, 480), .inr (0, 480), .inr (0, 60), .inr (0, 5), .inr (2, 1)]
def KN : Nat := 69
def SH (k : Nat) : Nat ⊕ (Nat × Nat) := SHL.getD k (.inl 0)
/-! the references: they never change -/
def RFL : List (List (Option Nat)) := [[some 1, some 2, some 3, some 4, some 5, some 6, some 7], [some 8, some 9, some 10], [some 11, some 12, some 13, some 14, some 15, some 16], [some 21, some 22], [], [], [], [], [some 23, some 24, some 25, some 26, some 27, some 28, some 29, some 30], [some 39, some 40, some 41, some 42, some 43], [], [some 17, some 18], [some 19, some 20], [], [], [], [], [], [], [], [], [], [],
  [some 31], [some 32], [some 33], [some 34], [some 35], [some 36], [some 37], [some 38], [], [], [], [], [], [], [], [], [], [], [], [], [],
  [none, none, some 45, some 46, some 47, some 48, some 49, some 50, some 51, some 52, some 53, none, some 54, some 55, some 56, some 57, some 58, some 59, none, none, none, some 60, some 61, none, none, none, none, none, none, some 62, some 63, none, some 64, some 65, some 66, some 67, none]]
def RF (k j : Nat) : Option Nat := (RFL.getD k []).getD j none
def fval (al : Nat → Nat) (h : Hp) (k ci j : Nat) : Value := match FK ci j with
  | 1 => .long (Int64.ofInt (h k j))
  | 2 => va_rf ((RF k j).map al)
  | _ => .int (Int32.ofInt (h k j))
def cellE (al : Nat → Nat) (tc : Nat → ClassId) (h : Hp) (k : Nat) : va_E := match SH k with
  | .inl ci => .inr (ci, (List.range (NF ci)).map (fval al h k ci))
  | .inr (t, n) => .inl (tc t, n, match t with
    | 0 => .inl (fun j => Int32.ofInt (h k j))
    | 1 => .inl (fun j => Int32.ofInt (h k j))
    | 2 => .inr (.inl (fun j => Int64.ofInt (h k j)))
    | _ => .inr (.inr (.inr (.inr (fun j => (RF k j).map al)))))
def TY (tc : Nat → ClassId) : List (ClassId × FieldType) := [(tc 0, .int), (tc 1, .boolean), (tc 2, .long), (tc 3, .object "WishSharer$Pupil"), (tc 4, .object "WishSharer$Project")]
def WS (al : Nat → Nat) (tc : Nat → ClassId) (h : Hp) : va_W := (List.range KN).map (fun k => (al k, cellE al tc h k))
theorem WS_get {al : Nat → Nat} {tc : Nat → ClassId} {h : Hp} {k : Nat} (hk : k < KN) : (WS al tc h)[k]? = some (al k, cellE al tc h k) := by
  simp [WS, hk]
theorem cellE_ne {al : Nat → Nat} {tc : Nat → ClassId} {h h' : Hp} {k : Nat} (e : ∀ j, h' k j = h k j) : cellE al tc h' k = cellE al tc h k := by
  have hf : h' k = h k := funext e
  have hv : ∀ ci, fval al h' k ci = fval al h k ci := fun ci => by funext j; simp only [fval, hf]
  simp only [cellE, hf, hv]
theorem WS_set {al : Nat → Nat} {tc : Nat → ClassId} {h : Hp} {k j : Nat} {v : Int} (x : va_E) (hx : x = cellE al tc (up h k j v) k) : (WS al tc h).set k (al k, x) = WS al tc (up h k j v) := by
  subst hx
  apply List.ext_getElem?
  intro i
  by_cases hi : i = k
  · subst hi
    by_cases hn : i < KN
    · rw [WS_get hn, List.getElem?_set_self (by simp [WS, hn])]
    · simp [WS, hn, List.getElem?_set]
  · rw [List.getElem?_set_ne (Ne.symm hi)]
    by_cases hn : i < KN
    · rw [WS_get hn, WS_get hn, cellE_ne (h' := up h k j v) (h := h) (fun b => by simp [up, hi])]
    · simp [WS, hn]
/-! locals -/
def LL (al : Nat → Nat) (ls : List (Option MV)) : List (Nat × Value) := (List.range ls.length).filterMap (fun i => (ls.getD i none).map (fun v => (i, conc al v)))
theorem LL_mem {al : Nat → Nat} {ls : List (Option MV)} {i : Nat} {w : Value} : (i, w) ∈ LL al ls ↔ ∃ v, ls[i]? = some (some v) ∧ w = conc al v := by
  simp only [LL, List.mem_filterMap, List.mem_range, Option.map_eq_some_iff, List.getD_eq_getElem?_getD]
  constructor
  · rintro ⟨a, h1, v, h2, h3⟩
    cases h3
    rw [List.getElem?_eq_getElem h1] at h2 ⊢
    exact ⟨v, by simpa using h2, rfl⟩
  · rintro ⟨v, h1, rfl⟩
    exact ⟨i, (List.getElem?_eq_some_iff.mp h1).1, v, by rw [h1]; rfl, rfl⟩
def LH (al : Nat → Nat) (ls : List (Option MV)) (la : Array Slot) (n : Nat) : Prop := la.size = n ∧ lv_wf la ∧ ∀ (i : Nat) (v : MV), ls[i]? = some (some v) → la[i]? = some (.val (conc al v))
theorem LH.has {al : Nat → Nat} {ls : List (Option MV)} {la : Array Slot} {n : Nat} (h : LH al ls la n) : lv_has la n (LL al ls) :=
  ⟨h.1, h.2.1, fun q hq => by
    obtain ⟨i, w⟩ := q
    obtain ⟨v, h1, rfl⟩ := LL_mem.mp hq
    exact h.2.2 i v h1⟩
def nlg (ls : List (Option MV)) : Nat → Bool
  | 0 => true
  | j + 1 => match ls[j]? with
    | some (some (.inl (.inr _))) => false
    | _ => true
theorem nlg_cat {al : Nat → Nat} {ls : List (Option MV)} {i j : Nat} {v : MV} (h : nlg ls i = true) (e : j + 1 = i) (hv : ls[j]? = some (some v)) : ¬ (conc al v).category = 2 := by
  subst e
  simp only [nlg, hv] at h
  rcases v with (z | z) | (_ | k)
  · exact fun q => by cases q
  · exact absurd h (by simp)
  · exact fun q => by cases q
  · exact fun q => by cases q
theorem LH.store {al : Nat → Nat} {ls : List (Option MV)} {la : Array Slot} {n i : Nat} {v : MV} (hn : nlg ls i = true)
    (h : lv_has la n ((i, conc al v) :: (LL al ls).filter (fun q => !(q.1 == i) && !(q.1 + 1 == i && q.2.category == 2)))) : LH al (ls.set i (some v)) la n := by
  refine ⟨h.1, h.2.1, fun j w hj => ?_⟩
  by_cases e : j = i
  · subst e
    have hl : j < ls.length := by
      have := (List.getElem?_eq_some_iff.mp hj).1
      simpa using this
    rw [List.getElem?_set_self hl] at hj
    cases hj
    exact h.2.2 (j, conc al v) List.mem_cons_self
  · rw [List.getElem?_set_ne (Ne.symm e)] at hj
    refine h.2.2 (j, conc al w) (List.mem_cons_of_mem _ (List.mem_filter.mpr ⟨LL_mem.mpr ⟨w, hj, rfl⟩, ?_⟩))
    by_cases e2 : j + 1 = i
    · have := nlg_cat (al := al) hn e2 hj
      simp [e, this]
    · simp [e, e2]
theorem LH.store2 {al : Nat → Nat} {ls : List (Option MV)} {la : Array Slot} {n i : Nat} {v : MV} (hn : nlg ls i = true)
    (h : lv_has la n ((i, conc al v) :: (LL al ls).filter (fun q => !(q.1 == i) && (!(q.1 == i + 1) && !(q.1 + 1 == i && q.2.category == 2))))) : LH al ((ls.set i (some v)).set (i + 1) none) la n := by
  refine ⟨h.1, h.2.1, fun j w hj => ?_⟩
  by_cases e1 : j = i + 1
  · subst e1
    rw [List.getElem?_set] at hj
    split at hj
    · split at hj <;> simp at hj
    · simp at *
  rw [List.getElem?_set_ne (Ne.symm e1)] at hj
  by_cases e : j = i
  · subst e
    have hl : j < ls.length := by
      have := (List.getElem?_eq_some_iff.mp hj).1
      simpa using this
    rw [List.getElem?_set_self hl] at hj
    cases hj
    exact h.2.2 (j, conc al v) List.mem_cons_self
  · rw [List.getElem?_set_ne (Ne.symm e)] at hj
    refine h.2.2 (j, conc al w) (List.mem_cons_of_mem _ (List.mem_filter.mpr ⟨LL_mem.mpr ⟨w, hj, rfl⟩, ?_⟩))
    by_cases e2 : j + 1 = i
    · have := nlg_cat (al := al) hn e2 hj
      simp [e, e1, this]
    · simp [e, e1, e2]
/-! the judgement -/
abbrev CT : Type := Program × Launch × Env × Room × State × MethodId × Array Value × List Frame × Method × Code × (Nat → Nat) × (Nat → ClassId) × va_G × (Nat → Prop) × (State → Prop) × Nat × Nat
def NEST (U : State) : Prop := va_Nw (.methodLinkNest RX4 77 yX7_exchangePlaces RX7) U
def VW (X : CT) (pc : Nat) (ls : List (Option MV)) (st : List MV) (h : Hp) : Prop := match X with
  | (p, l, e, R, s, m, args, below, meth, c, al, tc, D, A, Z, rc, rs) =>
    ∀ (H : Heap) (locs : List Loc) (la : Array Slot) (cells slots : Nat), va_P D vwCl (WS al tc h) H → va_D A (WS al tc h) → va_S A s.heap H locs → LH al ls la c.maxLocals → cells + rc ≤ R.cells → slots + rs ≤ R.slots →
      W p l e R s m args below meth c H locs cells slots Z (F0 m pc la (st.map (conc al)))
def Cx (d : Nat) (M : MT) (X : CT) : Prop := match X with
  | (p, _, _, R, s, m, args, _, meth, c, _, tc, D, A, _, _, _) =>
    p.tables.exec = Jvm.exec ∧ c.code = M.2.1 ∧ c.maxLocals = M.2.2.1 ∧ meth.sig.returnType = M.2.2.2.1 ∧ s.vm.findClass M.1.cls = some m.cls ∧ (∀ w ∈ TB, w.before args s = true) ∧ meth.locks = false ∧ va_K D vwCl (TY tc) s ∧ (∀ q, s.heap.size ≤ q → A q) ∧ d ≤ R.frames ∧ 64 * d + 20 ≤ R.locals ∧ NEST s
def QV (al : Nat → Nat) (tc : Nat → ClassId) (D : va_G) (A : Nat → Prop) (Q : Option MV → Hp → Prop) : Array Value → State → Outcome → State → Prop := fun _ st oc t =>
  (∃ (r : Option MV) (h : Hp), oc = .returned (r.map (conc al)) ∧ Q r h ∧ va_P D vwCl (WS al tc h) t.heap ∧ va_K D vwCl (TY tc) t ∧ va_D A (WS al tc h)) ∧ va_F A st t
def Rt (Q : Option MV → Hp → Prop) (X : CT) : Prop := match X with
  | (_, _, _, R, s, _, args, below, _, _, al, tc, D, A, Z, _, _) => Z = MQ below (QV al tc D A Q) args s R.cells R.slots A
def entL : List MV → Nat → List (Option MV)
  | [], n => List.replicate n none
  | .inl (.inr z) :: as, n + 2 => some (mL z) :: none :: entL as n
  | .inl (.inl z) :: as, n + 1 => some (mI z) :: entL as n
  | .inr r :: as, n + 1 => some (.inr r) :: entL as n
  | _, _ => []
/-- a method from its entry: it returns, with Q of its answer and of the numbers behind it -/
def Ct (d : Nat) (M : MT) (as : List MV) (h : Hp) (Q : Option MV → Hp → Prop) : Prop := ∀ X, Cx d M X → Rt Q X → VW X 0 (entL as M.2.2.1) [] h
theorem Ct.mono {d : Nat} {M : MT} {as : List MV} {h : Hp} {Q Q' : Option MV → Hp → Prop} (hc : Ct d M as h Q) (hq : ∀ r g, Q r g → Q' r g) : ∀ X, Cx d M X → Rt Q X → VW X 0 (entL as M.2.2.1) [] h := fun X a b => hc X a b
/-! numbers -/
abbrev rng (z : Int) : Prop := -2147483648 ≤ z ∧ z < 2147483648
abbrev lrng (z : Int) : Prop := -9223372036854775808 ≤ z ∧ z < 9223372036854775808
theorem oi_toInt {z : Int} (h : rng z) : (Int32.ofInt z).toInt = z := by
  rw [Int32.toInt_ofInt]
  show z.bmod 4294967296 = z
  exact Int.bmod_eq_of_le (by omega) (by omega)
theorem ol_toInt {z : Int} (h : lrng z) : (Int64.ofInt z).toInt = z := by
  rw [Int64.toInt_ofInt]
  show z.bmod 18446744073709551616 = z
  exact Int.bmod_eq_of_le (by omega) (by omega)
theorem oi_of (x : Int32) : Int32.ofInt x.toInt = x := Int32.ofInt_toInt x
theorem oi_lt {a b : Int} (ha : rng a) (hb : rng b) : Int32.ofInt a < Int32.ofInt b ↔ a < b := by
  rw [Int32.lt_iff_toInt_lt, oi_toInt ha, oi_toInt hb]
theorem oi_le {a b : Int} (ha : rng a) (hb : rng b) : Int32.ofInt a ≤ Int32.ofInt b ↔ a ≤ b := by
  rw [Int32.le_iff_toInt_le, oi_toInt ha, oi_toInt hb]
theorem oi_eq {a b : Int} (ha : rng a) (hb : rng b) : Int32.ofInt a = Int32.ofInt b ↔ a = b := by
  rw [← Int32.toInt_inj, oi_toInt ha, oi_toInt hb]
theorem ol_lt {a b : Int} (ha : lrng a) (hb : lrng b) : Int64.ofInt a < Int64.ofInt b ↔ a < b := by
  rw [Int64.lt_iff_toInt_lt, ol_toInt ha, ol_toInt hb]
theorem ol_eq {a b : Int} (ha : lrng a) (hb : lrng b) : Int64.ofInt a = Int64.ofInt b ↔ a = b := by
  rw [← Int64.toInt_inj, ol_toInt ha, ol_toInt hb]
theorem oi_clamp {z : Int} (h0 : 0 ≤ z) (h : z < 2147483648) : (Int32.ofInt z).toNatClampNeg = z.toNat := by
  show (Int32.ofInt z).toInt.toNat = z.toNat
  rw [oi_toInt ⟨by omega, h⟩]
theorem oi_in {z : Int} {n : Nat} (h0 : 0 ≤ z) (h : z < n) (hn : n < 2147483648) : vp_in (Int32.ofInt z) n := by
  rw [vp_in_iff, oi_toInt ⟨by omega, by omega⟩]
  exact ⟨h0, h⟩
def band (a b : Int) : Int := (Int32.ofInt a &&& Int32.ofInt b).toInt
def bor (a b : Int) : Int := (Int32.ofInt a ||| Int32.ofInt b).toInt
def bxor (a b : Int) : Int := (Int32.ofInt a ^^^ Int32.ofInt b).toInt
def bshl (a b : Int) : Int := (Int32.ofInt a <<< (Int32.ofInt b &&& 31)).toInt
def bshr (a b : Int) : Int := (Int32.ofInt a >>> (Int32.ofInt b &&& 31)).toInt
def bushr (a b : Int) : Int := (((Int32.ofInt a).toUInt32 >>> ((Int32.ofInt b).toUInt32 &&& Int32.toUInt32 31)).toInt32).toInt
def irem (a b : Int) : Int := (Int32.ofInt a - Int32.ofInt a / Int32.ofInt b * Int32.ofInt b).toInt
def i2b (a : Int) : Int := ((Int32.ofInt a).toInt8.toInt32).toInt
def lshl (a b : Int) : Int := (Int64.ofInt a <<< ((Int32.ofInt b).toInt64 &&& 63)).toInt
def lshr (a b : Int) : Int := (Int64.ofInt a >>> ((Int32.ofInt b).toInt64 &&& 63)).toInt
def lcm (a b : Int) : Int := if b < a then 1 else if a = b then 0 else -1
end
section
section VRULES
variable {d : Nat} {M : MT} {X : CT} {pc nx : Nat} {ls : List (Option MV)} {st : List MV} {h : Hp}
theorem vw_top {p : Program} {l : Launch} {e : Env} {R : Room} {s : State} {m : MethodId} {args : Array Value} {below : List Frame} {meth : Method} {c : Code} {H : Heap} {locs : List Loc} {cells slots : Nat} {Z : State → Prop} {la : Array Slot} {al : Nat → Nat} {v : MV} {w : Value} (e1 : conc al v = w) (k : W p l e R s m args below meth c H locs cells slots Z (F0 m pc la (List.map (conc al) (v :: st)))) : W p l e R s m args below meth c H locs cells slots Z (F0 m pc la (w :: List.map (conc al) st)) := e1 ▸ k
theorem v_iconst (hX : Cx d M X) {n : Int} (hd : Dc M pc (.iconst n) 1 nx) (k : VW X nx ls (mI n :: st) h) : VW X pc ls (st) h := by
  obtain ⟨p, l, e, R, s, m, args, below, meth, c, al, tc, D, A, Z, rc, rs⟩ := X
  obtain ⟨hx, hb, hml, hr, hown, hts, hlk, hK, hA, hfr, hlo, hne⟩ := hX
  obtain ⟨hdg, rfl⟩ := hd
  intro H locs la cells slots hP hD hS hl h1 h2
  exact lv_iconst hx hb hdg rfl (k H locs la cells slots hP hD hS hl h1 h2)
theorem v_bipush (hX : Cx d M X) {n : Int} (hd : Dc M pc (.bipush n) 2 nx) (hv : (Int8.ofInt n).toInt32 = Int32.ofInt n) (k : VW X nx ls (mI n :: st) h) : VW X pc ls (st) h := by
  obtain ⟨p, l, e, R, s, m, args, below, meth, c, al, tc, D, A, Z, rc, rs⟩ := X
  obtain ⟨hx, hb, hml, hr, hown, hts, hlk, hK, hA, hfr, hlo, hne⟩ := hX
  obtain ⟨hdg, rfl⟩ := hd
  intro H locs la cells slots hP hD hS hl h1 h2
  exact lv_bipush hx hb hdg hv (k H locs la cells slots hP hD hS hl h1 h2)
theorem v_sipush (hX : Cx d M X) {n : Int} (hd : Dc M pc (.sipush n) 3 nx) (hv : (Int16.ofInt n).toInt32 = Int32.ofInt n) (k : VW X nx ls (mI n :: st) h) : VW X pc ls (st) h := by
  obtain ⟨p, l, e, R, s, m, args, below, meth, c, al, tc, D, A, Z, rc, rs⟩ := X
  obtain ⟨hx, hb, hml, hr, hown, hts, hlk, hK, hA, hfr, hlo, hne⟩ := hX
  obtain ⟨hdg, rfl⟩ := hd
  intro H locs la cells slots hP hD hS hl h1 h2
  exact lv_sipush hx hb hdg hv (k H locs la cells slots hP hD hS hl h1 h2)
theorem v_lconst (hX : Cx d M X) {n : Fin 2} {z : Int} (hd : Dc M pc (.lconst n) 1 nx) (hv : Int64.ofNat (n : Nat) = Int64.ofInt z) (k : VW X nx ls (mL z :: st) h) : VW X pc ls (st) h := by
  obtain ⟨p, l, e, R, s, m, args, below, meth, c, al, tc, D, A, Z, rc, rs⟩ := X
  obtain ⟨hx, hb, hml, hr, hown, hts, hlk, hK, hA, hfr, hlo, hne⟩ := hX
  obtain ⟨hdg, rfl⟩ := hd
  intro H locs la cells slots hP hD hS hl h1 h2
  exact lv_lconst hx hb hdg hv (k H locs la cells slots hP hD hS hl h1 h2)
theorem v_ldc (hX : Cx d M X) {ix : Nat} {z : Int} {w : Int32} (hd : Dc M pc (.ldc ix) 2 nx) (hc : Cond.constant M.1.cls ix w ∈ TB) (hv : Int32.ofInt z = w) (k : VW X nx ls (mI z :: st) h) : VW X pc ls (st) h := by
  obtain ⟨p, l, e, R, s, m, args, below, meth, c, al, tc, D, A, Z, rc, rs⟩ := X
  obtain ⟨hx, hb, hml, hr, hown, hts, hlk, hK, hA, hfr, hlo, hne⟩ := hX
  obtain ⟨hdg, rfl⟩ := hd
  intro H locs la cells slots hP hD hS hl h1 h2
  exact lv_ldc hx hb hown (hts _ hc) hdg (vw_top (v := mI z) (by rw [← hv]; rfl) (k H locs la cells slots hP hD hS hl h1 h2))
theorem v_ldcw (hX : Cx d M X) {ix : Nat} {z : Int} {w : Int32} (hd : Dc M pc (.ldc_w ix) 3 nx) (hc : Cond.constant M.1.cls ix w ∈ TB) (hv : Int32.ofInt z = w) (k : VW X nx ls (mI z :: st) h) : VW X pc ls (st) h := by
  obtain ⟨p, l, e, R, s, m, args, below, meth, c, al, tc, D, A, Z, rc, rs⟩ := X
  obtain ⟨hx, hb, hml, hr, hown, hts, hlk, hK, hA, hfr, hlo, hne⟩ := hX
  obtain ⟨hdg, rfl⟩ := hd
  intro H locs la cells slots hP hD hS hl h1 h2
  exact lv_ldcw hx hb hown (hts _ hc) hdg (vw_top (v := mI z) (by rw [← hv]; rfl) (k H locs la cells slots hP hD hS hl h1 h2))
theorem v_ldc2 (hX : Cx d M X) {ix : Nat} {z : Int} {w : Int64} (hd : Dc M pc (.ldc2_w ix) 3 nx) (hc : Cond.constantLong M.1.cls ix w ∈ TB) (hv : Int64.ofInt z = w) (k : VW X nx ls (mL z :: st) h) : VW X pc ls (st) h := by
  obtain ⟨p, l, e, R, s, m, args, below, meth, c, al, tc, D, A, Z, rc, rs⟩ := X
  obtain ⟨hx, hb, hml, hr, hown, hts, hlk, hK, hA, hfr, hlo, hne⟩ := hX
  obtain ⟨hdg, rfl⟩ := hd
  intro H locs la cells slots hP hD hS hl h1 h2
  exact lv_ldc2 hx hb hown (hts _ hc) hdg (vw_top (v := mL z) (by rw [← hv]; rfl) (k H locs la cells slots hP hD hS hl h1 h2))
theorem v_null (hX : Cx d M X)  (hd : Dc M pc (.aconst_null) 1 nx) (k : VW X nx ls (mN :: st) h) : VW X pc ls (st) h := by
  obtain ⟨p, l, e, R, s, m, args, below, meth, c, al, tc, D, A, Z, rc, rs⟩ := X
  obtain ⟨hx, hb, hml, hr, hown, hts, hlk, hK, hA, hfr, hlo, hne⟩ := hX
  obtain ⟨hdg, rfl⟩ := hd
  intro H locs la cells slots hP hD hS hl h1 h2
  exact lv_null hx hb hdg (k H locs la cells slots hP hD hS hl h1 h2)
theorem v_iload_n (hX : Cx d M X) {i : Fin 4} {a : Int} (hd : Dc M pc (.iload_n i) 1 nx) (hv : ls[(i : Nat)]? = some (some (mI a))) (k : VW X nx ls (mI a :: st) h) : VW X pc ls (st) h := by
  obtain ⟨p, l, e, R, s, m, args, below, meth, c, al, tc, D, A, Z, rc, rs⟩ := X
  obtain ⟨hx, hb, hml, hr, hown, hts, hlk, hK, hA, hfr, hlo, hne⟩ := hX
  obtain ⟨hdg, rfl⟩ := hd
  intro H locs la cells slots hP hD hS hl h1 h2
  exact lv_iload_n hx hb hdg rfl (hl.2.2 _ _ hv) (k H locs la cells slots hP hD hS hl h1 h2)
theorem v_iload (hX : Cx d M X) {i : Nat} {a : Int} (hd : Dc M pc (.iload i) 2 nx) (hv : ls[i]? = some (some (mI a))) (k : VW X nx ls (mI a :: st) h) : VW X pc ls (st) h := by
  obtain ⟨p, l, e, R, s, m, args, below, meth, c, al, tc, D, A, Z, rc, rs⟩ := X
  obtain ⟨hx, hb, hml, hr, hown, hts, hlk, hK, hA, hfr, hlo, hne⟩ := hX
  obtain ⟨hdg, rfl⟩ := hd
  intro H locs la cells slots hP hD hS hl h1 h2
  exact lv_iload hx hb hdg (hl.2.2 _ _ hv) (k H locs la cells slots hP hD hS hl h1 h2)
theorem v_lload_n (hX : Cx d M X) {i : Fin 4} {a : Int} (hd : Dc M pc (.lload_n i) 1 nx) (hv : ls[(i : Nat)]? = some (some (mL a))) (k : VW X nx ls (mL a :: st) h) : VW X pc ls (st) h := by
  obtain ⟨p, l, e, R, s, m, args, below, meth, c, al, tc, D, A, Z, rc, rs⟩ := X
  obtain ⟨hx, hb, hml, hr, hown, hts, hlk, hK, hA, hfr, hlo, hne⟩ := hX
  obtain ⟨hdg, rfl⟩ := hd
  intro H locs la cells slots hP hD hS hl h1 h2
  exact lv_lload_n hx hb hdg rfl (hl.2.2 _ _ hv) (k H locs la cells slots hP hD hS hl h1 h2)
theorem v_lload (hX : Cx d M X) {i : Nat} {a : Int} (hd : Dc M pc (.lload i) 2 nx) (hv : ls[i]? = some (some (mL a))) (k : VW X nx ls (mL a :: st) h) : VW X pc ls (st) h := by
  obtain ⟨p, l, e, R, s, m, args, below, meth, c, al, tc, D, A, Z, rc, rs⟩ := X
  obtain ⟨hx, hb, hml, hr, hown, hts, hlk, hK, hA, hfr, hlo, hne⟩ := hX
  obtain ⟨hdg, rfl⟩ := hd
  intro H locs la cells slots hP hD hS hl h1 h2
  exact lv_lload hx hb hdg (hl.2.2 _ _ hv) (k H locs la cells slots hP hD hS hl h1 h2)
theorem v_aload_n (hX : Cx d M X) {i : Fin 4} {a : Nat} (hd : Dc M pc (.aload_n i) 1 nx) (hv : ls[(i : Nat)]? = some (some (mA a))) (k : VW X nx ls (mA a :: st) h) : VW X pc ls (st) h := by
  obtain ⟨p, l, e, R, s, m, args, below, meth, c, al, tc, D, A, Z, rc, rs⟩ := X
  obtain ⟨hx, hb, hml, hr, hown, hts, hlk, hK, hA, hfr, hlo, hne⟩ := hX
  obtain ⟨hdg, rfl⟩ := hd
  intro H locs la cells slots hP hD hS hl h1 h2
  exact lv_aload_n hx hb hdg rfl (hl.2.2 _ _ hv) (k H locs la cells slots hP hD hS hl h1 h2)
theorem v_aload (hX : Cx d M X) {i : Nat} {a : Nat} (hd : Dc M pc (.aload i) 2 nx) (hv : ls[i]? = some (some (mA a))) (k : VW X nx ls (mA a :: st) h) : VW X pc ls (st) h := by
  obtain ⟨p, l, e, R, s, m, args, below, meth, c, al, tc, D, A, Z, rc, rs⟩ := X
  obtain ⟨hx, hb, hml, hr, hown, hts, hlk, hK, hA, hfr, hlo, hne⟩ := hX
  obtain ⟨hdg, rfl⟩ := hd
  intro H locs la cells slots hP hD hS hl h1 h2
  exact lv_aload hx hb hdg (hl.2.2 _ _ hv) (k H locs la cells slots hP hD hS hl h1 h2)
theorem v_aload_nN (hX : Cx d M X) {i : Fin 4} (hd : Dc M pc (.aload_n i) 1 nx) (hv : ls[(i : Nat)]? = some (some mN)) (k : VW X nx ls (mN :: st) h) : VW X pc ls (st) h := by
  obtain ⟨p, l, e, R, s, m, args, below, meth, c, al, tc, D, A, Z, rc, rs⟩ := X
  obtain ⟨hx, hb, hml, hr, hown, hts, hlk, hK, hA, hfr, hlo, hne⟩ := hX
  obtain ⟨hdg, rfl⟩ := hd
  intro H locs la cells slots hP hD hS hl h1 h2
  exact lv_aload_nN hx hb hdg rfl (hl.2.2 _ _ hv) (k H locs la cells slots hP hD hS hl h1 h2)
theorem v_aloadN (hX : Cx d M X) {i : Nat} (hd : Dc M pc (.aload i) 2 nx) (hv : ls[i]? = some (some mN)) (k : VW X nx ls (mN :: st) h) : VW X pc ls (st) h := by
  obtain ⟨p, l, e, R, s, m, args, below, meth, c, al, tc, D, A, Z, rc, rs⟩ := X
  obtain ⟨hx, hb, hml, hr, hown, hts, hlk, hK, hA, hfr, hlo, hne⟩ := hX
  obtain ⟨hdg, rfl⟩ := hd
  intro H locs la cells slots hP hD hS hl h1 h2
  exact lv_aloadN hx hb hdg (hl.2.2 _ _ hv) (k H locs la cells slots hP hD hS hl h1 h2)
theorem v_istore_n (hX : Cx d M X) {i : Fin 4} {a : Int} (hd : Dc M pc (.istore_n i) 1 nx) (hn : (Nat.ble ((i : Nat) + 1) M.2.2.1) = true) (hg : nlg ls (i : Nat) = true) (k : VW X nx (ls.set (i : Nat) (some (mI a))) st h) : VW X pc ls (mI a :: st) h := by
  obtain ⟨p, l, e, R, s, m, args, below, meth, c, al, tc, D, A, Z, rc, rs⟩ := X
  obtain ⟨hx, hb, hml, hr, hown, hts, hlk, hK, hA, hfr, hlo, hne⟩ := hX
  obtain ⟨hdg, rfl⟩ := hd
  intro H locs la cells slots hP hD hS hl h1 h2
  exact lv_istore_n hx hb hdg rfl hl.has (by rw [hml]; exact Nat.le_of_ble_eq_true hn) rfl (fun la2 hl2 => k H locs la2 cells slots hP hD hS (LH.store hg hl2) h1 h2)
theorem v_istore (hX : Cx d M X) {i : Nat} {a : Int} (hd : Dc M pc (.istore i) 2 nx) (hn : (Nat.ble (i + 1) M.2.2.1) = true) (hg : nlg ls i = true) (k : VW X nx (ls.set i (some (mI a))) st h) : VW X pc ls (mI a :: st) h := by
  obtain ⟨p, l, e, R, s, m, args, below, meth, c, al, tc, D, A, Z, rc, rs⟩ := X
  obtain ⟨hx, hb, hml, hr, hown, hts, hlk, hK, hA, hfr, hlo, hne⟩ := hX
  obtain ⟨hdg, rfl⟩ := hd
  intro H locs la cells slots hP hD hS hl h1 h2
  exact lv_istore hx hb hdg hl.has (by rw [hml]; exact Nat.le_of_ble_eq_true hn) rfl (fun la2 hl2 => k H locs la2 cells slots hP hD hS (LH.store hg hl2) h1 h2)
theorem v_astore_n (hX : Cx d M X) {i : Fin 4} {a : Nat} (hd : Dc M pc (.astore_n i) 1 nx) (hn : (Nat.ble ((i : Nat) + 1) M.2.2.1) = true) (hg : nlg ls (i : Nat) = true) (k : VW X nx (ls.set (i : Nat) (some (mA a))) st h) : VW X pc ls (mA a :: st) h := by
  obtain ⟨p, l, e, R, s, m, args, below, meth, c, al, tc, D, A, Z, rc, rs⟩ := X
  obtain ⟨hx, hb, hml, hr, hown, hts, hlk, hK, hA, hfr, hlo, hne⟩ := hX
  obtain ⟨hdg, rfl⟩ := hd
  intro H locs la cells slots hP hD hS hl h1 h2
  exact lv_astore_n hx hb hdg rfl hl.has (by rw [hml]; exact Nat.le_of_ble_eq_true hn) rfl (fun la2 hl2 => k H locs la2 cells slots hP hD hS (LH.store hg hl2) h1 h2)
theorem v_astore (hX : Cx d M X) {i : Nat} {a : Nat} (hd : Dc M pc (.astore i) 2 nx) (hn : (Nat.ble (i + 1) M.2.2.1) = true) (hg : nlg ls i = true) (k : VW X nx (ls.set i (some (mA a))) st h) : VW X pc ls (mA a :: st) h := by
  obtain ⟨p, l, e, R, s, m, args, below, meth, c, al, tc, D, A, Z, rc, rs⟩ := X
  obtain ⟨hx, hb, hml, hr, hown, hts, hlk, hK, hA, hfr, hlo, hne⟩ := hX
  obtain ⟨hdg, rfl⟩ := hd
  intro H locs la cells slots hP hD hS hl h1 h2
  exact lv_astore hx hb hdg hl.has (by rw [hml]; exact Nat.le_of_ble_eq_true hn) rfl (fun la2 hl2 => k H locs la2 cells slots hP hD hS (LH.store hg hl2) h1 h2)
theorem v_astore_nN (hX : Cx d M X) {i : Fin 4}  (hd : Dc M pc (.astore_n i) 1 nx) (hn : (Nat.ble ((i : Nat) + 1) M.2.2.1) = true) (hg : nlg ls (i : Nat) = true) (k : VW X nx (ls.set (i : Nat) (some (mN))) st h) : VW X pc ls (mN :: st) h := by
  obtain ⟨p, l, e, R, s, m, args, below, meth, c, al, tc, D, A, Z, rc, rs⟩ := X
  obtain ⟨hx, hb, hml, hr, hown, hts, hlk, hK, hA, hfr, hlo, hne⟩ := hX
  obtain ⟨hdg, rfl⟩ := hd
  intro H locs la cells slots hP hD hS hl h1 h2
  exact lv_astore_nN hx hb hdg rfl hl.has (by rw [hml]; exact Nat.le_of_ble_eq_true hn) rfl (fun la2 hl2 => k H locs la2 cells slots hP hD hS (LH.store hg hl2) h1 h2)
theorem v_astoreN (hX : Cx d M X) {i : Nat}  (hd : Dc M pc (.astore i) 2 nx) (hn : (Nat.ble (i + 1) M.2.2.1) = true) (hg : nlg ls i = true) (k : VW X nx (ls.set i (some (mN))) st h) : VW X pc ls (mN :: st) h := by
  obtain ⟨p, l, e, R, s, m, args, below, meth, c, al, tc, D, A, Z, rc, rs⟩ := X
  obtain ⟨hx, hb, hml, hr, hown, hts, hlk, hK, hA, hfr, hlo, hne⟩ := hX
  obtain ⟨hdg, rfl⟩ := hd
  intro H locs la cells slots hP hD hS hl h1 h2
  exact lv_astoreN hx hb hdg hl.has (by rw [hml]; exact Nat.le_of_ble_eq_true hn) rfl (fun la2 hl2 => k H locs la2 cells slots hP hD hS (LH.store hg hl2) h1 h2)
theorem v_lstore_n (hX : Cx d M X) {i : Fin 4} {a : Int} (hd : Dc M pc (.lstore_n i) 1 nx) (hn : (Nat.ble ((i : Nat) + 1 + 1) M.2.2.1) = true) (hg : nlg ls (i : Nat) = true) (k : VW X nx ((ls.set (i : Nat) (some (mL a))).set ((i : Nat) + 1) none) st h) : VW X pc ls (mL a :: st) h := by
  obtain ⟨p, l, e, R, s, m, args, below, meth, c, al, tc, D, A, Z, rc, rs⟩ := X
  obtain ⟨hx, hb, hml, hr, hown, hts, hlk, hK, hA, hfr, hlo, hne⟩ := hX
  obtain ⟨hdg, rfl⟩ := hd
  intro H locs la cells slots hP hD hS hl h1 h2
  exact lv_lstore_n hx hb hdg rfl hl.has (by rw [hml]; exact Nat.le_of_ble_eq_true hn) rfl (fun la2 hl2 => k H locs la2 cells slots hP hD hS (LH.store2 hg hl2) h1 h2)
theorem v_lstore (hX : Cx d M X) {i : Nat} {a : Int} (hd : Dc M pc (.lstore i) 2 nx) (hn : (Nat.ble (i + 1 + 1) M.2.2.1) = true) (hg : nlg ls i = true) (k : VW X nx ((ls.set i (some (mL a))).set (i + 1) none) st h) : VW X pc ls (mL a :: st) h := by
  obtain ⟨p, l, e, R, s, m, args, below, meth, c, al, tc, D, A, Z, rc, rs⟩ := X
  obtain ⟨hx, hb, hml, hr, hown, hts, hlk, hK, hA, hfr, hlo, hne⟩ := hX
  obtain ⟨hdg, rfl⟩ := hd
  intro H locs la cells slots hP hD hS hl h1 h2
  exact lv_lstore hx hb hdg hl.has (by rw [hml]; exact Nat.le_of_ble_eq_true hn) rfl (fun la2 hl2 => k H locs la2 cells slots hP hD hS (LH.store2 hg hl2) h1 h2)
theorem v_iinc (hX : Cx d M X) {i : Nat} {n a : Int} (hd : Dc M pc (.iinc i n) 3 nx) (hv : ls[i]? = some (some (mI a))) (hn : (Nat.ble (i + 1) M.2.2.1) = true) (hg : nlg ls i = true) (k : VW X nx (ls.set i (some (mI (a + n)))) st h) : VW X pc ls st h := by
  obtain ⟨p, l, e, R, s, m, args, below, meth, c, al, tc, D, A, Z, rc, rs⟩ := X
  obtain ⟨hx, hb, hml, hr, hown, hts, hlk, hK, hA, hfr, hlo, hne⟩ := hX
  obtain ⟨hdg, rfl⟩ := hd
  intro H locs la cells slots hP hD hS hl h1 h2
  have hh : lv_has la c.maxLocals ((i, Value.int (Int32.ofInt a)) :: LL al ls) := ⟨hl.1, hl.2.1, fun q hq => (List.mem_cons.mp hq).elim (fun e => by subst e; exact hl.2.2 i _ hv) (fun h => hl.has.2.2 q h)⟩
  refine lv_iinc (k := 0) (v := Int32.ofInt (a + n)) hx hb hdg hh rfl (Int32.ofInt_add a n).symm (by rw [hml]; exact Nat.le_of_ble_eq_true hn) rfl (fun la2 hl2 => k H locs la2 cells slots hP hD hS (LH.store hg ?_) h1 h2)
  exact ⟨hl2.1, hl2.2.1, fun q hq => hl2.2.2 q (by
    rcases List.mem_cons.mp hq with e | e
    · rw [e]; exact List.mem_cons_self
    · refine List.mem_cons_of_mem _ ?_
      rw [List.filter_cons]
      simp only [beq_self_eq_true, Bool.not_true, Bool.false_and]
      exact e)⟩
theorem v_iadd (hX : Cx d M X) {a b : Int} (hd : Dc M pc (.iadd) 1 nx) (k : VW X nx ls (mI (a + b) :: st) h) : VW X pc ls (mI b :: mI a :: st) h := by
  obtain ⟨p, l, e, R, s, m, args, below, meth, c, al, tc, D, A, Z, rc, rs⟩ := X
  obtain ⟨hx, hb, hml, hr, hown, hts, hlk, hK, hA, hfr, hlo, hne⟩ := hX
  obtain ⟨hdg, rfl⟩ := hd
  intro H locs la cells slots hP hD hS hl h1 h2
  exact lv_iadd hx hb hdg (vw_top (v := mI (a + b)) (congrArg Value.int (Int32.ofInt_add a b)) (k H locs la cells slots hP hD hS hl h1 h2))
theorem v_isub (hX : Cx d M X) {a b : Int} (hd : Dc M pc (.isub) 1 nx) (k : VW X nx ls (mI (a - b) :: st) h) : VW X pc ls (mI b :: mI a :: st) h := by
  obtain ⟨p, l, e, R, s, m, args, below, meth, c, al, tc, D, A, Z, rc, rs⟩ := X
  obtain ⟨hx, hb, hml, hr, hown, hts, hlk, hK, hA, hfr, hlo, hne⟩ := hX
  obtain ⟨hdg, rfl⟩ := hd
  intro H locs la cells slots hP hD hS hl h1 h2
  exact lv_isub hx hb hdg (vw_top (v := mI (a - b)) (congrArg Value.int (Int32.ofInt_sub a b)) (k H locs la cells slots hP hD hS hl h1 h2))
theorem v_imul (hX : Cx d M X) {a b : Int} (hd : Dc M pc (.imul) 1 nx) (k : VW X nx ls (mI (a * b) :: st) h) : VW X pc ls (mI b :: mI a :: st) h := by
  obtain ⟨p, l, e, R, s, m, args, below, meth, c, al, tc, D, A, Z, rc, rs⟩ := X
  obtain ⟨hx, hb, hml, hr, hown, hts, hlk, hK, hA, hfr, hlo, hne⟩ := hX
  obtain ⟨hdg, rfl⟩ := hd
  intro H locs la cells slots hP hD hS hl h1 h2
  exact lv_imul hx hb hdg (vw_top (v := mI (a * b)) (congrArg Value.int (Int32.ofInt_mul a b)) (k H locs la cells slots hP hD hS hl h1 h2))
theorem v_ladd (hX : Cx d M X) {a b : Int} (hd : Dc M pc (.ladd) 1 nx) (k : VW X nx ls (mL (a + b) :: st) h) : VW X pc ls (mL b :: mL a :: st) h := by
  obtain ⟨p, l, e, R, s, m, args, below, meth, c, al, tc, D, A, Z, rc, rs⟩ := X
  obtain ⟨hx, hb, hml, hr, hown, hts, hlk, hK, hA, hfr, hlo, hne⟩ := hX
  obtain ⟨hdg, rfl⟩ := hd
  intro H locs la cells slots hP hD hS hl h1 h2
  exact lv_ladd hx hb hdg (vw_top (v := mL (a + b)) (congrArg Value.long (Int64.ofInt_add a b)) (k H locs la cells slots hP hD hS hl h1 h2))
theorem v_lsub (hX : Cx d M X) {a b : Int} (hd : Dc M pc (.lsub) 1 nx) (k : VW X nx ls (mL (a - b) :: st) h) : VW X pc ls (mL b :: mL a :: st) h := by
  obtain ⟨p, l, e, R, s, m, args, below, meth, c, al, tc, D, A, Z, rc, rs⟩ := X
  obtain ⟨hx, hb, hml, hr, hown, hts, hlk, hK, hA, hfr, hlo, hne⟩ := hX
  obtain ⟨hdg, rfl⟩ := hd
  intro H locs la cells slots hP hD hS hl h1 h2
  exact lv_lsub hx hb hdg (vw_top (v := mL (a - b)) (congrArg Value.long (Int64.ofInt_sub a b)) (k H locs la cells slots hP hD hS hl h1 h2))
theorem v_lmul (hX : Cx d M X) {a b : Int} (hd : Dc M pc (.lmul) 1 nx) (k : VW X nx ls (mL (a * b) :: st) h) : VW X pc ls (mL b :: mL a :: st) h := by
  obtain ⟨p, l, e, R, s, m, args, below, meth, c, al, tc, D, A, Z, rc, rs⟩ := X
  obtain ⟨hx, hb, hml, hr, hown, hts, hlk, hK, hA, hfr, hlo, hne⟩ := hX
  obtain ⟨hdg, rfl⟩ := hd
  intro H locs la cells slots hP hD hS hl h1 h2
  exact lv_lmul hx hb hdg (vw_top (v := mL (a * b)) (congrArg Value.long (Int64.ofInt_mul a b)) (k H locs la cells slots hP hD hS hl h1 h2))
theorem v_iand (hX : Cx d M X) {a b : Int} (hd : Dc M pc (.iand) 1 nx) (k : VW X nx ls (mI (band a b) :: st) h) : VW X pc ls (mI b :: mI a :: st) h := by
  obtain ⟨p, l, e, R, s, m, args, below, meth, c, al, tc, D, A, Z, rc, rs⟩ := X
  obtain ⟨hx, hb, hml, hr, hown, hts, hlk, hK, hA, hfr, hlo, hne⟩ := hX
  obtain ⟨hdg, rfl⟩ := hd
  intro H locs la cells slots hP hD hS hl h1 h2
  exact lv_iand hx hb hdg (vw_top (v := mI (band a b)) (congrArg Value.int (oi_of _)) (k H locs la cells slots hP hD hS hl h1 h2))
theorem v_ior (hX : Cx d M X) {a b : Int} (hd : Dc M pc (.ior) 1 nx) (k : VW X nx ls (mI (bor a b) :: st) h) : VW X pc ls (mI b :: mI a :: st) h := by
  obtain ⟨p, l, e, R, s, m, args, below, meth, c, al, tc, D, A, Z, rc, rs⟩ := X
  obtain ⟨hx, hb, hml, hr, hown, hts, hlk, hK, hA, hfr, hlo, hne⟩ := hX
  obtain ⟨hdg, rfl⟩ := hd
  intro H locs la cells slots hP hD hS hl h1 h2
  exact lv_ior hx hb hdg (vw_top (v := mI (bor a b)) (congrArg Value.int (oi_of _)) (k H locs la cells slots hP hD hS hl h1 h2))
theorem v_ixor (hX : Cx d M X) {a b : Int} (hd : Dc M pc (.ixor) 1 nx) (k : VW X nx ls (mI (bxor a b) :: st) h) : VW X pc ls (mI b :: mI a :: st) h := by
  obtain ⟨p, l, e, R, s, m, args, below, meth, c, al, tc, D, A, Z, rc, rs⟩ := X
  obtain ⟨hx, hb, hml, hr, hown, hts, hlk, hK, hA, hfr, hlo, hne⟩ := hX
  obtain ⟨hdg, rfl⟩ := hd
  intro H locs la cells slots hP hD hS hl h1 h2
  exact lv_ixor hx hb hdg (vw_top (v := mI (bxor a b)) (congrArg Value.int (oi_of _)) (k H locs la cells slots hP hD hS hl h1 h2))
theorem v_ishl (hX : Cx d M X) {a b : Int} (hd : Dc M pc (.ishl) 1 nx) (k : VW X nx ls (mI (bshl a b) :: st) h) : VW X pc ls (mI b :: mI a :: st) h := by
  obtain ⟨p, l, e, R, s, m, args, below, meth, c, al, tc, D, A, Z, rc, rs⟩ := X
  obtain ⟨hx, hb, hml, hr, hown, hts, hlk, hK, hA, hfr, hlo, hne⟩ := hX
  obtain ⟨hdg, rfl⟩ := hd
  intro H locs la cells slots hP hD hS hl h1 h2
  exact lv_ishl hx hb hdg (vw_top (v := mI (bshl a b)) (congrArg Value.int (oi_of _)) (k H locs la cells slots hP hD hS hl h1 h2))
theorem v_ishr (hX : Cx d M X) {a b : Int} (hd : Dc M pc (.ishr) 1 nx) (k : VW X nx ls (mI (bshr a b) :: st) h) : VW X pc ls (mI b :: mI a :: st) h := by
  obtain ⟨p, l, e, R, s, m, args, below, meth, c, al, tc, D, A, Z, rc, rs⟩ := X
  obtain ⟨hx, hb, hml, hr, hown, hts, hlk, hK, hA, hfr, hlo, hne⟩ := hX
  obtain ⟨hdg, rfl⟩ := hd
  intro H locs la cells slots hP hD hS hl h1 h2
  exact lv_ishr hx hb hdg (vw_top (v := mI (bshr a b)) (congrArg Value.int (oi_of _)) (k H locs la cells slots hP hD hS hl h1 h2))
theorem v_iushr (hX : Cx d M X) {a b : Int} (hd : Dc M pc (.iushr) 1 nx) (k : VW X nx ls (mI (bushr a b) :: st) h) : VW X pc ls (mI b :: mI a :: st) h := by
  obtain ⟨p, l, e, R, s, m, args, below, meth, c, al, tc, D, A, Z, rc, rs⟩ := X
  obtain ⟨hx, hb, hml, hr, hown, hts, hlk, hK, hA, hfr, hlo, hne⟩ := hX
  obtain ⟨hdg, rfl⟩ := hd
  intro H locs la cells slots hP hD hS hl h1 h2
  exact lv_iushr hx hb hdg (oi_of _).symm (k H locs la cells slots hP hD hS hl h1 h2)
theorem v_irem (hX : Cx d M X) {a b : Int} (hd : Dc M pc (.irem) 1 nx) (hz : -2147483648 ≤ b ∧ b < 2147483648 ∧ b ≠ 0) (k : VW X nx ls (mI (irem a b) :: st) h) : VW X pc ls (mI b :: mI a :: st) h := by
  obtain ⟨p, l, e, R, s, m, args, below, meth, c, al, tc, D, A, Z, rc, rs⟩ := X
  obtain ⟨hx, hb, hml, hr, hown, hts, hlk, hK, hA, hfr, hlo, hne⟩ := hX
  obtain ⟨hdg, rfl⟩ := hd
  intro H locs la cells slots hP hD hS hl h1 h2
  exact lv_irem hx hb hdg (fun q => hz.2.2 ((oi_eq (b := 0) ⟨hz.1, hz.2.1⟩ ⟨by decide, by decide⟩).mp q)) (vw_top (v := mI (irem a b)) (congrArg Value.int (oi_of _)) (k H locs la cells slots hP hD hS hl h1 h2))
theorem v_i2l (hX : Cx d M X) {a : Int} (hd : Dc M pc (.i2l) 1 nx) (ha : rng a) (k : VW X nx ls (mL a :: st) h) : VW X pc ls (mI a :: st) h := by
  obtain ⟨p, l, e, R, s, m, args, below, meth, c, al, tc, D, A, Z, rc, rs⟩ := X
  obtain ⟨hx, hb, hml, hr, hown, hts, hlk, hK, hA, hfr, hlo, hne⟩ := hX
  obtain ⟨hdg, rfl⟩ := hd
  intro H locs la cells slots hP hD hS hl h1 h2
  exact lv_i2l hx hb hdg (by rw [← Int64.toInt_inj, Int32.toInt_toInt64, oi_toInt ha, ol_toInt ⟨by omega, by omega⟩]) (k H locs la cells slots hP hD hS hl h1 h2)
theorem v_i2b (hX : Cx d M X) {a : Int} (hd : Dc M pc (.i2b) 1 nx) (k : VW X nx ls (mI (i2b a) :: st) h) : VW X pc ls (mI a :: st) h := by
  obtain ⟨p, l, e, R, s, m, args, below, meth, c, al, tc, D, A, Z, rc, rs⟩ := X
  obtain ⟨hx, hb, hml, hr, hown, hts, hlk, hK, hA, hfr, hlo, hne⟩ := hX
  obtain ⟨hdg, rfl⟩ := hd
  intro H locs la cells slots hP hD hS hl h1 h2
  exact lv_i2b hx hb hdg (oi_of _).symm (k H locs la cells slots hP hD hS hl h1 h2)
theorem v_lshl (hX : Cx d M X) {a b : Int} (hd : Dc M pc (.lshl) 1 nx) (k : VW X nx ls (mL (lshl a b) :: st) h) : VW X pc ls (mI b :: mL a :: st) h := by
  obtain ⟨p, l, e, R, s, m, args, below, meth, c, al, tc, D, A, Z, rc, rs⟩ := X
  obtain ⟨hx, hb, hml, hr, hown, hts, hlk, hK, hA, hfr, hlo, hne⟩ := hX
  obtain ⟨hdg, rfl⟩ := hd
  intro H locs la cells slots hP hD hS hl h1 h2
  exact lv_lshl hx hb hdg (Int64.ofInt_toInt _).symm (k H locs la cells slots hP hD hS hl h1 h2)
theorem v_lshr (hX : Cx d M X) {a b : Int} (hd : Dc M pc (.lshr) 1 nx) (k : VW X nx ls (mL (lshr a b) :: st) h) : VW X pc ls (mI b :: mL a :: st) h := by
  obtain ⟨p, l, e, R, s, m, args, below, meth, c, al, tc, D, A, Z, rc, rs⟩ := X
  obtain ⟨hx, hb, hml, hr, hown, hts, hlk, hK, hA, hfr, hlo, hne⟩ := hX
  obtain ⟨hdg, rfl⟩ := hd
  intro H locs la cells slots hP hD hS hl h1 h2
  exact lv_lshr hx hb hdg (Int64.ofInt_toInt _).symm (k H locs la cells slots hP hD hS hl h1 h2)
theorem v_lcmp (hX : Cx d M X) {a b : Int} (hd : Dc M pc (.lcmp) 1 nx) (ha : lrng a) (hbr : lrng b) (k : VW X nx ls (mI (lcm a b) :: st) h) : VW X pc ls (mL b :: mL a :: st) h := by
  obtain ⟨p, l, e, R, s, m, args, below, meth, c, al, tc, D, A, Z, rc, rs⟩ := X
  obtain ⟨hx, hb, hml, hr, hown, hts, hlk, hK, hA, hfr, hlo, hne⟩ := hX
  obtain ⟨hdg, rfl⟩ := hd
  intro H locs la cells slots hP hD hS hl h1 h2
  refine W.lcmp hx hb hdg (vw_top (v := mI (lcm a b)) (congrArg Value.int ?_) (k H locs la cells slots hP hD hS hl h1 h2))
  show Int32.ofInt (lcm a b) = lg_cmp (Int64.ofInt a) (Int64.ofInt b)
  unfold lcm lg_cmp
  simp only [gt_iff_lt, ol_lt hbr ha, ol_eq ha hbr]
  split
  · rfl
  · split <;> rfl
theorem v_dup (hX : Cx d M X) {v : MV} (hd : Dc M pc (.dup) 1 nx) (hv : mcat v = 1) (k : VW X nx ls (v :: v :: st) h) : VW X pc ls (v :: st) h := by
  obtain ⟨p, l, e, R, s, m, args, below, meth, c, al, tc, D, A, Z, rc, rs⟩ := X
  obtain ⟨hx, hb, hml, hr, hown, hts, hlk, hK, hA, hfr, hlo, hne⟩ := hX
  obtain ⟨hdg, rfl⟩ := hd
  intro H locs la cells slots hP hD hS hl h1 h2
  exact lv_dup hx hb hdg (by rw [conc_cat, hv]) (k H locs la cells slots hP hD hS hl h1 h2)
theorem v_dup2 (hX : Cx d M X) {v w : MV} (hd : Dc M pc (.dup2) 1 nx) (hv : mcat v = 1) (hw : mcat w = 1) (k : VW X nx ls (v :: w :: v :: w :: st) h) : VW X pc ls (v :: w :: st) h := by
  obtain ⟨p, l, e, R, s, m, args, below, meth, c, al, tc, D, A, Z, rc, rs⟩ := X
  obtain ⟨hx, hb, hml, hr, hown, hts, hlk, hK, hA, hfr, hlo, hne⟩ := hX
  obtain ⟨hdg, rfl⟩ := hd
  intro H locs la cells slots hP hD hS hl h1 h2
  exact lv_dup2_11 hx hb hdg (by rw [conc_cat, hv]) (by rw [conc_cat, hw]) (k H locs la cells slots hP hD hS hl h1 h2)
theorem v_dup2L (hX : Cx d M X) {v : MV} (hd : Dc M pc (.dup2) 1 nx) (hv : mcat v = 2) (k : VW X nx ls (v :: v :: st) h) : VW X pc ls (v :: st) h := by
  obtain ⟨p, l, e, R, s, m, args, below, meth, c, al, tc, D, A, Z, rc, rs⟩ := X
  obtain ⟨hx, hb, hml, hr, hown, hts, hlk, hK, hA, hfr, hlo, hne⟩ := hX
  obtain ⟨hdg, rfl⟩ := hd
  intro H locs la cells slots hP hD hS hl h1 h2
  exact lv_dup2_2 hx hb hdg (by rw [conc_cat, hv]) (k H locs la cells slots hP hD hS hl h1 h2)
theorem v_icmp_eq (hX : Cx d M X) {a b off : Int} {tgt : Nat} (hd : Dc M pc (.if_icmp .eq off) 3 nx) (ht : (pc : Int) + off = (tgt : Int)) (ha : rng a) (hb2 : rng b) (kt : a = b → VW X tgt ls st h) (kf : ¬ (a = b) → VW X nx ls st h) : VW X pc ls (mI b :: mI a :: st) h := by
  obtain ⟨p, l, e, R, s, m, args, below, meth, c, al, tc, D, A, Z, rc, rs⟩ := X
  obtain ⟨hx, hb, hml, hr, hown, hts, hlk, hK, hA, hfr, hlo, hne⟩ := hX
  obtain ⟨hdg, rfl⟩ := hd
  intro H locs la cells slots hP hD hS hl h1 h2
  exact lv_icmp_eq hx hb hdg ht (fun q => kt ((oi_eq ha hb2).mp q) H locs la cells slots hP hD hS hl h1 h2) (fun q => kf (fun e => q ((oi_eq ha hb2).mpr e)) H locs la cells slots hP hD hS hl h1 h2)
theorem v_if_eq (hX : Cx d M X) {a off : Int} {tgt : Nat} (hd : Dc M pc (.ifCond .eq off) 3 nx) (ht : (pc : Int) + off = (tgt : Int)) (ha : rng a) (kt : a = 0 → VW X tgt ls st h) (kf : ¬ (a = 0) → VW X nx ls st h) : VW X pc ls (mI a :: st) h := by
  obtain ⟨p, l, e, R, s, m, args, below, meth, c, al, tc, D, A, Z, rc, rs⟩ := X
  obtain ⟨hx, hb, hml, hr, hown, hts, hlk, hK, hA, hfr, hlo, hne⟩ := hX
  obtain ⟨hdg, rfl⟩ := hd
  intro H locs la cells slots hP hD hS hl h1 h2
  have z0 : rng 0 := ⟨by decide, by decide⟩
  exact lv_if_eq hx hb hdg ht (fun q => kt ((oi_eq ha z0).mp q) H locs la cells slots hP hD hS hl h1 h2) (fun q => kf (fun e => q ((oi_eq ha z0).mpr e)) H locs la cells slots hP hD hS hl h1 h2)
theorem v_icmp_ne (hX : Cx d M X) {a b off : Int} {tgt : Nat} (hd : Dc M pc (.if_icmp .ne off) 3 nx) (ht : (pc : Int) + off = (tgt : Int)) (ha : rng a) (hb2 : rng b) (kt : ¬ a = b → VW X tgt ls st h) (kf : a = b → VW X nx ls st h) : VW X pc ls (mI b :: mI a :: st) h := by
  obtain ⟨p, l, e, R, s, m, args, below, meth, c, al, tc, D, A, Z, rc, rs⟩ := X
  obtain ⟨hx, hb, hml, hr, hown, hts, hlk, hK, hA, hfr, hlo, hne⟩ := hX
  obtain ⟨hdg, rfl⟩ := hd
  intro H locs la cells slots hP hD hS hl h1 h2
  exact lv_icmp_ne hx hb hdg ht (fun q => kt (fun e => q ((oi_eq ha hb2).mpr e)) H locs la cells slots hP hD hS hl h1 h2) (fun q => kf ((oi_eq ha hb2).mp q) H locs la cells slots hP hD hS hl h1 h2)
theorem v_if_ne (hX : Cx d M X) {a off : Int} {tgt : Nat} (hd : Dc M pc (.ifCond .ne off) 3 nx) (ht : (pc : Int) + off = (tgt : Int)) (ha : rng a) (kt : ¬ a = 0 → VW X tgt ls st h) (kf : a = 0 → VW X nx ls st h) : VW X pc ls (mI a :: st) h := by
  obtain ⟨p, l, e, R, s, m, args, below, meth, c, al, tc, D, A, Z, rc, rs⟩ := X
  obtain ⟨hx, hb, hml, hr, hown, hts, hlk, hK, hA, hfr, hlo, hne⟩ := hX
  obtain ⟨hdg, rfl⟩ := hd
  intro H locs la cells slots hP hD hS hl h1 h2
  have z0 : rng 0 := ⟨by decide, by decide⟩
  exact lv_if_ne hx hb hdg ht (fun q => kt (fun e => q ((oi_eq ha z0).mpr e)) H locs la cells slots hP hD hS hl h1 h2) (fun q => kf ((oi_eq ha z0).mp q) H locs la cells slots hP hD hS hl h1 h2)
theorem v_icmp_lt (hX : Cx d M X) {a b off : Int} {tgt : Nat} (hd : Dc M pc (.if_icmp .lt off) 3 nx) (ht : (pc : Int) + off = (tgt : Int)) (ha : rng a) (hb2 : rng b) (kt : a < b → VW X tgt ls st h) (kf : ¬ (a < b) → VW X nx ls st h) : VW X pc ls (mI b :: mI a :: st) h := by
  obtain ⟨p, l, e, R, s, m, args, below, meth, c, al, tc, D, A, Z, rc, rs⟩ := X
  obtain ⟨hx, hb, hml, hr, hown, hts, hlk, hK, hA, hfr, hlo, hne⟩ := hX
  obtain ⟨hdg, rfl⟩ := hd
  intro H locs la cells slots hP hD hS hl h1 h2
  exact lv_icmp_lt hx hb hdg ht (fun q => kt ((oi_lt ha hb2).mp q) H locs la cells slots hP hD hS hl h1 h2) (fun q => kf (fun e => q ((oi_lt ha hb2).mpr e)) H locs la cells slots hP hD hS hl h1 h2)
theorem v_if_lt (hX : Cx d M X) {a off : Int} {tgt : Nat} (hd : Dc M pc (.ifCond .lt off) 3 nx) (ht : (pc : Int) + off = (tgt : Int)) (ha : rng a) (kt : a < 0 → VW X tgt ls st h) (kf : ¬ (a < 0) → VW X nx ls st h) : VW X pc ls (mI a :: st) h := by
  obtain ⟨p, l, e, R, s, m, args, below, meth, c, al, tc, D, A, Z, rc, rs⟩ := X
  obtain ⟨hx, hb, hml, hr, hown, hts, hlk, hK, hA, hfr, hlo, hne⟩ := hX
  obtain ⟨hdg, rfl⟩ := hd
  intro H locs la cells slots hP hD hS hl h1 h2
  have z0 : rng 0 := ⟨by decide, by decide⟩
  exact lv_if_lt hx hb hdg ht (fun q => kt ((oi_lt ha z0).mp q) H locs la cells slots hP hD hS hl h1 h2) (fun q => kf (fun e => q ((oi_lt ha z0).mpr e)) H locs la cells slots hP hD hS hl h1 h2)
theorem v_icmp_le (hX : Cx d M X) {a b off : Int} {tgt : Nat} (hd : Dc M pc (.if_icmp .le off) 3 nx) (ht : (pc : Int) + off = (tgt : Int)) (ha : rng a) (hb2 : rng b) (kt : a ≤ b → VW X tgt ls st h) (kf : ¬ (a ≤ b) → VW X nx ls st h) : VW X pc ls (mI b :: mI a :: st) h := by
  obtain ⟨p, l, e, R, s, m, args, below, meth, c, al, tc, D, A, Z, rc, rs⟩ := X
  obtain ⟨hx, hb, hml, hr, hown, hts, hlk, hK, hA, hfr, hlo, hne⟩ := hX
  obtain ⟨hdg, rfl⟩ := hd
  intro H locs la cells slots hP hD hS hl h1 h2
  exact lv_icmp_le hx hb hdg ht (fun q => kt ((oi_le ha hb2).mp q) H locs la cells slots hP hD hS hl h1 h2) (fun q => kf (fun e => q ((oi_le ha hb2).mpr e)) H locs la cells slots hP hD hS hl h1 h2)
theorem v_if_le (hX : Cx d M X) {a off : Int} {tgt : Nat} (hd : Dc M pc (.ifCond .le off) 3 nx) (ht : (pc : Int) + off = (tgt : Int)) (ha : rng a) (kt : a ≤ 0 → VW X tgt ls st h) (kf : ¬ (a ≤ 0) → VW X nx ls st h) : VW X pc ls (mI a :: st) h := by
  obtain ⟨p, l, e, R, s, m, args, below, meth, c, al, tc, D, A, Z, rc, rs⟩ := X
  obtain ⟨hx, hb, hml, hr, hown, hts, hlk, hK, hA, hfr, hlo, hne⟩ := hX
  obtain ⟨hdg, rfl⟩ := hd
  intro H locs la cells slots hP hD hS hl h1 h2
  have z0 : rng 0 := ⟨by decide, by decide⟩
  exact lv_if_le hx hb hdg ht (fun q => kt ((oi_le ha z0).mp q) H locs la cells slots hP hD hS hl h1 h2) (fun q => kf (fun e => q ((oi_le ha z0).mpr e)) H locs la cells slots hP hD hS hl h1 h2)
theorem v_icmp_ge (hX : Cx d M X) {a b off : Int} {tgt : Nat} (hd : Dc M pc (.if_icmp .ge off) 3 nx) (ht : (pc : Int) + off = (tgt : Int)) (ha : rng a) (hb2 : rng b) (kt : b ≤ a → VW X tgt ls st h) (kf : ¬ (b ≤ a) → VW X nx ls st h) : VW X pc ls (mI b :: mI a :: st) h := by
  obtain ⟨p, l, e, R, s, m, args, below, meth, c, al, tc, D, A, Z, rc, rs⟩ := X
  obtain ⟨hx, hb, hml, hr, hown, hts, hlk, hK, hA, hfr, hlo, hne⟩ := hX
  obtain ⟨hdg, rfl⟩ := hd
  intro H locs la cells slots hP hD hS hl h1 h2
  exact lv_icmp_ge hx hb hdg ht (fun q => kt ((oi_le hb2 ha).mp q) H locs la cells slots hP hD hS hl h1 h2) (fun q => kf (fun e => q ((oi_le hb2 ha).mpr e)) H locs la cells slots hP hD hS hl h1 h2)
theorem v_if_ge (hX : Cx d M X) {a off : Int} {tgt : Nat} (hd : Dc M pc (.ifCond .ge off) 3 nx) (ht : (pc : Int) + off = (tgt : Int)) (ha : rng a) (kt : 0 ≤ a → VW X tgt ls st h) (kf : ¬ (0 ≤ a) → VW X nx ls st h) : VW X pc ls (mI a :: st) h := by
  obtain ⟨p, l, e, R, s, m, args, below, meth, c, al, tc, D, A, Z, rc, rs⟩ := X
  obtain ⟨hx, hb, hml, hr, hown, hts, hlk, hK, hA, hfr, hlo, hne⟩ := hX
  obtain ⟨hdg, rfl⟩ := hd
  intro H locs la cells slots hP hD hS hl h1 h2
  have z0 : rng 0 := ⟨by decide, by decide⟩
  exact lv_if_ge hx hb hdg ht (fun q => kt ((oi_le z0 ha).mp q) H locs la cells slots hP hD hS hl h1 h2) (fun q => kf (fun e => q ((oi_le z0 ha).mpr e)) H locs la cells slots hP hD hS hl h1 h2)
theorem v_icmp_gt (hX : Cx d M X) {a b off : Int} {tgt : Nat} (hd : Dc M pc (.if_icmp .gt off) 3 nx) (ht : (pc : Int) + off = (tgt : Int)) (ha : rng a) (hb2 : rng b) (kt : b < a → VW X tgt ls st h) (kf : ¬ (b < a) → VW X nx ls st h) : VW X pc ls (mI b :: mI a :: st) h := by
  obtain ⟨p, l, e, R, s, m, args, below, meth, c, al, tc, D, A, Z, rc, rs⟩ := X
  obtain ⟨hx, hb, hml, hr, hown, hts, hlk, hK, hA, hfr, hlo, hne⟩ := hX
  obtain ⟨hdg, rfl⟩ := hd
  intro H locs la cells slots hP hD hS hl h1 h2
  exact lv_icmp_gt hx hb hdg ht (fun q => kt ((oi_lt hb2 ha).mp q) H locs la cells slots hP hD hS hl h1 h2) (fun q => kf (fun e => q ((oi_lt hb2 ha).mpr e)) H locs la cells slots hP hD hS hl h1 h2)
theorem v_if_gt (hX : Cx d M X) {a off : Int} {tgt : Nat} (hd : Dc M pc (.ifCond .gt off) 3 nx) (ht : (pc : Int) + off = (tgt : Int)) (ha : rng a) (kt : 0 < a → VW X tgt ls st h) (kf : ¬ (0 < a) → VW X nx ls st h) : VW X pc ls (mI a :: st) h := by
  obtain ⟨p, l, e, R, s, m, args, below, meth, c, al, tc, D, A, Z, rc, rs⟩ := X
  obtain ⟨hx, hb, hml, hr, hown, hts, hlk, hK, hA, hfr, hlo, hne⟩ := hX
  obtain ⟨hdg, rfl⟩ := hd
  intro H locs la cells slots hP hD hS hl h1 h2
  have z0 : rng 0 := ⟨by decide, by decide⟩
  exact lv_if_gt hx hb hdg ht (fun q => kt ((oi_lt z0 ha).mp q) H locs la cells slots hP hD hS hl h1 h2) (fun q => kf (fun e => q ((oi_lt z0 ha).mpr e)) H locs la cells slots hP hD hS hl h1 h2)
theorem v_goto (hX : Cx d M X) {off : Int} {tgt : Nat} (hd : Dc M pc (.goto off) 3 nx) (ht : (pc : Int) + off = (tgt : Int)) (k : VW X tgt ls st h) : VW X pc ls (st) h := by
  obtain ⟨p, l, e, R, s, m, args, below, meth, c, al, tc, D, A, Z, rc, rs⟩ := X
  obtain ⟨hx, hb, hml, hr, hown, hts, hlk, hK, hA, hfr, hlo, hne⟩ := hX
  obtain ⟨hdg, rfl⟩ := hd
  intro H locs la cells slots hP hD hS hl h1 h2
  exact lv_goto hx hb hdg ht (k H locs la cells slots hP hD hS hl h1 h2)
theorem v_ifnull (hX : Cx d M X) {a : Nat} {off : Int} (hd : Dc M pc (.ifnull off) 3 nx) (k : VW X nx ls st h) : VW X pc ls (mA a :: st) h := by
  obtain ⟨p, l, e, R, s, m, args, below, meth, c, al, tc, D, A, Z, rc, rs⟩ := X
  obtain ⟨hx, hb, hml, hr, hown, hts, hlk, hK, hA, hfr, hlo, hne⟩ := hX
  obtain ⟨hdg, rfl⟩ := hd
  intro H locs la cells slots hP hD hS hl h1 h2
  exact lv_ifnull hx hb hdg (k H locs la cells slots hP hD hS hl h1 h2)
theorem v_ifnullN (hX : Cx d M X) {off : Int} {tgt : Nat} (hd : Dc M pc (.ifnull off) 3 nx) (ht : (pc : Int) + off = (tgt : Int)) (k : VW X tgt ls st h) : VW X pc ls (mN :: st) h := by
  obtain ⟨p, l, e, R, s, m, args, below, meth, c, al, tc, D, A, Z, rc, rs⟩ := X
  obtain ⟨hx, hb, hml, hr, hown, hts, hlk, hK, hA, hfr, hlo, hne⟩ := hX
  obtain ⟨hdg, rfl⟩ := hd
  intro H locs la cells slots hP hD hS hl h1 h2
  exact lv_ifnullN hx hb hdg ht (k H locs la cells slots hP hD hS hl h1 h2)
theorem v_ifnonnull (hX : Cx d M X) {a : Nat} {off : Int} {tgt : Nat} (hd : Dc M pc (.ifnonnull off) 3 nx) (ht : (pc : Int) + off = (tgt : Int)) (k : VW X tgt ls st h) : VW X pc ls (mA a :: st) h := by
  obtain ⟨p, l, e, R, s, m, args, below, meth, c, al, tc, D, A, Z, rc, rs⟩ := X
  obtain ⟨hx, hb, hml, hr, hown, hts, hlk, hK, hA, hfr, hlo, hne⟩ := hX
  obtain ⟨hdg, rfl⟩ := hd
  intro H locs la cells slots hP hD hS hl h1 h2
  exact lv_ifnonnull hx hb hdg ht (k H locs la cells slots hP hD hS hl h1 h2)
theorem v_ifnonnullN (hX : Cx d M X) {off : Int} (hd : Dc M pc (.ifnonnull off) 3 nx) (k : VW X nx ls st h) : VW X pc ls (mN :: st) h := by
  obtain ⟨p, l, e, R, s, m, args, below, meth, c, al, tc, D, A, Z, rc, rs⟩ := X
  obtain ⟨hx, hb, hml, hr, hown, hts, hlk, hK, hA, hfr, hlo, hne⟩ := hX
  obtain ⟨hdg, rfl⟩ := hd
  intro H locs la cells slots hP hD hS hl h1 h2
  exact lv_ifnonnullN hx hb hdg (k H locs la cells slots hP hD hS hl h1 h2)
end VRULES
end
section
section VHEAP
variable {d : Nat} {M : MT} {X : CT} {pc nx : Nat} {ls : List (Option MV)} {st : List MV} {h : Hp}
/-- object k is of class ci; array k is of kind t and length n -/
def OB (k ci : Nat) : Prop := k < KN ∧ SH k = .inl ci
def AR (k t n : Nat) : Prop := k < KN ∧ SH k = .inr (t, n)
theorem OB.cell {al : Nat → Nat} {tc : Nat → ClassId} {h : Hp} {k ci : Nat} (o : OB k ci) : (WS al tc h)[k]? = some (al k, .inr (ci, (List.range (NF ci)).map (fval al h k ci))) := by
  rw [WS_get o.1]
  simp only [cellE, o.2]
theorem fval_at {al : Nat → Nat} {h : Hp} {k ci j : Nat} (hj : j < NF ci) : ((List.range (NF ci)).map (fval al h k ci))[j]? = some (fval al h k ci j) := by
  simp [hj]
theorem fval_set {al : Nat → Nat} {h : Hp} {k ci j : Nat} {v : Int} {w : Value} (hj : j < NF ci) (hw : w = fval al (up h k j v) k ci j) : ((List.range (NF ci)).map (fval al h k ci)).set j w = (List.range (NF ci)).map (fval al (up h k j v) k ci) := by
  subst hw
  apply List.ext_getElem?
  intro i
  by_cases hi : i = j
  · subst hi
    rw [List.getElem?_set_self (by simpa using hj), fval_at hj]
  · rw [List.getElem?_set_ne (Ne.symm hi)]
    by_cases hn : i < NF ci
    · rw [fval_at hn, fval_at hn]
      simp only [fval, up, hi, and_false, if_false]
    · simp [hn]
theorem v_getI (hX : Cx d M X) {idx ci j q : Nat} (hd : Dc M pc (.getfield idx) 3 nx) (hf : FI M.1.cls idx ci j 0) (ho : OB q ci) (k : VW X nx ls (mI (h q j) :: st) h) : VW X pc ls (mA q :: st) h := by
  obtain ⟨p, l, e, R, s, m, args, below, meth, c, al, tc, D, A, Z, rc, rs⟩ := X
  obtain ⟨hx, hb, hml, hr, hown, hts, hlk, hK, hA, hfr, hlo, hne⟩ := hX
  obtain ⟨hdg, rfl⟩ := hd
  intro H locs la cells slots hP hD hS hl h1 h2
  obtain ⟨C, T, N, hc, hj, hN, hk, hlink, -⟩ := hf
  have hin := (cl_facts ci C T N hc).1
  refine va_get (D := D) (ci := ci) (v := fval al h q ci j) hx hb hts hin hown hK hP q ho.cell hc j hj (hts _ hlink) (fun _ h9 => h9) (fval_at (hN ▸ hj)) hdg (vw_top (v := mI (h q j)) ?_ (k H locs la cells slots hP hD hS hl h1 h2))
  simp only [fval, hk]
  rfl
theorem v_getZ (hX : Cx d M X) {idx ci j q : Nat} (hd : Dc M pc (.getfield idx) 3 nx) (hf : FI M.1.cls idx ci j 3) (ho : OB q ci) (k : VW X nx ls (mI (h q j) :: st) h) : VW X pc ls (mA q :: st) h := by
  obtain ⟨p, l, e, R, s, m, args, below, meth, c, al, tc, D, A, Z, rc, rs⟩ := X
  obtain ⟨hx, hb, hml, hr, hown, hts, hlk, hK, hA, hfr, hlo, hne⟩ := hX
  obtain ⟨hdg, rfl⟩ := hd
  intro H locs la cells slots hP hD hS hl h1 h2
  obtain ⟨C, T, N, hc, hj, hN, hk, hlink, -⟩ := hf
  have hin := (cl_facts ci C T N hc).1
  refine va_get (D := D) (ci := ci) (v := fval al h q ci j) hx hb hts hin hown hK hP q ho.cell hc j hj (hts _ hlink) (fun _ h9 => h9) (fval_at (hN ▸ hj)) hdg (vw_top (v := mI (h q j)) ?_ (k H locs la cells slots hP hD hS hl h1 h2))
  simp only [fval, hk]
  rfl
theorem v_getL (hX : Cx d M X) {idx ci j q : Nat} (hd : Dc M pc (.getfield idx) 3 nx) (hf : FI M.1.cls idx ci j 1) (ho : OB q ci) (k : VW X nx ls (mL (h q j) :: st) h) : VW X pc ls (mA q :: st) h := by
  obtain ⟨p, l, e, R, s, m, args, below, meth, c, al, tc, D, A, Z, rc, rs⟩ := X
  obtain ⟨hx, hb, hml, hr, hown, hts, hlk, hK, hA, hfr, hlo, hne⟩ := hX
  obtain ⟨hdg, rfl⟩ := hd
  intro H locs la cells slots hP hD hS hl h1 h2
  obtain ⟨C, T, N, hc, hj, hN, hk, hlink, -⟩ := hf
  have hin := (cl_facts ci C T N hc).1
  refine va_get (D := D) (ci := ci) (v := fval al h q ci j) hx hb hts hin hown hK hP q ho.cell hc j hj (hts _ hlink) (fun _ h9 => h9) (fval_at (hN ▸ hj)) hdg (vw_top (v := mL (h q j)) ?_ (k H locs la cells slots hP hD hS hl h1 h2))
  simp only [fval, hk]
  rfl
theorem v_getA (hX : Cx d M X) {idx ci j q : Nat} {r : Nat} (hd : Dc M pc (.getfield idx) 3 nx) (hf : FI M.1.cls idx ci j 2) (ho : OB q ci) (hr2 : RF q j = some r) (k : VW X nx ls (mA r :: st) h) : VW X pc ls (mA q :: st) h := by
  obtain ⟨p, l, e, R, s, m, args, below, meth, c, al, tc, D, A, Z, rc, rs⟩ := X
  obtain ⟨hx, hb, hml, hr, hown, hts, hlk, hK, hA, hfr, hlo, hne⟩ := hX
  obtain ⟨hdg, rfl⟩ := hd
  intro H locs la cells slots hP hD hS hl h1 h2
  obtain ⟨C, T, N, hc, hj, hN, hk, hlink, -⟩ := hf
  have hin := (cl_facts ci C T N hc).1
  refine va_get (D := D) (ci := ci) (v := fval al h q ci j) hx hb hts hin hown hK hP q ho.cell hc j hj (hts _ hlink) (fun _ h9 => h9) (fval_at (hN ▸ hj)) hdg (vw_top (v := mA r) ?_ (k H locs la cells slots hP hD hS hl h1 h2))
  simp only [fval, hk]
  rw [hr2]
  rfl
theorem v_putI (hX : Cx d M X) {idx ci j q : Nat} {v : Int} (hd : Dc M pc (.putfield idx) 3 nx) (hf : FI M.1.cls idx ci j 0) (ho : OB q ci) (k : VW X nx ls st (up h q j v)) : VW X pc ls (mI v :: mA q :: st) h := by
  obtain ⟨p, l, e, R, s, m, args, below, meth, c, al, tc, D, A, Z, rc, rs⟩ := X
  obtain ⟨hx, hb, hml, hr, hown, hts, hlk, hK, hA, hfr, hlo, hne⟩ := hX
  obtain ⟨hdg, rfl⟩ := hd
  intro H locs la cells slots hP hD hS hl h1 h2
  obtain ⟨C, T, N, hc, hj, hN, hk, hlink, hq⟩ := hf
  obtain ⟨hin, hnm, ty0, hty⟩ := cl_facts ci C T N hc
  obtain ⟨hfin, hpd⟩ := hq (by decide)
  have hj2 : j < NF ci := hN ▸ hj
  have e1 : (.int (Int32.ofInt v) : Value) = fval al (up h q j v) q ci j := by
    simp [fval, hk, up]
  have e2 : (al q, (Sum.inr (ci, ((List.range (NF ci)).map (fval al h q ci)).set j (.int (Int32.ofInt v))) : va_E)) = (al q, cellE al tc (up h q j v) q) := by
    rw [fval_set hj2 e1]
    simp only [cellE, ho.2]
  refine va_put (D := D) (ci := ci) (v := .int (Int32.ofInt v)) (ty := kty 0) hx hb hts hin ty0 hty hnm hown hK hP hD hS q ho.cell hc j hj (hts _ hlink) (fun _ h9 => h9) hfin hpd rfl rfl (by simpa using hj2) hdg (fun H1 locs1 hP1 hD1 hS1 => ?_)
  rw [e2, WS_set _ rfl] at hP1 hD1
  exact k H1 locs1 la cells slots hP1 hD1 hS1 hl h1 h2
theorem v_putL (hX : Cx d M X) {idx ci j q : Nat} {v : Int} (hd : Dc M pc (.putfield idx) 3 nx) (hf : FI M.1.cls idx ci j 1) (ho : OB q ci) (k : VW X nx ls st (up h q j v)) : VW X pc ls (mL v :: mA q :: st) h := by
  obtain ⟨p, l, e, R, s, m, args, below, meth, c, al, tc, D, A, Z, rc, rs⟩ := X
  obtain ⟨hx, hb, hml, hr, hown, hts, hlk, hK, hA, hfr, hlo, hne⟩ := hX
  obtain ⟨hdg, rfl⟩ := hd
  intro H locs la cells slots hP hD hS hl h1 h2
  obtain ⟨C, T, N, hc, hj, hN, hk, hlink, hq⟩ := hf
  obtain ⟨hin, hnm, ty0, hty⟩ := cl_facts ci C T N hc
  obtain ⟨hfin, hpd⟩ := hq (by decide)
  have hj2 : j < NF ci := hN ▸ hj
  have e1 : (.long (Int64.ofInt v) : Value) = fval al (up h q j v) q ci j := by
    simp [fval, hk, up]
  have e2 : (al q, (Sum.inr (ci, ((List.range (NF ci)).map (fval al h q ci)).set j (.long (Int64.ofInt v))) : va_E)) = (al q, cellE al tc (up h q j v) q) := by
    rw [fval_set hj2 e1]
    simp only [cellE, ho.2]
  refine va_put (D := D) (ci := ci) (v := .long (Int64.ofInt v)) (ty := kty 1) hx hb hts hin ty0 hty hnm hown hK hP hD hS q ho.cell hc j hj (hts _ hlink) (fun _ h9 => h9) hfin hpd rfl rfl (by simpa using hj2) hdg (fun H1 locs1 hP1 hD1 hS1 => ?_)
  rw [e2, WS_set _ rfl] at hP1 hD1
  exact k H1 locs1 la cells slots hP1 hD1 hS1 hl h1 h2
theorem v_putZ (hX : Cx d M X) {idx ci j q : Nat} {v : Int} (hd : Dc M pc (.putfield idx) 3 nx) (hf : FI M.1.cls idx ci j 3) (ho : OB q ci) (hv : v = 0 ∨ v = 1) (k : VW X nx ls st (up h q j v)) : VW X pc ls (mI v :: mA q :: st) h := by
  obtain ⟨p, l, e, R, s, m, args, below, meth, c, al, tc, D, A, Z, rc, rs⟩ := X
  obtain ⟨hx, hb, hml, hr, hown, hts, hlk, hK, hA, hfr, hlo, hne⟩ := hX
  obtain ⟨hdg, rfl⟩ := hd
  intro H locs la cells slots hP hD hS hl h1 h2
  obtain ⟨C, T, N, hc, hj, hN, hk, hlink, hq⟩ := hf
  obtain ⟨hin, hnm, ty0, hty⟩ := cl_facts ci C T N hc
  obtain ⟨hfin, hpd⟩ := hq (by decide)
  have hj2 : j < NF ci := hN ▸ hj
  have e1 : (.int (Int32.ofInt v) : Value) = fval al (up h q j v) q ci j := by
    simp [fval, hk, up]
  have e2 : (al q, (Sum.inr (ci, ((List.range (NF ci)).map (fval al h q ci)).set j (.int (Int32.ofInt v))) : va_E)) = (al q, cellE al tc (up h q j v) q) := by
    rw [fval_set hj2 e1]
    simp only [cellE, ho.2]
  refine va_put (D := D) (ci := ci) (v := .int (Int32.ofInt v)) (ty := kty 3) hx hb hts hin ty0 hty hnm hown hK hP hD hS q ho.cell hc j hj (hts _ hlink) (fun _ h9 => h9) hfin hpd (by rcases hv with rfl | rfl <;> decide) (by rcases hv with rfl | rfl <;> decide) (by simpa using hj2) hdg (fun H1 locs1 hP1 hD1 hS1 => ?_)
  rw [e2, WS_set _ rfl] at hP1 hD1
  exact k H1 locs1 la cells slots hP1 hD1 hS1 hl h1 h2
theorem AR.cell {al : Nat → Nat} {tc : Nat → ClassId} {h : Hp} {k t n : Nat} (a : AR k t n) : (WS al tc h)[k]? = some (al k, cellE al tc h k) := WS_get a.1
theorem TY_0 {tc : Nat → ClassId} : (TY tc)[0]? = some (tc 0, .int) := rfl
theorem TY_1 {tc : Nat → ClassId} : (TY tc)[1]? = some (tc 1, .boolean) := rfl
theorem TY_2 {tc : Nat → ClassId} : (TY tc)[2]? = some (tc 2, .long) := rfl
theorem cell_0 {al : Nat → Nat} {tc : Nat → ClassId} {h : Hp} {k n : Nat} (a : AR k 0 n) : cellE al tc h k = .inl (tc 0, n, .inl (fun j => Int32.ofInt (h k j))) := by simp only [cellE, a.2]
theorem cell_1 {al : Nat → Nat} {tc : Nat → ClassId} {h : Hp} {k n : Nat} (a : AR k 1 n) : cellE al tc h k = .inl (tc 1, n, .inl (fun j => Int32.ofInt (h k j))) := by simp only [cellE, a.2]
theorem cell_2 {al : Nat → Nat} {tc : Nat → ClassId} {h : Hp} {k n : Nat} (a : AR k 2 n) : cellE al tc h k = .inl (tc 2, n, .inr (.inl (fun j => Int64.ofInt (h k j)))) := by simp only [cellE, a.2]
theorem cell_3 {al : Nat → Nat} {tc : Nat → ClassId} {h : Hp} {k n : Nat} (a : AR k 3 n) : cellE al tc h k = .inl (tc 3, n, .inr (.inr (.inr (.inr (fun j => (RF k j).map al))))) := by simp only [cellE, a.2]
theorem cell_4 {al : Nat → Nat} {tc : Nat → ClassId} {h : Hp} {k n : Nat} (a : AR k 4 n) : cellE al tc h k = .inl (tc 4, n, .inr (.inr (.inr (.inr (fun j => (RF k j).map al))))) := by simp only [cellE, a.2]
theorem SH_len : ∀ k, k < KN → ∀ t n, SH k = .inr (t, n) → n < 2147483648 ∧ t < 5 := by
  intro k hk
  have : ∀ k, k < KN → (match SH k with | .inr (t, n) => Nat.blt n 2147483648 && Nat.blt t 5 | _ => true) = true := by decide +kernel
  intro t n e
  have h2 := this k hk
  rw [e] at h2
  simp only [Bool.and_eq_true, Nat.blt_eq] at h2
  exact h2
theorem AR.len {k t n : Nat} (a : AR k t n) : n < 2147483648 := (SH_len k a.1 t n a.2).1
theorem v_iald (hX : Cx d M X) {q n : Nat} {i : Int} (hd : Dc M pc (.iaload) 1 nx) (ha : AR q 0 n) (hi : 0 ≤ i ∧ i < n) (k : VW X nx ls (mI (h q i.toNat) :: st) h) : VW X pc ls (mI i :: mA q :: st) h := by
  obtain ⟨p, l, e, R, s, m, args, below, meth, c, al, tc, D, A, Z, rc, rs⟩ := X
  obtain ⟨hx, hb, hml, hr, hown, hts, hlk, hK, hA, hfr, hlo, hne⟩ := hX
  obtain ⟨hdg, rfl⟩ := hd
  intro H locs la cells slots hP hD hS hl h1 h2
  have hn := ha.len
  have e := oi_clamp hi.1 (by omega)
  have hc : (WS al tc h)[q]? = some (al q, _) := cell_0 (al := al) (tc := tc) (h := h) ha ▸ ha.cell
  refine va_iald hx hb hK hP q 0 hc TY_0 (oi_in hi.1 hi.2 hn) hdg ?_
  rw [e]
  exact k H locs la cells slots hP hD hS hl h1 h2
theorem v_zald (hX : Cx d M X) {q n : Nat} {i : Int} (hd : Dc M pc (.baload) 1 nx) (ha : AR q 1 n) (hi : 0 ≤ i ∧ i < n) (k : VW X nx ls (mI (h q i.toNat) :: st) h) : VW X pc ls (mI i :: mA q :: st) h := by
  obtain ⟨p, l, e, R, s, m, args, below, meth, c, al, tc, D, A, Z, rc, rs⟩ := X
  obtain ⟨hx, hb, hml, hr, hown, hts, hlk, hK, hA, hfr, hlo, hne⟩ := hX
  obtain ⟨hdg, rfl⟩ := hd
  intro H locs la cells slots hP hD hS hl h1 h2
  have hn := ha.len
  have e := oi_clamp hi.1 (by omega)
  have hc : (WS al tc h)[q]? = some (al q, _) := cell_1 (al := al) (tc := tc) (h := h) ha ▸ ha.cell
  refine va_zald hx hb hK hP q 1 hc TY_1 (oi_in hi.1 hi.2 hn) hdg ?_
  rw [e]
  exact k H locs la cells slots hP hD hS hl h1 h2
theorem v_lald (hX : Cx d M X) {q n : Nat} {i : Int} (hd : Dc M pc (.laload) 1 nx) (ha : AR q 2 n) (hi : 0 ≤ i ∧ i < n) (k : VW X nx ls (mL (h q i.toNat) :: st) h) : VW X pc ls (mI i :: mA q :: st) h := by
  obtain ⟨p, l, e, R, s, m, args, below, meth, c, al, tc, D, A, Z, rc, rs⟩ := X
  obtain ⟨hx, hb, hml, hr, hown, hts, hlk, hK, hA, hfr, hlo, hne⟩ := hX
  obtain ⟨hdg, rfl⟩ := hd
  intro H locs la cells slots hP hD hS hl h1 h2
  have hn := ha.len
  have e := oi_clamp hi.1 (by omega)
  have hc : (WS al tc h)[q]? = some (al q, _) := cell_2 (al := al) (tc := tc) (h := h) ha ▸ ha.cell
  refine va_lald hx hb hK hP q 2 hc TY_2 (oi_in hi.1 hi.2 hn) hdg ?_
  rw [e]
  exact k H locs la cells slots hP hD hS hl h1 h2
theorem v_iast (hX : Cx d M X) {q n : Nat} {i v : Int} (hd : Dc M pc (.iastore) 1 nx) (ha : AR q 0 n) (hi : 0 ≤ i ∧ i < n) (k : VW X nx ls st (up h q i.toNat v)) : VW X pc ls (mI v :: mI i :: mA q :: st) h := by
  obtain ⟨p, l, e, R, s, m, args, below, meth, c, al, tc, D, A, Z, rc, rs⟩ := X
  obtain ⟨hx, hb, hml, hr, hown, hts, hlk, hK, hA, hfr, hlo, hne⟩ := hX
  obtain ⟨hdg, rfl⟩ := hd
  intro H locs la cells slots hP hD hS hl h1 h2
  have hn := ha.len
  have e := oi_clamp hi.1 (by omega)
  have hc : (WS al tc h)[q]? = some (al q, _) := cell_0 (al := al) (tc := tc) (h := h) ha ▸ ha.cell
  refine va_iast hx hb hK hP hD hS q 0 hc TY_0 (oi_in hi.1 hi.2 hn) hdg (fun H1 locs1 hP1 hD1 hS1 => ?_)
  have e2 : (Sum.inl (tc 0, n, Sum.inl (upd (fun j => Int32.ofInt (h q j)) i.toNat (Int32.ofInt v))) : va_E) = cellE al tc (up h q i.toNat v) q := by
    rw [cell_0 ha]
    refine congrArg (fun f => (Sum.inl (tc 0, n, Sum.inl f) : va_E)) (funext fun j => ?_)
    simp only [upd, up]
    by_cases hj : j = i.toNat <;> simp [hj]
  rw [e, WS_set _ e2] at hP1 hD1
  exact k H1 locs1 la cells slots hP1 hD1 hS1 hl h1 h2
theorem v_zast (hX : Cx d M X) {q n : Nat} {i v : Int} (hd : Dc M pc (.bastore) 1 nx) (ha : AR q 1 n) (hi : 0 ≤ i ∧ i < n) (hv : v = 0 ∨ v = 1) (k : VW X nx ls st (up h q i.toNat v)) : VW X pc ls (mI v :: mI i :: mA q :: st) h := by
  obtain ⟨p, l, e, R, s, m, args, below, meth, c, al, tc, D, A, Z, rc, rs⟩ := X
  obtain ⟨hx, hb, hml, hr, hown, hts, hlk, hK, hA, hfr, hlo, hne⟩ := hX
  obtain ⟨hdg, rfl⟩ := hd
  intro H locs la cells slots hP hD hS hl h1 h2
  have hn := ha.len
  have e := oi_clamp hi.1 (by omega)
  have hc : (WS al tc h)[q]? = some (al q, _) := cell_1 (al := al) (tc := tc) (h := h) ha ▸ ha.cell
  refine va_zast hx hb hK hP hD hS q 1 hc TY_1 (oi_in hi.1 hi.2 hn) hdg (fun H1 locs1 hP1 hD1 hS1 => ?_)
  have e3 : vp_nar .boolean (Int32.ofInt v) = Int32.ofInt v := by rcases hv with rfl | rfl <;> decide
  rw [e3] at hP1 hD1
  have e2 : (Sum.inl (tc 1, n, Sum.inl (upd (fun j => Int32.ofInt (h q j)) i.toNat (Int32.ofInt v))) : va_E) = cellE al tc (up h q i.toNat v) q := by
    rw [cell_1 ha]
    refine congrArg (fun f => (Sum.inl (tc 1, n, Sum.inl f) : va_E)) (funext fun j => ?_)
    simp only [upd, up]
    by_cases hj : j = i.toNat <;> simp [hj]
  rw [e, WS_set _ e2] at hP1 hD1
  exact k H1 locs1 la cells slots hP1 hD1 hS1 hl h1 h2
theorem v_last (hX : Cx d M X) {q n : Nat} {i v : Int} (hd : Dc M pc (.lastore) 1 nx) (ha : AR q 2 n) (hi : 0 ≤ i ∧ i < n) (k : VW X nx ls st (up h q i.toNat v)) : VW X pc ls (mL v :: mI i :: mA q :: st) h := by
  obtain ⟨p, l, e, R, s, m, args, below, meth, c, al, tc, D, A, Z, rc, rs⟩ := X
  obtain ⟨hx, hb, hml, hr, hown, hts, hlk, hK, hA, hfr, hlo, hne⟩ := hX
  obtain ⟨hdg, rfl⟩ := hd
  intro H locs la cells slots hP hD hS hl h1 h2
  have hn := ha.len
  have e := oi_clamp hi.1 (by omega)
  have hc : (WS al tc h)[q]? = some (al q, _) := cell_2 (al := al) (tc := tc) (h := h) ha ▸ ha.cell
  refine va_last hx hb hK hP hD hS q 2 hc TY_2 (oi_in hi.1 hi.2 hn) hdg (fun H1 locs1 hP1 hD1 hS1 => ?_)
  have e2 : (Sum.inl (tc 2, n, Sum.inr (Sum.inl (vp_updL (fun j => Int64.ofInt (h q j)) i.toNat (Int64.ofInt v)))) : va_E) = cellE al tc (up h q i.toNat v) q := by
    rw [cell_2 ha]
    refine congrArg (fun f => (Sum.inl (tc 2, n, Sum.inr (Sum.inl f)) : va_E)) (funext fun j => ?_)
    simp only [vp_updL, up]
    by_cases hj : j = i.toNat <;> simp [hj]
  rw [e, WS_set _ e2] at hP1 hD1
  exact k H1 locs1 la cells slots hP1 hD1 hS1 hl h1 h2
theorem v_aaldP (hX : Cx d M X) {q n r : Nat} {i : Int} (hd : Dc M pc (.aaload) 1 nx) (ha : AR q 3 n) (hi : 0 ≤ i ∧ i < n) (hr2 : RF q i.toNat = some r) (k : VW X nx ls (mA r :: st) h) : VW X pc ls (mI i :: mA q :: st) h := by
  obtain ⟨p, l, e, R, s, m, args, below, meth, c, al, tc, D, A, Z, rc, rs⟩ := X
  obtain ⟨hx, hb, hml, hr, hown, hts, hlk, hK, hA, hfr, hlo, hne⟩ := hX
  obtain ⟨hdg, rfl⟩ := hd
  intro H locs la cells slots hP hD hS hl h1 h2
  have hn := ha.len
  have e := oi_clamp hi.1 (by omega)
  have hc : (WS al tc h)[q]? = some (al q, _) := cell_3 (al := al) (tc := tc) (h := h) ha ▸ ha.cell
  refine va_aldq (C := "WishSharer$Pupil") hx hb hK hP q 3 hc rfl (oi_in hi.1 hi.2 hn) hdg ?_
  rw [e, hr2]
  exact k H locs la cells slots hP hD hS hl h1 h2
theorem v_aaldQ (hX : Cx d M X) {q n r : Nat} {i : Int} (hd : Dc M pc (.aaload) 1 nx) (ha : AR q 4 n) (hi : 0 ≤ i ∧ i < n) (hr2 : RF q i.toNat = some r) (k : VW X nx ls (mA r :: st) h) : VW X pc ls (mI i :: mA q :: st) h := by
  obtain ⟨p, l, e, R, s, m, args, below, meth, c, al, tc, D, A, Z, rc, rs⟩ := X
  obtain ⟨hx, hb, hml, hr, hown, hts, hlk, hK, hA, hfr, hlo, hne⟩ := hX
  obtain ⟨hdg, rfl⟩ := hd
  intro H locs la cells slots hP hD hS hl h1 h2
  have hn := ha.len
  have e := oi_clamp hi.1 (by omega)
  have hc : (WS al tc h)[q]? = some (al q, _) := cell_4 (al := al) (tc := tc) (h := h) ha ▸ ha.cell
  refine va_aldq (C := "WishSharer$Project") hx hb hK hP q 4 hc rfl (oi_in hi.1 hi.2 hn) hdg ?_
  rw [e, hr2]
  exact k H locs la cells slots hP hD hS hl h1 h2
theorem v_alen (hX : Cx d M X) {q t n : Nat} (hd : Dc M pc (.arraylength) 1 nx) (ha : AR q t n) (k : VW X nx ls (mI n :: st) h) : VW X pc ls (mA q :: st) h := by
  obtain ⟨p, l, e, R, s, m, args, below, meth, c, al, tc, D, A, Z, rc, rs⟩ := X
  obtain ⟨hx, hb, hml, hr, hown, hts, hlk, hK, hA, hfr, hlo, hne⟩ := hX
  obtain ⟨hdg, rfl⟩ := hd
  intro H locs la cells slots hP hD hS hl h1 h2
  have ht := (SH_len q ha.1 t n ha.2).2
  have hc : ∃ (x : vp_A) (ty : FieldType), (WS al tc h)[q]? = some (al q, .inl (tc t, x)) ∧ (TY tc)[t]? = some (tc t, ty) ∧ x.1 = n := by
    rw [WS_get ha.1]
    simp only [cellE, ha.2]
    match t, ht with
    | 0, _ => exact ⟨_, _, rfl, rfl, rfl⟩
    | 1, _ => exact ⟨_, _, rfl, rfl, rfl⟩
    | 2, _ => exact ⟨_, _, rfl, rfl, rfl⟩
    | 3, _ => exact ⟨_, _, rfl, rfl, rfl⟩
    | 4, _ => exact ⟨_, _, rfl, rfl, rfl⟩
  obtain ⟨x, ty, hc, hty, hx1⟩ := hc
  refine va_alen hx hb hK hP q t hc hty (v := Int32.ofInt n) (by rw [hx1]; rfl) hdg (k H locs la cells slots hP hD hS hl h1 h2)
theorem v_ireturn (hX : Cx d M X) {Q : Option MV → Hp → Prop} {a : Int} (hR : Rt Q X) (hd : Dc M pc (.ireturn) 1 nx) (ht : M.2.2.2.1 = some .int) (hq : Q (some (mI a)) h) : VW X pc ls [mI a] h := by
  obtain ⟨p, l, e, R, s, m, args, below, meth, c, al, tc, D, A, Z, rc, rs⟩ := X
  obtain ⟨hx, hb, hml, hr, hown, hts, hlk, hK, hA, hfr, hlo, hne⟩ := hX
  obtain ⟨hdg, rfl⟩ := hd
  intro H locs la cells slots hP hD hS hl h1 h2
  subst hR
  refine W.widen (k := R.cells) (n := R.slots) (by omega) (by omega) ?_
  exact W.iret (v := Int32.ofInt a) hx hb (hr.trans ht) (fun t ht2 hW => ⟨⟨(some (mI a)), h, rfl, hq, by rw [ht2]; exact hP, va_K.moved hW.alike hK, hD⟩, hS.F ht2⟩) hS.2.2 hdg hlk
theorem v_zreturn (hX : Cx d M X) {Q : Option MV → Hp → Prop} {a : Int} (hR : Rt Q X) (hd : Dc M pc (.ireturn) 1 nx) (ht : M.2.2.2.1 = some .boolean) (hv : a = 0 ∨ a = 1) (hq : Q (some (mI a)) h) : VW X pc ls [mI a] h := by
  obtain ⟨p, l, e, R, s, m, args, below, meth, c, al, tc, D, A, Z, rc, rs⟩ := X
  obtain ⟨hx, hb, hml, hr, hown, hts, hlk, hK, hA, hfr, hlo, hne⟩ := hX
  obtain ⟨hdg, rfl⟩ := hd
  intro H locs la cells slots hP hD hS hl h1 h2
  subst hR
  refine W.widen (k := R.cells) (n := R.slots) (by omega) (by omega) ?_
  exact W.zret (v := Int32.ofInt a) (ty := .boolean) hx hb (hr.trans ht) (by rcases hv with rfl | rfl <;> decide) (fun t ht2 hW => ⟨⟨(some (mI a)), h, rfl, hq, by rw [ht2]; exact hP, va_K.moved hW.alike hK, hD⟩, hS.F ht2⟩) hS.2.2 hdg hlk
theorem v_lreturn (hX : Cx d M X) {Q : Option MV → Hp → Prop} {a : Int} (hR : Rt Q X) (hd : Dc M pc (.lreturn) 1 nx) (ht : M.2.2.2.1 = some .long) (hq : Q (some (mL a)) h) : VW X pc ls [mL a] h := by
  obtain ⟨p, l, e, R, s, m, args, below, meth, c, al, tc, D, A, Z, rc, rs⟩ := X
  obtain ⟨hx, hb, hml, hr, hown, hts, hlk, hK, hA, hfr, hlo, hne⟩ := hX
  obtain ⟨hdg, rfl⟩ := hd
  intro H locs la cells slots hP hD hS hl h1 h2
  subst hR
  refine W.widen (k := R.cells) (n := R.slots) (by omega) (by omega) ?_
  exact W.lret (v := Int64.ofInt a) hx hb (hr.trans ht) (fun t ht2 hW => ⟨⟨(some (mL a)), h, rfl, hq, by rw [ht2]; exact hP, va_K.moved hW.alike hK, hD⟩, hS.F ht2⟩) hS.2.2 hdg hlk
theorem v_return (hX : Cx d M X) {Q : Option MV → Hp → Prop} (hR : Rt Q X) (hd : Dc M pc (.return_) 1 nx) (ht : M.2.2.2.1 = none) (hq : Q none h) : VW X pc ls [] h := by
  obtain ⟨p, l, e, R, s, m, args, below, meth, c, al, tc, D, A, Z, rc, rs⟩ := X
  obtain ⟨hx, hb, hml, hr, hown, hts, hlk, hK, hA, hfr, hlo, hne⟩ := hX
  obtain ⟨hdg, rfl⟩ := hd
  intro H locs la cells slots hP hD hS hl h1 h2
  subst hR
  refine W.widen (k := R.cells) (n := R.slots) (by omega) (by omega) ?_
  exact W.vret hx hb (hr.trans ht) (fun t ht2 hW => ⟨⟨none, h, rfl, hq, by rw [ht2]; exact hP, va_K.moved hW.alike hK, hD⟩, hS.F ht2⟩) hS.2.2 hdg hlk
theorem v_areturn (hX : Cx d M X) {Q : Option MV → Hp → Prop} {a : Nat} {C : String} (hR : Rt Q X) (hd : Dc M pc (.areturn) 1 nx) (ht : M.2.2.2.1 = some (.object C)) (hq : Q (some (mA a)) h) : VW X pc ls [mA a] h := by
  obtain ⟨p, l, e, R, s, m, args, below, meth, c, al, tc, D, A, Z, rc, rs⟩ := X
  obtain ⟨hx, hb, hml, hr, hown, hts, hlk, hK, hA, hfr, hlo, hne⟩ := hX
  obtain ⟨hdg, rfl⟩ := hd
  intro H locs la cells slots hP hD hS hl h1 h2
  subst hR
  refine W.widen (k := R.cells) (n := R.slots) (by omega) (by omega) ?_
  exact W.aret (v := .ref (al a)) hx hb (hr.trans ht) (Or.inl ⟨C, rfl⟩) (Or.inr ⟨_, rfl⟩) (fun t ht2 hW => ⟨⟨(some (mA a)), h, rfl, hq, by rw [ht2]; exact hP, va_K.moved hW.alike hK, hD⟩, hS.F ht2⟩) hS.2.2 hdg hlk
theorem v_areturnN (hX : Cx d M X) {Q : Option MV → Hp → Prop} {C : String} (hR : Rt Q X) (hd : Dc M pc (.areturn) 1 nx) (ht : M.2.2.2.1 = some (.object C)) (hq : Q (some mN) h) : VW X pc ls [mN] h := by
  obtain ⟨p, l, e, R, s, m, args, below, meth, c, al, tc, D, A, Z, rc, rs⟩ := X
  obtain ⟨hx, hb, hml, hr, hown, hts, hlk, hK, hA, hfr, hlo, hne⟩ := hX
  obtain ⟨hdg, rfl⟩ := hd
  intro H locs la cells slots hP hD hS hl h1 h2
  subst hR
  refine W.widen (k := R.cells) (n := R.slots) (by omega) (by omega) ?_
  exact W.aret (v := .null) hx hb (hr.trans ht) (Or.inl ⟨C, rfl⟩) (Or.inl rfl) (fun t ht2 hW => ⟨⟨(some mN), h, rfl, hq, by rw [ht2]; exact hP, va_K.moved hW.alike hK, hD⟩, hS.F ht2⟩) hS.2.2 hdg hlk
end VHEAP
end
section
section VCALLS
/-! a method's words: its own code, and all of TB -/
def wsM (M : MT) : List Cond := Cond.code M.1 M.2.1 M.2.2.1 M.2.2.2.1 :: TB
def rmd (d : Nat) : Room := { frames := d, cells := 0, slots := 0, locals := 64 * d + 20 }
def PB (al : Nat → Nat) (tc : Nat → ClassId) (D : va_G) (h : Hp) (sz : Nat) : State → Prop := fun U => U.heap.size = sz ∧ va_P D vwCl (WS al tc h) U.heap ∧ va_K D vwCl (TY tc) U ∧ va_D (fun _ => True) (WS al tc h) ∧ NEST U
theorem wsM_in {M : MT} (hM : MOK M) : ∀ w ∈ wsM M, w ∈ TB := fun w hw => (List.mem_cons.mp hw).elim (fun e => e ▸ hM.2.1) id
theorem wsM_good {M : MT} (hM : MOK M) : GoodIn TB (wsM M) := fun w hw => ⟨wsM_in hM w hw, good_of_word (tb_good w (wsM_in hM w hw))⟩
theorem good_app {ws : List Cond} {M : MT} (hM : MOK M) (h : ∀ w ∈ ws, w ∈ TB) : GoodIn TB (ws ++ wsM M) := fun w hw => (List.mem_append.mp hw).elim (fun q => ⟨h w q, good_of_word (tb_good w (h w q))⟩) (wsM_good hM w)
theorem conc_map_cons {al : Nat → Nat} {v : MV} {st : List MV} : (v :: st).map (conc al) = conc al v :: st.map (conc al) := rfl
/-- the locals at the entry -/
theorem entL_ok (al : Nat → Nat) : ∀ (as : List MV) (n i : Nat) (o : Nat) (v : MV), (entL as n)[i]? = some (some v) → (i + o, conc al v) ∈ lv_args o (as.map (conc al))
  | [], n, i, o, v, h => by
    simp only [entL, List.getElem?_replicate] at h
    split at h <;> simp at h
  | .inl (.inr z) :: as, n + 2, i, o, v, h => by
    simp only [entL] at h
    rw [conc_map_cons, lv_args]
    match i with
    | 0 =>
      simp at h
      subst h
      rw [Nat.zero_add]
      exact List.mem_cons_self
    | 1 => simp at h
    | i + 2 =>
      simp only [List.getElem?_cons_succ] at h
      have := entL_ok al as n i (o + 2) v h
      rw [if_pos (by rfl), show i + 2 + o = i + (o + 2) by omega]
      exact List.mem_cons_of_mem _ this
  | .inl (.inl z) :: as, n + 1, i, o, v, h => by
    simp only [entL] at h
    rw [conc_map_cons, lv_args]
    match i with
    | 0 =>
      simp at h
      subst h
      rw [Nat.zero_add]
      exact List.mem_cons_self
    | i + 1 =>
      simp only [List.getElem?_cons_succ] at h
      have := entL_ok al as n i (o + 1) v h
      rw [if_neg (fun q => by cases q), show i + 1 + o = i + (o + 1) by omega]
      exact List.mem_cons_of_mem _ this
  | .inr r :: as, n + 1, i, o, v, h => by
    simp only [entL] at h
    rw [conc_map_cons, lv_args]
    have hc : ¬ (conc al (.inr r)).category = 2 := by cases r <;> exact (fun q => by cases q)
    match i with
    | 0 =>
      simp at h
      subst h
      rw [Nat.zero_add]
      exact List.mem_cons_self
    | i + 1 =>
      simp only [List.getElem?_cons_succ] at h
      have := entL_ok al as n i (o + 1) v h
      rw [if_neg hc, show i + 1 + o = i + (o + 1) by omega]
      exact List.mem_cons_of_mem _ this
  | .inl (.inr z) :: as, 0, i, o, v, h => by simp [entL] at h
  | .inl (.inr z) :: as, 1, i, o, v, h => by simp [entL] at h
  | .inl (.inl z) :: as, 0, i, o, v, h => by simp [entL] at h
  | .inr r :: as, 0, i, o, v, h => by simp [entL] at h
theorem sl_len (al : Nat → Nat) : ∀ (as : List MV), (lg_sl (as.map (conc al))).length = (as.map mcat).sum
  | [] => rfl
  | v :: as => by
    have ih := sl_len al as
    simp only [lg_sl, List.map_cons, List.flatMap_cons, List.length_append, List.sum_cons] at ih ⊢
    rw [ih, conc_cat]
    rcases v with (z | z) | r <;> rfl
theorem metOf {d : Nat} {M : MT} {as : List MV} {h : Hp} {Q : Option MV → Hp → Prop} (hc : Ct d M as h Q) (hM : MOK M) (hn : (as.map mcat).sum ≤ M.2.2.1) (l : Launch) (al : Nat → Nat) (tc : Nat → ClassId) (D : va_G) (sz : Nat) :
    Met l M.1 (wsM M) (rmd d) (va_Pc (as.map (conc al)) (PB al tc D h sz)) (QV al tc D (va_A (WS al tc h) sz) Q) 0 0 (va_A (WS al tc h) sz) := by
  refine Met.ofW (cc := M.2.1) (maxL := M.2.2.1) (ret := M.2.2.2.1) hM.1 rfl ?_
  intro p e s m args below meth c s₁ B hml hv
  obtain ⟨rfl, hsz, hP, hK, hD0, hne⟩ := hv
  have hts0 := atoms_spec (ws := wsM M) B.pre
  subst hsz
  have hD := hD0.self (sz := s.heap.size)
  rw [lg_entry_eq]
  have hl := lv_entry (as.map (conc al)) (n := M.2.2.1) (by rw [sl_len]; exact hn)
  have hcx : Cx d M (p, l, e, rmd d, s, m, (as.map (conc al)).toArray, below, meth, c, al, tc, D, va_A (WS al tc h) s.heap.size, MQ below (QV al tc D (va_A (WS al tc h) s.heap.size) Q) (as.map (conc al)).toArray s 0 0 (va_A (WS al tc h) s.heap.size), 0, 0) :=
    ⟨B.exec, B.bytes, hml, B.returns, findClass_of_methodNamed B.named, fun w hw => hts0 w (List.mem_cons_of_mem _ hw), B.notSynchronized, hK, fun q hq => Or.inr hq, Nat.le_refl _, Nat.le_refl _, hne⟩
  have hrt : Rt Q (p, l, e, rmd d, s, m, (as.map (conc al)).toArray, below, meth, c, al, tc, D, va_A (WS al tc h) s.heap.size, MQ below (QV al tc D (va_A (WS al tc h) s.heap.size) Q) (as.map (conc al)).toArray s 0 0 (va_A (WS al tc h) s.heap.size), 0, 0) := rfl
  exact hc _ hcx hrt s.heap [] _ 0 0 hP hD va_S.rf ⟨by rw [hml]; exact hl.1, hl.2.1, fun i v hi => by
    have := hl.2.2 _ (entL_ok al as M.2.2.1 i 0 v hi)
    simpa using this⟩ (Nat.le_refl _) (Nat.le_refl _)
theorem PB_blind {as : List Value} {al : Nat → Nat} {tc : Nat → ClassId} {D : va_G} {h : Hp} {sz : Nat} : FrameBlind (va_Pc as (PB al tc D h sz)) :=
  fun a U g mk q => by
    obtain ⟨q0, q1, qP, qK, qD, qN⟩ := q
    exact ⟨q0, q1, qP, va_K.moved (u := U) (U := U.calling g mk a) (Vm.Alike.refl U.vm) qK, qD, va_Nw.same (by rfl) rfl qN⟩
theorem va_callQ {p : Program} {l : Launch} {e : Env} {R : Room} {s : State} {m : MethodId} {args : Array Value} {below : List Frame} {meth : Method} {c : Code} {H : Heap} {locs : List Loc} {cells slots : Nat} {Z : State → Prop} {pc : Nat} {ls : Array Slot} {rest st0 : List Value} {a : Array Value} {A0 A1 : Nat → Prop} {H0 : Heap}
    {al : Nat → Nat} {tc : Nat → ClassId} {D : va_G} {Q : Option MV → Hp → Prop}
    (hr : va_Run p l e R s m args below meth c H locs cells slots 0 0 (F0 m pc ls st0) rest (QV al tc D A1 Q a) A1) (hS : va_S A0 H0 H locs) (hA : ∀ q, A1 q → A0 q)
    (kk : ∀ (r : Option MV) (h : Hp) (H1 : Heap) (locs1 : List Loc), Q r h → va_P D vwCl (WS al tc h) H1 → va_D A0 (WS al tc h) → va_S A0 H0 H1 locs1 → W p l e R s m args below meth c H1 locs1 cells slots Z (F0 m (pc + 3) ls ((r.map (conc al)).toList ++ rest))) : W p l e R s m args below meth c H locs cells slots Z (F0 m pc ls st0) := by
  intro T hT X
  obtain ⟨v, st₀, t, T', L, h0, X', hL, e1, e2, ⟨⟨r, h, hv, hq, hP, hK, hD⟩, hz, hk⟩, st⟩ := hr T hT X
  cases hv
  rw [h0] at hz hk
  obtain ⟨t2, a1, b1⟩ := kk r h T'.heap (locs ++ L) hq (by rw [e1]; exact hP) (hD.weaken (fun _ _ _ q => hA _ q))
    ⟨Nat.le_trans hS.1 (by rw [e1]; exact hz), fun q h1 h2 => by rw [e1, hk q (Nat.lt_of_lt_of_le h1 hS.1) (fun z => h2 (hA q z))]; exact hS.2.1 q h1 h2, fun q hq => by
      rcases List.mem_append.mp hq with h | h
      · exact hS.2.2 q h
      · exact hA _ (hL q h)⟩ T' rfl X'
  exact ⟨t2, st t2 a1, b1⟩
variable {d : Nat} {M M' : MT} {X : CT} {pc nx : Nat} {ls : List (Option MV)} {st as : List MV} {h : Hp} {Q : Option MV → Hp → Prop}
theorem st_room {al : Nat → Nat} {st : List MV} (h : (st.map mcat).sum ≤ 8) : ((st.map (conc al)).map fun v => v.category).sum ≤ 8 := by
  rw [List.map_map, show (Value.category ∘ conc al) = mcat from funext (conc_cat al)]
  exact h
theorem wfree {al : Nat → Nat} {tc : Nat → ClassId} {h : Hp} {A : Nat → Prop} {H0 H : Heap} {locs : List Loc} (hD : va_D A (WS al tc h)) (hS : va_S A H0 H locs) (hA : ∀ q, H0.size ≤ q → A q) : ∀ q, va_A (WS al tc h) H.size q → A q := by
  intro q hq
  rcases hq with ⟨k, e, hk⟩ | hq
  · exact hD.2 k _ hk
  · exact hA q (Nat.le_trans hS.1 hq)
theorem v_callV (hX : Cx (d + 1) M X) {idx q ci : Nat} (hd : Dc M pc (.invokevirtual idx) 3 nx) (hl : LVk M.1.cls idx M') (hM : MOK M') (ho : OB q ci) (hC : (vwCl[ci]?).map (fun x => x.1) = some M'.1.cls) (hn : as.length = M'.2.2.2.2 ∧ ((mA q :: as).map mcat).sum ≤ M'.2.2.1) (hst : (st.map mcat).sum ≤ 8)
    (hc : Ct d M' (mA q :: as) h Q) {stk : List MV} (hs : stk = as.reverse ++ mA q :: st) (kk : ∀ r g, Q r g → VW X nx ls (r.toList ++ st) g) : VW X pc ls stk h := by
  subst hs
  obtain ⟨p, l, e, R, s, m, args, below, meth, c, al, tc, D, A, Z, rc, rs⟩ := X
  obtain ⟨hx, hb, hml, hr, hown, hts, hlk, hK, hA, hfr, hlo, hne⟩ := hX
  obtain ⟨hdg, rfl⟩ := hd
  intro H locs la cells slots hP hD hS hlh h1 h2
  obtain ⟨hl1, hl2, hl3, hl4⟩ := hl
  obtain ⟨hM1, hM2, hM3, hM4, hM5, hM6⟩ := id hM
  obtain ⟨C, hC1, hC2⟩ := Option.map_eq_some_iff.mp hC
  have hF := wfree hD hS hA
  refine va_callQ (A1 := va_A (WS al tc h) H.size) (va_runV (As := as.map (conc al)) (rest := st.map (conc al)) (b := al q) (C := M'.1.cls) (ws := wsM M') (rm := rmd d) (n := M'.2.2.2.2) ⟨hx, hb, hml, hown, hts⟩ (metOf hc hM hn.2 l al tc D H.size)
    (cwV M'.2.2.2.2 hts (good_app hM (fun w hw => by
      simp only [List.mem_cons, List.not_mem_nil, or_false] at hw
      rcases hw with rfl | rfl | rfl | rfl
      · exact hl1
      · exact hl2
      · exact hl3
      · exact hl4)) rfl rfl rfl ⟨rfl, hM4, hM5, hM6⟩ ⟨hfr, by show 8 + (M'.2.2.1 + 11) + (64 * d + 20) ≤ R.locals; omega⟩)
    ⟨PB_blind, by rw [← hC2]; exact va_recv hK hP hC1 ho.cell, fun U hU hW => ⟨rfl, by rw [hU], by rw [hU]; exact hP, va_K.moved hW.alike hK, hD.weaken (fun _ _ _ _ => trivial), va_Nw.warmM hW hne⟩⟩ rfl (by simp [hn.1]) (hlh.1.trans hml) (by simp [F0, List.map_append, List.map_reverse, conc]) (lv_room (st_room hst)) hdg ⟨by omega, by omega⟩) hS hF
    (fun r g H1 locs1 hq hP1 hD1 hS1 => ?_)
  have := kk r g hq H1 locs1 la cells slots hP1 hD1 hS1 hlh h1 h2
  rw [List.map_append] at this
  cases r <;> exact this
theorem v_callS (hX : Cx (d + 1) M X) {idx : Nat} (hd : Dc M pc (.invokestatic idx) 3 nx) (hl : LSk M.1.cls idx M') (hM : MOK M') (hn : as.length = M'.2.2.2.2 ∧ (as.map mcat).sum ≤ M'.2.2.1) (hst : (st.map mcat).sum ≤ 8)
    (hc : Ct d M' as h Q) {stk : List MV} (hs : stk = as.reverse ++ st) (kk : ∀ r g, Q r g → VW X nx ls (r.toList ++ st) g) : VW X pc ls stk h := by
  subst hs
  obtain ⟨p, l, e, R, s, m, args, below, meth, c, al, tc, D, A, Z, rc, rs⟩ := X
  obtain ⟨hx, hb, hml, hr, hown, hts, hlk, hK, hA, hfr, hlo, hne⟩ := hX
  obtain ⟨hdg, rfl⟩ := hd
  intro H locs la cells slots hP hD hS hlh h1 h2
  obtain ⟨hl1, hl2, hl3⟩ := hl
  obtain ⟨hM1, hM2, hM3, hM4, hM5, hM6⟩ := id hM
  have hF := wfree hD hS hA
  refine va_callQ (A1 := va_A (WS al tc h) H.size) (va_runS (As := as.map (conc al)) (rest := st.map (conc al)) (ws := wsM M') (rm := rmd d) (n := M'.2.2.2.2) ⟨hx, hb, hml, hown, hts⟩ (metOf hc hM hn.2 l al tc D H.size)
    (va_cwS M'.2.2.2.2 hts (good_app hM (fun w hw => by
      simp only [List.mem_cons, List.not_mem_nil, or_false] at hw
      rcases hw with rfl | rfl | rfl
      · exact hl1
      · exact hl2
      · exact hl3)) rfl rfl rfl ⟨hM4, hM5, hM6⟩ ⟨hfr, by show 8 + (M'.2.2.1 + 11) + (64 * d + 20) ≤ R.locals; omega⟩)
    ⟨PB_blind, fun U hU hW => ⟨rfl, by rw [hU], by rw [hU]; exact hP, va_K.moved hW.alike hK, hD.weaken (fun _ _ _ _ => trivial), va_Nw.warmM hW hne⟩⟩ rfl (by simp [hn.1]) (hlh.1.trans hml) (by simp [F0, List.map_append, List.map_reverse]) (lv_room (st_room hst)) hdg ⟨by omega, by omega⟩) hS hF
    (fun r g H1 locs1 hq hP1 hD1 hS1 => ?_)
  have := kk r g hq H1 locs1 la cells slots hP1 hD1 hS1 hlh h1 h2
  rw [List.map_append] at this
  cases r <;> exact this
/-- the nest mate's static method exchangePlaces, called by Roll -/
theorem v_callN (hX : Cx (d + 1) M X) (hown4 : M.1.cls = RX4) (hd : Dc M pc (.invokestatic 77) 3 nx) (hst9 : Cond.static yX7_exchangePlaces ∈ TB) (hin9 : Cond.initialized RX7 ∈ TB) (hM : MOK MX7_exchangePlaces) (hn : as.length = 3 ∧ (as.map mcat).sum ≤ 4) (hst : (st.map mcat).sum ≤ 8)
    (hc : Ct d MX7_exchangePlaces as h Q) {stk : List MV} (hs : stk = as.reverse ++ st) (kk : ∀ r g, Q r g → VW X nx ls (r.toList ++ st) g) : VW X pc ls stk h := by
  subst hs
  obtain ⟨p, l, e, R, s, m, args, below, meth, c, al, tc, D, A, Z, rc, rs⟩ := X
  obtain ⟨hx, hb, hml, hr, hown, hts, hlk, hK, hA, hfr, hlo, hne⟩ := hX
  obtain ⟨hdg, rfl⟩ := hd
  intro H locs la cells slots hP hD hS hlh h1 h2
  obtain ⟨hM1, hM2, hM3, hM4, hM5, hM6⟩ := id hM
  rw [hown4] at hown
  have hF := wfree hD hS hA
  refine va_callQ (A1 := va_A (WS al tc h) H.size) (va_runSN (As := as.map (conc al)) (rest := st.map (conc al)) (ws := wsM MX7_exchangePlaces) (rm := rmd d) (n := 3) (host := RX7) ⟨hx, hb, hml, hown, hts⟩ (metOf hc hM hn.2 l al tc D H.size)
    ⟨va_cnB 3 hts (wsM_good hM) rfl rfl rfl hne (hts _ hin9) ⟨hM4, hM5, hM6⟩ ⟨hfr, by show 8 + (4 + 11) + (64 * d + 20) ≤ R.locals; omega⟩, hts _ hst9, trivial⟩
    ⟨PB_blind, fun U hU hW => ⟨rfl, by rw [hU], by rw [hU]; exact hP, va_K.moved hW.alike hK, hD.weaken (fun _ _ _ _ => trivial), va_Nw.warmM hW hne⟩⟩ rfl (by simp [hn.1]) (hlh.1.trans hml) (by simp [F0, List.map_append, List.map_reverse]) (lv_room (st_room hst)) hdg ⟨by omega, by omega⟩) hS hF
    (fun r g H1 locs1 hq hP1 hD1 hS1 => ?_)
  have := kk r g hq H1 locs1 la cells slots hP1 hD1 hS1 hlh h1 h2
  rw [List.map_append] at this
  cases r <;> exact this
end VCALLS
end
section
theorem lN_st : Cond.static yX7_exchangePlaces ∈ TB := tbm 364 (by decide +kernel) (by decide +kernel)
theorem lA_X6_130 : Cond.methodLink RX6 130 arraycopyName ∈ TB := tbm 501 (by decide +kernel) (by decide +kernel)
theorem lA_st : Cond.static arraycopyName ∈ TB := tbm 502 (by decide +kernel) (by decide +kernel)
theorem lA_nat : Cond.native arraycopyName ∈ TB := tbm 503 (by decide +kernel) (by decide +kernel)
theorem lA_X7_234 : Cond.methodLink RX7 234 arraycopyName ∈ TB := tbm 634 (by decide +kernel) (by decide +kernel)
theorem lX_X8_247 : Cond.methodLink RX8 247 Lib.Math.max.name ∈ TB := tbm 1078 (by decide +kernel) (by decide +kernel)
theorem lX_st : Cond.static Lib.Math.max.name ∈ TB := tbm 1079 (by decide +kernel) (by decide +kernel)
theorem lX_code : Cond.code Lib.Math.max.name Lib.Math.max.code 2 (some .int) ∈ TB := tbm 1080 (by decide +kernel) (by decide +kernel)
theorem lA_in : Cond.initialized "java/lang/System" ∈ TB := tbm 64 (by decide +kernel) (by decide +kernel)
theorem lX_in : Cond.initialized "java/lang/Math" ∈ TB := tbm 65 (by decide +kernel) (by decide +kernel)
theorem lN_in : Cond.initialized RX7 ∈ TB := tbm 50 (by decide +kernel) (by decide +kernel)
end
section
section VSTATE
variable {d : Nat} {M M' : MT} {X : CT} {pc nx : Nat} {ls : List (Option MV)} {st as : List MV} {h h' : Hp} {Q : Option MV → Hp → Prop}
/-- a method as a function: its answer, and the numbers behind it -/
def Fn (d : Nat) (M : MT) (as : List MV) (h : Hp) (r : Option MV) (h' : Hp) : Prop := ∀ Q, Q r h' → Ct d M as h Q
/-- a method as a relation -/
def Fr (d : Nat) (M : MT) (as : List MV) (h : Hp) (P : Option MV → Hp → Prop) : Prop := ∀ Q, (∀ r g, P r g → Q r g) → Ct d M as h Q
theorem v_fnV (hX : Cx (d + 1) M X) {idx q ci : Nat} {r : MV} (hd : Dc M pc (.invokevirtual idx) 3 nx) (hl : LVk M.1.cls idx M') (hM : MOK M') (ho : OB q ci) (hC : (vwCl[ci]?).map (fun x => x.1) = some M'.1.cls) (hn : as.length = M'.2.2.2.2 ∧ ((mA q :: as).map mcat).sum ≤ M'.2.2.1) (hst : (st.map mcat).sum ≤ 8)
    (hc : Fn d M' (mA q :: as) h (some r) h') {stk : List MV} (hs : stk = as.reverse ++ mA q :: st) (kk : VW X nx ls (r :: st) h') : VW X pc ls stk h :=
  v_callV hX hd hl hM ho hC hn hst (hc (fun a b => a = some r ∧ b = h') ⟨rfl, rfl⟩) hs (fun a b e => by obtain ⟨rfl, rfl⟩ := e; exact kk)
theorem v_fnV0 (hX : Cx (d + 1) M X) {idx q ci : Nat} (hd : Dc M pc (.invokevirtual idx) 3 nx) (hl : LVk M.1.cls idx M') (hM : MOK M') (ho : OB q ci) (hC : (vwCl[ci]?).map (fun x => x.1) = some M'.1.cls) (hn : as.length = M'.2.2.2.2 ∧ ((mA q :: as).map mcat).sum ≤ M'.2.2.1) (hst : (st.map mcat).sum ≤ 8)
    (hc : Fn d M' (mA q :: as) h none h') {stk : List MV} (hs : stk = as.reverse ++ mA q :: st) (kk : VW X nx ls st h') : VW X pc ls stk h :=
  v_callV hX hd hl hM ho hC hn hst (hc (fun a b => a = none ∧ b = h') ⟨rfl, rfl⟩) hs (fun a b e => by obtain ⟨rfl, rfl⟩ := e; exact kk)
theorem v_fnS (hX : Cx (d + 1) M X) {idx : Nat} {r : MV} (hd : Dc M pc (.invokestatic idx) 3 nx) (hl : LSk M.1.cls idx M') (hM : MOK M') (hn : as.length = M'.2.2.2.2 ∧ (as.map mcat).sum ≤ M'.2.2.1) (hst : (st.map mcat).sum ≤ 8)
    (hc : Fn d M' as h (some r) h') {stk : List MV} (hs : stk = as.reverse ++ st) (kk : VW X nx ls (r :: st) h') : VW X pc ls stk h :=
  v_callS hX hd hl hM hn hst (hc (fun a b => a = some r ∧ b = h') ⟨rfl, rfl⟩) hs (fun a b e => by obtain ⟨rfl, rfl⟩ := e; exact kk)
theorem v_fnS0 (hX : Cx (d + 1) M X) {idx : Nat} (hd : Dc M pc (.invokestatic idx) 3 nx) (hl : LSk M.1.cls idx M') (hM : MOK M') (hn : as.length = M'.2.2.2.2 ∧ (as.map mcat).sum ≤ M'.2.2.1) (hst : (st.map mcat).sum ≤ 8)
    (hc : Fn d M' as h none h') {stk : List MV} (hs : stk = as.reverse ++ st) (kk : VW X nx ls st h') : VW X pc ls stk h :=
  v_callS hX hd hl hM hn hst (hc (fun a b => a = none ∧ b = h') ⟨rfl, rfl⟩) hs (fun a b e => by obtain ⟨rfl, rfl⟩ := e; exact kk)
theorem v_frV (hX : Cx (d + 1) M X) {idx q ci : Nat} {P : Option MV → Hp → Prop} (hd : Dc M pc (.invokevirtual idx) 3 nx) (hl : LVk M.1.cls idx M') (hM : MOK M') (ho : OB q ci) (hC : (vwCl[ci]?).map (fun x => x.1) = some M'.1.cls) (hn : as.length = M'.2.2.2.2 ∧ ((mA q :: as).map mcat).sum ≤ M'.2.2.1) (hst : (st.map mcat).sum ≤ 8)
    (hc : Fr d M' (mA q :: as) h P) {stk : List MV} (hs : stk = as.reverse ++ mA q :: st) (kk : ∀ r g, P r g → VW X nx ls (r.toList ++ st) g) : VW X pc ls stk h :=
  v_callV hX hd hl hM ho hC hn hst (hc P (fun _ _ e => e)) hs kk
theorem v_frS (hX : Cx (d + 1) M X) {idx : Nat} {P : Option MV → Hp → Prop} (hd : Dc M pc (.invokestatic idx) 3 nx) (hl : LSk M.1.cls idx M') (hM : MOK M') (hn : as.length = M'.2.2.2.2 ∧ (as.map mcat).sum ≤ M'.2.2.1) (hst : (st.map mcat).sum ≤ 8)
    (hc : Fr d M' as h P) {stk : List MV} (hs : stk = as.reverse ++ st) (kk : ∀ r g, P r g → VW X nx ls (r.toList ++ st) g) : VW X pc ls stk h :=
  v_callS hX hd hl hM hn hst (hc P (fun _ _ e => e)) hs kk
/-- true as 1, false as 0 -/
noncomputable def b01 (P : Prop) : Int := @ite Int P (Classical.propDecidable P) 1 0
theorem b01_t {P : Prop} (h : P) : b01 P = 1 := by unfold b01; exact if_pos h
theorem b01_f {P : Prop} (h : ¬ P) : b01 P = 0 := by unfold b01; exact if_neg h
theorem b01_or (P : Prop) : b01 P = 0 ∨ b01 P = 1 := by
  rcases Classical.em P with h | h
  · exact Or.inr (b01_t h)
  · exact Or.inl (b01_f h)
theorem b01_0 {P : Prop} : b01 P = 0 ↔ ¬ P := ⟨fun e h => absurd ((b01_t h).symm.trans e) (by decide), b01_f⟩
theorem b01_1 {P : Prop} : b01 P = 1 ↔ P := ⟨fun e => Classical.byContradiction (fun h => by rw [b01_f h] at e; cases e), b01_t⟩
theorem b01_iff {P R : Prop} (h : P ↔ R) : b01 P = b01 R := by rw [propext h]
theorem b01_rng (P : Prop) : 0 ≤ b01 P ∧ b01 P ≤ 1 := by rcases b01_or P with h | h <;> rw [h] <;> decide
theorem v_ifB_eq (hX : Cx d M X) {P : Prop} {off : Int} {tgt : Nat} (hd : Dc M pc (.ifCond .eq off) 3 nx) (ht : (pc : Int) + off = (tgt : Int)) (kt : ¬ P → VW X tgt ls st h) (kf : P → VW X nx ls st h) : VW X pc ls (mI (b01 P) :: st) h :=
  v_if_eq hX hd ht ⟨by have := b01_rng P; omega, by have := b01_rng P; omega⟩ (fun e => kt (b01_0.mp e)) (fun e => kf (Classical.byContradiction (fun q => e (b01_0.mpr q))))
theorem v_ifB_ne (hX : Cx d M X) {P : Prop} {off : Int} {tgt : Nat} (hd : Dc M pc (.ifCond .ne off) 3 nx) (ht : (pc : Int) + off = (tgt : Int)) (kt : P → VW X tgt ls st h) (kf : ¬ P → VW X nx ls st h) : VW X pc ls (mI (b01 P) :: st) h :=
  v_if_ne hX hd ht ⟨by have := b01_rng P; omega, by have := b01_rng P; omega⟩ (fun e => kt (Classical.byContradiction (fun q => e (b01_0.mpr q)))) (fun e => kf (b01_0.mp e))
theorem q_t {P : Prop} (hP : P) (hq : Q (some (mI (b01 P))) h) : Q (some (mI 1)) h := by rw [b01_t hP] at hq; exact hq
theorem q_f {P : Prop} (hP : ¬ P) (hq : Q (some (mI (b01 P))) h) : Q (some (mI 0)) h := by rw [b01_f hP] at hq; exact hq
theorem q_i {a b : Int} (e : a = b) (hq : Q (some (mI a)) h) : Q (some (mI b)) h := e ▸ hq
theorem v_tsw (hX : Cx d M X) {dflt lo hi : Int} {offs : Array Int} {len tgt : Nat} {a : Int} (hd : Dc M pc (.tableswitch dflt lo hi offs) len nx) (ha : -2147483648 ≤ a ∧ a < 2147483648 ∧ ¬ a < lo ∧ ¬ hi < a) (ht : offs[(a - lo).toNat]? = some ((tgt : Int) - (pc : Int))) (k : VW X tgt ls st h) : VW X pc ls (mI a :: st) h := by
  obtain ⟨p, l, e, R, s, m, args, below, meth, c, al, tc, D, A, Z, rc, rs⟩ := X
  obtain ⟨hx, hb, hml, hr, hown, hts, hlk, hK, hA, hfr, hlo, hne⟩ := hX
  obtain ⟨hdg, rfl⟩ := hd
  intro H locs la cells slots hP hD hS hl h1 h2
  have e := oi_toInt (z := a) ⟨ha.1, ha.2.1⟩
  exact lv_tableIn (x := Int32.ofInt a) hx hb hdg (by rw [e]; exact ha.2.2.1) (by rw [e]; exact ha.2.2.2) (by rw [e]; exact ht) (by omega) (k H locs la cells slots hP hD hS hl h1 h2)
theorem v_tswD (hX : Cx d M X) {dflt lo hi : Int} {offs : Array Int} {len tgt : Nat} {a : Int} (hd : Dc M pc (.tableswitch dflt lo hi offs) len nx) (ha : -2147483648 ≤ a ∧ a < 2147483648 ∧ (a < lo ∨ hi < a)) (ht : (pc : Int) + dflt = (tgt : Int)) (k : VW X tgt ls st h) : VW X pc ls (mI a :: st) h := by
  obtain ⟨p, l, e, R, s, m, args, below, meth, c, al, tc, D, A, Z, rc, rs⟩ := X
  obtain ⟨hx, hb, hml, hr, hown, hts, hlk, hK, hA, hfr, hlo, hne⟩ := hX
  obtain ⟨hdg, rfl⟩ := hd
  intro H locs la cells slots hP hD hS hl h1 h2
  have e := oi_toInt (z := a) ⟨ha.1, ha.2.1⟩
  exact lv_tableOut (x := Int32.ofInt a) hx hb hdg (by rw [e]; exact ha.2.2) ht (k H locs la cells slots hP hD hS hl h1 h2)
theorem v_lsw (hX : Cx d M X) {dflt : Int} {ps : Array (Int × Int)} {len tgt : Nat} {a : Int} (hd : Dc M pc (.lookupswitch dflt ps) len nx) (ha : -2147483648 ≤ a ∧ a < 2147483648 ∧ (ps.toList.zip (ps.toList.drop 1)).all (fun (a, next) => a.1 < next.1) = true) (ht : Op.lookupswitch.offset ps.toList dflt a = (tgt : Int) - (pc : Int)) (k : VW X tgt ls st h) : VW X pc ls (mI a :: st) h := by
  obtain ⟨p, l, e, R, s, m, args, below, meth, c, al, tc, D, A, Z, rc, rs⟩ := X
  obtain ⟨hx, hb, hml, hr, hown, hts, hlk, hK, hA, hfr, hlo, hne⟩ := hX
  obtain ⟨hdg, rfl⟩ := hd
  intro H locs la cells slots hP hD hS hl h1 h2
  have e := oi_toInt (z := a) ⟨ha.1, ha.2.1⟩
  exact lv_lookup (x := Int32.ofInt a) hx hb hdg ha.2.2 (by rw [e]; exact ht) (tgt := tgt) (show (pc : Int) + ((tgt : Int) - (pc : Int)) = (tgt : Int) by omega) (k H locs la cells slots hP hD hS hl h1 h2)
/-! places -/
theorem OB_pu {i : Nat} (h : i < 8) : OB (23 + i) 3 := by
  rcases i with _ | _ | _ | _ | _ | _ | _ | _ | i
  all_goals first | exact ⟨by decide, rfl⟩ | omega
theorem OB_pr {i : Nat} (h : i < 5) : OB (39 + i) 2 := by
  rcases i with _ | _ | _ | _ | _ | i
  all_goals first | exact ⟨by decide, rfl⟩ | omega
theorem AR_rk {i : Nat} (h : i < 8) : AR (31 + i) 0 5 := by
  rcases i with _ | _ | _ | _ | _ | _ | _ | _ | i
  all_goals first | exact ⟨by decide, rfl⟩ | omega
theorem RF_rk {i : Nat} (h : i < 8) : RF (23 + i) 0 = some (31 + i) := by
  rcases i with _ | _ | _ | _ | _ | _ | _ | _ | i
  all_goals first | rfl | omega
theorem RF_pu {i : Int} (h : 0 ≤ i ∧ i < 8) : RF 8 i.toNat = some (23 + i.toNat) := by
  have : i.toNat < 8 := by omega
  generalize i.toNat = j at this
  rcases j with _ | _ | _ | _ | _ | _ | _ | _ | j
  all_goals first | rfl | omega
theorem RF_pr {i : Int} (h : 0 ≤ i ∧ i < 5) : RF 9 i.toNat = some (39 + i.toNat) := by
  have : i.toNat < 5 := by omega
  generalize i.toNat = j at this
  rcases j with _ | _ | _ | _ | _ | j
  all_goals first | rfl | omega
/-! writes and reads -/
theorem up_same {h : Hp} {k j : Nat} {v : Int} : up h k j v k j = v := by simp [up]
theorem up_ne {h : Hp} {k j a b : Nat} {v : Int} (e : ¬ (a = k ∧ b = j)) : up h k j v a b = h a b := by simp only [up, if_neg e]
theorem up_ob {h : Hp} {k j a b : Nat} {v : Int} (e : a ≠ k) : up h k j v a b = h a b := up_ne (fun q => e q.1)
theorem up_obf {h : Hp} {k j a : Nat} {v : Int} (e : a ≠ k) : up h k j v a = h a := funext fun _ => up_ob e
/-- a loop that counts up: W at i from W at i + 1, until W at n -/
theorem loop_up {W : Nat → Prop} (n : Nat) (hn : W n) (hs : ∀ i, i < n → W (i + 1) → W i) : ∀ i, i ≤ n → W i := by
  intro i hi
  induction hk : n - i generalizing i with
  | zero => exact (show i = n by omega) ▸ hn
  | succ k ih => exact hs i (by omega) (ih (i + 1) (by omega) (by omega))
/-- the same with a state that the loop changes -/
theorem loop_st {σ : Type} {P : Nat → σ → Prop} {W : Nat → σ → Prop} (n : Nat) (hn : ∀ s, P n s → W n s) (hs : ∀ i s, i < n → P i s → (∀ s', P (i + 1) s' → W (i + 1) s') → W i s) : ∀ i s, i ≤ n → P i s → W i s := by
  intro i s hi hp
  induction hk : n - i generalizing i s with
  | zero =>
    have e : i = n := by omega
    subst e
    exact hn s hp
  | succ k ih => exact hs i s (by omega) hp (fun s' hp' => ih (i + 1) s' (by omega) hp' (by omega))
end VSTATE
end
section
-- bits: groups of PUPILS and sets of skills are numbers below 256
theorem cast_toNat' {z : Int} (h : 0 ≤ z) : z = ((z.toNat : Nat) : Int) := by omega
theorem oi_nat (n : Nat) : Int32.ofInt (n : Int) = nI n := rfl
theorem ol_nat (n : Nat) : Int64.ofInt (n : Int) = lN n := rfl
theorem bb_and (a b : Nat) : nI a &&& nI b = nI (a &&& b) := by
  apply Int32.toBitVec_inj.1
  show BitVec.ofNat 32 a &&& BitVec.ofNat 32 b = BitVec.ofNat 32 (a &&& b)
  apply BitVec.eq_of_getLsbD_eq
  intro i hi
  simp [hi]
theorem bb_or (a b : Nat) : nI a ||| nI b = nI (a ||| b) := by
  apply Int32.toBitVec_inj.1
  show BitVec.ofNat 32 a ||| BitVec.ofNat 32 b = BitVec.ofNat 32 (a ||| b)
  apply BitVec.eq_of_getLsbD_eq
  intro i hi
  simp [hi]
theorem bb_s31 : ∀ n, n < 32 → ((nI n &&& 31).toBitVec.smod 32).toNat = n := by decide +kernel
theorem bb_lt_or {a b k : Nat} (ha : a < 2 ^ k) (hb : b < 2 ^ k) : a ||| b < 2 ^ k := Nat.or_lt_two_pow ha hb
theorem bb_lt_and {a b k : Nat} (ha : a < 2 ^ k) : a &&& b < 2 ^ k := Nat.lt_of_le_of_lt Nat.and_le_left ha
theorem band_nat {a b : Nat} (ha : a < 2 ^ 31) : band a b = ((a &&& b : Nat) : Int) := by
  unfold band
  rw [oi_nat, oi_nat, bb_and, nI_toInt (bb_lt_and ha)]
theorem bor_nat {a b : Nat} (ha : a < 2 ^ 31) (hb : b < 2 ^ 31) : bor a b = ((a ||| b : Nat) : Int) := by
  unfold bor
  rw [oi_nat, oi_nat, bb_or, nI_toInt (bb_lt_or ha hb)]
theorem bshl_nat {a i : Nat} (hi : i < 32) (h : a * 2 ^ i < 2 ^ 31) : bshl a i = ((a * 2 ^ i : Nat) : Int) := by
  unfold bshl
  rw [oi_nat, oi_nat, pk_shlN _ i (bb_s31 i hi) (by omega), nI_toInt h]
theorem bshr_nat {a i : Nat} (ha : a < 2 ^ 31) (hi : i < 32) : bshr a i = ((a / 2 ^ i : Nat) : Int) := by
  unfold bshr
  rw [oi_nat, oi_nat, pk_shrN ha _ i (bb_s31 i hi), nI_toInt (Nat.lt_of_le_of_lt (Nat.div_le_self _ _) ha)]
/-- 1 << i -/
theorem bit1 {i : Nat} (hi : i < 8) : bshl 1 i = ((2 ^ i : Nat) : Int) := by
  have := bshl_nat (a := 1) (i := i) (by omega) (by
    have : 2 ^ i < 2 ^ 8 := Nat.pow_lt_pow_right (by decide) hi
    omega)
  rw [Nat.one_mul] at this
  exact this
/-- g >> i & 1 -/
theorem bitq {g i : Nat} (hg : g < 2 ^ 31) (hi : i < 32) : band (bshr g i) 1 = if g.testBit i then 1 else 0 := by
  rw [bshr_nat hg hi]
  have := band_nat (a := g / 2 ^ i) (b := 1) (Nat.lt_of_le_of_lt (Nat.div_le_self _ _) hg)
  rw [show ((1 : Nat) : Int) = 1 from rfl] at this
  rw [this, Nat.and_one_is_mod, Nat.testBit_eq_decide_div_mod_eq]
  rcases Nat.mod_two_eq_zero_or_one (g / 2 ^ i) with h | h <;> rw [h] <;> rfl
theorem pow8 {i : Nat} (hi : i < 8) : 2 ^ i < 256 := Nat.lt_of_lt_of_le (Nat.pow_lt_pow_right (by decide) hi) (by decide)
/-- the set of the i below n with f -/
def bs (f : Nat → Bool) : Nat → Nat
  | 0 => 0
  | n + 1 => bs f n ||| (if f n then 2 ^ n else 0)
theorem bs_bit (f : Nat → Bool) : ∀ n i, (bs f n).testBit i = (decide (i < n) && f i)
  | 0, i => by simp [bs]
  | n + 1, i => by
    rw [bs, Nat.testBit_or, bs_bit f n i]
    by_cases e : i = n
    · subst e
      cases h : f i <;> simp
    · have h1 : (if f n then 2 ^ n else 0).testBit i = false := by
        split
        · rw [Nat.testBit_two_pow]
          simp [Ne.symm e]
        · simp
      rw [h1]
      have : (decide (i < n + 1)) = decide (i < n) := by
        apply decide_eq_decide.mpr
        omega
      simp [this]
theorem bs_lt (f : Nat → Bool) : ∀ n, bs f n < 2 ^ n
  | 0 => by simp [bs]
  | n + 1 => by
    have := bs_lt f n
    rw [bs]
    refine bb_lt_or (Nat.lt_trans this (Nat.pow_lt_pow_right (by decide) (by omega))) ?_
    split
    · exact Nat.pow_lt_pow_right (by decide) (by omega)
    · exact Nat.two_pow_pos _
theorem bs_lt8 (f : Nat → Bool) {n : Nat} (h : n ≤ 8) : bs f n < 256 := Nat.lt_of_lt_of_le (bs_lt f n) (Nat.pow_le_pow_right (by decide) h)
theorem bs_congr {f g : Nat → Bool} : ∀ n, (∀ i, i < n → f i = g i) → bs f n = bs g n
  | 0, _ => rfl
  | n + 1, h => by rw [bs, bs, bs_congr n (fun i hi => h i (by omega)), h n (by omega)]
/-- how many bits a set below 256 has -/
def bcnt (g : Nat) : Nat := ((List.range 8).filter (fun i => g.testBit i)).length
/-- how many i below n have f -/
def cntF (f : Nat → Bool) : Nat → Nat
  | 0 => 0
  | n + 1 => cntF f n + (if f n then 1 else 0)
theorem cntF_le (f : Nat → Bool) : ∀ n, cntF f n ≤ n
  | 0 => Nat.le_refl _
  | n + 1 => by
    have := cntF_le f n
    rw [cntF]
    split <;> omega
theorem cntF_congr {f g : Nat → Bool} : ∀ n, (∀ i, i < n → f i = g i) → cntF f n = cntF g n
  | 0, _ => rfl
  | n + 1, h => by rw [cntF, cntF, cntF_congr n (fun i hi => h i (by omega)), h n (by omega)]
theorem cntF_filter (f : Nat → Bool) : ∀ n, ((List.range n).filter f).length = cntF f n
  | 0 => rfl
  | n + 1 => by
    rw [List.range_succ, List.filter_append, List.length_append, cntF_filter f n, cntF]
    cases h : f n <;> simp [h]
theorem bcnt_eq (g : Nat) : bcnt g = cntF (fun i => g.testBit i) 8 := cntF_filter _ 8
theorem cntF_ext (f : Nat → Bool) : ∀ (k n : Nat), (∀ i, n ≤ i → f i = false) → cntF f (n + k) = cntF f n
  | 0, _, _ => rfl
  | k + 1, n, h => by
    rw [← Nat.add_assoc, cntF, cntF_ext f k n h, h (n + k) (by omega)]
    simp
theorem bcnt_bs (f : Nat → Bool) {n : Nat} (h : n ≤ 8) : bcnt (bs f n) = cntF f n := by
  rw [bcnt_eq]
  have h1 : cntF (fun i => (bs f n).testBit i) (n + (8 - n)) = cntF (fun i => (bs f n).testBit i) n := cntF_ext _ _ _ (fun i hi => by
    rw [bs_bit]
    simp [show ¬ i < n by omega])
  rw [show n + (8 - n) = 8 by omega] at h1
  rw [h1]
  exact cntF_congr n (fun i hi => by rw [bs_bit]; simp [hi])
theorem ext_bits {a b : Nat} (h : ∀ i, a.testBit i = b.testBit i) : a = b := Nat.eq_of_testBit_eq h
theorem big_bit {g i : Nat} (hg : g < 256) (hi : 8 ≤ i) : g.testBit i = false := by
  apply Nat.testBit_lt_two_pow
  exact Nat.lt_of_lt_of_le hg (show 2 ^ 8 ≤ 2 ^ i from Nat.pow_le_pow_right (by decide) hi)
theorem ext8 {a b : Nat} (ha : a < 256) (hb : b < 256) (h : ∀ i, i < 8 → a.testBit i = b.testBit i) : a = b := by
  apply ext_bits
  intro i
  by_cases hi : i < 8
  · exact h i hi
  · rw [big_bit ha (by omega), big_bit hb (by omega)]
/-- what is asked for and not had: s & ~t -/
theorem band_not {s t : Nat} (hs : s < 256) (ht : t < 256) : band s (bxor t (-1)) = 0 ↔ ∀ b, b < 8 → s.testBit b = true → t.testBit b = true := by
  have e : band s (bxor t (-1)) = ((s &&& (255 - t) : Nat) : Int) := by
    have h1 : ∀ t, t < 256 → Int32.ofInt (bxor (t : Nat) (-1)) &&& 255 = nI (255 - t) := by decide +kernel
    have h2 : (Int32.ofInt (s : Int)) = nI s &&& 255 := by
      rw [oi_nat, show (255 : Int32) = nI 255 from rfl, bb_and]
      have : s &&& 255 = s := by
        have := Nat.and_two_pow_sub_one_of_lt_two_pow (n := 8) (x := s) hs
        exact this
      rw [this]
    unfold band
    rw [h2, Int32.and_assoc, Int32.and_comm 255, h1 t ht, bb_and, nI_toInt (bb_lt_and (Nat.lt_trans hs (by decide)))]
  have hb : ∀ t, t < 256 → ∀ b, b < 8 → (255 - t).testBit b = !t.testBit b := by decide +kernel
  rw [e]
  constructor
  · intro h b hb8 hsb
    have h0 : (s &&& (255 - t)) = 0 := by omega
    have := congrArg (fun z => z.testBit b) h0
    simp only [Nat.testBit_and, Nat.zero_testBit, hsb, Bool.true_and, hb t ht b hb8] at this
    simpa using this
  · intro h
    have : s &&& (255 - t) = 0 := by
      apply ext8 (Nat.lt_of_le_of_lt Nat.and_le_left hs) (by decide)
      intro b hb8
      rw [Nat.testBit_and, hb t ht b hb8, Nat.zero_testBit]
      cases h1 : s.testBit b
      · rfl
      · rw [h b hb8 h1]; rfl
    rw [this]
    rfl
/-- one bit put or taken: withBit -/
theorem wb_put {g i : Nat} (hg : g < 256) (hi : i < 8) : bor g (bshl 1 i) = ((g ||| 2 ^ i : Nat) : Int) := by
  rw [bit1 hi, bor_nat (Nat.lt_trans hg (by decide)) (Nat.lt_trans (pow8 hi) (by decide))]
theorem wb_take {g i : Nat} (hg : g < 256) (hi : i < 8) : band g (bxor (bshl 1 i) (-1)) = ((g &&& (255 - 2 ^ i) : Nat) : Int) := by
  have : ∀ g, g < 256 → ∀ i, i < 8 → band (g : Nat) (bxor (bshl 1 (i : Nat)) (-1)) = ((g &&& (255 - 2 ^ i) : Nat) : Int) := by decide +kernel
  exact this g hg i hi
theorem put_bit {g i j : Nat} : (g ||| 2 ^ i).testBit j = (g.testBit j || decide (j = i)) := by
  rw [Nat.testBit_or, Nat.testBit_two_pow]
  congr 1
  apply decide_eq_decide.mpr
  omega
theorem put_lt {g i : Nat} (hg : g < 256) (hi : i < 8) : g ||| 2 ^ i < 256 := bb_lt_or (k := 8) hg (pow8 hi)
theorem take_bit {g i j : Nat} (hg : g < 256) (hi : i < 8) : (g &&& (255 - 2 ^ i)).testBit j = (g.testBit j && !decide (j = i)) := by
  have : ∀ g, g < 256 → ∀ i, i < 8 → ∀ j, j < 8 → (g &&& (255 - 2 ^ i)).testBit j = (g.testBit j && !decide (j = i)) := by decide +kernel
  by_cases hj : j < 8
  · exact this g hg i hi j hj
  · rw [big_bit hg (by omega), big_bit (Nat.lt_of_le_of_lt Nat.and_le_left hg) (by omega)]
    rfl
theorem bitB {g i : Nat} (hg : g < 2 ^ 31) (hi : i < 32) : band (bshr g i) 1 = b01 (g.testBit i = true) := by
  rw [bitq hg hi]
  split
  · rename_i h; exact (b01_t h).symm
  · rename_i h; exact (b01_f h).symm
theorem band_z {a : Nat} {s : Int} (ha : a < 256) (hs : 0 ≤ s ∧ s ≤ 255) : band a s = ((a &&& s.toNat : Nat) : Int) := by
  have := band_nat (a := a) (b := s.toNat) (by omega)
  rw [← this, ← cast_toNat' hs.1]
theorem bor_z {a : Nat} {s : Int} (ha : a < 256) (hs : 0 ≤ s ∧ s ≤ 255) : bor a s = ((a ||| s.toNat : Nat) : Int) := by
  have := bor_nat (a := a) (b := s.toNat) (by omega) (by omega)
  rw [← this, ← cast_toNat' hs.1]
theorem bitZ {s : Int} {i : Int} (hs : 0 ≤ s ∧ s ≤ 255) (hi : 0 ≤ i ∧ i < 32) : band (bshr s i) 1 = b01 (s.toNat.testBit i.toNat = true) := by
  have := bitB (g := s.toNat) (i := i.toNat) (by omega) (by omega)
  rw [← this, ← cast_toNat' hs.1, ← cast_toNat' hi.1]
theorem or_lt8 {a b : Nat} (ha : a < 256) (hb : b < 256) : a ||| b < 256 := bb_lt_or (k := 8) ha hb
theorem and_lt8 {a b : Nat} (ha : a < 256) : a &&& b < 256 := bb_lt_and (k := 8) ha
def bcE (x : Int) : Int :=
  band (band (band (x - band (bushr x 1) 1431655765) 858993459 + band (bushr (x - band (bushr x 1) 1431655765) 2) 858993459 + bushr (band (x - band (bushr x 1) 1431655765) 858993459 + band (bushr (x - band (bushr x 1) 1431655765) 2) 858993459) 4) 252645135 + bushr (band (band (x - band (bushr x 1) 1431655765) 858993459 + band (bushr (x - band (bushr x 1) 1431655765) 2) 858993459 + bushr (band (x - band (bushr x 1) 1431655765) 858993459 + band (bushr (x - band (bushr x 1) 1431655765) 2) 858993459) 4) 252645135) 8 + bushr (band (band (x - band (bushr x 1) 1431655765) 858993459 + band (bushr (x - band (bushr x 1) 1431655765) 2) 858993459 + bushr (band (x - band (bushr x 1) 1431655765) 858993459 + band (bushr (x - band (bushr x 1) 1431655765) 2) 858993459) 4) 252645135 + bushr (band (band (x - band (bushr x 1) 1431655765) 858993459 + band (bushr (x - band (bushr x 1) 1431655765) 2) 858993459 + bushr (band (x - band (bushr x 1) 1431655765) 858993459 + band (bushr (x - band (bushr x 1) 1431655765) 2) 858993459) 4) 252645135) 8) 16) 63
theorem bcE_all : ∀ g : Nat, g < 256 → bcE g = bcnt g := by decide +kernel
theorem bcnt_le (g : Nat) : bcnt g ≤ 8 := by
  rw [bcnt_eq]
  exact cntF_le _ _
theorem cntF_pos (f : Nat → Bool) : ∀ n, cntF f n = 0 ↔ ∀ i, i < n → f i = false
  | 0 => by simp [cntF]
  | n + 1 => by
    rw [cntF]
    constructor
    · intro h i hi
      have h1 : cntF f n = 0 := by omega
      by_cases e : i = n
      · subst e
        cases hf : f i
        · rfl
        · rw [hf] at h; simp at h
      · exact (cntF_pos f n).mp h1 i (by omega)
    · intro h
      rw [(cntF_pos f n).mpr (fun i hi => h i (by omega)), h n (by omega)]
      rfl
theorem bs_0 (f : Nat → Bool) {n : Nat} : bs f n = 0 ↔ ∀ i, i < n → f i = false := by
  constructor
  · intro h i hi
    have := bs_bit f n i
    rw [h, Nat.zero_testBit] at this
    simpa [hi] using this.symm
  · intro h
    apply ext_bits
    intro i
    rw [bs_bit, Nat.zero_testBit]
    by_cases hi : i < n
    · simp [h i hi]
    · simp [hi]
theorem band_rng (a b : Int) : rng (band a b) := by
  have h1 := Int32.toInt_lt (Int32.ofInt a &&& Int32.ofInt b)
  have h2 := Int32.le_toInt (Int32.ofInt a &&& Int32.ofInt b)
  unfold band
  constructor <;> omega
theorem band_none {s : Int} {g : Nat} (hs : 0 ≤ s ∧ s ≤ 255) (hg : g < 256) : band s g = 0 ↔ ∀ b, b < 8 → s.toNat.testBit b = true → g.testBit b = false := by
  have e : band s g = ((s.toNat &&& g : Nat) : Int) := by
    rw [← band_nat (a := s.toNat) (b := g) (by omega), ← cast_toNat' hs.1]
  rw [e]
  constructor
  · intro h b hb h1
    have h0 : s.toNat &&& g = 0 := by omega
    have := congrArg (fun z => z.testBit b) h0
    simp only [Nat.testBit_and, Nat.zero_testBit, h1, Bool.true_and] at this
    exact this
  · intro h
    have : s.toNat &&& g = 0 := by
      refine ext8 (and_lt8 (by omega)) (by decide) (fun b hb => ?_)
      rw [Nat.testBit_and, Nat.zero_testBit]
      cases h1 : s.toNat.testBit b
      · rfl
      · rw [h b hb h1]; rfl
    rw [this]
    rfl
/-- a statement as a Bool -/
noncomputable def pb (P : Prop) : Bool := @decide P (Classical.propDecidable P)
theorem pb_iff {P : Prop} : pb P = true ↔ P := by unfold pb; exact @decide_eq_true_iff P (Classical.propDecidable P)
theorem pb_f {P : Prop} : pb P = false ↔ ¬ P := by
  constructor
  · intro e h
    rw [pb_iff.mpr h] at e
    cases e
  · intro h
    cases e : pb P
    · rfl
    · exact absurd (pb_iff.mp e) h
/-- the first i, from a, of k, with P; else -1 -/
noncomputable def firstI (P : Nat → Prop) : Nat → Nat → Int
  | 0, _ => -1
  | k + 1, a => if pb (P a) = true then (a : Int) else firstI P k (a + 1)
theorem firstI_t {P : Nat → Prop} {k a : Nat} (h : P a) : firstI P (k + 1) a = a := by rw [firstI, if_pos (pb_iff.mpr h)]
theorem firstI_f {P : Nat → Prop} {k a : Nat} (h : ¬ P a) : firstI P (k + 1) a = firstI P k (a + 1) := by rw [firstI, if_neg (fun q => h (pb_iff.mp q))]
theorem firstI_congr {P R : Nat → Prop} : ∀ (k a : Nat), (∀ i, a ≤ i → i < a + k → (P i ↔ R i)) → firstI P k a = firstI R k a
  | 0, _, _ => rfl
  | k + 1, a, h => by
    have h0 := h a (Nat.le_refl _) (by omega)
    rw [firstI, firstI, firstI_congr k (a + 1) (fun i h1 h2 => h i (by omega) (by omega)), propext h0]
theorem firstI_rng {P : Nat → Prop} : ∀ (k a : Nat), firstI P k a = -1 ∨ ((a : Int) ≤ firstI P k a ∧ firstI P k a < a + k)
  | 0, _ => Or.inl rfl
  | k + 1, a => by
    rw [firstI]
    split
    · right; omega
    · rcases firstI_rng (P := P) k (a + 1) with h | h
      · left; exact h
      · right; omega
theorem firstI_none {P : Nat → Prop} : ∀ (k a : Nat), firstI P k a = -1 ↔ ∀ i, a ≤ i → i < a + k → ¬ P i
  | 0, a => by simp only [firstI, true_iff]; intro i h1 h2; omega
  | k + 1, a => by
    by_cases h : P a
    · rw [firstI_t h]
      constructor
      · intro q; omega
      · intro q; exact absurd h (q a (Nat.le_refl _) (by omega))
    · rw [firstI_f h, firstI_none k (a + 1)]
      constructor
      · intro q i h1 h2
        by_cases e : i = a
        · exact e ▸ h
        · exact q i (by omega) (by omega)
      · intro q i h1 h2
        exact q i (by omega) (by omega)
end
section
/-! the roll: bounds of what its objects hold -/
def PUOK (h : Hp) (p : Nat) : Prop := (0 ≤ h (23 + p) 1 ∧ h (23 + p) 1 ≤ 255) ∧ (0 ≤ h (23 + p) 2 ∧ h (23 + p) 2 ≤ 5) ∧ (0 ≤ h (23 + p) 3 ∧ h (23 + p) 3 ≤ 300) ∧ (0 ≤ h (23 + p) 4 ∧ h (23 + p) 4 ≤ 255) ∧ (0 ≤ h (23 + p) 5 ∧ h (23 + p) 5 ≤ 255) ∧ (h (23 + p) 6 = 0 ∨ h (23 + p) 6 = 1) ∧ ∀ j, j < 5 → 1 ≤ h (31 + p) j ∧ h (31 + p) j ≤ 6
def PROK (h : Hp) (q : Nat) : Prop := (0 ≤ h (39 + q) 0 ∧ h (39 + q) 0 ≤ 3) ∧ (0 ≤ h (39 + q) 1 ∧ h (39 + q) 1 ≤ 8) ∧ (0 ≤ h (39 + q) 2 ∧ h (39 + q) 2 ≤ 8) ∧ (0 ≤ h (39 + q) 3 ∧ h (39 + q) 3 ≤ 255) ∧ rng (h (39 + q) 4) ∧ (h (39 + q) 5 = 0 ∨ h (39 + q) 5 = 1) ∧ (h (39 + q) 0 = 3 → 0 ≤ h (39 + q) 4 ∧ h (39 + q) 4 < 8)
def RI (h : Hp) : Prop := (0 ≤ h 1 3 ∧ h 1 3 ≤ 8) ∧ (0 ≤ h 1 4 ∧ h 1 4 ≤ 5) ∧ (∀ p, p < 8 → PUOK h p) ∧ (∀ q, q < 5 → PROK h q) ∧ ∀ i, i < 8 → rng (h 10 i)
theorem RI.n {h : Hp} (a : RI h) : 0 ≤ h 1 3 ∧ h 1 3 ≤ 8 := a.1
theorem RI.q {h : Hp} (a : RI h) : 0 ≤ h 1 4 ∧ h 1 4 ≤ 5 := a.2.1
theorem RI.pu {h : Hp} (a : RI h) {p : Nat} (hp : p < 8) : PUOK h p := a.2.2.1 p hp
theorem RI.pr {h : Hp} (a : RI h) {p : Nat} (hp : p < 5) : PROK h p := a.2.2.2.1 p hp
theorem RI.ord {h : Hp} (a : RI h) {i : Nat} (hi : i < 8) : rng (h 10 i) := a.2.2.2.2 i hi
/-- what is no part of the roll may change -/
theorem RI.congr {h g : Hp} (a : RI h) (e : ∀ k, k = 1 ∨ k = 10 ∨ (23 ≤ k ∧ k < 44) → g k = h k) : RI g := by
  obtain ⟨a1, a2, a3, a4, a5⟩ := a
  refine ⟨by rw [e 1 (by omega)]; exact a1, by rw [e 1 (by omega)]; exact a2, fun p hp => ?_, fun q hq => ?_, by rw [e 10 (by omega)]; exact a5⟩
  · have := a3 p hp
    unfold PUOK at this ⊢
    rw [e (23 + p) (by omega), e (31 + p) (by omega)]
    exact this
  · have := a4 q hq
    unfold PROK at this ⊢
    rw [e (39 + q) (by omega)]
    exact this
theorem RI.up {h : Hp} (a : RI h) {k j : Nat} {v : Int} (hk : ¬ (k = 1 ∨ k = 10 ∨ (23 ≤ k ∧ k < 44))) : RI (up h k j v) := a.congr (fun b hb => up_obf (fun q => hk (q ▸ hb)))
def inN (h : Hp) (p : Int) : Prop := 0 ≤ p ∧ p < h 1 3
def inQ (h : Hp) (p : Int) : Prop := 0 ≤ p ∧ p < h 1 4
set_option maxHeartbeats 2000000 in
set_option maxRecDepth 20000 in
theorem c_X4_isPupil {d : Nat} {h : Hp} {p : Int} (hI : RI h) (hp : rng p) : Fn d MX4_isPupil [mA 1, mI p] h (some (mI (b01 (inN h p)))) h := by
  intro Q hq X hX hR
  have hn := hI.n
  show VW X 0 [some (mA 1), some (mI p)] [] h
  refine v_iload_n hX eX4_isPupil_0 rfl ?_
  refine v_if_lt hX eX4_isPupil_1 (tgt := 16) rfl ⟨by omega, by omega⟩ (fun c1 => ?_) (fun c1 => ?_)
  · refine v_iconst hX eX4_isPupil_16 ?_
    exact v_zreturn hX hR eX4_isPupil_17 rfl (by omega) (q_f (fun q => by have := q.1; have := q.2; omega) hq)
  · refine v_iload_n hX eX4_isPupil_4 rfl ?_
    refine v_aload_n hX eX4_isPupil_5 rfl ?_
    refine v_getI hX eX4_isPupil_6 fi_X4_29 ⟨by decide, rfl⟩ ?_
    refine v_icmp_ge hX eX4_isPupil_9 (tgt := 16) rfl ⟨by omega, by omega⟩ ⟨by omega, by omega⟩ (fun c9 => ?_) (fun c9 => ?_)
    · refine v_iconst hX eX4_isPupil_16 ?_
      exact v_zreturn hX hR eX4_isPupil_17 rfl (by omega) (q_f (fun q => by have := q.1; have := q.2; omega) hq)
    · refine v_iconst hX eX4_isPupil_12 ?_
      refine v_goto hX eX4_isPupil_13 (tgt := 17) rfl ?_
      exact v_zreturn hX hR eX4_isPupil_17 rfl (by omega) (q_t ⟨by omega, by omega⟩ hq)
set_option maxHeartbeats 2000000 in
set_option maxRecDepth 20000 in
theorem c_X4_isProject {d : Nat} {h : Hp} {p : Int} (hI : RI h) (hp : rng p) : Fn d MX4_isProject [mA 1, mI p] h (some (mI (b01 (inQ h p)))) h := by
  intro Q hq X hX hR
  have hn := hI.q
  show VW X 0 [some (mA 1), some (mI p)] [] h
  refine v_iload_n hX eX4_isProject_0 rfl ?_
  refine v_if_lt hX eX4_isProject_1 (tgt := 16) rfl ⟨by omega, by omega⟩ (fun c1 => ?_) (fun c1 => ?_)
  · refine v_iconst hX eX4_isProject_16 ?_
    exact v_zreturn hX hR eX4_isProject_17 rfl (by omega) (q_f (fun q => by have := q.1; have := q.2; omega) hq)
  · refine v_iload_n hX eX4_isProject_4 rfl ?_
    refine v_aload_n hX eX4_isProject_5 rfl ?_
    refine v_getI hX eX4_isProject_6 fi_X4_36 ⟨by decide, rfl⟩ ?_
    refine v_icmp_ge hX eX4_isProject_9 (tgt := 16) rfl ⟨by omega, by omega⟩ ⟨by omega, by omega⟩ (fun c9 => ?_) (fun c9 => ?_)
    · refine v_iconst hX eX4_isProject_16 ?_
      exact v_zreturn hX hR eX4_isProject_17 rfl (by omega) (q_f (fun q => by have := q.1; have := q.2; omega) hq)
    · refine v_iconst hX eX4_isProject_12 ?_
      refine v_goto hX eX4_isProject_13 (tgt := 17) rfl ?_
      exact v_zreturn hX hR eX4_isProject_17 rfl (by omega) (q_t ⟨by omega, by omega⟩ hq)
set_option maxHeartbeats 2000000 in
set_option maxRecDepth 20000 in
theorem c_X4_pupilOf {d : Nat} {h : Hp} {p : Int} (hI : RI h) (hp : inN h p) : Fn (d + 1) MX4_pupilOf [mA 1, mI p] h (some (mA (23 + p.toNat))) h := by
  intro Q hq X hX hR
  have hn := hI.n
  have h1 := hp.1
  have h2 := hp.2
  show VW X 0 [some (mA 1), some (mI p)] [] h
  refine v_aload_n hX eX4_pupilOf_0 rfl ?_
  refine v_iload_n hX eX4_pupilOf_1 rfl ?_
  refine v_fnV hX eX4_pupilOf_2 lV_X4_52 ok_MX4_isPupil ⟨by decide, rfl⟩ rfl ⟨rfl, Nat.le_of_ble_eq_true rfl⟩ (Nat.le_of_ble_eq_true rfl) (c_X4_isPupil hI ⟨by omega, by omega⟩) rfl ?_
  try simp only [Int.toNat_natCast, Int.toNat_zero, Int.reduceToNat]
  refine v_ifB_eq hX eX4_pupilOf_5 (tgt := 17) rfl (fun c5 => False.elim (c5 hp)) (fun c5 => ?_)
  refine v_aload_n hX eX4_pupilOf_8 rfl ?_
  refine v_getA hX eX4_pupilOf_9 fi_X4_11 ⟨by decide, rfl⟩ rfl ?_
  refine v_iload_n hX eX4_pupilOf_12 rfl ?_
  refine v_aaldP hX eX4_pupilOf_13 ⟨by decide, rfl⟩ ⟨by omega, by omega⟩ (RF_pu ⟨by omega, by omega⟩) ?_
  try simp only [Int.toNat_natCast, Int.toNat_zero, Int.reduceToNat]
  refine v_goto hX eX4_pupilOf_14 (tgt := 18) rfl ?_
  exact v_areturn hX hR eX4_pupilOf_18 rfl (hq)
set_option maxHeartbeats 2000000 in
set_option maxRecDepth 20000 in
theorem c_X4_pupilOf_N {d : Nat} {h : Hp} {p : Int} (hI : RI h) (hr : rng p) (hp : ¬ inN h p) : Fn (d + 1) MX4_pupilOf [mA 1, mI p] h (some mN) h := by
  intro Q hq X hX hR
  have hn := hI.n
  show VW X 0 [some (mA 1), some (mI p)] [] h
  refine v_aload_n hX eX4_pupilOf_0 rfl ?_
  refine v_iload_n hX eX4_pupilOf_1 rfl ?_
  refine v_fnV hX eX4_pupilOf_2 lV_X4_52 ok_MX4_isPupil ⟨by decide, rfl⟩ rfl ⟨rfl, Nat.le_of_ble_eq_true rfl⟩ (Nat.le_of_ble_eq_true rfl) (c_X4_isPupil hI hr) rfl ?_
  try simp only [Int.toNat_natCast, Int.toNat_zero, Int.reduceToNat]
  refine v_ifB_eq hX eX4_pupilOf_5 (tgt := 17) rfl (fun c5 => ?_) (fun c5 => False.elim (hp c5))
  refine v_null hX eX4_pupilOf_17 ?_
  exact v_areturnN hX hR eX4_pupilOf_18 rfl (hq)
set_option maxHeartbeats 2000000 in
set_option maxRecDepth 20000 in
theorem c_X4_projectOf {d : Nat} {h : Hp} {p : Int} (hI : RI h) (hp : inQ h p) : Fn (d + 1) MX4_projectOf [mA 1, mI p] h (some (mA (39 + p.toNat))) h := by
  intro Q hq X hX hR
  have hn := hI.q
  have h1 := hp.1
  have h2 := hp.2
  show VW X 0 [some (mA 1), some (mI p)] [] h
  refine v_aload_n hX eX4_projectOf_0 rfl ?_
  refine v_iload_n hX eX4_projectOf_1 rfl ?_
  refine v_fnV hX eX4_projectOf_2 lV_X4_56 ok_MX4_isProject ⟨by decide, rfl⟩ rfl ⟨rfl, Nat.le_of_ble_eq_true rfl⟩ (Nat.le_of_ble_eq_true rfl) (c_X4_isProject hI ⟨by omega, by omega⟩) rfl ?_
  try simp only [Int.toNat_natCast, Int.toNat_zero, Int.reduceToNat]
  refine v_ifB_eq hX eX4_projectOf_5 (tgt := 17) rfl (fun c5 => False.elim (c5 hp)) (fun c5 => ?_)
  refine v_aload_n hX eX4_projectOf_8 rfl ?_
  refine v_getA hX eX4_projectOf_9 fi_X4_19 ⟨by decide, rfl⟩ rfl ?_
  refine v_iload_n hX eX4_projectOf_12 rfl ?_
  refine v_aaldQ hX eX4_projectOf_13 ⟨by decide, rfl⟩ ⟨by omega, by omega⟩ (RF_pr ⟨by omega, by omega⟩) ?_
  try simp only [Int.toNat_natCast, Int.toNat_zero, Int.reduceToNat]
  refine v_goto hX eX4_projectOf_14 (tgt := 18) rfl ?_
  exact v_areturn hX hR eX4_projectOf_18 rfl (hq)
set_option maxHeartbeats 2000000 in
set_option maxRecDepth 20000 in
theorem c_X4_projectOf_N {d : Nat} {h : Hp} {p : Int} (hI : RI h) (hr : rng p) (hp : ¬ inQ h p) : Fn (d + 1) MX4_projectOf [mA 1, mI p] h (some mN) h := by
  intro Q hq X hX hR
  show VW X 0 [some (mA 1), some (mI p)] [] h
  refine v_aload_n hX eX4_projectOf_0 rfl ?_
  refine v_iload_n hX eX4_projectOf_1 rfl ?_
  refine v_fnV hX eX4_projectOf_2 lV_X4_56 ok_MX4_isProject ⟨by decide, rfl⟩ rfl ⟨rfl, Nat.le_of_ble_eq_true rfl⟩ (Nat.le_of_ble_eq_true rfl) (c_X4_isProject hI hr) rfl ?_
  try simp only [Int.toNat_natCast, Int.toNat_zero, Int.reduceToNat]
  refine v_ifB_eq hX eX4_projectOf_5 (tgt := 17) rfl (fun c5 => ?_) (fun c5 => False.elim (hp c5))
  refine v_null hX eX4_projectOf_17 ?_
  exact v_areturnN hX hR eX4_projectOf_18 rfl (hq)
/-- the first place i below n where f holds p, or -1 -/
def findP (f : Nat → Int) (p : Int) : Nat → Nat → Int
  | 0, _ => -1
  | n + 1, i => if f i = p then i else findP f p n (i + 1)
set_option maxHeartbeats 2000000 in
set_option maxRecDepth 20000 in
theorem c_X4_placeOf {d : Nat} {h : Hp} {p : Int} (hI : RI h) (hr : rng p) : Fn d MX4_placeOf [mA 1, mI p] h (some (mI (findP (h 10) p (h 1 3).toNat 0))) h := by
  intro Q hq X hX hR
  have hn := hI.n
  show VW X 0 [some (mA 1), some (mI p), none] [] h
  have loop : ∀ (k i : Nat), i + k = (h 1 3).toNat → Q (some (mI (findP (h 10) p k i))) h → VW X 2 [some (mA 1), some (mI p), some (mI i)] [] h := by
    intro k
    induction k with
    | zero =>
      intro i hi hq
      refine v_iload_n hX eX4_placeOf_2 rfl ?_
      refine v_aload_n hX eX4_placeOf_3 rfl ?_
      refine v_getI hX eX4_placeOf_4 fi_X4_29 ⟨by decide, rfl⟩ ?_
      refine v_icmp_ge hX eX4_placeOf_7 (tgt := 28) rfl ⟨by omega, by omega⟩ ⟨by omega, by omega⟩ (fun c7 => ?_) (fun c7 => False.elim ((by omega)))
      refine v_iconst hX eX4_placeOf_28 ?_
      exact v_ireturn hX hR eX4_placeOf_29 rfl (hq)
    | succ k ih =>
      intro i hi hq
      have ho := hI.ord (i := i) (by omega)
      refine v_iload_n hX eX4_placeOf_2 rfl ?_
      refine v_aload_n hX eX4_placeOf_3 rfl ?_
      refine v_getI hX eX4_placeOf_4 fi_X4_29 ⟨by decide, rfl⟩ ?_
      refine v_icmp_ge hX eX4_placeOf_7 (tgt := 28) rfl ⟨by omega, by omega⟩ ⟨by omega, by omega⟩ (fun c7 => False.elim ((by omega))) (fun c7 => ?_)
      unfold findP at hq
      refine v_aload_n hX eX4_placeOf_10 rfl ?_
      refine v_getA hX eX4_placeOf_11 fi_X4_23 ⟨by decide, rfl⟩ rfl ?_
      refine v_iload_n hX eX4_placeOf_14 rfl ?_
      refine v_iald hX eX4_placeOf_15 (by first | exact ⟨by decide, rfl⟩ | exact AR_rk (by omega)) ⟨by omega, by omega⟩ ?_
      try simp only [Int.toNat_natCast, Int.toNat_zero, Int.reduceToNat]
      refine v_iload_n hX eX4_placeOf_16 rfl ?_
      refine v_icmp_ne hX eX4_placeOf_17 (tgt := 22) rfl ⟨by omega, by omega⟩ ⟨by omega, by omega⟩ (fun c17 => ?_) (fun c17 => ?_)
      · rw [if_neg c17] at hq
        refine v_iinc hX eX4_placeOf_22 rfl rfl rfl ?_
        refine v_goto hX eX4_placeOf_25 (tgt := 2) rfl ?_
        exact ih (i + 1) (by omega) hq
      · refine v_iload_n hX eX4_placeOf_20 rfl ?_
        exact v_ireturn hX hR eX4_placeOf_21 rfl (by rw [if_pos c17] at hq; exact hq)
  refine v_iconst hX eX4_placeOf_0 ?_
  refine v_istore_n hX eX4_placeOf_1 rfl rfl ?_
  exact loop _ 0 (by omega) hq
end
section
/-! leaves of Roll, Pupil, Project -/
theorem inN.lt {h : Hp} {p : Int} (hI : RI h) (hp : inN h p) : 0 ≤ p ∧ p < 8 := ⟨hp.1, by have := hp.2; have := hI.n; omega⟩
theorem inQ.lt {h : Hp} {p : Int} (hI : RI h) (hp : inQ h p) : 0 ≤ p ∧ p < 5 := ⟨hp.1, by have := hp.2; have := hI.q; omega⟩
set_option maxHeartbeats 2000000 in
set_option maxRecDepth 20000 in
theorem c_X4_scoreOf {d : Nat} {h : Hp} {p : Int} (hI : RI h) (hp : inN h p) : Fn (d + 2) MX4_scoreOf [mA 1, mI p] h (some (mI (h (23 + p.toNat) 3))) h := by
  intro Q hq X hX hR
  have hp8 := hp.lt hI
  show VW X 0 [some (mA 1), some (mI p), none] [] h
  refine v_aload_n hX eX4_scoreOf_0 rfl ?_
  refine v_iload_n hX eX4_scoreOf_1 rfl ?_
  refine v_fnV hX eX4_scoreOf_2 lV_X4_59 ok_MX4_pupilOf ⟨by decide, rfl⟩ rfl ⟨rfl, Nat.le_of_ble_eq_true rfl⟩ (Nat.le_of_ble_eq_true rfl) (c_X4_pupilOf hI hp) rfl ?_
  try simp only [Int.toNat_natCast, Int.toNat_zero, Int.reduceToNat]
  refine v_astore_n hX eX4_scoreOf_5 rfl rfl ?_
  refine v_aload_n hX eX4_scoreOf_6 rfl ?_
  refine v_ifnonnull hX eX4_scoreOf_7 (tgt := 14) rfl ?_
  refine v_aload_n hX eX4_scoreOf_14 rfl ?_
  refine v_getI hX eX4_scoreOf_15 fi_X4_63 (OB_pu (by omega)) ?_
  exact v_ireturn hX hR eX4_scoreOf_18 rfl (hq)
set_option maxHeartbeats 2000000 in
set_option maxRecDepth 20000 in
theorem c_X4_addScore {d : Nat} {h : Hp} {p m : Int} (hI : RI h) (hp : inN h p) : Fn (d + 2) MX4_addScore [mA 1, mI p, mI m] h none (up h (23 + p.toNat) 3 (h (23 + p.toNat) 3 + m)) := by
  intro Q hq X hX hR
  have hp8 := hp.lt hI
  show VW X 0 [some (mA 1), some (mI p), some (mI m), none] [] h
  refine v_aload_n hX eX4_addScore_0 rfl ?_
  refine v_iload_n hX eX4_addScore_1 rfl ?_
  refine v_fnV hX eX4_addScore_2 lV_X4_59 ok_MX4_pupilOf ⟨by decide, rfl⟩ rfl ⟨rfl, Nat.le_of_ble_eq_true rfl⟩ (Nat.le_of_ble_eq_true rfl) (c_X4_pupilOf hI hp) rfl ?_
  try simp only [Int.toNat_natCast, Int.toNat_zero, Int.reduceToNat]
  refine v_astore_n hX eX4_addScore_5 rfl rfl ?_
  refine v_aload_n hX eX4_addScore_6 rfl ?_
  refine v_ifnull hX eX4_addScore_7 ?_
  refine v_aload_n hX eX4_addScore_10 rfl ?_
  refine v_dup hX eX4_addScore_11 rfl ?_
  refine v_getI hX eX4_addScore_12 fi_X4_63 (OB_pu (by omega)) ?_
  refine v_iload_n hX eX4_addScore_15 rfl ?_
  refine v_iadd hX eX4_addScore_16 ?_
  refine v_putI hX eX4_addScore_17 fi_X4_63 (OB_pu (by omega)) ?_
  exact v_return hX hR eX4_addScore_20 rfl (hq)
def frB (h : Hp) (a b : Nat) : Bool := (h (23 + a) 4).toNat.testBit b
def apB (h : Hp) (a b : Nat) : Bool := (h (23 + a) 5).toNat.testBit b
theorem cast_toNat {z : Int} (h : 0 ≤ z) : z = ((z.toNat : Nat) : Int) := by omega
set_option maxHeartbeats 2000000 in
set_option maxRecDepth 20000 in
theorem c_X4_areFriends {d : Nat} {h : Hp} {a b : Int} (hI : RI h) (ha : inN h a) (hb : inN h b) : Fn (d + 2) MX4_areFriends [mA 1, mI a, mI b] h (some (mI (b01 (frB h a.toNat b.toNat = true)))) h := by
  intro Q hq X hX hR
  have ha8 := ha.lt hI
  have hb8 := hb.lt hI
  have hf := (hI.pu (p := a.toNat) (by omega)).2.2.2.1
  have e : band (bshr (h (23 + a.toNat) 4) b) 1 = if frB h a.toNat b.toNat then 1 else 0 := by
    have := bitq (g := (h (23 + a.toNat) 4).toNat) (i := b.toNat) (by omega) (by omega)
    rw [← cast_toNat hf.1, ← cast_toNat hb8.1] at this
    exact this
  have e2 : rng (band (bshr (h (23 + a.toNat) 4) b) 1) := by rw [e]; split <;> decide
  show VW X 0 [some (mA 1), some (mI a), some (mI b), none] [] h
  refine v_aload_n hX eX4_areFriends_0 rfl ?_
  refine v_iload_n hX eX4_areFriends_1 rfl ?_
  refine v_fnV hX eX4_areFriends_2 lV_X4_59 ok_MX4_pupilOf ⟨by decide, rfl⟩ rfl ⟨rfl, Nat.le_of_ble_eq_true rfl⟩ (Nat.le_of_ble_eq_true rfl) (c_X4_pupilOf hI ha) rfl ?_
  try simp only [Int.toNat_natCast, Int.toNat_zero, Int.reduceToNat]
  refine v_astore_n hX eX4_areFriends_5 rfl rfl ?_
  refine v_aload_n hX eX4_areFriends_6 rfl ?_
  refine v_ifnull hX eX4_areFriends_7 ?_
  refine v_aload_n hX eX4_areFriends_10 rfl ?_
  refine v_iload_n hX eX4_areFriends_11 rfl ?_
  refine v_fnV hX eX4_areFriends_12 lV_X4_52 ok_MX4_isPupil ⟨by decide, rfl⟩ rfl ⟨rfl, Nat.le_of_ble_eq_true rfl⟩ (Nat.le_of_ble_eq_true rfl) (c_X4_isPupil hI ⟨by omega, by omega⟩) rfl ?_
  try simp only [Int.toNat_natCast, Int.toNat_zero, Int.reduceToNat]
  refine v_ifB_eq hX eX4_areFriends_15 (tgt := 33) rfl (fun c15 => False.elim (c15 hb)) (fun c15 => ?_)
  refine v_aload_n hX eX4_areFriends_18 rfl ?_
  refine v_getI hX eX4_areFriends_19 fi_X4_66 (OB_pu (by omega)) ?_
  refine v_iload_n hX eX4_areFriends_22 rfl ?_
  refine v_ishr hX eX4_areFriends_23 ?_
  refine v_iconst hX eX4_areFriends_24 ?_
  refine v_iand hX eX4_areFriends_25 ?_
  refine v_if_eq hX eX4_areFriends_26 (tgt := 33) rfl e2 (fun c26 => ?_) (fun c26 => ?_)
  · refine v_iconst hX eX4_areFriends_33 ?_
    exact v_zreturn hX hR eX4_areFriends_34 rfl (by omega) (q_f (fun q => by rw [e, q] at c26; exact absurd c26 (by decide)) hq)
  · refine v_iconst hX eX4_areFriends_29 ?_
    refine v_goto hX eX4_areFriends_30 (tgt := 34) rfl ?_
    exact v_zreturn hX hR eX4_areFriends_34 rfl (by omega) (q_t (Classical.byContradiction (fun q => c26 (by rw [e, if_neg q]))) hq)
def prF (h : Hp) (p : Nat) : Bool := decide (h (23 + p) 6 = 1)
set_option maxHeartbeats 2000000 in
set_option maxRecDepth 20000 in
theorem c_X4_presentBits {d : Nat} {h : Hp} (hI : RI h) : Fn d MX4_presentBits [mA 1] h (some (mI (bs (prF h) (h 1 3).toNat : Nat))) h := by
  intro Q hq X hX hR
  have hn := hI.n
  show VW X 0 [some (mA 1), none, none] [] h
  have loop : ∀ (i : Nat), i ≤ (h 1 3).toNat → VW X 4 [some (mA 1), some (mI (bs (prF h) i : Nat)), some (mI i)] [] h := by
    refine loop_up _ ?_ ?_
    · refine v_iload_n hX eX4_presentBits_4 rfl ?_
      refine v_aload_n hX eX4_presentBits_5 rfl ?_
      refine v_getI hX eX4_presentBits_6 fi_X4_29 ⟨by decide, rfl⟩ ?_
      refine v_icmp_ge hX eX4_presentBits_9 (tgt := 36) rfl ⟨by omega, by omega⟩ ⟨by omega, by omega⟩ (fun c9 => ?_) (fun c9 => False.elim ((by omega)))
      refine v_iload_n hX eX4_presentBits_36 rfl ?_
      exact v_ireturn hX hR eX4_presentBits_37 rfl (hq)
    · intro i hi ih
      have hz := (hI.pu (p := i) (by omega)).2.2.2.2.2.1
      have hb := bs_lt8 (prF h) (n := i) (by omega)
      refine v_iload_n hX eX4_presentBits_4 rfl ?_
      refine v_aload_n hX eX4_presentBits_5 rfl ?_
      refine v_getI hX eX4_presentBits_6 fi_X4_29 ⟨by decide, rfl⟩ ?_
      refine v_icmp_ge hX eX4_presentBits_9 (tgt := 36) rfl ⟨by omega, by omega⟩ ⟨by omega, by omega⟩ (fun c9 => False.elim ((by omega))) (fun c9 => ?_)
      refine v_aload_n hX eX4_presentBits_12 rfl ?_
      refine v_getA hX eX4_presentBits_13 fi_X4_11 ⟨by decide, rfl⟩ rfl ?_
      refine v_iload_n hX eX4_presentBits_16 rfl ?_
      refine v_aaldP hX eX4_presentBits_17 ⟨by decide, rfl⟩ ⟨by omega, by omega⟩ (RF_pu ⟨by omega, by omega⟩) ?_
      try simp only [Int.toNat_natCast, Int.toNat_zero, Int.reduceToNat]
      refine v_getZ hX eX4_presentBits_18 fi_X4_69 (OB_pu (by omega)) ?_
      refine v_if_eq hX eX4_presentBits_21 (tgt := 30) rfl ⟨by omega, by omega⟩ (fun c21 => ?_) (fun c21 => ?_)
      · have e : bs (prF h) (i + 1) = bs (prF h) i := by
          rw [bs, show prF h i = false from by simp [prF, c21]]
          simp
        rw [e] at ih
        refine v_iinc hX eX4_presentBits_30 rfl rfl rfl ?_
        exact v_goto hX eX4_presentBits_33 (tgt := 4) rfl ih
      · refine v_iload_n hX eX4_presentBits_24 rfl ?_
        refine v_iconst hX eX4_presentBits_25 ?_
        refine v_iload_n hX eX4_presentBits_26 rfl ?_
        refine v_ishl hX eX4_presentBits_27 ?_
        refine v_ior hX eX4_presentBits_28 ?_
        rw [wb_put hb (by omega)]
        refine v_istore_n hX eX4_presentBits_29 rfl rfl ?_
        have e : bs (prF h) (i + 1) = bs (prF h) i ||| 2 ^ i := by
          rw [bs, if_pos (show prF h i = true from by simp [prF]; omega)]
        rw [e] at ih
        refine v_iinc hX eX4_presentBits_30 rfl rfl rfl ?_
        exact v_goto hX eX4_presentBits_33 (tgt := 4) rfl ih
  refine v_iconst hX eX4_presentBits_0 ?_
  refine v_istore_n hX eX4_presentBits_1 rfl rfl ?_
  refine v_iconst hX eX4_presentBits_2 ?_
  refine v_istore_n hX eX4_presentBits_3 rfl rfl ?_
  exact loop 0 (by omega)
def onF (h : Hp) (q : Nat) : Bool := decide (h (39 + q) 5 = 1)
set_option maxHeartbeats 2000000 in
set_option maxRecDepth 20000 in
theorem c_X4_offeredCount {d : Nat} {h : Hp} (hI : RI h) : Fn d MX4_offeredCount [mA 1] h (some (mI (cntF (onF h) (h 1 4).toNat : Nat))) h := by
  intro Q hq X hX hR
  have hn := hI.q
  show VW X 0 [some (mA 1), none, none] [] h
  have loop : ∀ (i : Nat), i ≤ (h 1 4).toNat → VW X 4 [some (mA 1), some (mI (cntF (onF h) i : Nat)), some (mI i)] [] h := by
    refine loop_up _ ?_ ?_
    · refine v_iload_n hX eX4_offeredCount_4 rfl ?_
      refine v_aload_n hX eX4_offeredCount_5 rfl ?_
      refine v_getI hX eX4_offeredCount_6 fi_X4_36 ⟨by decide, rfl⟩ ?_
      refine v_icmp_ge hX eX4_offeredCount_9 (tgt := 33) rfl ⟨by omega, by omega⟩ ⟨by omega, by omega⟩ (fun c9 => ?_) (fun c9 => False.elim ((by omega)))
      refine v_iload_n hX eX4_offeredCount_33 rfl ?_
      exact v_ireturn hX hR eX4_offeredCount_34 rfl (hq)
    · intro i hi ih
      have hz := (hI.pr (p := i) (by omega)).2.2.2.2.2.1
      refine v_iload_n hX eX4_offeredCount_4 rfl ?_
      refine v_aload_n hX eX4_offeredCount_5 rfl ?_
      refine v_getI hX eX4_offeredCount_6 fi_X4_36 ⟨by decide, rfl⟩ ?_
      refine v_icmp_ge hX eX4_offeredCount_9 (tgt := 33) rfl ⟨by omega, by omega⟩ ⟨by omega, by omega⟩ (fun c9 => False.elim ((by omega))) (fun c9 => ?_)
      refine v_aload_n hX eX4_offeredCount_12 rfl ?_
      refine v_getA hX eX4_offeredCount_13 fi_X4_19 ⟨by decide, rfl⟩ rfl ?_
      refine v_iload_n hX eX4_offeredCount_16 rfl ?_
      refine v_aaldQ hX eX4_offeredCount_17 ⟨by decide, rfl⟩ ⟨by omega, by omega⟩ (RF_pr ⟨by omega, by omega⟩) ?_
      try simp only [Int.toNat_natCast, Int.toNat_zero, Int.reduceToNat]
      refine v_getZ hX eX4_offeredCount_18 fi_X4_73 (OB_pr (by omega)) ?_
      refine v_if_eq hX eX4_offeredCount_21 (tgt := 27) rfl ⟨by omega, by omega⟩ (fun c21 => ?_) (fun c21 => ?_)
      · rw [show cntF (onF h) (i + 1) = cntF (onF h) i from by simp [cntF, onF, c21]] at ih
        refine v_iinc hX eX4_offeredCount_27 rfl rfl rfl ?_
        exact v_goto hX eX4_offeredCount_30 (tgt := 4) rfl ih
      · refine v_iinc hX eX4_offeredCount_24 rfl rfl rfl ?_
        rw [show cntF (onF h) (i + 1) = cntF (onF h) i + 1 from by rw [cntF, if_pos (show onF h i = true from by simp [onF]; omega)]] at ih
        refine v_iinc hX eX4_offeredCount_27 rfl rfl rfl ?_
        exact v_goto hX eX4_offeredCount_30 (tgt := 4) rfl ih
  refine v_iconst hX eX4_offeredCount_0 ?_
  refine v_istore_n hX eX4_offeredCount_1 rfl rfl ?_
  refine v_iconst hX eX4_offeredCount_2 ?_
  refine v_istore_n hX eX4_offeredCount_3 rfl rfl ?_
  exact loop 0 (by omega)
set_option maxHeartbeats 2000000 in
set_option maxRecDepth 20000 in
theorem c_X4_addPupil_N {d : Nat} {h : Hp} {k : Int} (hI : RI h) (hn8 : h 1 3 = 8) : Fn d MX4_addPupil [mA 1, mI k] h (some (mI (-1))) h := by
  intro Q hq X hX hR
  show VW X 0 [some (mA 1), some (mI k), none] [] h
  refine v_aload_n hX eX4_addPupil_0 rfl ?_
  refine v_getI hX eX4_addPupil_1 fi_X4_29 ⟨by decide, rfl⟩ ?_
  refine v_bipush hX eX4_addPupil_4 (by decide) ?_
  refine v_icmp_lt hX eX4_addPupil_6 (tgt := 11) rfl ⟨by omega, by omega⟩ ⟨by omega, by omega⟩ (fun c6 => False.elim ((by omega))) (fun c6 => ?_)
  refine v_iconst hX eX4_addPupil_9 ?_
  exact v_ireturn hX hR eX4_addPupil_10 rfl (hq)
set_option maxHeartbeats 2000000 in
set_option maxRecDepth 20000 in
theorem c_X4_addPupil {d : Nat} {h : Hp} {k : Int} (hI : RI h) (hn8 : h 1 3 < 8) : Fn d MX4_addPupil [mA 1, mI k] h (some (mI (h 1 3))) (up (up (up h (23 + (h 1 3).toNat) 1 k) 10 (h 1 3).toNat (h 1 3)) 1 3 (h 1 3 + 1)) := by
  intro Q hq X hX hR
  have hn := hI.n
  show VW X 0 [some (mA 1), some (mI k), none] [] h
  refine v_aload_n hX eX4_addPupil_0 rfl ?_
  refine v_getI hX eX4_addPupil_1 fi_X4_29 ⟨by decide, rfl⟩ ?_
  refine v_bipush hX eX4_addPupil_4 (by decide) ?_
  refine v_icmp_lt hX eX4_addPupil_6 (tgt := 11) rfl ⟨by omega, by omega⟩ ⟨by omega, by omega⟩ (fun c6 => ?_) (fun c6 => False.elim ((by omega)))
  refine v_aload_n hX eX4_addPupil_11 rfl ?_
  refine v_getI hX eX4_addPupil_12 fi_X4_29 ⟨by decide, rfl⟩ ?_
  refine v_istore_n hX eX4_addPupil_15 rfl rfl ?_
  refine v_aload_n hX eX4_addPupil_16 rfl ?_
  refine v_getA hX eX4_addPupil_17 fi_X4_11 ⟨by decide, rfl⟩ rfl ?_
  refine v_iload_n hX eX4_addPupil_20 rfl ?_
  refine v_aaldP hX eX4_addPupil_21 ⟨by decide, rfl⟩ ⟨by omega, by omega⟩ (RF_pu ⟨by omega, by omega⟩) ?_
  try simp only [Int.toNat_natCast, Int.toNat_zero, Int.reduceToNat]
  refine v_iload_n hX eX4_addPupil_22 rfl ?_
  refine v_putI hX eX4_addPupil_23 fi_X4_33 (OB_pu (by omega)) ?_
  refine v_aload_n hX eX4_addPupil_26 rfl ?_
  refine v_getA hX eX4_addPupil_27 fi_X4_23 ⟨by decide, rfl⟩ rfl ?_
  refine v_iload_n hX eX4_addPupil_30 rfl ?_
  refine v_iload_n hX eX4_addPupil_31 rfl ?_
  refine v_iast hX eX4_addPupil_32 (by first | exact ⟨by decide, rfl⟩ | exact AR_rk (by omega)) ⟨by omega, by omega⟩ ?_
  try simp only [Int.toNat_natCast, Int.toNat_zero, Int.reduceToNat]
  refine v_aload_n hX eX4_addPupil_33 rfl ?_
  refine v_dup hX eX4_addPupil_34 rfl ?_
  refine v_getI hX eX4_addPupil_35 fi_X4_29 ⟨by decide, rfl⟩ ?_
  rw [up_ob (by omega), up_ob (by omega)]
  refine v_iconst hX eX4_addPupil_38 ?_
  refine v_iadd hX eX4_addPupil_39 ?_
  refine v_putI hX eX4_addPupil_40 fi_X4_29 ⟨by decide, rfl⟩ ?_
  refine v_iload_n hX eX4_addPupil_43 rfl ?_
  exact v_ireturn hX hR eX4_addPupil_44 rfl (hq)
def newPr (h : Hp) (k l m s ld : Int) : Hp := up (up (up (up (up (up h (39 + (h 1 4).toNat) 0 k) (39 + (h 1 4).toNat) 1 l) (39 + (h 1 4).toNat) 2 m) (39 + (h 1 4).toNat) 3 s) (39 + (h 1 4).toNat) 4 ld) 1 4 (h 1 4 + 1)
set_option maxHeartbeats 2000000 in
set_option maxRecDepth 20000 in
theorem c_X4_addProject_N {d : Nat} {h : Hp} {k l m s ld : Int} (hI : RI h) (hn8 : h 1 4 = 5) : Fn d MX4_addProject [mA 1, mI k, mI l, mI m, mI s, mI ld] h (some (mI (-1))) h := by
  intro Q hq X hX hR
  show VW X 0 [some (mA 1), some (mI k), some (mI l), some (mI m), some (mI s), some (mI ld), none, none] [] h
  refine v_aload_n hX eX4_addProject_0 rfl ?_
  refine v_getI hX eX4_addProject_1 fi_X4_36 ⟨by decide, rfl⟩ ?_
  refine v_iconst hX eX4_addProject_4 ?_
  refine v_icmp_lt hX eX4_addProject_5 (tgt := 10) rfl ⟨by omega, by omega⟩ ⟨by omega, by omega⟩ (fun c5 => False.elim ((by omega))) (fun c5 => ?_)
  refine v_iconst hX eX4_addProject_8 ?_
  exact v_ireturn hX hR eX4_addProject_9 rfl (hq)
set_option maxHeartbeats 2000000 in
set_option maxRecDepth 20000 in
theorem c_X4_addProject {d : Nat} {h : Hp} {k l m s ld : Int} (hI : RI h) (hn8 : h 1 4 < 5) : Fn d MX4_addProject [mA 1, mI k, mI l, mI m, mI s, mI ld] h (some (mI (h 1 4))) (newPr h k l m s ld) := by
  intro Q hq X hX hR
  have hn := hI.q
  show VW X 0 [some (mA 1), some (mI k), some (mI l), some (mI m), some (mI s), some (mI ld), none, none] [] h
  refine v_aload_n hX eX4_addProject_0 rfl ?_
  refine v_getI hX eX4_addProject_1 fi_X4_36 ⟨by decide, rfl⟩ ?_
  refine v_iconst hX eX4_addProject_4 ?_
  refine v_icmp_lt hX eX4_addProject_5 (tgt := 10) rfl ⟨by omega, by omega⟩ ⟨by omega, by omega⟩ (fun c5 => ?_) (fun c5 => False.elim ((by omega)))
  refine v_aload_n hX eX4_addProject_10 rfl ?_
  refine v_getI hX eX4_addProject_11 fi_X4_36 ⟨by decide, rfl⟩ ?_
  refine v_istore hX eX4_addProject_14 rfl rfl ?_
  refine v_aload_n hX eX4_addProject_16 rfl ?_
  refine v_getA hX eX4_addProject_17 fi_X4_19 ⟨by decide, rfl⟩ rfl ?_
  refine v_iload hX eX4_addProject_20 rfl ?_
  refine v_aaldQ hX eX4_addProject_22 ⟨by decide, rfl⟩ ⟨by omega, by omega⟩ (RF_pr ⟨by omega, by omega⟩) ?_
  try simp only [Int.toNat_natCast, Int.toNat_zero, Int.reduceToNat]
  refine v_astore hX eX4_addProject_23 rfl rfl ?_
  refine v_aload hX eX4_addProject_25 rfl ?_
  refine v_iload_n hX eX4_addProject_27 rfl ?_
  refine v_putI hX eX4_addProject_28 fi_X4_39 (OB_pr (by omega)) ?_
  refine v_aload hX eX4_addProject_31 rfl ?_
  refine v_iload_n hX eX4_addProject_33 rfl ?_
  refine v_putI hX eX4_addProject_34 fi_X4_42 (OB_pr (by omega)) ?_
  refine v_aload hX eX4_addProject_37 rfl ?_
  refine v_iload_n hX eX4_addProject_39 rfl ?_
  refine v_putI hX eX4_addProject_40 fi_X4_45 (OB_pr (by omega)) ?_
  refine v_aload hX eX4_addProject_43 rfl ?_
  refine v_iload hX eX4_addProject_45 rfl ?_
  refine v_putI hX eX4_addProject_47 fi_X4_48 (OB_pr (by omega)) ?_
  refine v_aload hX eX4_addProject_50 rfl ?_
  refine v_iload hX eX4_addProject_52 rfl ?_
  refine v_putI hX eX4_addProject_54 fi_X4_49 (OB_pr (by omega)) ?_
  refine v_aload_n hX eX4_addProject_57 rfl ?_
  refine v_dup hX eX4_addProject_58 rfl ?_
  refine v_getI hX eX4_addProject_59 fi_X4_36 ⟨by decide, rfl⟩ ?_
  rw [up_ob (by omega), up_ob (by omega), up_ob (by omega), up_ob (by omega), up_ob (by omega)]
  refine v_iconst hX eX4_addProject_62 ?_
  refine v_iadd hX eX4_addProject_63 ?_
  refine v_putI hX eX4_addProject_64 fi_X4_36 ⟨by decide, rfl⟩ ?_
  refine v_iload hX eX4_addProject_67 rfl ?_
  exact v_ireturn hX hR eX4_addProject_69 rfl (hq)
def swp (h : Hp) (k i j : Nat) : Hp := up (up h k i (h k j)) k j (h k i)
set_option maxHeartbeats 2000000 in
set_option maxRecDepth 20000 in
theorem c_X7_exch {d : Nat} {h : Hp} {k n : Nat} {i j : Int} (ha : AR k 0 n) (hi : 0 ≤ i ∧ i < n) (hj : 0 ≤ j ∧ j < n) : Fn d MX7_exchangePlaces [mA k, mI i, mI j] h none (swp h k i.toNat j.toNat) := by
  intro Q hq X hX hR
  have hl := ha.len
  show VW X 0 [some (mA k), some (mI i), some (mI j), none] [] h
  refine v_iload_n hX eX7_exchangePlaces_0 rfl ?_
  refine v_if_lt hX eX7_exchangePlaces_1 (tgt := 20) rfl ⟨by omega, by omega⟩ (fun c => False.elim (by omega)) (fun _ => ?_)
  refine v_iload_n hX eX7_exchangePlaces_4 rfl ?_
  refine v_aload_n hX eX7_exchangePlaces_5 rfl ?_
  refine v_alen hX eX7_exchangePlaces_6 ha ?_
  refine v_icmp_ge hX eX7_exchangePlaces_7 (tgt := 20) rfl ⟨by omega, by omega⟩ ⟨by omega, by omega⟩ (fun c => False.elim (by omega)) (fun _ => ?_)
  refine v_iload_n hX eX7_exchangePlaces_10 rfl ?_
  refine v_if_lt hX eX7_exchangePlaces_11 (tgt := 20) rfl ⟨by omega, by omega⟩ (fun c => False.elim (by omega)) (fun _ => ?_)
  refine v_iload_n hX eX7_exchangePlaces_14 rfl ?_
  refine v_aload_n hX eX7_exchangePlaces_15 rfl ?_
  refine v_alen hX eX7_exchangePlaces_16 ha ?_
  refine v_icmp_lt hX eX7_exchangePlaces_17 (tgt := 21) rfl ⟨by omega, by omega⟩ ⟨by omega, by omega⟩ (fun c => ?_) (fun c => False.elim (by omega))
  refine v_aload_n hX eX7_exchangePlaces_21 rfl ?_
  refine v_iload_n hX eX7_exchangePlaces_22 rfl ?_
  refine v_iald hX eX7_exchangePlaces_23 ha hi ?_
  refine v_istore_n hX eX7_exchangePlaces_24 rfl rfl ?_
  refine v_aload_n hX eX7_exchangePlaces_25 rfl ?_
  refine v_iload_n hX eX7_exchangePlaces_26 rfl ?_
  refine v_aload_n hX eX7_exchangePlaces_27 rfl ?_
  refine v_iload_n hX eX7_exchangePlaces_28 rfl ?_
  refine v_iald hX eX7_exchangePlaces_29 ha hj ?_
  refine v_iast hX eX7_exchangePlaces_30 ha hi ?_
  refine v_aload_n hX eX7_exchangePlaces_31 rfl ?_
  refine v_iload_n hX eX7_exchangePlaces_32 rfl ?_
  refine v_iload_n hX eX7_exchangePlaces_33 rfl ?_
  refine v_iast hX eX7_exchangePlaces_34 ha hj ?_
  exact v_return hX hR eX7_exchangePlaces_35 rfl hq
def rkI (h : Hp) (p : Nat) (j : Int) : Int := if 0 ≤ j ∧ j < 5 then h (31 + p) j.toNat else 6
set_option maxHeartbeats 2000000 in
set_option maxRecDepth 20000 in
theorem c_X3_rankIn {d : Nat} {h : Hp} {p : Nat} {j : Int} (hp : p < 8) (hj : rng j) : Fn d MX3_rankIn [mA (23 + p), mI j] h (some (mI (rkI h p j))) h := by
  intro Q hq X hX hR
  show VW X 0 [some (mA (23 + p)), some (mI j)] [] h
  refine v_iload_n hX eX3_rankIn_0 rfl ?_
  refine v_if_lt hX eX3_rankIn_1 (tgt := 13) rfl ⟨by omega, by omega⟩ (fun c1 => ?_) (fun c1 => ?_)
  · refine v_bipush hX eX3_rankIn_13 (by decide) ?_
    refine v_goto hX eX3_rankIn_15 (tgt := 24) rfl ?_
    exact v_ireturn hX hR eX3_rankIn_24 rfl (q_i (if_neg (by omega)) hq)
  · refine v_iload_n hX eX3_rankIn_4 rfl ?_
    refine v_aload_n hX eX3_rankIn_5 rfl ?_
    refine v_getA hX eX3_rankIn_6 fi_X3_9 (OB_pu (by omega)) (RF_rk (by omega)) ?_
    refine v_alen hX eX3_rankIn_9 (by first | exact ⟨by decide, rfl⟩ | exact AR_rk (by omega)) ?_
    refine v_icmp_lt hX eX3_rankIn_10 (tgt := 18) rfl ⟨by omega, by omega⟩ ⟨by omega, by omega⟩ (fun c10 => ?_) (fun c10 => ?_)
    · refine v_aload_n hX eX3_rankIn_18 rfl ?_
      refine v_getA hX eX3_rankIn_19 fi_X3_9 (OB_pu (by omega)) (RF_rk (by omega)) ?_
      refine v_iload_n hX eX3_rankIn_22 rfl ?_
      refine v_iald hX eX3_rankIn_23 (by first | exact ⟨by decide, rfl⟩ | exact AR_rk (by omega)) ⟨by omega, by omega⟩ ?_
      try simp only [Int.toNat_natCast, Int.toNat_zero, Int.reduceToNat]
      exact v_ireturn hX hR eX3_rankIn_24 rfl (q_i (if_pos (by omega)) hq)
    · refine v_bipush hX eX3_rankIn_13 (by decide) ?_
      refine v_goto hX eX3_rankIn_15 (tgt := 24) rfl ?_
      exact v_ireturn hX hR eX3_rankIn_24 rfl (q_i (if_neg (by omega)) hq)
def addW (h : Hp) (p j : Nat) : Hp := up (up h (23 + p) 2 (h (23 + p) 2 + 1)) (31 + p) j (h (23 + p) 2 + 1)
set_option maxHeartbeats 2000000 in
set_option maxRecDepth 20000 in
theorem c_X3_addWish {d : Nat} {h : Hp} {p : Nat} {j : Int} (hI : RI h) (hp : p < 8) (hj : 0 ≤ j ∧ j < 5) (h6 : h (31 + p) j.toNat = 6) : Fn d MX3_addWish [mA (23 + p), mI j] h (some (mI 1)) (addW h p j.toNat) := by
  intro Q hq X hX hR
  have hw := (hI.pu hp).2.1
  show VW X 0 [some (mA (23 + p)), some (mI j)] [] h
  refine v_iload_n hX eX3_addWish_0 rfl ?_
  refine v_if_lt hX eX3_addWish_1 (tgt := 24) rfl ⟨by omega, by omega⟩ (fun c1 => False.elim ((by omega))) (fun c1 => ?_)
  refine v_iload_n hX eX3_addWish_4 rfl ?_
  refine v_aload_n hX eX3_addWish_5 rfl ?_
  refine v_getA hX eX3_addWish_6 fi_X3_9 (OB_pu (by omega)) (RF_rk (by omega)) ?_
  refine v_alen hX eX3_addWish_9 (by first | exact ⟨by decide, rfl⟩ | exact AR_rk (by omega)) ?_
  refine v_icmp_ge hX eX3_addWish_10 (tgt := 24) rfl ⟨by omega, by omega⟩ ⟨by omega, by omega⟩ (fun c10 => False.elim ((by omega))) (fun c10 => ?_)
  refine v_aload_n hX eX3_addWish_13 rfl ?_
  refine v_getA hX eX3_addWish_14 fi_X3_9 (OB_pu (by omega)) (RF_rk (by omega)) ?_
  refine v_iload_n hX eX3_addWish_17 rfl ?_
  refine v_iald hX eX3_addWish_18 (by first | exact ⟨by decide, rfl⟩ | exact AR_rk (by omega)) ⟨by omega, by omega⟩ ?_
  try simp only [Int.toNat_natCast, Int.toNat_zero, Int.reduceToNat]
  refine v_bipush hX eX3_addWish_19 (by decide) ?_
  refine v_icmp_eq hX eX3_addWish_21 (tgt := 26) rfl ⟨by rw [h6]; decide, by rw [h6]; decide⟩ ⟨by decide, by decide⟩ (fun c21 => ?_) (fun c21 => False.elim (c21 h6))
  refine v_aload_n hX eX3_addWish_26 rfl ?_
  refine v_dup hX eX3_addWish_27 rfl ?_
  refine v_getI hX eX3_addWish_28 fi_X3_19 (OB_pu (by omega)) ?_
  refine v_iconst hX eX3_addWish_31 ?_
  refine v_iadd hX eX3_addWish_32 ?_
  refine v_putI hX eX3_addWish_33 fi_X3_19 (OB_pu (by omega)) ?_
  refine v_aload_n hX eX3_addWish_36 rfl ?_
  refine v_getA hX eX3_addWish_37 fi_X3_9 (OB_pu (by omega)) (RF_rk (by omega)) ?_
  refine v_iload_n hX eX3_addWish_40 rfl ?_
  refine v_aload_n hX eX3_addWish_41 rfl ?_
  refine v_getI hX eX3_addWish_42 fi_X3_19 (OB_pu (by omega)) ?_
  rw [up_same]
  refine v_iast hX eX3_addWish_45 (by first | exact ⟨by decide, rfl⟩ | exact AR_rk (by omega)) ⟨by omega, by omega⟩ ?_
  try simp only [Int.toNat_natCast, Int.toNat_zero, Int.reduceToNat]
  refine v_iconst hX eX3_addWish_46 ?_
  exact v_zreturn hX hR eX3_addWish_47 rfl (by omega) (hq)
set_option maxHeartbeats 2000000 in
set_option maxRecDepth 20000 in
theorem c_X3_addWish_F {d : Nat} {h : Hp} {p : Nat} {j : Int} (hI : RI h) (hp : p < 8) (hr : rng j) (hj : ¬ (0 ≤ j ∧ j < 5 ∧ h (31 + p) j.toNat = 6)) : Fn d MX3_addWish [mA (23 + p), mI j] h (some (mI 0)) h := by
  intro Q hq X hX hR
  have hw := (hI.pu hp).2.2.2.2.2.2
  show VW X 0 [some (mA (23 + p)), some (mI j)] [] h
  refine v_iload_n hX eX3_addWish_0 rfl ?_
  refine v_if_lt hX eX3_addWish_1 (tgt := 24) rfl ⟨by omega, by omega⟩ (fun c1 => ?_) (fun c1 => ?_)
  · refine v_iconst hX eX3_addWish_24 ?_
    exact v_zreturn hX hR eX3_addWish_25 rfl (by omega) (hq)
  · refine v_iload_n hX eX3_addWish_4 rfl ?_
    refine v_aload_n hX eX3_addWish_5 rfl ?_
    refine v_getA hX eX3_addWish_6 fi_X3_9 (OB_pu (by omega)) (RF_rk (by omega)) ?_
    refine v_alen hX eX3_addWish_9 (by first | exact ⟨by decide, rfl⟩ | exact AR_rk (by omega)) ?_
    refine v_icmp_ge hX eX3_addWish_10 (tgt := 24) rfl ⟨by omega, by omega⟩ ⟨by omega, by omega⟩ (fun c10 => ?_) (fun c10 => ?_)
    · refine v_iconst hX eX3_addWish_24 ?_
      exact v_zreturn hX hR eX3_addWish_25 rfl (by omega) (hq)
    · refine v_aload_n hX eX3_addWish_13 rfl ?_
      refine v_getA hX eX3_addWish_14 fi_X3_9 (OB_pu (by omega)) (RF_rk (by omega)) ?_
      refine v_iload_n hX eX3_addWish_17 rfl ?_
      refine v_iald hX eX3_addWish_18 (by first | exact ⟨by decide, rfl⟩ | exact AR_rk (by omega)) ⟨by omega, by omega⟩ ?_
      try simp only [Int.toNat_natCast, Int.toNat_zero, Int.reduceToNat]
      refine v_bipush hX eX3_addWish_19 (by decide) ?_
      have hw2 := hw j.toNat (by omega)
      refine v_icmp_eq hX eX3_addWish_21 (tgt := 26) rfl ⟨by omega, by omega⟩ ⟨by omega, by omega⟩ (fun c21 => False.elim (hj ⟨by omega, by omega, c21⟩)) (fun c21 => ?_)
      refine v_iconst hX eX3_addWish_24 ?_
      exact v_zreturn hX hR eX3_addWish_25 rfl (by omega) (hq)
def clrN (h : Hp) (p i : Nat) : Hp := fun a b => if a = 31 + p ∧ b < i then 6 else up h (23 + p) 2 0 a b
def clr (h : Hp) (p : Nat) : Hp := clrN h p 5
theorem clrN_0 {h : Hp} {p : Nat} : clrN h p 0 = up h (23 + p) 2 0 := by
  funext a b
  simp [clrN]
theorem clrN_s {h : Hp} {p i : Nat} : up (clrN h p i) (31 + p) i 6 = clrN h p (i + 1) := by
  funext a b
  simp only [up, clrN]
  by_cases ha : a = 31 + p
  · subst ha
    by_cases hb : b = i
    · simp [hb]
    · have : (b < i + 1) ↔ b < i := by omega
      simp [hb, this]
  · simp [ha]
set_option maxHeartbeats 2000000 in
set_option maxRecDepth 20000 in
theorem c_X3_clearWishes {d : Nat} {h : Hp} {p : Nat} (hp : p < 8) : Fn d MX3_clearWishes [mA (23 + p)] h none (clr h p) := by
  intro Q hq X hX hR
  show VW X 0 [some (mA (23 + p)), none] [] h
  have loop : ∀ (i : Nat), i ≤ 5 → VW X 7 [some (mA (23 + p)), some (mI i)] [] (clrN h p i) := by
    refine loop_up _ ?_ ?_
    · refine v_iload_n hX eX3_clearWishes_7 rfl ?_
      refine v_aload_n hX eX3_clearWishes_8 rfl ?_
      refine v_getA hX eX3_clearWishes_9 fi_X3_9 (OB_pu (by omega)) (RF_rk (by omega)) ?_
      refine v_alen hX eX3_clearWishes_12 (by first | exact ⟨by decide, rfl⟩ | exact AR_rk (by omega)) ?_
      refine v_icmp_ge hX eX3_clearWishes_13 (tgt := 30) rfl ⟨by omega, by omega⟩ ⟨by omega, by omega⟩ (fun c13 => ?_) (fun c13 => False.elim ((by omega)))
      exact v_return hX hR eX3_clearWishes_30 rfl (hq)
    · intro i hi ih
      refine v_iload_n hX eX3_clearWishes_7 rfl ?_
      refine v_aload_n hX eX3_clearWishes_8 rfl ?_
      refine v_getA hX eX3_clearWishes_9 fi_X3_9 (OB_pu (by omega)) (RF_rk (by omega)) ?_
      refine v_alen hX eX3_clearWishes_12 (by first | exact ⟨by decide, rfl⟩ | exact AR_rk (by omega)) ?_
      refine v_icmp_ge hX eX3_clearWishes_13 (tgt := 30) rfl ⟨by omega, by omega⟩ ⟨by omega, by omega⟩ (fun c13 => False.elim ((by omega))) (fun c13 => ?_)
      refine v_aload_n hX eX3_clearWishes_16 rfl ?_
      refine v_getA hX eX3_clearWishes_17 fi_X3_9 (OB_pu (by omega)) (RF_rk (by omega)) ?_
      refine v_iload_n hX eX3_clearWishes_20 rfl ?_
      refine v_bipush hX eX3_clearWishes_21 (by decide) ?_
      refine v_iast hX eX3_clearWishes_23 (by first | exact ⟨by decide, rfl⟩ | exact AR_rk (by omega)) ⟨by omega, by omega⟩ ?_
      try simp only [Int.toNat_natCast, Int.toNat_zero, Int.reduceToNat]
      rw [clrN_s]
      refine v_iinc hX eX3_clearWishes_24 rfl rfl rfl ?_
      refine v_goto hX eX3_clearWishes_27 (tgt := 7) rfl ?_
      exact ih
  refine v_aload_n hX eX3_clearWishes_0 rfl ?_
  refine v_iconst hX eX3_clearWishes_1 ?_
  refine v_putI hX eX3_clearWishes_2 fi_X3_19 (OB_pu (by omega)) ?_
  refine v_iconst hX eX3_clearWishes_5 ?_
  refine v_istore_n hX eX3_clearWishes_6 rfl rfl ?_
  rw [← clrN_0]
  exact loop 0 (by omega)
end
section
set_option maxHeartbeats 2000000 in
set_option maxRecDepth 20000 in
theorem c_bitCount {d : Nat} {h : Hp} {g : Nat} (hg : g < 256) : Fn d MJ6_bitCount_0f7a4 [mI g] h (some (mI (bcnt g : Nat))) h := by
  intro Q hq X hX hR
  show VW X 0 [some (mI g)] [] h
  refine v_iload_n hX eJ6_bitCount_0f7a4_0 rfl ?_
  refine v_iload_n hX eJ6_bitCount_0f7a4_1 rfl ?_
  refine v_iconst hX eJ6_bitCount_0f7a4_2 ?_
  refine v_iushr hX eJ6_bitCount_0f7a4_3 ?_
  refine v_ldcw (z := 1431655765) hX eJ6_bitCount_0f7a4_4 k_J6_265 (by decide) ?_
  refine v_iand hX eJ6_bitCount_0f7a4_7 ?_
  refine v_isub hX eJ6_bitCount_0f7a4_8 ?_
  refine v_istore_n hX eJ6_bitCount_0f7a4_9 rfl rfl ?_
  refine v_iload_n hX eJ6_bitCount_0f7a4_10 rfl ?_
  refine v_ldcw (z := 858993459) hX eJ6_bitCount_0f7a4_11 k_J6_266 (by decide) ?_
  refine v_iand hX eJ6_bitCount_0f7a4_14 ?_
  refine v_iload_n hX eJ6_bitCount_0f7a4_15 rfl ?_
  refine v_iconst hX eJ6_bitCount_0f7a4_16 ?_
  refine v_iushr hX eJ6_bitCount_0f7a4_17 ?_
  refine v_ldcw (z := 858993459) hX eJ6_bitCount_0f7a4_18 k_J6_266 (by decide) ?_
  refine v_iand hX eJ6_bitCount_0f7a4_21 ?_
  refine v_iadd hX eJ6_bitCount_0f7a4_22 ?_
  refine v_istore_n hX eJ6_bitCount_0f7a4_23 rfl rfl ?_
  refine v_iload_n hX eJ6_bitCount_0f7a4_24 rfl ?_
  refine v_iload_n hX eJ6_bitCount_0f7a4_25 rfl ?_
  refine v_iconst hX eJ6_bitCount_0f7a4_26 ?_
  refine v_iushr hX eJ6_bitCount_0f7a4_27 ?_
  refine v_iadd hX eJ6_bitCount_0f7a4_28 ?_
  refine v_ldcw (z := 252645135) hX eJ6_bitCount_0f7a4_29 k_J6_267 (by decide) ?_
  refine v_iand hX eJ6_bitCount_0f7a4_32 ?_
  refine v_istore_n hX eJ6_bitCount_0f7a4_33 rfl rfl ?_
  refine v_iload_n hX eJ6_bitCount_0f7a4_34 rfl ?_
  refine v_iload_n hX eJ6_bitCount_0f7a4_35 rfl ?_
  refine v_bipush hX eJ6_bitCount_0f7a4_36 (by decide) ?_
  refine v_iushr hX eJ6_bitCount_0f7a4_38 ?_
  refine v_iadd hX eJ6_bitCount_0f7a4_39 ?_
  refine v_istore_n hX eJ6_bitCount_0f7a4_40 rfl rfl ?_
  refine v_iload_n hX eJ6_bitCount_0f7a4_41 rfl ?_
  refine v_iload_n hX eJ6_bitCount_0f7a4_42 rfl ?_
  refine v_bipush hX eJ6_bitCount_0f7a4_43 (by decide) ?_
  refine v_iushr hX eJ6_bitCount_0f7a4_45 ?_
  refine v_iadd hX eJ6_bitCount_0f7a4_46 ?_
  refine v_istore_n hX eJ6_bitCount_0f7a4_47 rfl rfl ?_
  refine v_iload_n hX eJ6_bitCount_0f7a4_48 rfl ?_
  refine v_bipush hX eJ6_bitCount_0f7a4_49 (by decide) ?_
  refine v_iand hX eJ6_bitCount_0f7a4_51 ?_
  exact v_ireturn hX hR eJ6_bitCount_0f7a4_52 rfl (q_i (show (bcnt g : Int) = bcE g from (bcE_all g hg).symm) hq)
/-! sizes, leaders, skills of a PROJECT -/
def rtw (h : Hp) (q : Nat) (k : Int) : Prop := h (39 + q) 0 = 2 ∧ h (39 + q) 2 < k ∧ 2 * h (39 + q) 1 ≤ k ∧ k ≤ 2 * h (39 + q) 2
def tks (h : Hp) (q : Nat) (k : Int) : Prop := rtw h q k ∨ (h (39 + q) 1 ≤ k ∧ k ≤ h (39 + q) 2 ∧ (h (39 + q) 0 ≠ 1 ∨ k % 2 = 0))
def lkl (h : Hp) (q g : Nat) : Prop := h (39 + q) 0 = 3 ∧ ¬ g.testBit (h (39 + q) 4).toNat = true
set_option maxHeartbeats 2000000 in
set_option maxRecDepth 20000 in
theorem c_X2_runsTwice {d : Nat} {h : Hp} {q : Nat} {k : Int} (hI : RI h) (hq5 : q < 5) (hk : 0 ≤ k ∧ k ≤ 8) : Fn d MX2_runsTwice [mA (39 + q), mI k] h (some (mI (b01 (rtw h q k)))) h := by
  intro Q hq X hX hR
  obtain ⟨p1, p2, p3, p4, p5, p6, p7⟩ := hI.pr hq5
  show VW X 0 [some (mA (39 + q)), some (mI k)] [] h
  refine v_aload_n hX eX2_runsTwice_0 rfl ?_
  refine v_getI hX eX2_runsTwice_1 fi_X2_26 (OB_pr (by omega)) ?_
  refine v_iconst hX eX2_runsTwice_4 ?_
  refine v_icmp_ne hX eX2_runsTwice_5 (tgt := 40) rfl ⟨by omega, by omega⟩ ⟨by omega, by omega⟩ (fun c5 => ?_) (fun c5 => ?_)
  · refine v_iconst hX eX2_runsTwice_40 ?_
    exact v_zreturn hX hR eX2_runsTwice_41 rfl (by omega) (q_f (fun q => by have := q.1; omega) hq)
  · refine v_iload_n hX eX2_runsTwice_8 rfl ?_
    refine v_aload_n hX eX2_runsTwice_9 rfl ?_
    refine v_getI hX eX2_runsTwice_10 fi_X2_23 (OB_pr (by omega)) ?_
    refine v_icmp_le hX eX2_runsTwice_13 (tgt := 40) rfl ⟨by omega, by omega⟩ ⟨by omega, by omega⟩ (fun c13 => ?_) (fun c13 => ?_)
    · refine v_iconst hX eX2_runsTwice_40 ?_
      exact v_zreturn hX hR eX2_runsTwice_41 rfl (by omega) (q_f (fun q => by have := q.2.1; omega) hq)
    · refine v_iload_n hX eX2_runsTwice_16 rfl ?_
      refine v_iconst hX eX2_runsTwice_17 ?_
      refine v_aload_n hX eX2_runsTwice_18 rfl ?_
      refine v_getI hX eX2_runsTwice_19 fi_X2_19 (OB_pr (by omega)) ?_
      refine v_imul hX eX2_runsTwice_22 ?_
      refine v_icmp_lt hX eX2_runsTwice_23 (tgt := 40) rfl ⟨by omega, by omega⟩ ⟨by omega, by omega⟩ (fun c23 => ?_) (fun c23 => ?_)
      · refine v_iconst hX eX2_runsTwice_40 ?_
        exact v_zreturn hX hR eX2_runsTwice_41 rfl (by omega) (q_f (fun q => by have := q.2.2.1; omega) hq)
      · refine v_iload_n hX eX2_runsTwice_26 rfl ?_
        refine v_iconst hX eX2_runsTwice_27 ?_
        refine v_aload_n hX eX2_runsTwice_28 rfl ?_
        refine v_getI hX eX2_runsTwice_29 fi_X2_23 (OB_pr (by omega)) ?_
        refine v_imul hX eX2_runsTwice_32 ?_
        refine v_icmp_gt hX eX2_runsTwice_33 (tgt := 40) rfl ⟨by omega, by omega⟩ ⟨by omega, by omega⟩ (fun c33 => ?_) (fun c33 => ?_)
        · refine v_iconst hX eX2_runsTwice_40 ?_
          exact v_zreturn hX hR eX2_runsTwice_41 rfl (by omega) (q_f (fun q => by have := q.2.2.2; omega) hq)
        · refine v_iconst hX eX2_runsTwice_36 ?_
          refine v_goto hX eX2_runsTwice_37 (tgt := 41) rfl ?_
          exact v_zreturn hX hR eX2_runsTwice_41 rfl (by omega) (q_t ⟨by omega, by omega, by omega, by omega⟩ hq)
theorem irem2 : ∀ k : Nat, k < 9 → irem (k : Int) 2 = ((k : Int) % 2) := by decide +kernel
theorem irem2' {k : Int} (h : 0 ≤ k ∧ k ≤ 8) : irem k 2 = k % 2 := by
  have := irem2 k.toNat (by omega)
  rw [← cast_toNat' h.1] at this
  exact this
set_option maxHeartbeats 2000000 in
set_option maxRecDepth 20000 in
theorem c_X2_takes {d : Nat} {h : Hp} {q : Nat} {k : Int} (hI : RI h) (hq5 : q < 5) (hk : 0 ≤ k ∧ k ≤ 8) : Fn (d + 1) MX2_takes [mA (39 + q), mI k] h (some (mI (b01 (tks h q k)))) h := by
  intro Q hq X hX hR
  obtain ⟨p1, p2, p3, p4, p5, p6, p7⟩ := hI.pr hq5
  show VW X 0 [some (mA (39 + q)), some (mI k)] [] h
  refine v_aload_n hX eX2_takes_0 rfl ?_
  refine v_iload_n hX eX2_takes_1 rfl ?_
  refine v_fnV hX eX2_takes_2 lV_X2_15 ok_MX2_runsTwice (OB_pr (by omega)) rfl ⟨rfl, Nat.le_of_ble_eq_true rfl⟩ (Nat.le_of_ble_eq_true rfl) (c_X2_runsTwice hI hq5 hk) rfl ?_
  try simp only [Int.toNat_natCast, Int.toNat_zero, Int.reduceToNat]
  refine v_ifB_eq hX eX2_takes_5 (tgt := 10) rfl (fun c5 => ?_) (fun c5 => ?_)
  · refine v_iload_n hX eX2_takes_10 rfl ?_
    refine v_aload_n hX eX2_takes_11 rfl ?_
    refine v_getI hX eX2_takes_12 fi_X2_19 (OB_pr (by omega)) ?_
    refine v_icmp_lt hX eX2_takes_15 (tgt := 44) rfl ⟨by omega, by omega⟩ ⟨by omega, by omega⟩ (fun c15 => ?_) (fun c15 => ?_)
    · refine v_iconst hX eX2_takes_44 ?_
      exact v_zreturn hX hR eX2_takes_45 rfl (by omega) (q_f (fun q => q.elim c5 (fun q => by have := q.1; omega)) hq)
    · refine v_iload_n hX eX2_takes_18 rfl ?_
      refine v_aload_n hX eX2_takes_19 rfl ?_
      refine v_getI hX eX2_takes_20 fi_X2_23 (OB_pr (by omega)) ?_
      refine v_icmp_gt hX eX2_takes_23 (tgt := 44) rfl ⟨by omega, by omega⟩ ⟨by omega, by omega⟩ (fun c23 => ?_) (fun c23 => ?_)
      · refine v_iconst hX eX2_takes_44 ?_
        exact v_zreturn hX hR eX2_takes_45 rfl (by omega) (q_f (fun q => q.elim c5 (fun q => by have := q.2.1; omega)) hq)
      · refine v_aload_n hX eX2_takes_26 rfl ?_
        refine v_getI hX eX2_takes_27 fi_X2_26 (OB_pr (by omega)) ?_
        refine v_iconst hX eX2_takes_30 ?_
        refine v_icmp_ne hX eX2_takes_31 (tgt := 40) rfl ⟨by omega, by omega⟩ ⟨by omega, by omega⟩ (fun c31 => ?_) (fun c31 => ?_)
        · refine v_iconst hX eX2_takes_40 ?_
          refine v_goto hX eX2_takes_41 (tgt := 45) rfl ?_
          exact v_zreturn hX hR eX2_takes_45 rfl (by omega) (q_t (Or.inr ⟨by omega, by omega, Or.inl c31⟩) hq)
        · refine v_iload_n hX eX2_takes_34 rfl ?_
          refine v_iconst hX eX2_takes_35 ?_
          refine v_irem hX eX2_takes_36 ⟨by omega, by omega, by omega⟩ ?_
          rw [irem2' hk]
          refine v_if_ne hX eX2_takes_37 (tgt := 44) rfl ⟨by omega, by omega⟩ (fun c37 => ?_) (fun c37 => ?_)
          · refine v_iconst hX eX2_takes_44 ?_
            exact v_zreturn hX hR eX2_takes_45 rfl (by omega) (q_f (fun q => q.elim c5 (fun q => by have := q.2.2; omega)) hq)
          · refine v_iconst hX eX2_takes_40 ?_
            refine v_goto hX eX2_takes_41 (tgt := 45) rfl ?_
            exact v_zreturn hX hR eX2_takes_45 rfl (by omega) (q_t (Or.inr ⟨by omega, by omega, Or.inr (by omega)⟩) hq)
  · refine v_iconst hX eX2_takes_8 ?_
    exact v_zreturn hX hR eX2_takes_9 rfl (by omega) (q_t (Or.inl c5) hq)
set_option maxHeartbeats 2000000 in
set_option maxRecDepth 20000 in
theorem c_X2_lacksLeader {d : Nat} {h : Hp} {q g : Nat} (hI : RI h) (hq5 : q < 5) (hg : g < 256) : Fn d MX2_lacksLeader [mA (39 + q), mI g] h (some (mI (b01 (lkl h q g)))) h := by
  intro Q hq X hX hR
  obtain ⟨p1, p2, p3, p4, p5, p6, p7⟩ := hI.pr hq5
  show VW X 0 [some (mA (39 + q)), some (mI g)] [] h
  refine v_aload_n hX eX2_lacksLeader_0 rfl ?_
  refine v_getI hX eX2_lacksLeader_1 fi_X2_26 (OB_pr (by omega)) ?_
  refine v_iconst hX eX2_lacksLeader_4 ?_
  refine v_icmp_ne hX eX2_lacksLeader_5 (tgt := 23) rfl ⟨by omega, by omega⟩ ⟨by omega, by omega⟩ (fun c5 => ?_) (fun c5 => ?_)
  · refine v_iconst hX eX2_lacksLeader_23 ?_
    exact v_zreturn hX hR eX2_lacksLeader_24 rfl (by omega) (q_f (fun q => c5 q.1) hq)
  · have hl := p7 (by omega)
    refine v_iload_n hX eX2_lacksLeader_8 rfl ?_
    refine v_aload_n hX eX2_lacksLeader_9 rfl ?_
    refine v_getI hX eX2_lacksLeader_10 fi_X2_29 (OB_pr (by omega)) ?_
    refine v_ishr hX eX2_lacksLeader_13 ?_
    refine v_iconst hX eX2_lacksLeader_14 ?_
    refine v_iand hX eX2_lacksLeader_15 ?_
    rw [bitZ (s := (g : Int)) (by omega) (by omega)]
    rw [Int.toNat_natCast]
    refine v_ifB_ne hX eX2_lacksLeader_16 (tgt := 23) rfl (fun c16 => ?_) (fun c16 => ?_)
    · refine v_iconst hX eX2_lacksLeader_23 ?_
      exact v_zreturn hX hR eX2_lacksLeader_24 rfl (by omega) (q_f (fun q => q.2 c16) hq)
    · refine v_iconst hX eX2_lacksLeader_19 ?_
      refine v_goto hX eX2_lacksLeader_20 (tgt := 24) rfl ?_
      exact v_zreturn hX hR eX2_lacksLeader_24 rfl (by omega) (q_t ⟨by omega, c16⟩ hq)
/-! skills -/
def skB (h : Hp) (p b : Nat) : Bool := (h (23 + p) 1).toNat.testBit b
def neB (h : Hp) (q b : Nat) : Bool := (h (39 + q) 3).toNat.testBit b
def hasF (h : Hp) (g b : Nat) : Nat → Bool := fun p => g.testBit p && skB h p b
def had1 (h : Hp) (g i : Nat) : Nat := bs (fun b => decide (1 ≤ cntF (hasF h g b) i)) 8
def had2 (h : Hp) (g i : Nat) : Nat := bs (fun b => decide (2 ≤ cntF (hasF h g b) i)) 8
def lks (h : Hp) (q g : Nat) : Prop := ∃ b, b < 8 ∧ neB h q b = true ∧ ((rtw h q (bcnt g) ∧ cntF (hasF h g b) (h 1 3).toNat < 2) ∨ (¬ rtw h q (bcnt g) ∧ cntF (hasF h g b) (h 1 3).toNat < 1))
theorem had_f {h : Hp} {g i : Nat} (e : g.testBit i = false) : had1 h g (i + 1) = had1 h g i ∧ had2 h g (i + 1) = had2 h g i := by
  have : ∀ b, cntF (hasF h g b) (i + 1) = cntF (hasF h g b) i := fun b => by
    simp [cntF, hasF, e]
  simp only [had1, had2, this, and_self]
theorem had_t {h : Hp} {g i : Nat} (e : g.testBit i = true) (hs : (h (23 + i) 1).toNat < 256) : had1 h g (i + 1) = had1 h g i ||| (h (23 + i) 1).toNat ∧ had2 h g (i + 1) = had2 h g i ||| (had1 h g i &&& (h (23 + i) 1).toNat) := by
  have hc : ∀ b, cntF (hasF h g b) (i + 1) = cntF (hasF h g b) i + if (h (23 + i) 1).toNat.testBit b then 1 else 0 := fun b => by
    simp [cntF, hasF, e, skB]
  have l1 : had1 h g i < 256 := bs_lt _ 8
  have l2 : had2 h g i < 256 := bs_lt _ 8
  constructor
  · refine ext8 (bs_lt _ 8) (or_lt8 l1 hs) (fun b hb => ?_)
    rw [Nat.testBit_or, had1, had1, bs_bit, bs_bit, hc b]
    cases (h (23 + i) 1).toNat.testBit b <;> simp [hb]
  · refine ext8 (bs_lt _ 8) (or_lt8 l2 (and_lt8 l1)) (fun b hb => ?_)
    rw [Nat.testBit_or, Nat.testBit_and, had2, had2, had1, bs_bit, bs_bit, bs_bit, hc b]
    cases (h (23 + i) 1).toNat.testBit b
    · simp [hb]
    · simp only [hb, decide_true, Bool.true_and, if_true, Bool.and_true]
      rw [← Bool.decide_or]
      apply decide_eq_decide.mpr
      omega
set_option maxHeartbeats 2000000 in
set_option maxRecDepth 20000 in
theorem c_X4_lacksSkill {d : Nat} {h : Hp} {q g : Nat} (hI : RI h) (hq5 : q < 5) (hg : g < 256) : Fn (d + 1) MX4_lacksSkill [mA 1, mA (39 + q), mI g] h (some (mI (b01 (lks h q g)))) h := by
  intro Q hq X hX hR
  have hn := hI.n
  obtain ⟨p1, p2, p3, p4, p5, p6, p7⟩ := hI.pr hq5
  have hbc := bcnt_le g
  have fin : ∀ (t : Nat), t < 256 → (∀ b, b < 8 → (t.testBit b = true ↔ ((rtw h q (bcnt g) → 2 ≤ cntF (hasF h g b) (h 1 3).toNat) ∧ (¬ rtw h q (bcnt g) → 1 ≤ cntF (hasF h g b) (h 1 3).toNat)))) → VW X 79 [some (mA 1), some (mA (39 + q)), some (mI g), some (mI (had1 h g (h 1 3).toNat : Nat)), some (mI (had2 h g (h 1 3).toNat : Nat)), some (mI (h 1 3))] [mI t] h := by
    intro t ht ht2
    have e : band (h (39 + q) 3) (bxor t (-1)) = 0 ↔ ¬ lks h q g := by
      rw [cast_toNat' p4.1, band_not (by omega) ht]
      constructor
      · rintro a ⟨b, hb, h1, h2⟩
        have := (ht2 b hb).mp (a b hb h1)
        rcases h2 with ⟨h2, h3⟩ | ⟨h2, h3⟩
        · have := this.1 h2; omega
        · have := this.2 h2; omega
      · intro a b hb h1
        refine (ht2 b hb).mpr ⟨fun h2 => ?_, fun h2 => ?_⟩
        · exact Nat.le_of_not_lt (fun h3 => a ⟨b, hb, h1, Or.inl ⟨h2, by omega⟩⟩)
        · exact Nat.le_of_not_lt (fun h3 => a ⟨b, hb, h1, Or.inr ⟨h2, by omega⟩⟩)
    have er : rng (band (h (39 + q) 3) (bxor t (-1))) := by
      have := Int32.toInt_lt (Int32.ofInt (h (39 + q) 3) &&& Int32.ofInt (bxor t (-1)))
      have := Int32.le_toInt (Int32.ofInt (h (39 + q) 3) &&& Int32.ofInt (bxor t (-1)))
      unfold band
      constructor <;> omega
    refine v_istore hX eX4_lacksSkill_79 rfl rfl ?_
    refine v_aload_n hX eX4_lacksSkill_81 rfl ?_
    refine v_getI hX eX4_lacksSkill_82 fi_X4_48 (OB_pr (by omega)) ?_
    refine v_iload hX eX4_lacksSkill_85 rfl ?_
    refine v_iconst hX eX4_lacksSkill_87 ?_
    refine v_ixor hX eX4_lacksSkill_88 ?_
    refine v_iand hX eX4_lacksSkill_89 ?_
    refine v_if_eq hX eX4_lacksSkill_90 (tgt := 97) rfl er (fun c90 => ?_) (fun c90 => ?_)
    · refine v_iconst hX eX4_lacksSkill_97 ?_
      exact v_zreturn hX hR eX4_lacksSkill_98 rfl (by omega) (q_f (e.mp c90) hq)
    · refine v_iconst hX eX4_lacksSkill_93 ?_
      refine v_goto hX eX4_lacksSkill_94 (tgt := 98) rfl ?_
      exact v_zreturn hX hR eX4_lacksSkill_98 rfl (by omega) (q_t (Classical.byContradiction (fun z => c90 (e.mpr z))) hq)
  have loop : ∀ (i : Nat), i ≤ (h 1 3).toNat → VW X 8 [some (mA 1), some (mA (39 + q)), some (mI g), some (mI (had1 h g i : Nat)), some (mI (had2 h g i : Nat)), some (mI i)] [] h := by
    refine loop_up _ ?_ ?_
    · rw [← cast_toNat' hn.1]
      refine v_iload hX eX4_lacksSkill_8 rfl ?_
      refine v_aload_n hX eX4_lacksSkill_10 rfl ?_
      refine v_getI hX eX4_lacksSkill_11 fi_X4_29 ⟨by decide, rfl⟩ ?_
      refine v_icmp_ge hX eX4_lacksSkill_14 (tgt := 62) rfl ⟨by omega, by omega⟩ ⟨by omega, by omega⟩ (fun c14 => ?_) (fun c14 => False.elim ((by omega)))
      refine v_aload_n hX eX4_lacksSkill_62 rfl ?_
      refine v_iload_n hX eX4_lacksSkill_63 rfl ?_
      refine v_fnS hX eX4_lacksSkill_64 lS_X4_103 ok_MJ6_bitCount_0f7a4 ⟨rfl, Nat.le_of_ble_eq_true rfl⟩ (Nat.le_of_ble_eq_true rfl) (c_bitCount hg) rfl ?_
      try simp only [Int.toNat_natCast, Int.toNat_zero, Int.reduceToNat]
      refine v_fnV hX eX4_lacksSkill_67 lV_X4_119 ok_MX2_runsTwice (OB_pr (by omega)) rfl ⟨rfl, Nat.le_of_ble_eq_true rfl⟩ (Nat.le_of_ble_eq_true rfl) (c_X2_runsTwice hI hq5 (by omega)) rfl ?_
      try simp only [Int.toNat_natCast, Int.toNat_zero, Int.reduceToNat]
      refine v_ifB_eq hX eX4_lacksSkill_70 (tgt := 78) rfl (fun c70 => ?_) (fun c70 => ?_)
      · refine v_iload_n hX eX4_lacksSkill_78 rfl ?_
        refine fin _ (bs_lt _ 8) (fun b hb => ?_)
        rw [had1, bs_bit]
        simp [hb, c70]
      · refine v_iload hX eX4_lacksSkill_73 rfl ?_
        refine v_goto hX eX4_lacksSkill_75 (tgt := 79) rfl ?_
        refine fin _ (bs_lt _ 8) (fun b hb => ?_)
        rw [had2, bs_bit]
        simp [hb, c70]
    · intro i hi ih
      have hs := (hI.pu (p := i) (by omega)).1
      have l1 : had1 h g i < 256 := bs_lt _ 8
      have l2 : had2 h g i < 256 := bs_lt _ 8
      refine v_iload hX eX4_lacksSkill_8 rfl ?_
      refine v_aload_n hX eX4_lacksSkill_10 rfl ?_
      refine v_getI hX eX4_lacksSkill_11 fi_X4_29 ⟨by decide, rfl⟩ ?_
      refine v_icmp_ge hX eX4_lacksSkill_14 (tgt := 62) rfl ⟨by omega, by omega⟩ ⟨by omega, by omega⟩ (fun c14 => False.elim ((by omega))) (fun c14 => ?_)
      refine v_iload_n hX eX4_lacksSkill_17 rfl ?_
      refine v_iload hX eX4_lacksSkill_18 rfl ?_
      refine v_ishr hX eX4_lacksSkill_20 ?_
      refine v_iconst hX eX4_lacksSkill_21 ?_
      refine v_iand hX eX4_lacksSkill_22 ?_
      rw [bitB (by omega) (by omega)]
      refine v_ifB_eq hX eX4_lacksSkill_23 (tgt := 56) rfl (fun c23 => ?_) (fun c23 => ?_)
      · rw [(had_f (h := h) (by simpa using c23)).1, (had_f (h := h) (by simpa using c23)).2] at ih
        refine v_iinc hX eX4_lacksSkill_56 rfl rfl rfl ?_
        exact v_goto hX eX4_lacksSkill_59 (tgt := 8) rfl ih
      · refine v_iload hX eX4_lacksSkill_26 rfl ?_
        refine v_iload_n hX eX4_lacksSkill_28 rfl ?_
        refine v_aload_n hX eX4_lacksSkill_29 rfl ?_
        refine v_getA hX eX4_lacksSkill_30 fi_X4_11 ⟨by decide, rfl⟩ rfl ?_
        refine v_iload hX eX4_lacksSkill_33 rfl ?_
        refine v_aaldP hX eX4_lacksSkill_35 ⟨by decide, rfl⟩ ⟨by omega, by omega⟩ (RF_pu ⟨by omega, by omega⟩) ?_
        try simp only [Int.toNat_natCast, Int.toNat_zero, Int.reduceToNat]
        refine v_getI hX eX4_lacksSkill_36 fi_X4_33 (OB_pu (by omega)) ?_
        refine v_iand hX eX4_lacksSkill_39 ?_
        rw [band_z l1 hs]
        refine v_ior hX eX4_lacksSkill_40 ?_
        rw [bor_nat (by omega) (Nat.lt_trans (and_lt8 l1) (by decide))]
        refine v_istore hX eX4_lacksSkill_41 rfl rfl ?_
        refine v_iload_n hX eX4_lacksSkill_43 rfl ?_
        refine v_aload_n hX eX4_lacksSkill_44 rfl ?_
        refine v_getA hX eX4_lacksSkill_45 fi_X4_11 ⟨by decide, rfl⟩ rfl ?_
        refine v_iload hX eX4_lacksSkill_48 rfl ?_
        refine v_aaldP hX eX4_lacksSkill_50 ⟨by decide, rfl⟩ ⟨by omega, by omega⟩ (RF_pu ⟨by omega, by omega⟩) ?_
        try simp only [Int.toNat_natCast, Int.toNat_zero, Int.reduceToNat]
        refine v_getI hX eX4_lacksSkill_51 fi_X4_33 (OB_pu (by omega)) ?_
        refine v_ior hX eX4_lacksSkill_54 ?_
        rw [bor_z l1 hs]
        refine v_istore_n hX eX4_lacksSkill_55 rfl rfl ?_
        rw [(had_t c23 (by omega)).1, (had_t c23 (by omega)).2] at ih
        refine v_iinc hX eX4_lacksSkill_56 rfl rfl rfl ?_
        exact v_goto hX eX4_lacksSkill_59 (tgt := 8) rfl ih
  have l0 := loop 0 (by omega)
  rw [show had1 h g 0 = 0 from by simp [had1, cntF, bs], show had2 h g 0 = 0 from by simp [had2, cntF, bs]] at l0
  show VW X 0 [some (mA 1), some (mA (39 + q)), some (mI g), none, none, none] [] h
  refine v_iconst hX eX4_lacksSkill_0 ?_
  refine v_istore_n hX eX4_lacksSkill_1 rfl rfl ?_
  refine v_iconst hX eX4_lacksSkill_2 ?_
  refine v_istore hX eX4_lacksSkill_3 rfl rfl ?_
  refine v_iconst hX eX4_lacksSkill_5 ?_
  refine v_istore hX eX4_lacksSkill_6 rfl rfl ?_
  exact l0
end
section
/-! groups of a PLAN, and what is WRONG with it -/
def PLI (h : Hp) : Prop := ∀ p, p < 8 → -1 ≤ h 4 p ∧ h 4 p < 5
def grp (h : Hp) (q : Int) : Nat := bs (fun p => decide (h 4 p = q)) (h 1 3).toNat
theorem grp_lt {h : Hp} (hI : RI h) (q : Int) : grp h q < 256 := bs_lt8 _ (by have := hI.n; omega)
set_option maxHeartbeats 2000000 in
set_option maxRecDepth 20000 in
theorem c_X4_groupOf {d : Nat} {h : Hp} {q : Int} (hI : RI h) (hL : PLI h) (hr : rng q) : Fn d MX4_groupOf [mA 1, mA 4, mI q] h (some (mI (grp h q : Nat))) h := by
  intro Q hq X hX hR
  have hn := hI.n
  show VW X 0 [some (mA 1), some (mA 4), some (mI q), none, none] [] h
  have loop : ∀ (i : Nat), i ≤ (h 1 3).toNat → VW X 5 [some (mA 1), some (mA 4), some (mI q), some (mI (bs (fun p => decide (h 4 p = q)) i : Nat)), some (mI i)] [] h := by
    refine loop_up _ ?_ ?_
    · refine v_iload hX eX4_groupOf_5 rfl ?_
      refine v_aload_n hX eX4_groupOf_7 rfl ?_
      refine v_getI hX eX4_groupOf_8 fi_X4_29 ⟨by decide, rfl⟩ ?_
      refine v_icmp_ge hX eX4_groupOf_11 (tgt := 35) rfl ⟨by omega, by omega⟩ ⟨by omega, by omega⟩ (fun c11 => ?_) (fun c11 => False.elim ((by omega)))
      refine v_iload_n hX eX4_groupOf_35 rfl ?_
      exact v_ireturn hX hR eX4_groupOf_36 rfl (hq)
    · intro i hi ih
      have hl := hL i (by omega)
      have hb := bs_lt8 (fun p => decide (h 4 p = q)) (n := i) (by omega)
      refine v_iload hX eX4_groupOf_5 rfl ?_
      refine v_aload_n hX eX4_groupOf_7 rfl ?_
      refine v_getI hX eX4_groupOf_8 fi_X4_29 ⟨by decide, rfl⟩ ?_
      refine v_icmp_ge hX eX4_groupOf_11 (tgt := 35) rfl ⟨by omega, by omega⟩ ⟨by omega, by omega⟩ (fun c11 => False.elim ((by omega))) (fun c11 => ?_)
      refine v_aload_n hX eX4_groupOf_14 rfl ?_
      refine v_iload hX eX4_groupOf_15 rfl ?_
      refine v_iald hX eX4_groupOf_17 (by first | exact ⟨by decide, rfl⟩ | exact AR_rk (by omega)) ⟨by omega, by omega⟩ ?_
      try simp only [Int.toNat_natCast, Int.toNat_zero, Int.reduceToNat]
      refine v_iload_n hX eX4_groupOf_18 rfl ?_
      refine v_icmp_ne hX eX4_groupOf_19 (tgt := 29) rfl ⟨by omega, by omega⟩ ⟨by omega, by omega⟩ (fun c19 => ?_) (fun c19 => ?_)
      · rw [bs, if_neg (by simpa using c19), Nat.or_zero] at ih
        refine v_iinc hX eX4_groupOf_29 rfl rfl rfl ?_
        exact v_goto hX eX4_groupOf_32 (tgt := 5) rfl ih
      · refine v_iload_n hX eX4_groupOf_22 rfl ?_
        refine v_iconst hX eX4_groupOf_23 ?_
        refine v_iload hX eX4_groupOf_24 rfl ?_
        refine v_ishl hX eX4_groupOf_26 ?_
        refine v_ior hX eX4_groupOf_27 ?_
        rw [wb_put hb (by omega)]
        refine v_istore_n hX eX4_groupOf_28 rfl rfl ?_
        rw [bs, if_pos (by simpa using c19)] at ih
        refine v_iinc hX eX4_groupOf_29 rfl rfl rfl ?_
        exact v_goto hX eX4_groupOf_32 (tgt := 5) rfl ih
  refine v_iconst hX eX4_groupOf_0 ?_
  refine v_istore_n hX eX4_groupOf_1 rfl rfl ?_
  refine v_iconst hX eX4_groupOf_2 ?_
  refine v_istore hX eX4_groupOf_3 rfl rfl ?_
  exact loop 0 (by omega)
def ghas (h : Hp) (f : Int) (q g : Nat) : Prop := g ≠ 0 ∧ ((f = 3 ∧ h (39 + q) 5 = 0) ∨ (f = 4 ∧ ¬ tks h q (bcnt g)) ∨ (f = 5 ∧ lkl h q g) ∨ (f = 6 ∧ lks h q g))
set_option maxHeartbeats 2000000 in
set_option maxRecDepth 20000 in
theorem c_X4_groupHas {d : Nat} {h : Hp} {f q : Int} {g : Nat} (hI : RI h) (hf : 3 ≤ f ∧ f ≤ 6) (hq5 : 0 ≤ q ∧ q < 5) (hg : g < 256) : Fn (d + 2) MX4_groupHas [mA 1, mI f, mI q, mI g] h (some (mI (b01 (ghas h f q.toNat g)))) h := by
  intro Q hq X hX hR
  have hbc := bcnt_le g
  have p6 := (hI.pr (p := q.toNat) (by omega)).2.2.2.2.2.1
  have hz : ∀ (_ : g = 0), Q (some (mI 0)) h := fun e => q_f (fun z => z.1 e) hq
  show VW X 0 [some (mA 1), some (mI f), some (mI q), some (mI g), none] [] h
  rcases (show f = 3 ∨ f = 4 ∨ f = 5 ∨ f = 6 by omega) with rfl | rfl | rfl | rfl
  · refine v_aload_n hX eX4_groupHas_0 rfl ?_
    refine v_getA hX eX4_groupHas_1 fi_X4_19 ⟨by decide, rfl⟩ rfl ?_
    refine v_iload_n hX eX4_groupHas_4 rfl ?_
    refine v_aaldQ hX eX4_groupHas_5 ⟨by decide, rfl⟩ ⟨by omega, by omega⟩ (RF_pr ⟨by omega, by omega⟩) ?_
    try simp only [Int.toNat_natCast, Int.toNat_zero, Int.reduceToNat]
    refine v_astore hX eX4_groupHas_6 rfl rfl ?_
    refine v_iload_n hX eX4_groupHas_8 rfl ?_
    refine v_if_ne hX eX4_groupHas_9 (tgt := 14) rfl ⟨by omega, by omega⟩ (fun c9 => ?_) (fun c9 => ?_)
    · refine v_iload_n hX eX4_groupHas_14 rfl ?_
      refine v_tsw hX eX4_groupHas_15 (tgt := 40) (by decide) (by decide) ?_
      refine v_aload hX eX4_groupHas_40 rfl ?_
      refine v_getZ hX eX4_groupHas_42 fi_X4_73 (OB_pr (by omega)) ?_
      refine v_if_ne hX eX4_groupHas_45 (tgt := 52) rfl ⟨by omega, by omega⟩ (fun c45 => ?_) (fun c45 => ?_)
      · refine v_iconst hX eX4_groupHas_52 ?_
        exact v_zreturn hX hR eX4_groupHas_53 rfl (by omega) (q_f (fun z => z.2.elim (fun y => c45 y.2) (fun y => y.elim (fun y => absurd y.1 (by decide)) (fun y => y.elim (fun y => absurd y.1 (by decide)) (fun y => absurd y.1 (by decide))))) hq)
      · refine v_iconst hX eX4_groupHas_48 ?_
        refine v_goto hX eX4_groupHas_49 (tgt := 53) rfl ?_
        exact v_zreturn hX hR eX4_groupHas_53 rfl (by omega) (q_t ⟨by omega, Or.inl ⟨rfl, by omega⟩⟩ hq)
    · refine v_iconst hX eX4_groupHas_12 ?_
      exact v_zreturn hX hR eX4_groupHas_13 rfl (by omega) (hz (by omega))
  · refine v_aload_n hX eX4_groupHas_0 rfl ?_
    refine v_getA hX eX4_groupHas_1 fi_X4_19 ⟨by decide, rfl⟩ rfl ?_
    refine v_iload_n hX eX4_groupHas_4 rfl ?_
    refine v_aaldQ hX eX4_groupHas_5 ⟨by decide, rfl⟩ ⟨by omega, by omega⟩ (RF_pr ⟨by omega, by omega⟩) ?_
    try simp only [Int.toNat_natCast, Int.toNat_zero, Int.reduceToNat]
    refine v_astore hX eX4_groupHas_6 rfl rfl ?_
    refine v_iload_n hX eX4_groupHas_8 rfl ?_
    refine v_if_ne hX eX4_groupHas_9 (tgt := 14) rfl ⟨by omega, by omega⟩ (fun c9 => ?_) (fun c9 => ?_)
    · refine v_iload_n hX eX4_groupHas_14 rfl ?_
      refine v_tsw hX eX4_groupHas_15 (tgt := 54) (by decide) (by decide) ?_
      refine v_aload hX eX4_groupHas_54 rfl ?_
      refine v_iload_n hX eX4_groupHas_56 rfl ?_
      refine v_fnS hX eX4_groupHas_57 lS_X4_103 ok_MJ6_bitCount_0f7a4 ⟨rfl, Nat.le_of_ble_eq_true rfl⟩ (Nat.le_of_ble_eq_true rfl) (c_bitCount hg) rfl ?_
      try simp only [Int.toNat_natCast, Int.toNat_zero, Int.reduceToNat]
      refine v_fnV hX eX4_groupHas_60 lV_X4_109 ok_MX2_takes (OB_pr (by omega)) rfl ⟨rfl, Nat.le_of_ble_eq_true rfl⟩ (Nat.le_of_ble_eq_true rfl) (c_X2_takes hI (by omega) (by omega)) rfl ?_
      try simp only [Int.toNat_natCast, Int.toNat_zero, Int.reduceToNat]
      refine v_ifB_ne hX eX4_groupHas_63 (tgt := 70) rfl (fun c63 => ?_) (fun c63 => ?_)
      · refine v_iconst hX eX4_groupHas_70 ?_
        exact v_zreturn hX hR eX4_groupHas_71 rfl (by omega) (q_f (fun z => z.2.elim (fun y => absurd y.1 (by decide)) (fun y => y.elim (fun y => y.2 c63) (fun y => y.elim (fun y => absurd y.1 (by decide)) (fun y => absurd y.1 (by decide))))) hq)
      · refine v_iconst hX eX4_groupHas_66 ?_
        refine v_goto hX eX4_groupHas_67 (tgt := 71) rfl ?_
        exact v_zreturn hX hR eX4_groupHas_71 rfl (by omega) (q_t ⟨by omega, Or.inr (Or.inl ⟨rfl, c63⟩)⟩ hq)
    · refine v_iconst hX eX4_groupHas_12 ?_
      exact v_zreturn hX hR eX4_groupHas_13 rfl (by omega) (hz (by omega))
  · refine v_aload_n hX eX4_groupHas_0 rfl ?_
    refine v_getA hX eX4_groupHas_1 fi_X4_19 ⟨by decide, rfl⟩ rfl ?_
    refine v_iload_n hX eX4_groupHas_4 rfl ?_
    refine v_aaldQ hX eX4_groupHas_5 ⟨by decide, rfl⟩ ⟨by omega, by omega⟩ (RF_pr ⟨by omega, by omega⟩) ?_
    try simp only [Int.toNat_natCast, Int.toNat_zero, Int.reduceToNat]
    refine v_astore hX eX4_groupHas_6 rfl rfl ?_
    refine v_iload_n hX eX4_groupHas_8 rfl ?_
    refine v_if_ne hX eX4_groupHas_9 (tgt := 14) rfl ⟨by omega, by omega⟩ (fun c9 => ?_) (fun c9 => ?_)
    · refine v_iload_n hX eX4_groupHas_14 rfl ?_
      refine v_tsw hX eX4_groupHas_15 (tgt := 72) (by decide) (by decide) ?_
      refine v_aload hX eX4_groupHas_72 rfl ?_
      refine v_iload_n hX eX4_groupHas_74 rfl ?_
      refine v_fnV hX eX4_groupHas_75 lV_X4_112 ok_MX2_lacksLeader (OB_pr (by omega)) rfl ⟨rfl, Nat.le_of_ble_eq_true rfl⟩ (Nat.le_of_ble_eq_true rfl) (c_X2_lacksLeader hI (by omega) hg) rfl ?_
      try simp only [Int.toNat_natCast, Int.toNat_zero, Int.reduceToNat]
      exact v_zreturn hX hR eX4_groupHas_78 rfl (b01_or _) (q_i (b01_iff ⟨fun z => z.2.elim (fun y => absurd y.1 (by decide)) (fun y => y.elim (fun y => absurd y.1 (by decide)) (fun y => y.elim (fun y => y.2) (fun y => absurd y.1 (by decide)))), fun y => ⟨by omega, Or.inr (Or.inr (Or.inl ⟨rfl, y⟩))⟩⟩) hq)
    · refine v_iconst hX eX4_groupHas_12 ?_
      exact v_zreturn hX hR eX4_groupHas_13 rfl (by omega) (hz (by omega))
  · refine v_aload_n hX eX4_groupHas_0 rfl ?_
    refine v_getA hX eX4_groupHas_1 fi_X4_19 ⟨by decide, rfl⟩ rfl ?_
    refine v_iload_n hX eX4_groupHas_4 rfl ?_
    refine v_aaldQ hX eX4_groupHas_5 ⟨by decide, rfl⟩ ⟨by omega, by omega⟩ (RF_pr ⟨by omega, by omega⟩) ?_
    try simp only [Int.toNat_natCast, Int.toNat_zero, Int.reduceToNat]
    refine v_astore hX eX4_groupHas_6 rfl rfl ?_
    refine v_iload_n hX eX4_groupHas_8 rfl ?_
    refine v_if_ne hX eX4_groupHas_9 (tgt := 14) rfl ⟨by omega, by omega⟩ (fun c9 => ?_) (fun c9 => ?_)
    · refine v_iload_n hX eX4_groupHas_14 rfl ?_
      refine v_tswD hX eX4_groupHas_15 (tgt := 79) (by decide) rfl ?_
      refine v_aload_n hX eX4_groupHas_79 rfl ?_
      refine v_aload hX eX4_groupHas_80 rfl ?_
      refine v_iload_n hX eX4_groupHas_82 rfl ?_
      refine v_fnV hX eX4_groupHas_83 lV_X4_115 ok_MX4_lacksSkill ⟨by decide, rfl⟩ rfl ⟨rfl, Nat.le_of_ble_eq_true rfl⟩ (Nat.le_of_ble_eq_true rfl) (c_X4_lacksSkill hI (by omega) hg) rfl ?_
      try simp only [Int.toNat_natCast, Int.toNat_zero, Int.reduceToNat]
      exact v_zreturn hX hR eX4_groupHas_86 rfl (b01_or _) (q_i (b01_iff ⟨fun z => z.2.elim (fun y => absurd y.1 (by decide)) (fun y => y.elim (fun y => absurd y.1 (by decide)) (fun y => y.elim (fun y => absurd y.1 (by decide)) (fun y => y.2))), fun y => ⟨by omega, Or.inr (Or.inr (Or.inr ⟨rfl, y⟩))⟩⟩) hq)
    · refine v_iconst hX eX4_groupHas_12 ?_
      exact v_zreturn hX hR eX4_groupHas_13 rfl (by omega) (hz (by omega))
def jhas (h : Hp) (f : Int) (q : Nat) : Prop := ghas h f q (grp h q)
def phas (h : Hp) (f : Int) (p : Nat) : Prop := (f = 1 ∧ h (23 + p) 6 = 1 ∧ h 4 p = -1) ∨ (f = 2 ∧ h (23 + p) 6 = 0 ∧ h 4 p ≠ -1) ∨ (f = 7 ∧ h 4 p ≠ -1 ∧ ∃ b, b < 8 ∧ apB h p b = true ∧ (grp h (h 4 p)).testBit b = true)
set_option maxHeartbeats 2000000 in
set_option maxRecDepth 20000 in
theorem c_X4_pupilHas {d : Nat} {h : Hp} {f p : Int} (hI : RI h) (hL : PLI h) (hf : f = 1 ∨ f = 2 ∨ f = 7) (hp : inN h p) : Fn (d + 1) MX4_pupilHas [mA 1, mI f, mI p, mA 4] h (some (mI (b01 (phas h f p.toNat)))) h := by
  intro Q hq X hX hR
  have hp8 := hp.lt hI
  have hl := hL p.toNat (by omega)
  have hz := (hI.pu (p := p.toNat) (by omega)).2.2.2.2.2.1
  have ha := (hI.pu (p := p.toNat) (by omega)).2.2.2.2.1
  show VW X 0 [some (mA 1), some (mI f), some (mI p), some (mA 4), none, none] [] h
  rcases hf with rfl | rfl | rfl
  · refine v_aload_n hX eX4_pupilHas_0 rfl ?_
    refine v_getA hX eX4_pupilHas_1 fi_X4_11 ⟨by decide, rfl⟩ rfl ?_
    refine v_iload_n hX eX4_pupilHas_4 rfl ?_
    refine v_aaldP hX eX4_pupilHas_5 ⟨by decide, rfl⟩ ⟨by omega, by omega⟩ (RF_pu ⟨by omega, by omega⟩) ?_
    try simp only [Int.toNat_natCast, Int.toNat_zero, Int.reduceToNat]
    refine v_astore hX eX4_pupilHas_6 rfl rfl ?_
    refine v_aload_n hX eX4_pupilHas_8 rfl ?_
    refine v_iload_n hX eX4_pupilHas_9 rfl ?_
    refine v_iald hX eX4_pupilHas_10 (by first | exact ⟨by decide, rfl⟩ | exact AR_rk (by omega)) ⟨by omega, by omega⟩ ?_
    try simp only [Int.toNat_natCast, Int.toNat_zero, Int.reduceToNat]
    refine v_iconst hX eX4_pupilHas_11 ?_
    refine v_icmp_eq hX eX4_pupilHas_12 (tgt := 19) rfl ⟨by omega, by omega⟩ ⟨by omega, by omega⟩ (fun c12 => ?_) (fun c12 => ?_)
    · refine v_iconst hX eX4_pupilHas_19 ?_
      refine v_istore hX eX4_pupilHas_20 rfl rfl ?_
      refine v_iload_n hX eX4_pupilHas_22 rfl ?_
      refine v_lsw hX eX4_pupilHas_23 (tgt := 48) (by decide) (by decide) ?_
      refine v_aload hX eX4_pupilHas_48 rfl ?_
      refine v_getZ hX eX4_pupilHas_50 fi_X4_69 (OB_pu (by omega)) ?_
      refine v_if_eq hX eX4_pupilHas_53 (tgt := 65) rfl ⟨by omega, by omega⟩ (fun c53 => ?_) (fun c53 => ?_)
      · refine v_iconst hX eX4_pupilHas_65 ?_
        exact v_zreturn hX hR eX4_pupilHas_66 rfl (by omega) (q_f (fun z => z.elim (fun y => by omega) (fun y => y.elim (fun y => absurd y.1 (by decide)) (fun y => absurd y.1 (by decide)))) hq)
      · refine v_iload hX eX4_pupilHas_56 rfl ?_
        refine v_if_ne hX eX4_pupilHas_58 (tgt := 65) rfl ⟨by omega, by omega⟩ (fun c58 => False.elim ((by omega))) (fun c58 => ?_)
        refine v_iconst hX eX4_pupilHas_61 ?_
        refine v_goto hX eX4_pupilHas_62 (tgt := 66) rfl ?_
        exact v_zreturn hX hR eX4_pupilHas_66 rfl (by omega) (q_t (Or.inl ⟨rfl, by omega, by omega⟩) hq)
    · refine v_iconst hX eX4_pupilHas_15 ?_
      refine v_goto hX eX4_pupilHas_16 (tgt := 20) rfl ?_
      refine v_istore hX eX4_pupilHas_20 rfl rfl ?_
      refine v_iload_n hX eX4_pupilHas_22 rfl ?_
      refine v_lsw hX eX4_pupilHas_23 (tgt := 48) (by decide) (by decide) ?_
      refine v_aload hX eX4_pupilHas_48 rfl ?_
      refine v_getZ hX eX4_pupilHas_50 fi_X4_69 (OB_pu (by omega)) ?_
      refine v_if_eq hX eX4_pupilHas_53 (tgt := 65) rfl ⟨by omega, by omega⟩ (fun c53 => ?_) (fun c53 => ?_)
      · refine v_iconst hX eX4_pupilHas_65 ?_
        exact v_zreturn hX hR eX4_pupilHas_66 rfl (by omega) (q_f (fun z => z.elim (fun y => by omega) (fun y => y.elim (fun y => absurd y.1 (by decide)) (fun y => absurd y.1 (by decide)))) hq)
      · refine v_iload hX eX4_pupilHas_56 rfl ?_
        refine v_if_ne hX eX4_pupilHas_58 (tgt := 65) rfl ⟨by omega, by omega⟩ (fun c58 => ?_) (fun c58 => False.elim ((by omega)))
        refine v_iconst hX eX4_pupilHas_65 ?_
        exact v_zreturn hX hR eX4_pupilHas_66 rfl (by omega) (q_f (fun z => z.elim (fun y => by omega) (fun y => y.elim (fun y => absurd y.1 (by decide)) (fun y => absurd y.1 (by decide)))) hq)
  · refine v_aload_n hX eX4_pupilHas_0 rfl ?_
    refine v_getA hX eX4_pupilHas_1 fi_X4_11 ⟨by decide, rfl⟩ rfl ?_
    refine v_iload_n hX eX4_pupilHas_4 rfl ?_
    refine v_aaldP hX eX4_pupilHas_5 ⟨by decide, rfl⟩ ⟨by omega, by omega⟩ (RF_pu ⟨by omega, by omega⟩) ?_
    try simp only [Int.toNat_natCast, Int.toNat_zero, Int.reduceToNat]
    refine v_astore hX eX4_pupilHas_6 rfl rfl ?_
    refine v_aload_n hX eX4_pupilHas_8 rfl ?_
    refine v_iload_n hX eX4_pupilHas_9 rfl ?_
    refine v_iald hX eX4_pupilHas_10 (by first | exact ⟨by decide, rfl⟩ | exact AR_rk (by omega)) ⟨by omega, by omega⟩ ?_
    try simp only [Int.toNat_natCast, Int.toNat_zero, Int.reduceToNat]
    refine v_iconst hX eX4_pupilHas_11 ?_
    refine v_icmp_eq hX eX4_pupilHas_12 (tgt := 19) rfl ⟨by omega, by omega⟩ ⟨by omega, by omega⟩ (fun c12 => ?_) (fun c12 => ?_)
    · refine v_iconst hX eX4_pupilHas_19 ?_
      refine v_istore hX eX4_pupilHas_20 rfl rfl ?_
      refine v_iload_n hX eX4_pupilHas_22 rfl ?_
      refine v_lsw hX eX4_pupilHas_23 (tgt := 67) (by decide) (by decide) ?_
      refine v_aload hX eX4_pupilHas_67 rfl ?_
      refine v_getZ hX eX4_pupilHas_69 fi_X4_69 (OB_pu (by omega)) ?_
      refine v_if_ne hX eX4_pupilHas_72 (tgt := 84) rfl ⟨by omega, by omega⟩ (fun c72 => ?_) (fun c72 => ?_)
      · refine v_iconst hX eX4_pupilHas_84 ?_
        exact v_zreturn hX hR eX4_pupilHas_85 rfl (by omega) (q_f (fun z => z.elim (fun y => absurd y.1 (by decide)) (fun y => y.elim (fun y => by omega) (fun y => absurd y.1 (by decide)))) hq)
      · refine v_iload hX eX4_pupilHas_75 rfl ?_
        refine v_if_eq hX eX4_pupilHas_77 (tgt := 84) rfl ⟨by omega, by omega⟩ (fun c77 => ?_) (fun c77 => False.elim ((by omega)))
        refine v_iconst hX eX4_pupilHas_84 ?_
        exact v_zreturn hX hR eX4_pupilHas_85 rfl (by omega) (q_f (fun z => z.elim (fun y => absurd y.1 (by decide)) (fun y => y.elim (fun y => by omega) (fun y => absurd y.1 (by decide)))) hq)
    · refine v_iconst hX eX4_pupilHas_15 ?_
      refine v_goto hX eX4_pupilHas_16 (tgt := 20) rfl ?_
      refine v_istore hX eX4_pupilHas_20 rfl rfl ?_
      refine v_iload_n hX eX4_pupilHas_22 rfl ?_
      refine v_lsw hX eX4_pupilHas_23 (tgt := 67) (by decide) (by decide) ?_
      refine v_aload hX eX4_pupilHas_67 rfl ?_
      refine v_getZ hX eX4_pupilHas_69 fi_X4_69 (OB_pu (by omega)) ?_
      refine v_if_ne hX eX4_pupilHas_72 (tgt := 84) rfl ⟨by omega, by omega⟩ (fun c72 => ?_) (fun c72 => ?_)
      · refine v_iconst hX eX4_pupilHas_84 ?_
        exact v_zreturn hX hR eX4_pupilHas_85 rfl (by omega) (q_f (fun z => z.elim (fun y => absurd y.1 (by decide)) (fun y => y.elim (fun y => by omega) (fun y => absurd y.1 (by decide)))) hq)
      · refine v_iload hX eX4_pupilHas_75 rfl ?_
        refine v_if_eq hX eX4_pupilHas_77 (tgt := 84) rfl ⟨by omega, by omega⟩ (fun c77 => False.elim ((by omega))) (fun c77 => ?_)
        refine v_iconst hX eX4_pupilHas_80 ?_
        refine v_goto hX eX4_pupilHas_81 (tgt := 85) rfl ?_
        exact v_zreturn hX hR eX4_pupilHas_85 rfl (by omega) (q_t (Or.inr (Or.inl ⟨rfl, by omega, by omega⟩)) hq)
  · refine v_aload_n hX eX4_pupilHas_0 rfl ?_
    refine v_getA hX eX4_pupilHas_1 fi_X4_11 ⟨by decide, rfl⟩ rfl ?_
    refine v_iload_n hX eX4_pupilHas_4 rfl ?_
    refine v_aaldP hX eX4_pupilHas_5 ⟨by decide, rfl⟩ ⟨by omega, by omega⟩ (RF_pu ⟨by omega, by omega⟩) ?_
    try simp only [Int.toNat_natCast, Int.toNat_zero, Int.reduceToNat]
    refine v_astore hX eX4_pupilHas_6 rfl rfl ?_
    refine v_aload_n hX eX4_pupilHas_8 rfl ?_
    refine v_iload_n hX eX4_pupilHas_9 rfl ?_
    refine v_iald hX eX4_pupilHas_10 (by first | exact ⟨by decide, rfl⟩ | exact AR_rk (by omega)) ⟨by omega, by omega⟩ ?_
    try simp only [Int.toNat_natCast, Int.toNat_zero, Int.reduceToNat]
    refine v_iconst hX eX4_pupilHas_11 ?_
    refine v_icmp_eq hX eX4_pupilHas_12 (tgt := 19) rfl ⟨by omega, by omega⟩ ⟨by omega, by omega⟩ (fun c12 => ?_) (fun c12 => ?_)
    · refine v_iconst hX eX4_pupilHas_19 ?_
      refine v_istore hX eX4_pupilHas_20 rfl rfl ?_
      refine v_iload_n hX eX4_pupilHas_22 rfl ?_
      refine v_lsw hX eX4_pupilHas_23 (tgt := 86) (by decide) (by decide) ?_
      refine v_iload hX eX4_pupilHas_86 rfl ?_
      refine v_if_eq hX eX4_pupilHas_88 (tgt := 112) rfl ⟨by omega, by omega⟩ (fun c88 => ?_) (fun c88 => False.elim ((by omega)))
      refine v_iconst hX eX4_pupilHas_112 ?_
      exact v_zreturn hX hR eX4_pupilHas_113 rfl (by omega) (q_f (fun z => z.elim (fun y => absurd y.1 (by decide)) (fun y => y.elim (fun y => absurd y.1 (by decide)) (fun y => y.2.1 (by omega)))) hq)
    · refine v_iconst hX eX4_pupilHas_15 ?_
      refine v_goto hX eX4_pupilHas_16 (tgt := 20) rfl ?_
      refine v_istore hX eX4_pupilHas_20 rfl rfl ?_
      refine v_iload_n hX eX4_pupilHas_22 rfl ?_
      refine v_lsw hX eX4_pupilHas_23 (tgt := 86) (by decide) (by decide) ?_
      refine v_iload hX eX4_pupilHas_86 rfl ?_
      refine v_if_eq hX eX4_pupilHas_88 (tgt := 112) rfl ⟨by omega, by omega⟩ (fun c88 => False.elim ((by omega))) (fun c88 => ?_)
      refine v_aload hX eX4_pupilHas_91 rfl ?_
      refine v_getI hX eX4_pupilHas_93 fi_X4_92 (OB_pu (by omega)) ?_
      refine v_aload_n hX eX4_pupilHas_96 rfl ?_
      refine v_aload_n hX eX4_pupilHas_97 rfl ?_
      refine v_aload_n hX eX4_pupilHas_98 rfl ?_
      refine v_iload_n hX eX4_pupilHas_99 rfl ?_
      refine v_iald hX eX4_pupilHas_100 (by first | exact ⟨by decide, rfl⟩ | exact AR_rk (by omega)) ⟨by omega, by omega⟩ ?_
      try simp only [Int.toNat_natCast, Int.toNat_zero, Int.reduceToNat]
      refine v_fnV hX eX4_pupilHas_101 lV_X4_95 ok_MX4_groupOf ⟨by decide, rfl⟩ rfl ⟨rfl, Nat.le_of_ble_eq_true rfl⟩ (Nat.le_of_ble_eq_true rfl) (c_X4_groupOf hI hL ⟨by omega, by omega⟩) rfl ?_
      try simp only [Int.toNat_natCast, Int.toNat_zero, Int.reduceToNat]
      refine v_iand hX eX4_pupilHas_104 ?_
      refine v_if_eq hX eX4_pupilHas_105 (tgt := 112) rfl (band_rng _ _) (fun c105 => ?_) (fun c105 => ?_)
      · refine v_iconst hX eX4_pupilHas_112 ?_
        exact v_zreturn hX hR eX4_pupilHas_113 rfl (by omega) (q_f (fun z => z.elim (fun y => absurd y.1 (by decide)) (fun y => y.elim (fun y => absurd y.1 (by decide)) (fun y => by obtain ⟨-, -, b, hb, h1, h2⟩ := y; exact absurd h2 (by rw [(band_none ha (grp_lt hI _)).mp c105 b hb h1]; decide)))) hq)
      · refine v_iconst hX eX4_pupilHas_108 ?_
        refine v_goto hX eX4_pupilHas_109 (tgt := 113) rfl ?_
        exact v_zreturn hX hR eX4_pupilHas_113 rfl (by omega) (q_t (Or.inr (Or.inr ⟨rfl, by omega, Classical.byContradiction (fun z => c105 ((band_none ha (grp_lt hI _)).mpr (fun b hb h1 => by cases h2 : (grp h (h 4 p.toNat)).testBit b; rfl; exact absurd ⟨b, hb, h1, h2⟩ z)))⟩)) hq)
set_option maxHeartbeats 2000000 in
set_option maxRecDepth 20000 in
theorem c_X4_firstPupilWith {d : Nat} {h : Hp} {f : Int} (hI : RI h) (hL : PLI h) (hf : f = 1 ∨ f = 2 ∨ f = 7) : Fn (d + 2) MX4_firstPupilWith [mA 1, mI f, mA 4] h (some (mI (firstI (phas h f) (h 1 3).toNat 0))) h := by
  intro Q hq X hX hR
  have hn := hI.n
  show VW X 0 [some (mA 1), some (mI f), some (mA 4), none] [] h
  have loop : ∀ (k i : Nat), i + k = (h 1 3).toNat → Q (some (mI (firstI (phas h f) k i))) h → VW X 2 [some (mA 1), some (mI f), some (mA 4), some (mI i)] [] h := by
    intro k
    induction k with
    | zero =>
      intro i hi hq
      refine v_iload_n hX eX4_firstPupilWith_2 rfl ?_
      refine v_aload_n hX eX4_firstPupilWith_3 rfl ?_
      refine v_getI hX eX4_firstPupilWith_4 fi_X4_29 ⟨by decide, rfl⟩ ?_
      refine v_icmp_ge hX eX4_firstPupilWith_7 (tgt := 28) rfl ⟨by omega, by omega⟩ ⟨by omega, by omega⟩ (fun c7 => ?_) (fun c7 => False.elim ((by omega)))
      refine v_iconst hX eX4_firstPupilWith_28 ?_
      exact v_ireturn hX hR eX4_firstPupilWith_29 rfl (hq)
    | succ k ih =>
      intro i hi hq
      refine v_iload_n hX eX4_firstPupilWith_2 rfl ?_
      refine v_aload_n hX eX4_firstPupilWith_3 rfl ?_
      refine v_getI hX eX4_firstPupilWith_4 fi_X4_29 ⟨by decide, rfl⟩ ?_
      refine v_icmp_ge hX eX4_firstPupilWith_7 (tgt := 28) rfl ⟨by omega, by omega⟩ ⟨by omega, by omega⟩ (fun c7 => False.elim ((by omega))) (fun c7 => ?_)
      refine v_aload_n hX eX4_firstPupilWith_10 rfl ?_
      refine v_iload_n hX eX4_firstPupilWith_11 rfl ?_
      refine v_iload_n hX eX4_firstPupilWith_12 rfl ?_
      refine v_aload_n hX eX4_firstPupilWith_13 rfl ?_
      refine v_fnV hX eX4_firstPupilWith_14 lV_X4_88 ok_MX4_pupilHas ⟨by decide, rfl⟩ rfl ⟨rfl, Nat.le_of_ble_eq_true rfl⟩ (Nat.le_of_ble_eq_true rfl) (c_X4_pupilHas hI hL hf ⟨by omega, by omega⟩) rfl ?_
      try simp only [Int.toNat_natCast, Int.toNat_zero, Int.reduceToNat]
      refine v_ifB_eq hX eX4_firstPupilWith_17 (tgt := 22) rfl (fun c17 => ?_) (fun c17 => ?_)
      · rw [firstI_f c17] at hq
        refine v_iinc hX eX4_firstPupilWith_22 rfl rfl rfl ?_
        exact v_goto hX eX4_firstPupilWith_25 (tgt := 2) rfl (ih (i + 1) (by omega) hq)
      · refine v_iload_n hX eX4_firstPupilWith_20 rfl ?_
        exact v_ireturn hX hR eX4_firstPupilWith_21 rfl (q_i (firstI_t c17) hq)
  refine v_iconst hX eX4_firstPupilWith_0 ?_
  refine v_istore_n hX eX4_firstPupilWith_1 rfl rfl ?_
  exact loop _ 0 (by omega) hq
set_option maxHeartbeats 2000000 in
set_option maxRecDepth 20000 in
theorem c_X4_firstProjectWith {d : Nat} {h : Hp} {f : Int} (hI : RI h) (hL : PLI h) (hf : 3 ≤ f ∧ f ≤ 6) : Fn (d + 3) MX4_firstProjectWith [mA 1, mI f, mA 4] h (some (mI (firstI (jhas h f) (h 1 4).toNat 0))) h := by
  intro Q hq X hX hR
  have hn := hI.q
  show VW X 0 [some (mA 1), some (mI f), some (mA 4), none] [] h
  have loop : ∀ (k i : Nat), i + k = (h 1 4).toNat → Q (some (mI (firstI (jhas h f) k i))) h → VW X 2 [some (mA 1), some (mI f), some (mA 4), some (mI i)] [] h := by
    intro k
    induction k with
    | zero =>
      intro i hi hq
      refine v_iload_n hX eX4_firstProjectWith_2 rfl ?_
      refine v_aload_n hX eX4_firstProjectWith_3 rfl ?_
      refine v_getI hX eX4_firstProjectWith_4 fi_X4_36 ⟨by decide, rfl⟩ ?_
      refine v_icmp_ge hX eX4_firstProjectWith_7 (tgt := 33) rfl ⟨by omega, by omega⟩ ⟨by omega, by omega⟩ (fun c7 => ?_) (fun c7 => False.elim ((by omega)))
      refine v_iconst hX eX4_firstProjectWith_33 ?_
      exact v_ireturn hX hR eX4_firstProjectWith_34 rfl (hq)
    | succ k ih =>
      intro i hi hq
      refine v_iload_n hX eX4_firstProjectWith_2 rfl ?_
      refine v_aload_n hX eX4_firstProjectWith_3 rfl ?_
      refine v_getI hX eX4_firstProjectWith_4 fi_X4_36 ⟨by decide, rfl⟩ ?_
      refine v_icmp_ge hX eX4_firstProjectWith_7 (tgt := 33) rfl ⟨by omega, by omega⟩ ⟨by omega, by omega⟩ (fun c7 => False.elim ((by omega))) (fun c7 => ?_)
      refine v_aload_n hX eX4_firstProjectWith_10 rfl ?_
      refine v_iload_n hX eX4_firstProjectWith_11 rfl ?_
      refine v_iload_n hX eX4_firstProjectWith_12 rfl ?_
      refine v_aload_n hX eX4_firstProjectWith_13 rfl ?_
      refine v_aload_n hX eX4_firstProjectWith_14 rfl ?_
      refine v_iload_n hX eX4_firstProjectWith_15 rfl ?_
      refine v_fnV hX eX4_firstProjectWith_16 lV_X4_95 ok_MX4_groupOf ⟨by decide, rfl⟩ rfl ⟨rfl, Nat.le_of_ble_eq_true rfl⟩ (Nat.le_of_ble_eq_true rfl) (c_X4_groupOf hI hL ⟨by omega, by omega⟩) rfl ?_
      try simp only [Int.toNat_natCast, Int.toNat_zero, Int.reduceToNat]
      refine v_fnV hX eX4_firstProjectWith_19 lV_X4_99 ok_MX4_groupHas ⟨by decide, rfl⟩ rfl ⟨rfl, Nat.le_of_ble_eq_true rfl⟩ (Nat.le_of_ble_eq_true rfl) (c_X4_groupHas hI hf ⟨by omega, by omega⟩ (grp_lt hI _)) rfl ?_
      try simp only [Int.toNat_natCast, Int.toNat_zero, Int.reduceToNat]
      refine v_ifB_eq hX eX4_firstProjectWith_22 (tgt := 27) rfl (fun c22 => ?_) (fun c22 => ?_)
      · rw [firstI_f (P := jhas h f) c22] at hq
        refine v_iinc hX eX4_firstProjectWith_27 rfl rfl rfl ?_
        exact v_goto hX eX4_firstProjectWith_30 (tgt := 2) rfl (ih (i + 1) (by omega) hq)
      · refine v_iload_n hX eX4_firstProjectWith_25 rfl ?_
        exact v_ireturn hX hR eX4_firstProjectWith_26 rfl (q_i (firstI_t (P := jhas h f) c22) hq)
  refine v_iconst hX eX4_firstProjectWith_0 ?_
  refine v_istore_n hX eX4_firstProjectWith_1 rfl rfl ?_
  exact loop _ 0 (by omega) hq
noncomputable def fltK (h : Hp) (f : Int) : Int := if 3 ≤ f ∧ f ≤ 6 then firstI (jhas h f) (h 1 4).toNat 0 else firstI (phas h f) (h 1 3).toNat 0
noncomputable def fltFrom (h : Hp) : Nat → Int → Int
  | 0, _ => 0
  | k + 1, f => if fltK h f = -1 then fltFrom h k (f + 1) else f * 10 + fltK h f
noncomputable def flt (h : Hp) : Int := fltFrom h 7 1
theorem fltK_rng {h : Hp} (hI : RI h) (f : Int) : -1 ≤ fltK h f ∧ fltK h f < 8 := by
  have hn := hI.n
  have hq := hI.q
  unfold fltK
  split
  · rcases firstI_rng (P := jhas h f) (h 1 4).toNat 0 with e | e <;> omega
  · rcases firstI_rng (P := phas h f) (h 1 3).toNat 0 with e | e <;> omega
set_option maxHeartbeats 2000000 in
set_option maxRecDepth 20000 in
theorem c_X4_faultOf {d : Nat} {h : Hp} (hI : RI h) (hL : PLI h) : Fn (d + 4) MX4_faultOf [mA 1, mA 4] h (some (mI (flt h))) h := by
  intro Q hq X hX hR
  have hn := hI.n
  show VW X 0 [some (mA 1), some (mA 4), none, none, none] [] h
  have loop : ∀ (k : Nat) (l3 l4 : Option MV) (f : Int), nlg [some (mA 1), some (mA 4), some (mI f), l3, l4] 3 = true → nlg [some (mA 1), some (mA 4), some (mI f), l3, l4] 4 = true → (∀ x : Int, l3 ≠ some (mL x)) → 1 ≤ f → f + k = 8 → Q (some (mI (fltFrom h k f))) h → VW X 2 [some (mA 1), some (mA 4), some (mI f), l3, l4] [] h := by
    intro k
    induction k with
    | zero =>
      intro l3 l4 f n3 n4 _ h1 hf hq
      refine v_iload_n hX eX4_faultOf_2 rfl ?_
      refine v_bipush hX eX4_faultOf_3 (by decide) ?_
      refine v_icmp_gt hX eX4_faultOf_5 (tgt := 66) rfl ⟨by omega, by omega⟩ ⟨by omega, by omega⟩ (fun c5 => ?_) (fun c5 => False.elim ((by omega)))
      refine v_iconst hX eX4_faultOf_66 ?_
      exact v_ireturn hX hR eX4_faultOf_67 rfl (hq)
    | succ k ih =>
      intro l3 l4 f n3 n4 nl h1 hf hq
      have hr := fltK_rng hI f
      have next : ∀ (r3 : Int), fltK h f = -1 → VW X 60 [some (mA 1), some (mA 4), some (mI f), some (mI r3), some (mI (fltK h f))] [] h := by
        intro r3 e
        rw [fltFrom, if_pos e] at hq
        refine v_iinc hX eX4_faultOf_60 rfl rfl rfl ?_
        exact v_goto hX eX4_faultOf_63 (tgt := 2) rfl (ih _ _ (f + 1) rfl rfl (fun x e => by cases e) (by omega) (by omega) hq)
      have fin : ¬ fltK h f = -1 → Q (some (mI (f * 10 + fltK h f))) h := fun e => by
        rw [fltFrom, if_neg e] at hq
        exact hq
      by_cases hc : 3 ≤ f ∧ f ≤ 6
      · have e : fltK h f = firstI (jhas h f) (h 1 4).toNat 0 := if_pos hc
        refine v_iload_n hX eX4_faultOf_2 rfl ?_
        refine v_bipush hX eX4_faultOf_3 (by decide) ?_
        refine v_icmp_gt hX eX4_faultOf_5 (tgt := 66) rfl ⟨by omega, by omega⟩ ⟨by omega, by omega⟩ (fun c5 => False.elim ((by omega))) (fun c5 => ?_)
        refine v_iload_n hX eX4_faultOf_8 rfl ?_
        refine v_iconst hX eX4_faultOf_9 ?_
        refine v_icmp_lt hX eX4_faultOf_10 (tgt := 23) rfl ⟨by omega, by omega⟩ ⟨by omega, by omega⟩ (fun c10 => False.elim ((by omega))) (fun c10 => ?_)
        refine v_iload_n hX eX4_faultOf_13 rfl ?_
        refine v_bipush hX eX4_faultOf_14 (by decide) ?_
        refine v_icmp_gt hX eX4_faultOf_16 (tgt := 23) rfl ⟨by omega, by omega⟩ ⟨by omega, by omega⟩ (fun c16 => False.elim ((by omega))) (fun c16 => ?_)
        refine v_iconst hX eX4_faultOf_19 ?_
        refine v_goto hX eX4_faultOf_20 (tgt := 24) rfl ?_
        refine v_istore_n hX eX4_faultOf_24 rfl rfl ?_
        refine v_iload_n hX eX4_faultOf_25 rfl ?_
        refine v_if_eq hX eX4_faultOf_26 (tgt := 38) rfl ⟨by omega, by omega⟩ (fun c26 => False.elim ((by omega))) (fun c26 => ?_)
        refine v_aload_n hX eX4_faultOf_29 rfl ?_
        refine v_iload_n hX eX4_faultOf_30 rfl ?_
        refine v_aload_n hX eX4_faultOf_31 rfl ?_
        refine v_fnV hX eX4_faultOf_32 lV_X4_81 ok_MX4_firstProjectWith ⟨by decide, rfl⟩ rfl ⟨rfl, Nat.le_of_ble_eq_true rfl⟩ (Nat.le_of_ble_eq_true rfl) (c_X4_firstProjectWith hI hL hc) rfl ?_
        try simp only [Int.toNat_natCast, Int.toNat_zero, Int.reduceToNat]
        refine v_goto hX eX4_faultOf_35 (tgt := 44) rfl ?_
        rw [← e]
        refine v_istore hX eX4_faultOf_44 rfl rfl ?_
        refine v_iload hX eX4_faultOf_46 rfl ?_
        refine v_iconst hX eX4_faultOf_48 ?_
        refine v_icmp_eq hX eX4_faultOf_49 (tgt := 60) rfl ⟨by omega, by omega⟩ ⟨by omega, by omega⟩ (fun c49 => ?_) (fun c49 => ?_)
        · exact next _ c49
        · refine v_iload_n hX eX4_faultOf_52 rfl ?_
          refine v_bipush hX eX4_faultOf_53 (by decide) ?_
          refine v_imul hX eX4_faultOf_55 ?_
          refine v_iload hX eX4_faultOf_56 rfl ?_
          refine v_iadd hX eX4_faultOf_58 ?_
          exact v_ireturn hX hR eX4_faultOf_59 rfl (fin c49)
      · have e : fltK h f = firstI (phas h f) (h 1 3).toNat 0 := if_neg hc
        refine v_iload_n hX eX4_faultOf_2 rfl ?_
        refine v_bipush hX eX4_faultOf_3 (by decide) ?_
        refine v_icmp_gt hX eX4_faultOf_5 (tgt := 66) rfl ⟨by omega, by omega⟩ ⟨by omega, by omega⟩ (fun c5 => False.elim ((by omega))) (fun c5 => ?_)
        refine v_iload_n hX eX4_faultOf_8 rfl ?_
        refine v_iconst hX eX4_faultOf_9 ?_
        refine v_icmp_lt hX eX4_faultOf_10 (tgt := 23) rfl ⟨by omega, by omega⟩ ⟨by omega, by omega⟩ (fun c10 => ?_) (fun c10 => ?_)
        · refine v_iconst hX eX4_faultOf_23 ?_
          refine v_istore_n hX eX4_faultOf_24 rfl rfl ?_
          refine v_iload_n hX eX4_faultOf_25 rfl ?_
          refine v_if_eq hX eX4_faultOf_26 (tgt := 38) rfl ⟨by omega, by omega⟩ (fun c26 => ?_) (fun c26 => False.elim ((by omega)))
          refine v_aload_n hX eX4_faultOf_38 rfl ?_
          refine v_iload_n hX eX4_faultOf_39 rfl ?_
          refine v_aload_n hX eX4_faultOf_40 rfl ?_
          refine v_fnV hX eX4_faultOf_41 lV_X4_85 ok_MX4_firstPupilWith ⟨by decide, rfl⟩ rfl ⟨rfl, Nat.le_of_ble_eq_true rfl⟩ (Nat.le_of_ble_eq_true rfl) (c_X4_firstPupilWith hI hL (by omega)) rfl ?_
          try simp only [Int.toNat_natCast, Int.toNat_zero, Int.reduceToNat]
          rw [← e]
          refine v_istore hX eX4_faultOf_44 rfl rfl ?_
          refine v_iload hX eX4_faultOf_46 rfl ?_
          refine v_iconst hX eX4_faultOf_48 ?_
          refine v_icmp_eq hX eX4_faultOf_49 (tgt := 60) rfl ⟨by omega, by omega⟩ ⟨by omega, by omega⟩ (fun c49 => ?_) (fun c49 => ?_)
          · exact next _ c49
          · refine v_iload_n hX eX4_faultOf_52 rfl ?_
            refine v_bipush hX eX4_faultOf_53 (by decide) ?_
            refine v_imul hX eX4_faultOf_55 ?_
            refine v_iload hX eX4_faultOf_56 rfl ?_
            refine v_iadd hX eX4_faultOf_58 ?_
            exact v_ireturn hX hR eX4_faultOf_59 rfl (fin c49)
        · refine v_iload_n hX eX4_faultOf_13 rfl ?_
          refine v_bipush hX eX4_faultOf_14 (by decide) ?_
          refine v_icmp_gt hX eX4_faultOf_16 (tgt := 23) rfl ⟨by omega, by omega⟩ ⟨by omega, by omega⟩ (fun c16 => ?_) (fun c16 => False.elim ((by omega)))
          refine v_iconst hX eX4_faultOf_23 ?_
          refine v_istore_n hX eX4_faultOf_24 rfl rfl ?_
          refine v_iload_n hX eX4_faultOf_25 rfl ?_
          refine v_if_eq hX eX4_faultOf_26 (tgt := 38) rfl ⟨by omega, by omega⟩ (fun c26 => ?_) (fun c26 => False.elim ((by omega)))
          refine v_aload_n hX eX4_faultOf_38 rfl ?_
          refine v_iload_n hX eX4_faultOf_39 rfl ?_
          refine v_aload_n hX eX4_faultOf_40 rfl ?_
          refine v_fnV hX eX4_faultOf_41 lV_X4_85 ok_MX4_firstPupilWith ⟨by decide, rfl⟩ rfl ⟨rfl, Nat.le_of_ble_eq_true rfl⟩ (Nat.le_of_ble_eq_true rfl) (c_X4_firstPupilWith hI hL (by omega)) rfl ?_
          try simp only [Int.toNat_natCast, Int.toNat_zero, Int.reduceToNat]
          rw [← e]
          refine v_istore hX eX4_faultOf_44 rfl rfl ?_
          refine v_iload hX eX4_faultOf_46 rfl ?_
          refine v_iconst hX eX4_faultOf_48 ?_
          refine v_icmp_eq hX eX4_faultOf_49 (tgt := 60) rfl ⟨by omega, by omega⟩ ⟨by omega, by omega⟩ (fun c49 => ?_) (fun c49 => ?_)
          · exact next _ c49
          · refine v_iload_n hX eX4_faultOf_52 rfl ?_
            refine v_bipush hX eX4_faultOf_53 (by decide) ?_
            refine v_imul hX eX4_faultOf_55 ?_
            refine v_iload hX eX4_faultOf_56 rfl ?_
            refine v_iadd hX eX4_faultOf_58 ?_
            exact v_ireturn hX hR eX4_faultOf_59 rfl (fin c49)
  refine v_iconst hX eX4_faultOf_0 ?_
  refine v_istore_n hX eX4_faultOf_1 rfl rfl ?_
  exact loop 7 none none 1 rfl rfl (fun x e => by cases e) (by decide) (by decide) hq
end
section
def alw (h : Hp) (q g : Nat) : Prop := (∀ f : Int, 3 ≤ f → f ≤ 6 → ¬ ghas h f q g) ∧ ∀ p, p < (h 1 3).toNat → g.testBit p = true → ∀ b, b < 8 → apB h p b = true → g.testBit b = false
set_option maxHeartbeats 2000000 in
set_option maxRecDepth 20000 in
theorem c_X4_allows {d : Nat} {h : Hp} {q : Int} {g : Nat} (hI : RI h) (hq5 : 0 ≤ q ∧ q < 5) (hg : g < 256) : Fn (d + 3) MX4_allows [mA 1, mI q, mI g] h (some (mI (b01 (alw h q.toNat g)))) h := by
  intro Q hq X hX hR
  have hn := hI.n
  have loop2 : (∀ f : Int, 3 ≤ f → f ≤ 6 → ¬ ghas h f q.toNat g) → ∀ (k i : Nat), i + k = (h 1 3).toNat → (∀ p, p < i → g.testBit p = true → ∀ b, b < 8 → apB h p b = true → g.testBit b = false) → VW X 28 [some (mA 1), some (mI q), some (mI g), some (mI i)] [] h := by
    intro hf k
    induction k with
    | zero =>
      intro i hi hp
      refine v_iload_n hX eX4_allows_28 rfl ?_
      refine v_aload_n hX eX4_allows_29 rfl ?_
      refine v_getI hX eX4_allows_30 fi_X4_29 ⟨by decide, rfl⟩ ?_
      refine v_icmp_ge hX eX4_allows_33 (tgt := 66) rfl ⟨by omega, by omega⟩ ⟨by omega, by omega⟩ (fun c33 => ?_) (fun c33 => False.elim ((by omega)))
      refine v_iconst hX eX4_allows_66 ?_
      exact v_zreturn hX hR eX4_allows_67 rfl (by omega) (q_t ⟨hf, fun p hp2 => hp p (by omega)⟩ hq)
    | succ k ih =>
      intro i hi hp
      have ha := (hI.pu (p := i) (by omega)).2.2.2.2.1
      have bn := band_none ha hg
      refine v_iload_n hX eX4_allows_28 rfl ?_
      refine v_aload_n hX eX4_allows_29 rfl ?_
      refine v_getI hX eX4_allows_30 fi_X4_29 ⟨by decide, rfl⟩ ?_
      refine v_icmp_ge hX eX4_allows_33 (tgt := 66) rfl ⟨by omega, by omega⟩ ⟨by omega, by omega⟩ (fun c33 => False.elim ((by omega))) (fun c33 => ?_)
      refine v_iload_n hX eX4_allows_36 rfl ?_
      refine v_iload_n hX eX4_allows_37 rfl ?_
      refine v_ishr hX eX4_allows_38 ?_
      refine v_iconst hX eX4_allows_39 ?_
      refine v_iand hX eX4_allows_40 ?_
      rw [bitB (by omega) (by omega)]
      refine v_ifB_eq hX eX4_allows_41 (tgt := 60) rfl (fun c41 => ?_) (fun c41 => ?_)
      · refine v_iinc hX eX4_allows_60 rfl rfl rfl ?_
        exact v_goto hX eX4_allows_63 (tgt := 28) rfl (ih (i + 1) (by omega) (fun p hp2 h1 => if e : p = i then absurd (e ▸ h1) c41 else hp p (by omega) h1))
      · refine v_aload_n hX eX4_allows_44 rfl ?_
        refine v_getA hX eX4_allows_45 fi_X4_11 ⟨by decide, rfl⟩ rfl ?_
        refine v_iload_n hX eX4_allows_48 rfl ?_
        refine v_aaldP hX eX4_allows_49 ⟨by decide, rfl⟩ ⟨by omega, by omega⟩ (RF_pu ⟨by omega, by omega⟩) ?_
        try simp only [Int.toNat_natCast, Int.toNat_zero, Int.reduceToNat]
        refine v_getI hX eX4_allows_50 fi_X4_92 (OB_pu (by omega)) ?_
        refine v_iload_n hX eX4_allows_53 rfl ?_
        refine v_iand hX eX4_allows_54 ?_
        refine v_if_eq hX eX4_allows_55 (tgt := 60) rfl (band_rng _ _) (fun c55 => ?_) (fun c55 => ?_)
        · refine v_iinc hX eX4_allows_60 rfl rfl rfl ?_
          exact v_goto hX eX4_allows_63 (tgt := 28) rfl (ih (i + 1) (by omega) (fun p hp2 h1 => if e : p = i then (by subst e; exact bn.mp c55) else hp p (by omega) h1))
        · refine v_iconst hX eX4_allows_58 ?_
          exact v_zreturn hX hR eX4_allows_59 rfl (by omega) (q_f (fun z => c55 (bn.mpr (fun b hb h1 => z.2 i (by omega) c41 b hb h1))) hq)
  have loop1 : ∀ (k : Nat) (f : Int), 3 ≤ f → f + k = 7 → (∀ f2 : Int, 3 ≤ f2 → f2 < f → ¬ ghas h f2 q.toNat g) → VW X 2 [some (mA 1), some (mI q), some (mI g), some (mI f)] [] h := by
    intro k
    induction k with
    | zero =>
      intro f h3 hi hp
      refine v_iload_n hX eX4_allows_2 rfl ?_
      refine v_bipush hX eX4_allows_3 (by decide) ?_
      refine v_icmp_gt hX eX4_allows_5 (tgt := 26) rfl ⟨by omega, by omega⟩ ⟨by omega, by omega⟩ (fun c5 => ?_) (fun c5 => False.elim ((by omega)))
      refine v_iconst hX eX4_allows_26 ?_
      refine v_istore_n hX eX4_allows_27 rfl rfl ?_
      exact loop2 (fun f2 a b => hp f2 a (by omega)) (h 1 3).toNat 0 (by omega) (fun p hp => absurd hp (Nat.not_lt_zero p))
    | succ k ih =>
      intro f h3 hi hp
      refine v_iload_n hX eX4_allows_2 rfl ?_
      refine v_bipush hX eX4_allows_3 (by decide) ?_
      refine v_icmp_gt hX eX4_allows_5 (tgt := 26) rfl ⟨by omega, by omega⟩ ⟨by omega, by omega⟩ (fun c5 => False.elim ((by omega))) (fun c5 => ?_)
      refine v_aload_n hX eX4_allows_8 rfl ?_
      refine v_iload_n hX eX4_allows_9 rfl ?_
      refine v_iload_n hX eX4_allows_10 rfl ?_
      refine v_iload_n hX eX4_allows_11 rfl ?_
      refine v_fnV hX eX4_allows_12 lV_X4_99 ok_MX4_groupHas ⟨by decide, rfl⟩ rfl ⟨rfl, Nat.le_of_ble_eq_true rfl⟩ (Nat.le_of_ble_eq_true rfl) (c_X4_groupHas hI ⟨by omega, by omega⟩ hq5 hg) rfl ?_
      try simp only [Int.toNat_natCast, Int.toNat_zero, Int.reduceToNat]
      refine v_ifB_eq hX eX4_allows_15 (tgt := 20) rfl (fun c15 => ?_) (fun c15 => ?_)
      · refine v_iinc hX eX4_allows_20 rfl rfl rfl ?_
        exact v_goto hX eX4_allows_23 (tgt := 2) rfl (ih (f + 1) (by omega) (by omega) (fun f2 a b => if e : f2 = f then (by subst e; exact c15) else hp f2 a (by omega)))
      · refine v_iconst hX eX4_allows_18 ?_
        exact v_zreturn hX hR eX4_allows_19 rfl (by omega) (q_f (fun z => z.1 f (by omega) (by omega) c15) hq)
  show VW X 0 [some (mA 1), some (mI q), some (mI g), none] [] h
  refine v_iconst hX eX4_allows_0 ?_
  refine v_istore_n hX eX4_allows_1 rfl rfl ?_
  exact loop1 4 3 (by decide) (by decide) (fun f2 a b => by omega)
/-! the roll's objects are the same -/
def RE (h g : Hp) : Prop := g 1 = h 1 ∧ g 10 = h 10 ∧ (∀ p, g (23 + p) = h (23 + p)) ∧ (∀ p, g (31 + p) = h (31 + p)) ∧ ∀ q, g (39 + q) = h (39 + q)
theorem RE.of {h g : Hp} (e : ∀ k, k = 1 ∨ k = 10 ∨ 23 ≤ k → g k = h k) : RE h g := ⟨e _ (by omega), e _ (by omega), fun p => e _ (by omega), fun p => e _ (by omega), fun p => e _ (by omega)⟩
theorem RE.ri {h g : Hp} (e : RE h g) (a : RI h) : RI g := by
  obtain ⟨e1, e2, e3, e4, e5⟩ := e
  simpa only [RI, PUOK, PROK, e1, e2, e3, e4, e5] using a
theorem RE.alw_eq {h g : Hp} (e : RE h g) (q x : Nat) : alw g q x = alw h q x := by
  obtain ⟨e1, e2, e3, e4, e5⟩ := e
  have hh : ∀ y b, hasF g y b = hasF h y b := fun y b => by funext p; simp only [hasF, skB, e3]
  simp only [alw, ghas, tks, rtw, lkl, lks, hh, neB, apB, e1, e3, e5]
theorem pw2 {a b : Nat} (h : a ≤ b) : 2 ^ a ≤ 2 ^ b := Nat.pow_le_pow_right (by decide) h
def sub (g x : Nat) : Prop := ∀ b, b < 8 → g.testBit b = true → x.testBit b = true
noncomputable def fitN (h : Hp) (g : Nat) : Nat := if pb (sub g (bs (prF h) (h 1 3).toNat)) = true then bs (fun q => pb (alw h q g)) (h 1 4).toNat else 0
noncomputable def opnN (h : Hp) (g : Nat) : Nat := bs (fun q => pb (∃ x, x < 256 ∧ sub g x ∧ (fitN h x).testBit q = true)) 5
noncomputable def opJ (h : Hp) (g j : Nat) : Nat := bs (fun q => pb ((fitN h g).testBit q = true ∨ ∃ p, p < j ∧ g.testBit p = false ∧ (opnN h (g ||| 2 ^ p)).testBit q = true)) 5
theorem fitN_lt {h : Hp} (hI : RI h) (g : Nat) : fitN h g < 32 := by
  unfold fitN
  split
  · exact Nat.lt_of_lt_of_le (bs_lt _ _) (pw2 (b := 5) (by have := hI.q; omega))
  · decide
theorem opnN_lt {h : Hp} (g : Nat) : opnN h g < 32 := bs_lt _ 5
theorem opJ_lt {h : Hp} (g j : Nat) : opJ h g j < 32 := bs_lt _ 5
theorem sub_rfl {g : Nat} : sub g g := fun _ _ h => h
theorem opJ_0 {h : Hp} (hI : RI h) (g : Nat) : opJ h g 0 = fitN h g := by
  refine ext8 (Nat.lt_trans (opJ_lt g 0) (by decide)) (Nat.lt_trans (fitN_lt hI g) (by decide)) (fun i _ => ?_)
  rw [opJ, bs_bit]
  by_cases hi : i < 5
  · simp only [hi, decide_true, Bool.true_and]
    cases hx : (fitN h g).testBit i
    · exact pb_f.mpr (fun z => z.elim (fun z => by cases z) (fun ⟨p, hp, _⟩ => by omega))
    · exact pb_iff.mpr (Or.inl rfl)
  · simp only [hi, decide_false, Bool.false_and]
    exact (Nat.testBit_lt_two_pow (Nat.lt_of_lt_of_le (fitN_lt hI g) (show 2 ^ 5 ≤ 2 ^ i from Nat.pow_le_pow_right (by decide) (by omega)))).symm
theorem opJ_s {h : Hp} {g j : Nat} : opJ h g (j + 1) = if g.testBit j = true then opJ h g j else opJ h g j ||| opnN h (g ||| 2 ^ j) := by
  split
  · rename_i hb
    refine bs_congr 5 (fun q hq => ?_)
    congr 1
    apply propext
    constructor
    · rintro (a | ⟨p, h1, h2, h3⟩)
      · exact Or.inl a
      · by_cases e : p = j
        · subst e; rw [hb] at h2; cases h2
        · exact Or.inr ⟨p, by omega, h2, h3⟩
    · rintro (a | ⟨p, h1, h2, h3⟩)
      · exact Or.inl a
      · exact Or.inr ⟨p, by omega, h2, h3⟩
  · rename_i hb
    have hb : g.testBit j = false := by simpa using hb
    refine ext_bits (fun q => ?_)
    rw [Nat.testBit_or, opJ, opJ, bs_bit, bs_bit]
    by_cases hq : q < 5
    · simp only [hq, decide_true, Bool.true_and]
      cases hx : (opnN h (g ||| 2 ^ j)).testBit q
      · rw [Bool.or_false]
        congr 1
        apply propext
        constructor
        · rintro (a | ⟨p, h1, h2, h3⟩)
          · exact Or.inl a
          · by_cases e : p = j
            · subst e; rw [hx] at h3; cases h3
            · exact Or.inr ⟨p, by omega, h2, h3⟩
        · rintro (a | ⟨p, h1, h2, h3⟩)
          · exact Or.inl a
          · exact Or.inr ⟨p, by omega, h2, h3⟩
      · rw [Bool.or_true]
        exact pb_iff.mpr (Or.inr ⟨j, by omega, hb, hx⟩)
    · simp only [hq, decide_false, Bool.false_and, Bool.false_or]
      exact (Nat.testBit_lt_two_pow (Nat.lt_of_lt_of_le (opnN_lt _) (show 2 ^ 5 ≤ 2 ^ q from Nat.pow_le_pow_right (by decide) (by omega)))).symm
theorem opJ_8 {h : Hp} {g : Nat} (hg : g < 256) : opJ h g 8 = opnN h g := by
  refine bs_congr 5 (fun q hq => ?_)
  congr 1
  apply propext
  constructor
  · rintro (a | ⟨p, h1, h2, h3⟩)
    · exact ⟨g, hg, sub_rfl, a⟩
    · rw [opnN, bs_bit] at h3
      simp only [hq, decide_true, Bool.true_and] at h3
      obtain ⟨x, hx, hs, hf⟩ := pb_iff.mp h3
      exact ⟨x, hx, fun b hb h4 => hs b hb (by rw [put_bit, h4]; rfl), hf⟩
  · rintro ⟨x, hx, hs, hf⟩
    by_cases e : x = g
    · subst e; exact Or.inl hf
    · have : ∃ p, p < 8 ∧ g.testBit p = false ∧ x.testBit p = true := Classical.byContradiction (fun z => e (ext8 hx hg (fun i hi => by
        cases h1 : g.testBit i
        · cases h2 : x.testBit i
          · rfl
          · exact absurd ⟨i, hi, h1, h2⟩ z
        · exact hs i hi h1)))
      obtain ⟨p, h1, h2, h3⟩ := this
      refine Or.inr ⟨p, h1, h2, ?_⟩
      rw [opnN, bs_bit]
      simp only [hq, decide_true, Bool.true_and]
      exact pb_iff.mpr ⟨x, hx, fun b hb h4 => by
        rw [put_bit] at h4
        rcases (Bool.or_eq_true _ _).mp h4 with h5 | h5
        · exact hs b hb h5
        · rw [of_decide_eq_true h5]; exact h3, hf⟩
/-! Groups.fill -/
noncomputable def FGi (h : Hp) (i : Nat) : Hp := fun a b => if a = 17 ∧ i ≤ b ∧ b < 256 then (fitN h b : Int) else if a = 18 ∧ i ≤ b ∧ b < 256 then (opnN h b : Int) else h a b
theorem FGi_ne {h : Hp} {i a : Nat} (h1 : a ≠ 17) (h2 : a ≠ 18) : FGi h i a = h a := by
  funext b
  simp [FGi, h1, h2]
theorem FGi_RE {h : Hp} {i : Nat} : RE h (FGi h i) := RE.of (fun k hk => FGi_ne (by omega) (by omega))
theorem FGi_256 {h : Hp} : FGi h 256 = h := by
  funext a b
  unfold FGi
  rw [if_neg (by omega), if_neg (by omega)]
theorem up_up {h : Hp} {k j : Nat} {v w : Int} : up (up h k j v) k j w = up h k j w := by
  funext a b
  simp only [up]
  split <;> rfl
theorem FGi_s {h : Hp} {g : Nat} (hg : g < 256) : up (up (FGi h (g + 1)) 17 g (fitN h g : Nat)) 18 g (opnN h g : Nat) = FGi h g := by
  funext a b
  simp only [up, FGi]
  by_cases e : b = g
  · subst e
    by_cases a1 : a = 17
    · subst a1; simp [hg]
    · by_cases a2 : a = 18
      · subst a2; simp [hg]
      · simp [a1, a2]
  · have : (g + 1 ≤ b) ↔ g ≤ b := by omega
    simp [e, this]
def noL (l : Option MV) : Prop := ∀ z : Int, l ≠ some (mL z)
set_option maxHeartbeats 2000000 in
set_option maxRecDepth 20000 in
theorem c_X0_fill {d : Nat} {h : Hp} (hI : RI h) : Fn (d + 4) MX0_fill [mA 11, mA 1] h none (FGi h 0) := by
  intro Q hq X hX hR
  have hn := hI.n
  have hm := hI.q
  have hpl : bs (prF h) (h 1 3).toNat < 256 := bs_lt8 _ (by omega)
  have ploop : ∀ (g : Nat) (l4 l5 : Option MV), g < 256 → (∀ l4 l5 l6, VW X 13 [some (mA 11), some (mA 1), some (mI (bs (prF h) (h 1 3).toNat : Nat)), some (mI ((g : Int) - 1)), l4, l5, l6] [] (FGi h g)) →
      ∀ j : Nat, j ≤ 8 → VW X 96 [some (mA 11), some (mA 1), some (mI (bs (prF h) (h 1 3).toNat : Nat)), some (mI g), l4, some (mI (fitN h g : Nat)), some (mI j)] [] (up (up (FGi h (g + 1)) 17 g (fitN h g : Nat)) 18 g (opJ h g j : Nat)) := by
    intro g l4 l5 hg next
    refine loop_up _ ?_ ?_
    · rw [opJ_8 hg, FGi_s hg]
      refine v_iload hX eX0_fill_96 rfl ?_
      refine v_bipush hX eX0_fill_98 (by decide) ?_
      refine v_icmp_ge hX eX0_fill_100 (tgt := 129) rfl ⟨by omega, by omega⟩ ⟨by omega, by omega⟩ (fun c100 => ?_) (fun c100 => False.elim ((by omega)))
      refine v_iinc hX eX0_fill_129 rfl rfl rfl ?_
      refine v_goto hX eX0_fill_132 (tgt := 13) rfl ?_
      exact next _ _ _
    · intro j hj ih
      have l1 := opJ_lt (h := h) g j
      have l2 := opnN_lt (h := h) (g ||| 2 ^ j)
      have pl := put_lt hg hj
      have rd : (up (up (FGi h (g + 1)) 17 g (fitN h g : Nat)) 18 g (opJ h g j : Nat)) 18 (g ||| 2 ^ j) = if g.testBit j = true then ((opJ h g j : Nat) : Int) else ((opnN h (g ||| 2 ^ j) : Nat) : Int) := by
        split
        · rename_i hb
          have e : g ||| 2 ^ j = g := ext8 pl hg (fun i hi => by
            rw [put_bit]
            by_cases e : i = j
            · subst e; rw [hb]; rfl
            · simp [e])
          rw [e, up_same]
        · rename_i hb
          have e : g ||| 2 ^ j ≠ g := fun e => hb (by rw [← e, put_bit]; simp)
          have lt : g < g ||| 2 ^ j := Nat.lt_of_le_of_ne Nat.left_le_or (Ne.symm e)
          rw [up_ne (fun z => e z.2), up_ob (by decide), FGi, if_neg (by omega), if_pos ⟨rfl, lt, pl⟩]
      have sm : (up (up (FGi h (g + 1)) 17 g (fitN h g : Nat)) 18 g (opJ h g j : Nat)) 18 g = ((opJ h g j : Nat) : Int) := up_same
      refine v_iload hX eX0_fill_96 rfl ?_
      refine v_bipush hX eX0_fill_98 (by decide) ?_
      refine v_icmp_ge hX eX0_fill_100 (tgt := 129) rfl ⟨by omega, by omega⟩ ⟨by omega, by omega⟩ (fun c100 => False.elim ((by omega))) (fun c100 => ?_)
      refine v_aload_n hX eX0_fill_103 rfl ?_
      refine v_getA hX eX0_fill_104 fi_X0_15 ⟨by decide, rfl⟩ rfl ?_
      refine v_iload_n hX eX0_fill_107 rfl ?_
      refine v_dup2 hX eX0_fill_108 rfl rfl ?_
      refine v_iald hX eX0_fill_109 (by first | exact ⟨by decide, rfl⟩ | exact AR_rk (by omega)) ⟨by omega, by omega⟩ ?_
      try simp only [Int.toNat_natCast, Int.toNat_zero, Int.reduceToNat]
      rw [sm]
      refine v_aload_n hX eX0_fill_110 rfl ?_
      refine v_getA hX eX0_fill_111 fi_X0_15 ⟨by decide, rfl⟩ rfl ?_
      refine v_iload_n hX eX0_fill_114 rfl ?_
      refine v_iconst hX eX0_fill_115 ?_
      refine v_iload hX eX0_fill_116 rfl ?_
      refine v_ishl hX eX0_fill_118 ?_
      refine v_ior hX eX0_fill_119 ?_
      rw [wb_put hg hj]
      refine v_iald hX eX0_fill_120 (by first | exact ⟨by decide, rfl⟩ | exact AR_rk (by omega)) ⟨by omega, by omega⟩ ?_
      try simp only [Int.toNat_natCast, Int.toNat_zero, Int.reduceToNat]
      rw [rd]
      refine v_ior hX eX0_fill_121 ?_
      rw [show bor ((opJ h g j : Nat) : Int) (if g.testBit j = true then ((opJ h g j : Nat) : Int) else ((opnN h (g ||| 2 ^ j) : Nat) : Int)) = ((opJ h g (j + 1) : Nat) : Int) from by
        rw [opJ_s]
        split
        · rw [bor_nat (by omega) (by omega), Nat.or_self]
        · rw [bor_nat (by omega) (by omega)]]
      refine v_iast hX eX0_fill_122 (by first | exact ⟨by decide, rfl⟩ | exact AR_rk (by omega)) ⟨by omega, by omega⟩ ?_
      try simp only [Int.toNat_natCast, Int.toNat_zero, Int.reduceToNat]
      rw [up_up]
      refine v_iinc hX eX0_fill_123 rfl rfl rfl ?_
      refine v_goto hX eX0_fill_126 (tgt := 96) rfl ?_
      exact ih
  have body : ∀ (g : Nat) (l4 l5 l6 : Option MV), g < 256 → (∀ l4 l5 l6, VW X 13 [some (mA 11), some (mA 1), some (mI (bs (prF h) (h 1 3).toNat : Nat)), some (mI ((g : Int) - 1)), l4, l5, l6] [] (FGi h g)) →
      VW X 13 [some (mA 11), some (mA 1), some (mI (bs (prF h) (h 1 3).toNat : Nat)), some (mI g), l4, l5, l6] [] (FGi h (g + 1)) := by
    intro g l4 l5 l6 hg next
    have fin : ∀ (l4 l6 : Option MV), noL l4 → VW X 77 [some (mA 11), some (mA 1), some (mI (bs (prF h) (h 1 3).toNat : Nat)), some (mI g), l4, some (mI (fitN h g : Nat)), l6] [] (FGi h (g + 1)) := by
      intro l4 l6 hl4
      have pp := ploop g l4 none hg next 0 (by omega)
      rw [opJ_0 hI] at pp
      refine v_aload_n hX eX0_fill_77 rfl ?_
      refine v_getA hX eX0_fill_78 fi_X0_9 ⟨by decide, rfl⟩ rfl ?_
      refine v_iload_n hX eX0_fill_81 rfl ?_
      refine v_iload hX eX0_fill_82 rfl ?_
      refine v_iast hX eX0_fill_84 (by first | exact ⟨by decide, rfl⟩ | exact AR_rk (by omega)) ⟨by omega, by omega⟩ ?_
      try simp only [Int.toNat_natCast, Int.toNat_zero, Int.reduceToNat]
      refine v_aload_n hX eX0_fill_85 rfl ?_
      refine v_getA hX eX0_fill_86 fi_X0_15 ⟨by decide, rfl⟩ rfl ?_
      refine v_iload_n hX eX0_fill_89 rfl ?_
      refine v_iload hX eX0_fill_90 rfl ?_
      refine v_iast hX eX0_fill_92 (by first | exact ⟨by decide, rfl⟩ | exact AR_rk (by omega)) ⟨by omega, by omega⟩ ?_
      try simp only [Int.toNat_natCast, Int.toNat_zero, Int.reduceToNat]
      refine v_iconst hX eX0_fill_93 ?_
      refine v_istore hX eX0_fill_94 rfl rfl ?_
      exact pp
    by_cases hs : sub g (bs (prF h) (h 1 3).toNat)
    · have ef : fitN h g = bs (fun q => pb (alw h q g)) (h 1 4).toNat := if_pos (pb_iff.mpr hs)
      have e0 : band g (bxor (bs (prF h) (h 1 3).toNat : Nat) (-1)) = 0 := (band_not hg hpl).mpr hs
      have qloop : ∀ i, i ≤ (h 1 4).toNat → VW X 38 [some (mA 11), some (mA 1), some (mI (bs (prF h) (h 1 3).toNat : Nat)), some (mI g), some (mI 1), some (mI (bs (fun q => pb (alw h q g)) i : Nat)), some (mI i)] [] (FGi h (g + 1)) := by
        have e1 : FGi h (g + 1) 1 4 = h 1 4 := by rw [FGi_ne (by decide) (by decide)]
        refine loop_up _ ?_ ?_
        · refine v_iload hX eX0_fill_38 rfl ?_
          refine v_if_eq hX eX0_fill_40 (tgt := 77) rfl ⟨by omega, by omega⟩ (fun c40 => False.elim ((by omega))) (fun c40 => ?_)
          refine v_iload hX eX0_fill_43 rfl ?_
          refine v_aload_n hX eX0_fill_45 rfl ?_
          refine v_getI hX eX0_fill_46 fi_X0_24 ⟨by decide, rfl⟩ ?_
          refine v_icmp_ge hX eX0_fill_49 (tgt := 77) rfl ⟨by omega, by omega⟩ ⟨by omega, by omega⟩ (fun c49 => ?_) (fun c49 => False.elim ((by omega)))
          rw [← ef]
          exact fin _ _ (fun z e => by cases e)
        · intro i hi ih
          have hb := Nat.lt_of_lt_of_le (bs_lt (fun q => pb (alw h q g)) i) (pw2 (b := 8) (by omega))
          refine v_iload hX eX0_fill_38 rfl ?_
          refine v_if_eq hX eX0_fill_40 (tgt := 77) rfl ⟨by omega, by omega⟩ (fun c40 => False.elim ((by omega))) (fun c40 => ?_)
          refine v_iload hX eX0_fill_43 rfl ?_
          refine v_aload_n hX eX0_fill_45 rfl ?_
          refine v_getI hX eX0_fill_46 fi_X0_24 ⟨by decide, rfl⟩ ?_
          refine v_icmp_ge hX eX0_fill_49 (tgt := 77) rfl ⟨by omega, by omega⟩ ⟨by omega, by omega⟩ (fun c49 => False.elim ((by omega))) (fun c49 => ?_)
          refine v_aload_n hX eX0_fill_52 rfl ?_
          refine v_iload hX eX0_fill_53 rfl ?_
          refine v_iload_n hX eX0_fill_55 rfl ?_
          refine v_fnV hX eX0_fill_56 lV_X0_28 ok_MX4_allows ⟨by decide, rfl⟩ rfl ⟨rfl, Nat.le_of_ble_eq_true rfl⟩ (Nat.le_of_ble_eq_true rfl) (c_X4_allows (FGi_RE.ri hI) ⟨by omega, by omega⟩ hg) rfl ?_
          try simp only [Int.toNat_natCast, Int.toNat_zero, Int.reduceToNat]
          rw [FGi_RE.alw_eq]
          refine v_ifB_eq hX eX0_fill_59 (tgt := 71) rfl (fun c59 => ?_) (fun c59 => ?_)
          · rw [bs, if_neg (fun z => c59 (pb_iff.mp z)), Nat.or_zero] at ih
            refine v_iinc hX eX0_fill_71 rfl rfl rfl ?_
            exact v_goto hX eX0_fill_74 (tgt := 38) rfl ih
          · refine v_iload hX eX0_fill_62 rfl ?_
            refine v_iconst hX eX0_fill_64 ?_
            refine v_iload hX eX0_fill_65 rfl ?_
            refine v_ishl hX eX0_fill_67 ?_
            refine v_ior hX eX0_fill_68 ?_
            rw [wb_put hb (by omega)]
            refine v_istore hX eX0_fill_69 rfl rfl ?_
            rw [bs, if_pos (pb_iff.mpr c59)] at ih
            refine v_iinc hX eX0_fill_71 rfl rfl rfl ?_
            exact v_goto hX eX0_fill_74 (tgt := 38) rfl ih
      have q0 := qloop 0 (by omega)
      refine v_iload_n hX eX0_fill_13 rfl ?_
      refine v_if_lt hX eX0_fill_14 (tgt := 135) rfl ⟨by omega, by omega⟩ (fun c14 => False.elim ((by omega))) (fun c14 => ?_)
      refine v_iload_n hX eX0_fill_17 rfl ?_
      refine v_iload_n hX eX0_fill_18 rfl ?_
      refine v_iconst hX eX0_fill_19 ?_
      refine v_ixor hX eX0_fill_20 ?_
      refine v_iand hX eX0_fill_21 ?_
      rw [e0]
      refine v_if_ne hX eX0_fill_22 (tgt := 29) rfl ⟨by omega, by omega⟩ (fun c22 => False.elim (c22 rfl)) (fun c22 => ?_)
      refine v_iconst hX eX0_fill_25 ?_
      refine v_goto hX eX0_fill_26 (tgt := 30) rfl ?_
      refine v_istore hX eX0_fill_30 rfl rfl ?_
      refine v_iconst hX eX0_fill_32 ?_
      refine v_istore hX eX0_fill_33 rfl rfl ?_
      refine v_iconst hX eX0_fill_35 ?_
      refine v_istore hX eX0_fill_36 rfl rfl ?_
      exact q0
    · have ef : fitN h g = 0 := if_neg (fun z => hs (pb_iff.mp z))
      have e0 : ¬ band g (bxor (bs (prF h) (h 1 3).toNat : Nat) (-1)) = 0 := fun z => hs ((band_not hg hpl).mp z)
      have f0 := fin (some (mI 0)) (some (mI 0)) (fun z e => by cases e)
      rw [ef] at f0
      refine v_iload_n hX eX0_fill_13 rfl ?_
      refine v_if_lt hX eX0_fill_14 (tgt := 135) rfl ⟨by omega, by omega⟩ (fun c14 => False.elim ((by omega))) (fun c14 => ?_)
      refine v_iload_n hX eX0_fill_17 rfl ?_
      refine v_iload_n hX eX0_fill_18 rfl ?_
      refine v_iconst hX eX0_fill_19 ?_
      refine v_ixor hX eX0_fill_20 ?_
      refine v_iand hX eX0_fill_21 ?_
      refine v_if_ne hX eX0_fill_22 (tgt := 29) rfl (band_rng _ _) (fun c22 => ?_) (fun c22 => False.elim (e0 c22))
      refine v_iconst hX eX0_fill_29 ?_
      refine v_istore hX eX0_fill_30 rfl rfl ?_
      refine v_iconst hX eX0_fill_32 ?_
      refine v_istore hX eX0_fill_33 rfl rfl ?_
      refine v_iconst hX eX0_fill_35 ?_
      refine v_istore hX eX0_fill_36 rfl rfl ?_
      refine v_iload hX eX0_fill_38 rfl ?_
      refine v_if_eq hX eX0_fill_40 (tgt := 77) rfl ⟨by omega, by omega⟩ (fun c40 => ?_) (fun c40 => False.elim ((by omega)))
      exact f0
  have loop : ∀ i : Nat, i ≤ 256 → ∀ l4 l5 l6, VW X 13 [some (mA 11), some (mA 1), some (mI (bs (prF h) (h 1 3).toNat : Nat)), some (mI ((i : Int) - 1)), l4, l5, l6] [] (FGi h i) := by
    intro i
    induction i with
    | zero =>
      intro _ l4 l5 l6
      refine v_iload_n hX eX0_fill_13 rfl ?_
      refine v_if_lt hX eX0_fill_14 (tgt := 135) rfl ⟨by omega, by omega⟩ (fun c14 => ?_) (fun c14 => False.elim ((by omega)))
      exact v_return hX hR eX0_fill_135 rfl (hq)
    | succ g ih =>
      intro hg l4 l5 l6
      rw [show ((g + 1 : Nat) : Int) - 1 = (g : Int) by omega]
      exact body g l4 l5 l6 (by omega) (ih (by omega))
  have l256 := loop 256 (by omega) none none none
  rw [FGi_256] at l256
  show VW X 0 [some (mA 11), some (mA 1), none, none, none, none, none] [] h
  refine v_aload_n hX eX0_fill_0 rfl ?_
  refine v_fnV hX eX0_fill_1 lV_X0_18 ok_MX4_presentBits ⟨by decide, rfl⟩ rfl ⟨rfl, Nat.le_of_ble_eq_true rfl⟩ (Nat.le_of_ble_eq_true rfl) (c_X4_presentBits hI) rfl ?_
  try simp only [Int.toNat_natCast, Int.toNat_zero, Int.reduceToNat]
  refine v_istore_n hX eX0_fill_4 rfl rfl ?_
  refine v_aload_n hX eX0_fill_5 rfl ?_
  refine v_getA hX eX0_fill_6 fi_X0_9 ⟨by decide, rfl⟩ rfl ?_
  refine v_alen hX eX0_fill_9 (by first | exact ⟨by decide, rfl⟩ | exact AR_rk (by omega)) ?_
  refine v_iconst hX eX0_fill_10 ?_
  refine v_isub hX eX0_fill_11 ?_
  refine v_istore_n hX eX0_fill_12 rfl rfl ?_
  exact l256
set_option maxHeartbeats 2000000 in
set_option maxRecDepth 20000 in
theorem c_X0_fits {d : Nat} {h : Hp} {q : Int} {g : Nat} (hg : g < 256) (hq5 : 0 ≤ q ∧ q < 5) (hv : 0 ≤ h 17 g ∧ h 17 g ≤ 255) : Fn d MX0_fits [mA 11, mI q, mI g] h (some (mI (b01 ((h 17 g).toNat.testBit q.toNat = true)))) h := by
  intro Q hq X hX hR
  show VW X 0 [some (mA 11), some (mI q), some (mI g)] [] h
  refine v_iload_n hX eX0_fits_0 rfl ?_
  refine v_if_lt hX eX0_fits_1 (tgt := 30) rfl ⟨by omega, by omega⟩ (fun c1 => False.elim ((by omega))) (fun c1 => ?_)
  refine v_iload_n hX eX0_fits_4 rfl ?_
  refine v_aload_n hX eX0_fits_5 rfl ?_
  refine v_getA hX eX0_fits_6 fi_X0_9 ⟨by decide, rfl⟩ rfl ?_
  refine v_alen hX eX0_fits_9 (by first | exact ⟨by decide, rfl⟩ | exact AR_rk (by omega)) ?_
  refine v_icmp_ge hX eX0_fits_10 (tgt := 30) rfl ⟨by omega, by omega⟩ ⟨by omega, by omega⟩ (fun c10 => False.elim ((by omega))) (fun c10 => ?_)
  refine v_aload_n hX eX0_fits_13 rfl ?_
  refine v_getA hX eX0_fits_14 fi_X0_9 ⟨by decide, rfl⟩ rfl ?_
  refine v_iload_n hX eX0_fits_17 rfl ?_
  refine v_iald hX eX0_fits_18 (by first | exact ⟨by decide, rfl⟩ | exact AR_rk (by omega)) ⟨by omega, by omega⟩ ?_
  try simp only [Int.toNat_natCast, Int.toNat_zero, Int.reduceToNat]
  refine v_iload_n hX eX0_fits_19 rfl ?_
  refine v_ishr hX eX0_fits_20 ?_
  refine v_iconst hX eX0_fits_21 ?_
  refine v_iand hX eX0_fits_22 ?_
  rw [bitZ hv (by omega)]
  refine v_ifB_eq hX eX0_fits_23 (tgt := 30) rfl (fun c23 => ?_) (fun c23 => ?_)
  · refine v_iconst hX eX0_fits_30 ?_
    exact v_zreturn hX hR eX0_fits_31 rfl (by omega) (q_f c23 hq)
  · refine v_iconst hX eX0_fits_26 ?_
    refine v_goto hX eX0_fits_27 (tgt := 31) rfl ?_
    exact v_zreturn hX hR eX0_fits_31 rfl (by omega) (q_t c23 hq)
set_option maxHeartbeats 2000000 in
set_option maxRecDepth 20000 in
theorem c_X0_canGrow {d : Nat} {h : Hp} {q : Int} {g : Nat} (hg : g < 256) (hq5 : 0 ≤ q ∧ q < 5) (hv : 0 ≤ h 18 g ∧ h 18 g ≤ 255) : Fn d MX0_canGrow [mA 11, mI q, mI g] h (some (mI (b01 ((h 18 g).toNat.testBit q.toNat = true)))) h := by
  intro Q hq X hX hR
  show VW X 0 [some (mA 11), some (mI q), some (mI g)] [] h
  refine v_iload_n hX eX0_canGrow_0 rfl ?_
  refine v_if_lt hX eX0_canGrow_1 (tgt := 30) rfl ⟨by omega, by omega⟩ (fun c1 => False.elim ((by omega))) (fun c1 => ?_)
  refine v_iload_n hX eX0_canGrow_4 rfl ?_
  refine v_aload_n hX eX0_canGrow_5 rfl ?_
  refine v_getA hX eX0_canGrow_6 fi_X0_15 ⟨by decide, rfl⟩ rfl ?_
  refine v_alen hX eX0_canGrow_9 (by first | exact ⟨by decide, rfl⟩ | exact AR_rk (by omega)) ?_
  refine v_icmp_ge hX eX0_canGrow_10 (tgt := 30) rfl ⟨by omega, by omega⟩ ⟨by omega, by omega⟩ (fun c10 => False.elim ((by omega))) (fun c10 => ?_)
  refine v_aload_n hX eX0_canGrow_13 rfl ?_
  refine v_getA hX eX0_canGrow_14 fi_X0_15 ⟨by decide, rfl⟩ rfl ?_
  refine v_iload_n hX eX0_canGrow_17 rfl ?_
  refine v_iald hX eX0_canGrow_18 (by first | exact ⟨by decide, rfl⟩ | exact AR_rk (by omega)) ⟨by omega, by omega⟩ ?_
  try simp only [Int.toNat_natCast, Int.toNat_zero, Int.reduceToNat]
  refine v_iload_n hX eX0_canGrow_19 rfl ?_
  refine v_ishr hX eX0_canGrow_20 ?_
  refine v_iconst hX eX0_canGrow_21 ?_
  refine v_iand hX eX0_canGrow_22 ?_
  rw [bitZ hv (by omega)]
  refine v_ifB_eq hX eX0_canGrow_23 (tgt := 30) rfl (fun c23 => ?_) (fun c23 => ?_)
  · refine v_iconst hX eX0_canGrow_30 ?_
    exact v_zreturn hX hR eX0_canGrow_31 rfl (by omega) (q_f c23 hq)
  · refine v_iconst hX eX0_canGrow_26 ?_
    refine v_goto hX eX0_canGrow_27 (tgt := 31) rfl ?_
    exact v_zreturn hX hR eX0_canGrow_31 rfl (by omega) (q_t c23 hq)
end
section
-- longs: shifts; a copy of an int array; Math.max
theorem w8_c : ∀ k, k < 64 → ((nI k).toInt64 &&& 63) = lN k := by decide +kernel
theorem w8_sm : ∀ k, k < 64 → (BitVec.ofNat 64 k).smod 64 = BitVec.ofNat 64 k := by decide +kernel
theorem w8_tn : ∀ k, k < 64 → ((lN k).toBitVec.smod 64).toNat = k := by decide +kernel
theorem w8_shl (n : Nat) {k : Nat} (hk : k < 64) : lN n <<< ((nI k).toInt64 &&& 63) = lN (n * 2 ^ k) := by
  rw [w8_c k hk]
  apply Int64.toBitVec_inj.mp
  rw [Int64.toBitVec_shiftLeft]
  show BitVec.ofNat 64 n <<< ((BitVec.ofNat 64 k).smod 64) = BitVec.ofNat 64 (n * 2 ^ k)
  rw [w8_sm k hk]
  apply BitVec.eq_of_toNat_eq
  rw [BitVec.shiftLeft_eq', BitVec.toNat_shiftLeft, BitVec.toNat_ofNat, BitVec.toNat_ofNat, BitVec.toNat_ofNat, Nat.mod_eq_of_lt (show k < 2 ^ 64 by omega), Nat.shiftLeft_eq, Nat.mul_mod, Nat.mod_mod, ← Nat.mul_mod]
theorem w8_shr {n k : Nat} (hn : n < 2 ^ 63) (hk : k < 64) : lN n >>> ((nI k).toInt64 &&& 63) = lN (n / 2 ^ k) := by
  have hd : n / 2 ^ k ≤ n := Nat.div_le_self _ _
  rw [w8_c k hk]
  apply Int64.toInt_inj.mp
  have e : (lN n >>> lN k).toInt = (lN n).toInt >>> k := by
    have h := BitVec.toInt_sshiftRight (x := (lN n).toBitVec) (n := ((lN k).toBitVec.smod 64).toNat)
    rw [w8_tn k hk] at h
    rw [← w8_tn k hk] at h ⊢
    rw [w8_tn k hk] at h ⊢
    show ((lN n).toBitVec.sshiftRight ((lN k).toBitVec.smod 64).toNat).toInt = _
    rw [w8_tn k hk]
    exact h
  rw [e, Int.shiftRight_eq_div_pow, pk_lT hn, pk_lT (by omega)]
  rfl
theorem lshl_n {a k : Nat} (hk : k < 64) (h : a * 2 ^ k < 2 ^ 63) : lshl a k = ((a * 2 ^ k : Nat) : Int) := by
  unfold lshl
  rw [ol_nat, oi_nat, w8_shl a hk, pk_lT h]
theorem lshr_n {a k : Nat} (hk : k < 64) (h : a < 2 ^ 63) : lshr a k = ((a / 2 ^ k : Nat) : Int) := by
  unfold lshr
  rw [ol_nat, oi_nat, w8_shr h hk, pk_lT (Nat.lt_of_le_of_lt (Nat.div_le_self _ _) h)]
theorem lshr5 {a : Int} (h : 0 ≤ a ∧ a < 9223372036854775808) : lshr a 5 = a / 32 := by
  have := lshr_n (a := a.toNat) (k := 5) (by decide) (by omega)
  rw [← cast_toNat' h.1] at this
  rw [show (5 : Int) = ((5 : Nat) : Int) from rfl, this]
  omega
section VCOPY
variable {d : Nat} {M : MT} {X : CT} {pc nx : Nat} {ls : List (Option MV)} {st : List MV} {h : Hp}
def cpyH (h : Hp) (a b n : Nat) : Hp := fun x y => if x = b ∧ y < n then h a y else h x y
theorem WS_set2 {al : Nat → Nat} {tc : Nat → ClassId} {h g : Hp} {k : Nat} (x : va_E) (hx : x = cellE al tc g k) (hg : ∀ a, a ≠ k → g a = h a) : (WS al tc h).set k (al k, x) = WS al tc g := by
  subst hx
  apply List.ext_getElem?
  intro i
  by_cases hi : i = k
  · subst hi
    by_cases hn : i < KN
    · rw [WS_get hn, List.getElem?_set_self (by simp [WS, hn])]
    · simp [WS, hn, List.getElem?_set]
  · rw [List.getElem?_set_ne (Ne.symm hi)]
    by_cases hn : i < KN
    · rw [WS_get hn, WS_get hn, cellE_ne (h' := g) (h := h) (fun b => by rw [hg i hi])]
    · simp [WS, hn]
theorem v_acopy (hX : Cx (d + 1) M X) {idx a b n n0 n1 : Nat} (hd : Dc M pc (.invokestatic idx) 3 nx) (hl : Cond.methodLink M.1.cls idx arraycopyName ∈ TB) (ha : AR a 0 n0) (hb2 : AR b 0 n1) (hn : n ≤ n0 ∧ n ≤ n1) (hst : (st.map mcat).sum ≤ 8) (k : VW X nx ls st (cpyH h a b n)) : VW X pc ls (mI n :: mI 0 :: mA b :: mI 0 :: mA a :: st) h := by
  obtain ⟨p, l, e, R, s, m, args, below, meth, c, al, tc, D, A, Z, rc, rs⟩ := X
  obtain ⟨hx, hb, hml, hr, hown, hts, hlk, hK, hA, hfr, hlo, hne⟩ := hX
  obtain ⟨hdg, rfl⟩ := hd
  intro H locs la cells slots hP hD hS hlh h1 h2
  have l0 := ha.len
  have l1 := hb2.len
  have en : (nI n).toNatClampNeg = n := nI_clamp (by omega)
  have c0 : (WS al tc h)[a]? = some (al a, _) := cell_0 (al := al) (tc := tc) (h := h) ha ▸ ha.cell
  have c1 : (WS al tc h)[b]? = some (al b, _) := cell_0 (al := al) (tc := tc) (h := h) hb2 ▸ hb2.cell
  have hrm := st_room (al := al) hst
  refine va_copyi (sp := 0) (dp := 0) (n := nI n) (ty := .int) hx hb hlh.1.symm hown (hts _ hl) (hts _ lA_nat) (hts _ lA_st) (hts _ lA_in) hK hP hD hS a b 0 0 c0 c1 TY_0 TY_0 rfl (by decide) (by decide) (nI_pos (by omega)) (by rw [en]; show 0 + n ≤ n0; omega) (by rw [en]; show 0 + n ≤ n1; omega) (fun _ _ => rfl) (by omega) (by
      have : nativeFrameWords "java/lang/System" "arraycopy" 5 + 11 ≤ 40 := by decide +kernel
      omega) hdg (fun H1 locs1 hP1 hD1 hS1 => ?_)
  have e2 : (Sum.inl (tc 0, n1, Sum.inl (va_cpy (fun j => Int32.ofInt (h a j)) (fun j => Int32.ofInt (h b j)) (0 : Int32).toNatClampNeg (0 : Int32).toNatClampNeg (nI n).toNatClampNeg)) : va_E) = cellE al tc (cpyH h a b n) b := by
    rw [cell_0 hb2]
    refine congrArg (fun f => (Sum.inl (tc 0, n1, Sum.inl f) : va_E)) (funext fun j => ?_)
    rw [en, show (0 : Int32).toNatClampNeg = 0 from rfl]
    simp only [va_cpy, cpyH]
    by_cases hj : j < n <;> simp [hj]
  rw [WS_set2 _ e2 (fun x hx => by funext y; simp [cpyH, hx])] at hP1 hD1
  exact k H1 locs1 la cells slots hP1 hD1 hS1 hlh h1 h2
end VCOPY
end
section
/-! Scale -/
def colI (c : Int) : Int := if 0 ≤ c ∧ c < 5 then c else 5
theorem colI_rng (c : Int) : 0 ≤ colI c ∧ colI c ≤ 5 := by unfold colI; split <;> omega
set_option maxHeartbeats 2000000 in
set_option maxRecDepth 20000 in
theorem c_X5_cellOf {d : Nat} {h : Hp} {p c : Int} (hp : 0 ≤ p ∧ p < 8) (hc : rng c) : Fn d MX5_cellOf [mI p, mI c] h (some (mI (p * 6 + colI c))) h := by
  intro Q hq X hX hR
  show VW X 0 [some (mI p), some (mI c), none, none] [] h
  refine v_iload_n hX eX5_cellOf_0 rfl ?_
  refine v_if_lt hX eX5_cellOf_1 (tgt := 10) rfl ⟨by omega, by omega⟩ (fun c1 => False.elim ((by omega))) (fun c1 => ?_)
  refine v_iload_n hX eX5_cellOf_4 rfl ?_
  refine v_bipush hX eX5_cellOf_5 (by decide) ?_
  refine v_icmp_lt hX eX5_cellOf_7 (tgt := 14) rfl ⟨by omega, by omega⟩ ⟨by omega, by omega⟩ (fun c7 => ?_) (fun c7 => False.elim ((by omega)))
  refine v_iload_n hX eX5_cellOf_14 rfl ?_
  refine v_istore_n hX eX5_cellOf_15 rfl rfl ?_
  refine v_iload_n hX eX5_cellOf_16 rfl ?_
  refine v_if_lt hX eX5_cellOf_17 (tgt := 25) rfl ⟨by omega, by omega⟩ (fun c17 => ?_) (fun c17 => ?_)
  · refine v_iconst hX eX5_cellOf_25 ?_
    refine v_goto hX eX5_cellOf_26 (tgt := 30) rfl ?_
    refine v_istore_n hX eX5_cellOf_30 rfl rfl ?_
    refine v_iload_n hX eX5_cellOf_31 rfl ?_
    refine v_bipush hX eX5_cellOf_32 (by decide) ?_
    refine v_imul hX eX5_cellOf_34 ?_
    refine v_iload_n hX eX5_cellOf_35 rfl ?_
    refine v_iadd hX eX5_cellOf_36 ?_
    exact v_ireturn hX hR eX5_cellOf_37 rfl (q_i (by rw [colI, if_neg (by omega)]) hq)
  · refine v_iload_n hX eX5_cellOf_20 rfl ?_
    refine v_iconst hX eX5_cellOf_21 ?_
    refine v_icmp_lt hX eX5_cellOf_22 (tgt := 29) rfl ⟨by omega, by omega⟩ ⟨by omega, by omega⟩ (fun c22 => ?_) (fun c22 => ?_)
    · refine v_iload_n hX eX5_cellOf_29 rfl ?_
      refine v_istore_n hX eX5_cellOf_30 rfl rfl ?_
      refine v_iload_n hX eX5_cellOf_31 rfl ?_
      refine v_bipush hX eX5_cellOf_32 (by decide) ?_
      refine v_imul hX eX5_cellOf_34 ?_
      refine v_iload_n hX eX5_cellOf_35 rfl ?_
      refine v_iadd hX eX5_cellOf_36 ?_
      exact v_ireturn hX hR eX5_cellOf_37 rfl (q_i (by rw [colI, if_pos (by omega)]) hq)
    · refine v_iconst hX eX5_cellOf_25 ?_
      refine v_goto hX eX5_cellOf_26 (tgt := 30) rfl ?_
      refine v_istore_n hX eX5_cellOf_30 rfl rfl ?_
      refine v_iload_n hX eX5_cellOf_31 rfl ?_
      refine v_bipush hX eX5_cellOf_32 (by decide) ?_
      refine v_imul hX eX5_cellOf_34 ?_
      refine v_iload_n hX eX5_cellOf_35 rfl ?_
      refine v_iadd hX eX5_cellOf_36 ?_
      exact v_ireturn hX hR eX5_cellOf_37 rfl (q_i (by rw [colI, if_neg (by omega)]) hq)
def cstV (r s : Int) : Int := r * (s + 1) * 32 + (if r < 2 then 0 else ((2 ^ (20 + 4 * (r - 2).toNat) : Nat) : Int))
theorem lsh1 {r : Int} (h : 2 ≤ r ∧ r ≤ 6) : lshl 1 (20 + 4 * (r - 2)) = ((2 ^ (20 + 4 * (r - 2).toNat) : Nat) : Int) := by
  rcases (show r = 2 ∨ r = 3 ∨ r = 4 ∨ r = 5 ∨ r = 6 by omega) with rfl | rfl | rfl | rfl | rfl <;> decide +kernel
theorem cst_mul {r s : Int} (hr : 0 ≤ r ∧ r ≤ 6) (hs : 0 ≤ s ∧ s ≤ 300) : 0 ≤ r * (s + 1) ∧ r * (s + 1) ≤ 1806 := by
  rcases (show r = 0 ∨ r = 1 ∨ r = 2 ∨ r = 3 ∨ r = 4 ∨ r = 5 ∨ r = 6 by omega) with rfl | rfl | rfl | rfl | rfl | rfl | rfl <;> omega
theorem lshl5 {a : Int} (h : 0 ≤ a ∧ a ≤ 1806) : lshl a 5 = a * 32 := by
  have := lshl_n (a := a.toNat) (k := 5) (by decide) (by omega)
  rw [← cast_toNat' h.1, show ((5 : Nat) : Int) = 5 from rfl] at this
  rw [this]
  omega
set_option maxHeartbeats 2000000 in
set_option maxRecDepth 20000 in
theorem c_X5_costOfRank {d : Nat} {h : Hp} {r s : Int} (hr : 0 ≤ r ∧ r ≤ 6) (hs : 0 ≤ s ∧ s ≤ 300) : Fn d MX5_costOfRank [mI r, mI s] h (some (mL (cstV r s))) h := by
  intro Q hq X hX hR
  show VW X 0 [some (mI r), some (mI s), none, none] [] h
  refine v_iload_n hX eX5_costOfRank_0 rfl ?_
  refine v_i2l hX eX5_costOfRank_1 ⟨by omega, by omega⟩ ?_
  refine v_iload_n hX eX5_costOfRank_2 rfl ?_
  refine v_iconst hX eX5_costOfRank_3 ?_
  refine v_iadd hX eX5_costOfRank_4 ?_
  refine v_i2l hX eX5_costOfRank_5 ⟨by omega, by omega⟩ ?_
  refine v_lmul hX eX5_costOfRank_6 ?_
  refine v_iconst hX eX5_costOfRank_7 ?_
  refine v_lshl hX eX5_costOfRank_8 ?_
  rw [lshl5 (cst_mul hr hs)]
  refine v_lstore_n hX eX5_costOfRank_9 rfl rfl ?_
  refine v_iload_n hX eX5_costOfRank_10 rfl ?_
  refine v_iconst hX eX5_costOfRank_11 ?_
  refine v_icmp_ge hX eX5_costOfRank_12 (tgt := 19) rfl ⟨by omega, by omega⟩ ⟨by omega, by omega⟩ (fun c12 => ?_) (fun c12 => ?_)
  · refine v_lload_n hX eX5_costOfRank_19 rfl ?_
    refine v_lconst (z := 1) hX eX5_costOfRank_20 (by decide) ?_
    refine v_bipush hX eX5_costOfRank_21 (by decide) ?_
    refine v_iconst hX eX5_costOfRank_23 ?_
    refine v_iload_n hX eX5_costOfRank_24 rfl ?_
    refine v_iconst hX eX5_costOfRank_25 ?_
    refine v_isub hX eX5_costOfRank_26 ?_
    refine v_imul hX eX5_costOfRank_27 ?_
    refine v_iadd hX eX5_costOfRank_28 ?_
    refine v_lshl hX eX5_costOfRank_29 ?_
    rw [lsh1 (by omega)]
    refine v_ladd hX eX5_costOfRank_30 ?_
    exact v_lreturn hX hR eX5_costOfRank_31 rfl (by rw [cstV, if_neg (by omega)] at hq; exact hq)
  · refine v_lload_n hX eX5_costOfRank_15 rfl ?_
    refine v_goto hX eX5_costOfRank_16 (tgt := 31) rfl ?_
    exact v_lreturn hX hR eX5_costOfRank_31 rfl (by rw [cstV, if_pos (by omega), Int.add_zero] at hq; exact hq)
def digV (r c pl : Int) : Int := (r * 8 + c) * ((2 ^ (6 * (7 - pl.toNat)) : Nat) : Int)
theorem dig_all : ∀ r : Nat, r < 7 → ∀ c : Nat, c < 6 → bor (bshl (r : Int) 3) (c : Int) = (r : Int) * 8 + c := by decide +kernel
theorem dig_or {r : Int} {c : Nat} (hr : 0 ≤ r ∧ r ≤ 6) (hc : c < 6) : bor (bshl r 3) c = r * 8 + c := by
  have := dig_all r.toNat (by omega) c hc
  rw [← cast_toNat' hr.1] at this
  exact this
theorem lshl_dig {a pl : Int} (ha : 0 ≤ a ∧ a < 64) (hp : 0 ≤ pl ∧ pl ≤ 7) : lshl a (6 * (7 - pl)) = a * ((2 ^ (6 * (7 - pl.toNat)) : Nat) : Int) := by
  have e : (6 * (7 - pl)) = ((6 * (7 - pl.toNat) : Nat) : Int) := by omega
  have hk : 2 ^ (6 * (7 - pl.toNat)) ≤ 2 ^ 42 := pw2 (by omega)
  have hm : a.toNat * 2 ^ (6 * (7 - pl.toNat)) < 2 ^ 63 := by
    have : a.toNat * 2 ^ (6 * (7 - pl.toNat)) ≤ 63 * 2 ^ 42 := Nat.mul_le_mul (by omega) hk
    omega
  have := lshl_n (a := a.toNat) (k := 6 * (7 - pl.toNat)) (by omega) hm
  rw [← cast_toNat' ha.1, ← e] at this
  rw [this, Int.natCast_mul, ← cast_toNat' ha.1]
def rkc (h : Hp) (k c : Nat) : Int := if c < 5 then h k c else 6
def FPn (h : Hp) (p : Nat) (pl s : Int) (k n : Nat) : Hp := fun a b => if a = 19 ∧ 6 * p ≤ b ∧ b < 6 * p + n then cstV (rkc h k (b - 6 * p)) s else if a = 20 ∧ 6 * p ≤ b ∧ b < 6 * p + n then digV (rkc h k (b - 6 * p)) ((b - 6 * p : Nat) : Int) pl else h a b
theorem FPn_0 {h : Hp} {p : Nat} {pl s : Int} {k : Nat} : FPn h p pl s k 0 = h := by
  funext a b
  rw [FPn, if_neg (by omega), if_neg (by omega)]
theorem FPn_ne {h : Hp} {p : Nat} {pl s : Int} {k n a : Nat} (h1 : a ≠ 19) (h2 : a ≠ 20) : FPn h p pl s k n a = h a := by
  funext b
  simp [FPn, h1, h2]
theorem FPn_s {h : Hp} {p : Nat} {pl s : Int} {k n : Nat} : up (up (FPn h p pl s k n) 19 (6 * p + n) (cstV (rkc h k n) s)) 20 (6 * p + n) (digV (rkc h k n) n pl) = FPn h p pl s k (n + 1) := by
  funext a b
  simp only [up, FPn]
  by_cases e : b = 6 * p + n
  · subst e
    rw [show 6 * p + n - 6 * p = n by omega]
    by_cases a1 : a = 19
    · subst a1; simp
    · by_cases a2 : a = 20
      · subst a2; simp
      · simp [a1, a2]
  · have : (b < 6 * p + (n + 1)) ↔ b < 6 * p + n := by omega
    simp [e, this]
set_option maxHeartbeats 2000000 in
set_option maxRecDepth 20000 in
theorem c_X5_fillPupil {d : Nat} {h : Hp} {p : Nat} {pl s : Int} {k : Nat} (hp : p < 8) (hpl : 0 ≤ pl ∧ pl ≤ 7) (hs : 0 ≤ s ∧ s ≤ 300) (hk : AR k 0 5) (hk2 : k ≠ 19 ∧ k ≠ 20) (hr : ∀ j, j < 5 → 0 ≤ h k j ∧ h k j ≤ 6) : Fn (d + 1) MX5_fillPupil [mA 12, mI p, mI pl, mI s, mA k] h none (FPn h p pl s k 6) := by
  intro Q hq X hX hR
  have loop : ∀ i : Nat, i ≤ 6 → ∀ l6 l7 l8 l9, VW X 3 [some (mA 12), some (mI p), some (mI pl), some (mI s), some (mA k), some (mI i), l6, l7, l8, l9] [] (FPn h p pl s k i) := by
    refine loop_up 6 ?_ ?_
    · intro l6 l7 l8 l9
      refine v_iload hX eX5_fillPupil_3 rfl ?_
      refine v_bipush hX eX5_fillPupil_5 (by decide) ?_
      refine v_icmp_ge hX eX5_fillPupil_7 (tgt := 84) rfl ⟨by omega, by omega⟩ ⟨by omega, by omega⟩ (fun c7 => ?_) (fun c7 => False.elim ((by omega)))
      exact v_return hX hR eX5_fillPupil_84 rfl (hq)
    · intro i hi ih l6 l7 l8 l9
      have hv : 0 ≤ rkc h k i ∧ rkc h k i ≤ 6 := by
        unfold rkc
        split
        · exact hr i (by omega)
        · decide
      have fin : ∀ l6 l7 l8 l9, VW X 28 [some (mA 12), some (mI p), some (mI pl), some (mI s), some (mA k), some (mI i), l6, l7, l8, l9] [mI (rkc h k i)] (FPn h p pl s k i) := by
        intro l6 l7 l8 l9
        have ec : ((p : Int) * 6 + colI i).toNat = 6 * p + i := by
          unfold colI
          split <;> omega
        have ec2 : 0 ≤ (p : Int) * 6 + colI i ∧ (p : Int) * 6 + colI i < 48 := by
          have := colI_rng i
          omega
        refine v_istore hX eX5_fillPupil_28 rfl rfl ?_
        refine v_iload hX eX5_fillPupil_30 rfl ?_
        refine v_iconst hX eX5_fillPupil_32 ?_
        refine v_ishl hX eX5_fillPupil_33 ?_
        refine v_iload hX eX5_fillPupil_34 rfl ?_
        refine v_ior hX eX5_fillPupil_36 ?_
        rw [dig_or hv hi]
        refine v_i2l hX eX5_fillPupil_37 ⟨by omega, by omega⟩ ?_
        refine v_lstore hX eX5_fillPupil_38 rfl rfl ?_
        refine v_iload_n hX eX5_fillPupil_40 rfl ?_
        refine v_iload hX eX5_fillPupil_41 rfl ?_
        refine v_fnS hX eX5_fillPupil_43 lS_X5_45 ok_MX5_cellOf ⟨rfl, Nat.le_of_ble_eq_true rfl⟩ (Nat.le_of_ble_eq_true rfl) (c_X5_cellOf (by omega) ⟨by omega, by omega⟩) rfl ?_
        try simp only [Int.toNat_natCast, Int.toNat_zero, Int.reduceToNat]
        refine v_istore hX eX5_fillPupil_46 rfl rfl ?_
        refine v_aload_n hX eX5_fillPupil_48 rfl ?_
        refine v_getA hX eX5_fillPupil_49 fi_X5_11 ⟨by decide, rfl⟩ rfl ?_
        refine v_iload hX eX5_fillPupil_52 rfl ?_
        refine v_iload hX eX5_fillPupil_54 rfl ?_
        refine v_iload_n hX eX5_fillPupil_56 rfl ?_
        refine v_fnS hX eX5_fillPupil_57 lS_X5_49 ok_MX5_costOfRank ⟨rfl, Nat.le_of_ble_eq_true rfl⟩ (Nat.le_of_ble_eq_true rfl) (c_X5_costOfRank hv hs) rfl ?_
        try simp only [Int.toNat_natCast, Int.toNat_zero, Int.reduceToNat]
        refine v_last hX eX5_fillPupil_60 (by first | exact ⟨by decide, rfl⟩ | exact AR_rk (by omega)) ec2 ?_
        try simp only [Int.toNat_natCast, Int.toNat_zero, Int.reduceToNat]
        rw [ec]
        refine v_aload_n hX eX5_fillPupil_61 rfl ?_
        refine v_getA hX eX5_fillPupil_62 fi_X5_15 ⟨by decide, rfl⟩ rfl ?_
        refine v_iload hX eX5_fillPupil_65 rfl ?_
        refine v_lload hX eX5_fillPupil_67 rfl ?_
        refine v_bipush hX eX5_fillPupil_69 (by decide) ?_
        refine v_bipush hX eX5_fillPupil_71 (by decide) ?_
        refine v_iload_n hX eX5_fillPupil_73 rfl ?_
        refine v_isub hX eX5_fillPupil_74 ?_
        refine v_imul hX eX5_fillPupil_75 ?_
        refine v_lshl hX eX5_fillPupil_76 ?_
        rw [lshl_dig (by omega) hpl]
        refine v_last hX eX5_fillPupil_77 (by first | exact ⟨by decide, rfl⟩ | exact AR_rk (by omega)) ec2 ?_
        try simp only [Int.toNat_natCast, Int.toNat_zero, Int.reduceToNat]
        rw [ec]
        rw [show (rkc h k i * 8 + (i : Int)) * ((2 ^ (6 * (7 - pl.toNat)) : Nat) : Int) = digV (rkc h k i) i pl from rfl, FPn_s]
        refine v_iinc hX eX5_fillPupil_78 rfl rfl rfl ?_
        refine v_goto hX eX5_fillPupil_81 (tgt := 3) rfl ?_
        exact ih _ _ _ _
      have hkk : FPn h p pl s k i k = h k := FPn_ne hk2.1 hk2.2
      by_cases h5 : i < 5
      · have e : rkc h k i = h k i := if_pos h5
        rw [e] at fin
        refine v_iload hX eX5_fillPupil_3 rfl ?_
        refine v_bipush hX eX5_fillPupil_5 (by decide) ?_
        refine v_icmp_ge hX eX5_fillPupil_7 (tgt := 84) rfl ⟨by omega, by omega⟩ ⟨by omega, by omega⟩ (fun c => False.elim (by omega)) (fun _ => ?_)
        refine v_iload hX eX5_fillPupil_10 rfl ?_
        refine v_aload hX eX5_fillPupil_12 rfl ?_
        refine v_alen hX eX5_fillPupil_14 hk ?_
        refine v_icmp_ge hX eX5_fillPupil_15 (tgt := 26) rfl ⟨by omega, by omega⟩ ⟨by omega, by omega⟩ (fun c => False.elim (by omega)) (fun _ => ?_)
        refine v_aload hX eX5_fillPupil_18 rfl ?_
        refine v_iload hX eX5_fillPupil_20 rfl ?_
        refine v_iald hX eX5_fillPupil_22 hk ⟨by omega, by omega⟩ ?_
        rw [Int.toNat_natCast, hkk]
        exact v_goto hX eX5_fillPupil_23 (tgt := 28) rfl (fin _ _ _ _)
      · have e : rkc h k i = 6 := if_neg h5
        rw [e] at fin
        refine v_iload hX eX5_fillPupil_3 rfl ?_
        refine v_bipush hX eX5_fillPupil_5 (by decide) ?_
        refine v_icmp_ge hX eX5_fillPupil_7 (tgt := 84) rfl ⟨by omega, by omega⟩ ⟨by omega, by omega⟩ (fun c => False.elim (by omega)) (fun _ => ?_)
        refine v_iload hX eX5_fillPupil_10 rfl ?_
        refine v_aload hX eX5_fillPupil_12 rfl ?_
        refine v_alen hX eX5_fillPupil_14 hk ?_
        refine v_icmp_ge hX eX5_fillPupil_15 (tgt := 26) rfl ⟨by omega, by omega⟩ ⟨by omega, by omega⟩ (fun _ => ?_) (fun c => False.elim (by omega))
        refine v_bipush hX eX5_fillPupil_26 (by decide) ?_
        exact fin _ _ _ _
  have l0 := loop 0 (by omega) none none none none
  rw [FPn_0] at l0
  show VW X 0 [some (mA 12), some (mI p), some (mI pl), some (mI s), some (mA k), none, none, none, none, none] [] h
  refine v_iconst hX eX5_fillPupil_0 ?_
  refine v_istore hX eX5_fillPupil_1 rfl rfl ?_
  exact l0
def plc (h : Hp) (p : Nat) : Int := findP (h 10) p (h 1 3).toNat 0
def csC (h : Hp) (p c : Nat) : Int := cstV (rkc h (31 + p) c) (h (23 + p) 3)
def dgC (h : Hp) (p c : Nat) : Int := digV (rkc h (31 + p) c) c (plc h p)
def SFn (h : Hp) (n : Nat) : Hp := fun a b => if a = 19 ∧ b < 6 * n then csC h (b / 6) (b % 6) else if a = 20 ∧ b < 6 * n then dgC h (b / 6) (b % 6) else h a b
theorem SFn_0 {h : Hp} : SFn h 0 = h := by
  funext a b
  rw [SFn, if_neg (by omega), if_neg (by omega)]
theorem SFn_ne {h : Hp} {n a : Nat} (h1 : a ≠ 19) (h2 : a ≠ 20) : SFn h n a = h a := by
  funext b
  simp [SFn, h1, h2]
theorem SFn_RE {h : Hp} {n : Nat} : RE h (SFn h n) := RE.of (fun k hk => SFn_ne (by omega) (by omega))
theorem SFn_s {h : Hp} {i : Nat} : FPn (SFn h i) i (plc h i) (h (23 + i) 3) (31 + i) 6 = SFn h (i + 1) := by
  have e1 : ∀ c, rkc (SFn h i) (31 + i) c = rkc h (31 + i) c := fun c => by
    unfold rkc
    rw [SFn_ne (by omega) (by omega)]
  funext a b
  simp only [FPn, e1]
  by_cases hb : 6 * i ≤ b ∧ b < 6 * i + 6
  · have d1 : b / 6 = i := by omega
    have d2 : b - 6 * i = b % 6 := by omega
    by_cases a1 : a = 19
    · subst a1
      rw [if_pos ⟨rfl, hb.1, hb.2⟩, SFn, if_pos ⟨rfl, by omega⟩, csC, d1, d2]
    · by_cases a2 : a = 20
      · subst a2
        rw [if_neg (by omega), if_pos ⟨rfl, hb.1, hb.2⟩, SFn, if_neg (by omega), if_pos ⟨rfl, by omega⟩, dgC, d1, d2]
      · simp [SFn, a1, a2]
  · rw [if_neg (by omega), if_neg (by omega)]
    have : (b < 6 * (i + 1)) ↔ b < 6 * i := by omega
    simp only [SFn, this]
set_option maxHeartbeats 2000000 in
set_option maxRecDepth 20000 in
theorem c_X5_fill {d : Nat} {h : Hp} (hI : RI h) (hP : ∀ p, p < (h 1 3).toNat → 0 ≤ plc h p ∧ plc h p ≤ 7) : Fn (d + 2) MX5_fill [mA 12, mA 1] h none (SFn h (h 1 3).toNat) := by
  intro Q hq X hX hR
  have hn := hI.n
  have loop : ∀ i : Nat, i ≤ (h 1 3).toNat → ∀ l3, VW X 2 [some (mA 12), some (mA 1), some (mI i), l3] [] (SFn h i) := by
    refine loop_up _ ?_ ?_
    · intro l3
      have e1 : SFn h (h 1 3).toNat 1 3 = h 1 3 := by rw [SFn_ne (by decide) (by decide)]
      refine v_iload_n hX eX5_fill_2 rfl ?_
      refine v_aload_n hX eX5_fill_3 rfl ?_
      refine v_getI hX eX5_fill_4 fi_X5_18 ⟨by decide, rfl⟩ ?_
      refine v_icmp_ge hX eX5_fill_7 (tgt := 44) rfl ⟨by omega, by omega⟩ ⟨by omega, by omega⟩ (fun c7 => ?_) (fun c7 => False.elim ((by omega)))
      exact v_return hX hR eX5_fill_44 rfl (hq)
    · intro i hi ih l3
      have e1 : SFn h i 1 3 = h 1 3 := by rw [SFn_ne (by decide) (by decide)]
      have e3 : SFn h i (23 + i) = h (23 + i) := SFn_ne (by omega) (by omega)
      have e4 : SFn h i (31 + i) = h (31 + i) := SFn_ne (by omega) (by omega)
      have e10 : SFn h i 10 = h 10 := SFn_ne (by omega) (by omega)
      have hI2 : RI (SFn h i) := SFn_RE.ri hI
      have hpu := hI.pu (p := i) (by omega)
      have hin : inN (SFn h i) i := ⟨by omega, by rw [e1]; omega⟩
      refine v_iload_n hX eX5_fill_2 rfl ?_
      refine v_aload_n hX eX5_fill_3 rfl ?_
      refine v_getI hX eX5_fill_4 fi_X5_18 ⟨by decide, rfl⟩ ?_
      refine v_icmp_ge hX eX5_fill_7 (tgt := 44) rfl ⟨by omega, by omega⟩ ⟨by omega, by omega⟩ (fun c7 => False.elim ((by omega))) (fun c7 => ?_)
      refine v_aload_n hX eX5_fill_10 rfl ?_
      refine v_iload_n hX eX5_fill_11 rfl ?_
      refine v_fnV hX eX5_fill_12 lV_X5_24 ok_MX4_pupilOf ⟨by decide, rfl⟩ rfl ⟨rfl, Nat.le_of_ble_eq_true rfl⟩ (Nat.le_of_ble_eq_true rfl) (c_X4_pupilOf hI2 hin) rfl ?_
      try simp only [Int.toNat_natCast, Int.toNat_zero, Int.reduceToNat]
      refine v_astore_n hX eX5_fill_15 rfl rfl ?_
      refine v_aload_n hX eX5_fill_16 rfl ?_
      refine v_ifnull hX eX5_fill_17 ?_
      refine v_aload_n hX eX5_fill_20 rfl ?_
      refine v_iload_n hX eX5_fill_21 rfl ?_
      refine v_aload_n hX eX5_fill_22 rfl ?_
      refine v_iload_n hX eX5_fill_23 rfl ?_
      refine v_fnV hX eX5_fill_24 lV_X5_28 ok_MX4_placeOf ⟨by decide, rfl⟩ rfl ⟨rfl, Nat.le_of_ble_eq_true rfl⟩ (Nat.le_of_ble_eq_true rfl) (c_X4_placeOf hI2 ⟨by omega, by omega⟩) rfl ?_
      try simp only [Int.toNat_natCast, Int.toNat_zero, Int.reduceToNat]
      rw [e10, e1]
      refine v_aload_n hX eX5_fill_27 rfl ?_
      refine v_getI hX eX5_fill_28 fi_X5_32 (OB_pu (by omega)) ?_
      rw [e3]
      refine v_aload_n hX eX5_fill_31 rfl ?_
      refine v_getA hX eX5_fill_32 fi_X5_37 (OB_pu (by omega)) (RF_rk (by omega)) ?_
      refine v_fnV0 hX eX5_fill_35 lV_X5_41 ok_MX5_fillPupil ⟨by decide, rfl⟩ rfl ⟨rfl, Nat.le_of_ble_eq_true rfl⟩ (Nat.le_of_ble_eq_true rfl) (c_X5_fillPupil (p := i) (by omega) (hP i hi) hpu.2.2.1 (AR_rk (by omega)) ⟨by omega, by omega⟩ (fun j hj => by have := hpu.2.2.2.2.2.2 j hj; rw [e4]; omega)) rfl ?_
      try simp only [Int.toNat_natCast, Int.toNat_zero, Int.reduceToNat]
      rw [SFn_s]
      refine v_iinc hX eX5_fill_38 rfl rfl rfl ?_
      refine v_goto hX eX5_fill_41 (tgt := 2) rfl ?_
      exact ih _
  have l0 := loop 0 (by omega) none
  rw [SFn_0] at l0
  show VW X 0 [some (mA 12), some (mA 1), none, none] [] h
  refine v_iconst hX eX5_fill_0 ?_
  refine v_istore_n hX eX5_fill_1 rfl rfl ?_
  exact l0
set_option maxHeartbeats 2000000 in
set_option maxRecDepth 20000 in
theorem c_X5_costOf {d : Nat} {h : Hp} {p q : Int} (hp : 0 ≤ p ∧ p < 8) (hr : rng q) : Fn (d + 1) MX5_costOf [mA 12, mI p, mI q] h (some (mL (h 19 (p * 6 + colI q).toNat))) h := by
  intro Q hq X hX hR
  have := colI_rng q
  show VW X 0 [some (mA 12), some (mI p), some (mI q)] [] h
  refine v_aload_n hX eX5_costOf_0 rfl ?_
  refine v_getA hX eX5_costOf_1 fi_X5_11 ⟨by decide, rfl⟩ rfl ?_
  refine v_iload_n hX eX5_costOf_4 rfl ?_
  refine v_iload_n hX eX5_costOf_5 rfl ?_
  refine v_fnS hX eX5_costOf_6 lS_X5_45 ok_MX5_cellOf ⟨rfl, Nat.le_of_ble_eq_true rfl⟩ (Nat.le_of_ble_eq_true rfl) (c_X5_cellOf hp hr) rfl ?_
  try simp only [Int.toNat_natCast, Int.toNat_zero, Int.reduceToNat]
  refine v_lald hX eX5_costOf_9 (by first | exact ⟨by decide, rfl⟩ | exact AR_rk (by omega)) ⟨by omega, by omega⟩ ?_
  try simp only [Int.toNat_natCast, Int.toNat_zero, Int.reduceToNat]
  exact v_lreturn hX hR eX5_costOf_10 rfl (hq)
set_option maxHeartbeats 2000000 in
set_option maxRecDepth 20000 in
theorem c_X5_digitOf {d : Nat} {h : Hp} {p q : Int} (hp : 0 ≤ p ∧ p < 8) (hr : rng q) : Fn (d + 1) MX5_digitOf [mA 12, mI p, mI q] h (some (mL (h 20 (p * 6 + colI q).toNat))) h := by
  intro Q hq X hX hR
  have := colI_rng q
  show VW X 0 [some (mA 12), some (mI p), some (mI q)] [] h
  refine v_aload_n hX eX5_digitOf_0 rfl ?_
  refine v_getA hX eX5_digitOf_1 fi_X5_15 ⟨by decide, rfl⟩ rfl ?_
  refine v_iload_n hX eX5_digitOf_4 rfl ?_
  refine v_iload_n hX eX5_digitOf_5 rfl ?_
  refine v_fnS hX eX5_digitOf_6 lS_X5_45 ok_MX5_cellOf ⟨rfl, Nat.le_of_ble_eq_true rfl⟩ (Nat.le_of_ble_eq_true rfl) (c_X5_cellOf hp hr) rfl ?_
  try simp only [Int.toNat_natCast, Int.toNat_zero, Int.reduceToNat]
  refine v_lald hX eX5_digitOf_9 (by first | exact ⟨by decide, rfl⟩ | exact AR_rk (by omega)) ⟨by omega, by omega⟩ ?_
  try simp only [Int.toNat_natCast, Int.toNat_zero, Int.reduceToNat]
  exact v_lreturn hX hR eX5_digitOf_10 rfl (hq)
def CMn (h : Hp) (p : Nat) (had : Int) (n : Nat) : Hp := fun a b => if a = 19 ∧ 6 * p ≤ b ∧ b < 6 * p + n ∧ had ≠ -1 ∧ ((b - 6 * p : Nat) : Int) ≠ had then h 19 b + 1099511627776 else h a b
set_option maxHeartbeats 2000000 in
set_option maxRecDepth 20000 in
theorem c_X5_chargeMove {d : Nat} {h : Hp} {p : Nat} {had : Int} (hp : p < 8) (hr : rng had) : Fn (d + 1) MX5_chargeMove [mA 12, mI p, mI had] h none (CMn h p had 5) := by
  intro Q hq X hX hR
  have loop : ∀ i : Nat, i ≤ 5 → VW X 2 [some (mA 12), some (mI p), some (mI had), some (mI i)] [] (CMn h p had i) := by
    refine loop_up 5 ?_ ?_
    · refine v_iload_n hX eX5_chargeMove_2 rfl ?_
      refine v_iconst hX eX5_chargeMove_3 ?_
      refine v_icmp_ge hX eX5_chargeMove_4 (tgt := 39) rfl ⟨by omega, by omega⟩ ⟨by omega, by omega⟩ (fun c4 => ?_) (fun c4 => False.elim ((by omega)))
      exact v_return hX hR eX5_chargeMove_39 rfl (hq)
    · intro i hi ih
      have ec : ((p : Int) * 6 + colI i).toNat = 6 * p + i := by
        unfold colI
        split <;> omega
      have ec2 : 0 ≤ (p : Int) * 6 + colI i ∧ (p : Int) * 6 + colI i < 48 := by
        have := colI_rng i
        omega
      have e0 : had = -1 ∨ (i : Int) = had → CMn h p had i = CMn h p had (i + 1) := fun hh => by
        funext a b
        simp only [CMn]
        by_cases hb : b = 6 * p + i
        · subst hb
          rw [if_neg (by omega), if_neg (by omega)]
        · have : (b < 6 * p + (i + 1)) ↔ b < 6 * p + i := by omega
          simp only [this]
      have e1 : ¬ had = -1 → ¬ (i : Int) = had → up (CMn h p had i) 19 (6 * p + i) (CMn h p had i 19 (6 * p + i) + 1099511627776) = CMn h p had (i + 1) := fun h1 h2 => by
        funext a b
        have r : CMn h p had i 19 (6 * p + i) = h 19 (6 * p + i) := by rw [CMn, if_neg (by omega)]
        rw [r]
        simp only [up, CMn]
        by_cases hb : b = 6 * p + i
        · subst hb
          by_cases ha : a = 19
          · subst ha
            rw [if_pos ⟨rfl, rfl⟩, if_pos ⟨rfl, by omega, by omega, h1, by omega⟩]
          · simp [ha]
        · have : (b < 6 * p + (i + 1)) ↔ b < 6 * p + i := by omega
          simp [hb, this]
      refine v_iload_n hX eX5_chargeMove_2 rfl ?_
      refine v_iconst hX eX5_chargeMove_3 ?_
      refine v_icmp_ge hX eX5_chargeMove_4 (tgt := 39) rfl ⟨by omega, by omega⟩ ⟨by omega, by omega⟩ (fun c4 => False.elim ((by omega))) (fun c4 => ?_)
      refine v_iload_n hX eX5_chargeMove_7 rfl ?_
      refine v_iconst hX eX5_chargeMove_8 ?_
      refine v_icmp_eq hX eX5_chargeMove_9 (tgt := 33) rfl ⟨by omega, by omega⟩ ⟨by omega, by omega⟩ (fun c9 => ?_) (fun c9 => ?_)
      · refine v_iinc hX eX5_chargeMove_33 rfl rfl rfl ?_
        rw [e0 (Or.inl c9)]
        exact v_goto hX eX5_chargeMove_36 (tgt := 2) rfl ih
      · refine v_iload_n hX eX5_chargeMove_12 rfl ?_
        refine v_iload_n hX eX5_chargeMove_13 rfl ?_
        refine v_icmp_eq hX eX5_chargeMove_14 (tgt := 33) rfl ⟨by omega, by omega⟩ ⟨by omega, by omega⟩ (fun c14 => ?_) (fun c14 => ?_)
        · refine v_iinc hX eX5_chargeMove_33 rfl rfl rfl ?_
          rw [e0 (Or.inr c14)]
          exact v_goto hX eX5_chargeMove_36 (tgt := 2) rfl ih
        · refine v_aload_n hX eX5_chargeMove_17 rfl ?_
          refine v_getA hX eX5_chargeMove_18 fi_X5_11 ⟨by decide, rfl⟩ rfl ?_
          refine v_iload_n hX eX5_chargeMove_21 rfl ?_
          refine v_iload_n hX eX5_chargeMove_22 rfl ?_
          refine v_fnS hX eX5_chargeMove_23 lS_X5_45 ok_MX5_cellOf ⟨rfl, Nat.le_of_ble_eq_true rfl⟩ (Nat.le_of_ble_eq_true rfl) (c_X5_cellOf (by omega) ⟨by omega, by omega⟩) rfl ?_
          try simp only [Int.toNat_natCast, Int.toNat_zero, Int.reduceToNat]
          refine v_dup2 hX eX5_chargeMove_26 rfl rfl ?_
          refine v_lald hX eX5_chargeMove_27 (by first | exact ⟨by decide, rfl⟩ | exact AR_rk (by omega)) ec2 ?_
          try simp only [Int.toNat_natCast, Int.toNat_zero, Int.reduceToNat]
          refine v_ldc2 (z := 1099511627776) hX eX5_chargeMove_28 k_X5_53 (by decide) ?_
          refine v_ladd hX eX5_chargeMove_31 ?_
          refine v_last hX eX5_chargeMove_32 (by first | exact ⟨by decide, rfl⟩ | exact AR_rk (by omega)) ec2 ?_
          try simp only [Int.toNat_natCast, Int.toNat_zero, Int.reduceToNat]
          rw [ec, e1 c9 c14]
          refine v_iinc hX eX5_chargeMove_33 rfl rfl rfl ?_
          refine v_goto hX eX5_chargeMove_36 (tgt := 2) rfl ?_
          exact ih
  have l0 := loop 0 (by omega)
  rw [show CMn h p had 0 = h from by funext a b; rw [CMn, if_neg (by omega)]] at l0
  show VW X 0 [some (mA 12), some (mI p), some (mI had), none] [] h
  refine v_iconst hX eX5_chargeMove_0 ?_
  refine v_istore_n hX eX5_chargeMove_1 rfl rfl ?_
  exact l0
end
section
/-! Search: the numbers behind it -/
theorem lcm_rng (a b : Int) : rng (lcm a b) := by unfold lcm; split; decide; split <;> decide
theorem lcm_le {a b : Int} : lcm a b ≤ 0 ↔ a ≤ b := by unfold lcm; split; omega; split <;> omega
theorem lcm_gt {a b : Int} : 0 < lcm a b ↔ b < a := by unfold lcm; split; omega; split <;> omega
theorem lcm_eq {a b : Int} : lcm a b = 0 ↔ a = b := by unfold lcm; split; omega; split <;> omega
theorem lcm_lt {a b : Int} : lcm a b < 0 ↔ a < b := by unfold lcm; split; omega; split <;> omega
def isP (e : Hp) (j : Nat) : Bool := (e 2 6).toNat.testBit j
def gU (e : Hp) (t : Nat → Int) (p : Nat) (q : Int) : Nat := bs (fun j => isP e j && decide (t j = q)) p
def ixC (t : Nat → Int) (j : Nat) : Nat := ((j : Int) * 6 + colI (t j)).toNat
def cA (e : Hp) (t : Nat → Int) : Nat → Int
  | 0 => 0
  | p + 1 => cA e t p + if isP e p = true then e 19 (ixC t p) else 0
def lU (e : Hp) (t : Nat → Int) : Nat → Int
  | 0 => 0
  | p + 1 => lU e t p + if isP e p = true then e 20 (ixC t p) else 0
def prs (e : Hp) (t : Nat → Int) : Nat → Int
  | 0 => 0
  | p + 1 => prs e t p + if isP e p = true then (bcnt (gU e t p (t p) &&& (e 13 p).toNat) : Int) else 0
def cU (e : Hp) (t : Nat → Int) (p : Nat) : Int := 28 + cA e t p - prs e t p
abbrev SGT : Type := Int × Int × Int × (Nat → Int)
def SG (h : Hp) : SGT := (h 2 8, h 2 9, h 2 11, h 16)
def cpy (t f : Nat → Int) : Nat → Int := fun j => if j < 8 then t j else f j
def okF (e : Hp) (t : Nat → Int) : Prop := ∀ q : Nat, q < (e 2 7).toNat → (e 17 (gU e t 8 q)).toNat.testBit q = true
noncomputable def jst (e : Hp) (lw : Int) (t : Nat → Int) (s : SGT) : SGT :=
  if pb (okF e t ∧ (cU e t 8 < s.1 ∨ cU e t 8 = s.1 ∧ lU e t 8 < s.2.1)) = true then
    (if lw = 0 then (s.1, s.2.1, s.2.2.1 + 1, s.2.2.2) else (cU e t 8, lU e t 8, s.2.2.1 + 1, cpy t s.2.2.2)) else s
def foldq {σ : Type} (f : Nat → σ → σ) : Nat → σ → σ
  | 0, s => s
  | n + 1, s => f n (foldq f n s)
def setT (t : Nat → Int) (p : Nat) (q : Int) : Nat → Int := fun j => if j = p then q else t j
noncomputable def ext (e : Hp) (lw : Int) : Nat → (Nat → Int) → SGT → SGT
  | 0, t, s => jst e lw t s
  | k + 1, t, s => if isP e (7 - k) = true then foldq (fun q s => ext e lw k (setT t (7 - k) q) s) (e 2 7).toNat s else ext e lw k t s
/-! only the PUPILS before p matter -/
theorem gU_congr {e : Hp} {t u : Nat → Int} {p : Nat} {q : Int} (h : ∀ j, j < p → isP e j = true → t j = u j) : gU e t p q = gU e u p q := bs_congr p (fun i hi => by
  cases hp : isP e i
  · rfl
  · rw [h i hi hp])
theorem cA_congr {e : Hp} {t u : Nat → Int} : ∀ p, (∀ j, j < p → isP e j = true → t j = u j) → cA e t p = cA e u p
  | 0, _ => rfl
  | p + 1, h => by
    rw [cA, cA, cA_congr p (fun j hj => h j (by omega))]
    split
    · rename_i hp
      rw [ixC, ixC, h p (by omega) hp]
    · rfl
theorem lU_congr {e : Hp} {t u : Nat → Int} : ∀ p, (∀ j, j < p → isP e j = true → t j = u j) → lU e t p = lU e u p
  | 0, _ => rfl
  | p + 1, h => by
    rw [lU, lU, lU_congr p (fun j hj => h j (by omega))]
    split
    · rename_i hp
      rw [ixC, ixC, h p (by omega) hp]
    · rfl
theorem prs_congr {e : Hp} {t u : Nat → Int} : ∀ p, (∀ j, j < p → isP e j = true → t j = u j) → prs e t p = prs e u p
  | 0, _ => rfl
  | p + 1, h => by
    rw [prs, prs, prs_congr p (fun j hj => h j (by omega))]
    split
    · rename_i hp
      rw [h p (by omega) hp, gU_congr (fun j hj => h j (by omega))]
    · rfl
theorem cU_congr {e : Hp} {t u : Nat → Int} {p : Nat} (h : ∀ j, j < p → isP e j = true → t j = u j) : cU e t p = cU e u p := by
  rw [cU, cU, cA_congr p h, prs_congr p h]
theorem jst_congr {e : Hp} {lw : Int} {t u : Nat → Int} {s : SGT} (h : ∀ j, j < 8 → t j = u j) : jst e lw t s = jst e lw u s := by
  have h2 : ∀ j, j < 8 → isP e j = true → t j = u j := fun j hj _ => h j hj
  have hc : cpy t s.2.2.2 = cpy u s.2.2.2 := by
    funext j
    simp only [cpy]
    split
    · rename_i hj; exact h j hj
    · rfl
  have ho : okF e t = okF e u := by
    unfold okF
    simp only [fun q : Nat => gU_congr (q := (q : Int)) h2]
  unfold jst
  rw [cU_congr h2, lU_congr 8 h2, hc, ho]
theorem foldq_congr {σ : Type} {f g : Nat → σ → σ} : ∀ n s, (∀ q s, q < n → f q s = g q s) → foldq f n s = foldq g n s
  | 0, _, _ => rfl
  | n + 1, s, h => by rw [foldq, foldq, foldq_congr n s (fun q s hq => h q s (by omega)), h n _ (by omega)]
theorem ext_congr {e : Hp} {lw : Int} : ∀ (k : Nat) (t u : Nat → Int) (s : SGT), k ≤ 8 → (∀ j, j < 8 → (j < 8 - k ∨ isP e j = false) → t j = u j) → ext e lw k t s = ext e lw k u s
  | 0, t, u, s, _, h => jst_congr (fun j hj => h j hj (Or.inl (by omega)))
  | k + 1, t, u, s, hk, h => by
    rw [ext, ext]
    split
    · rename_i hp
      refine foldq_congr _ _ (fun q s _ => ext_congr k _ _ s (by omega) (fun j hj h2 => ?_))
      simp only [setT]
      split
      · rfl
      · rename_i hne
        refine h j hj ?_
        rcases h2 with h2 | h2
        · left; omega
        · right; exact h2
    · rename_i hp
      refine ext_congr k t u s (by omega) (fun j hj h2 => h j hj ?_)
      rcases h2 with h2 | h2
      · by_cases e2 : j = 7 - k
        · right
          subst e2
          cases h3 : isP e (7 - k)
          · rfl
          · exact absurd h3 hp
        · left; omega
      · right; exact h2
theorem foldq_id {σ : Type} {f : Nat → σ → σ} : ∀ n s, (∀ q, q < n → f q s = s) → foldq f n s = s
  | 0, _, _ => rfl
  | n + 1, s, h => by rw [foldq, foldq_id n s (fun q hq => h q (by omega)), h n (by omega)]
/-- where no leaf changes anything, nothing changes -/
theorem ext_noop {e : Hp} {lw : Int} {s : SGT} : ∀ (k : Nat) (t : Nat → Int), k ≤ 8 → (∀ u : Nat → Int, (∀ j, j < 8 → (j < 8 - k ∨ isP e j = false) → u j = t j) → jst e lw u s = s) → ext e lw k t s = s
  | 0, t, _, h => h t (fun _ _ _ => rfl)
  | k + 1, t, hk, h => by
    rw [ext]
    split
    · rename_i hp
      refine foldq_id _ _ (fun q _ => ext_noop k _ (by omega) (fun u hu => h u (fun j hj h2 => ?_)))
      have hne : j ≠ 7 - k := fun e2 => by
        rcases h2 with h2 | h2
        · omega
        · rw [e2, hp] at h2; cases h2
      have := hu j hj (by
        rcases h2 with h2 | h2
        · left; omega
        · right; exact h2)
      rw [this, setT, if_neg hne]
    · rename_i hp
      refine ext_noop k t (by omega) (fun u hu => h u (fun j hj h2 => hu j hj ?_))
      rcases h2 with h2 | h2
      · left; omega
      · right; exact h2
/-! bounds -/
def ENV (e : Hp) : Prop := (0 ≤ e 2 6 ∧ e 2 6 ≤ 255) ∧ (0 ≤ e 2 7 ∧ e 2 7 ≤ 5) ∧ (∀ i, i < 48 → 0 ≤ e 19 i ∧ e 19 i ≤ 4398046511104 ∧ e 19 i % 32 = 0 ∧ 0 ≤ e 20 i ∧ e 20 i ≤ 4503599627370496) ∧ (∀ j, j < 8 → 0 ≤ e 13 j ∧ e 13 j ≤ 255) ∧ (∀ x, x < 256 → (0 ≤ e 17 x ∧ e 17 x ≤ 255) ∧ (0 ≤ e 18 x ∧ e 18 x ≤ 255)) ∧ ∀ x y q, x < 256 → y < 256 → sub x y → (e 17 y).toNat.testBit q = true → (e 18 x).toNat.testBit q = true
theorem ixC_lt {t : Nat → Int} {j : Nat} (hj : j < 8) : ixC t j < 48 := by
  have := colI_rng (t j)
  unfold ixC
  omega
theorem cA_rng {e : Hp} (hE : ENV e) (t : Nat → Int) : ∀ p, p ≤ 8 → 0 ≤ cA e t p ∧ cA e t p ≤ p * 4398046511104 ∧ cA e t p % 32 = 0
  | 0, _ => by simp [cA]
  | p + 1, hp => by
    have ih := cA_rng hE t p (by omega)
    have := hE.2.2.1 (ixC t p) (ixC_lt (by omega))
    rw [cA]
    split <;> omega
theorem lU_rng {e : Hp} (hE : ENV e) (t : Nat → Int) : ∀ p, p ≤ 8 → 0 ≤ lU e t p ∧ lU e t p ≤ p * 4503599627370496
  | 0, _ => by simp [lU]
  | p + 1, hp => by
    have ih := lU_rng hE t p (by omega)
    have := hE.2.2.1 (ixC t p) (ixC_lt (by omega))
    rw [lU]
    split <;> omega
theorem cA_mono {e : Hp} (hE : ENV e) (t : Nat → Int) (p : Nat) : ∀ k, p + k ≤ 8 → cA e t p ≤ cA e t (p + k)
  | 0, _ => Int.le_refl _
  | k + 1, hp => by
    have ih := cA_mono hE t p k (by omega)
    have := hE.2.2.1 (ixC t (p + k)) (ixC_lt (by omega))
    rw [← Nat.add_assoc, cA]
    split <;> omega
theorem cntF_mono {f g : Nat → Bool} : ∀ n, (∀ i, i < n → f i = true → g i = true) → cntF f n ≤ cntF g n
  | 0, _ => Nat.le_refl _
  | n + 1, h => by
    have ih := cntF_mono n (fun i hi => h i (by omega))
    have := h n (by omega)
    rw [cntF, cntF]
    cases hf : f n
    · simp only [Bool.false_eq_true, if_false]; split <;> omega
    · simp only [this hf, if_true]; omega
theorem bcnt_and_le {f : Nat → Bool} {p x : Nat} (hp : p ≤ 8) : bcnt (bs f p &&& x) ≤ p := by
  refine Nat.le_trans ?_ (cntF_le f p)
  rw [← bcnt_bs f hp, bcnt_eq, bcnt_eq]
  refine cntF_mono 8 (fun i _ h => ?_)
  rw [Nat.testBit_and, Bool.and_eq_true] at h
  exact h.1
theorem prs_rng {e : Hp} (t : Nat → Int) : ∀ p : Nat, p ≤ 8 → 0 ≤ prs e t p ∧ 2 * prs e t p ≤ (p * (p - 1) : Nat)
  | 0, _ => by simp [prs]
  | p + 1, hp => by
    have ih := prs_rng (e := e) t p (by omega)
    have hb := bcnt_and_le (f := fun j => isP e j && decide (t j = t p)) (p := p) (x := (e 13 p).toNat) (by omega)
    have e1 : (p + 1) * (p + 1 - 1) = p * (p - 1) + 2 * p := by
      rw [Nat.add_sub_cancel]
      cases p with
      | zero => rfl
      | succ m =>
        have : ∀ m, m < 8 → (m + 1 + 1) * (m + 1) = (m + 1) * m + 2 * (m + 1) := by decide
        rw [Nat.add_sub_cancel]
        exact this m (by omega)
    rw [prs, e1]
    unfold gU
    split <;> omega
theorem cU_rng {e : Hp} (hE : ENV e) (t : Nat → Int) {p : Nat} (hp : p ≤ 8) : 0 ≤ cU e t p ∧ cU e t p ≤ 40000000000000 ∧ cU e t p / 32 = cA e t p / 32 := by
  have h1 := cA_rng hE t p hp
  have h2 := prs_rng (e := e) t p hp
  have h3 : p * (p - 1) ≤ 56 := by
    have : ∀ p, p ≤ 8 → p * (p - 1) ≤ 56 := by decide
    exact this p hp
  unfold cU
  omega
def SOK (s : SGT) : Prop := (0 ≤ s.1 ∧ s.1 ≤ 4611686018427387904) ∧ (0 ≤ s.2.1 ∧ s.2.1 ≤ 4611686018427387904)
theorem jst_ok {e : Hp} {lw : Int} (hE : ENV e) (t : Nat → Int) {s : SGT} (h : SOK s) : SOK (jst e lw t s) := by
  have h1 := cU_rng hE t (p := 8) (by omega)
  have h2 := lU_rng hE t 8 (by omega)
  unfold jst
  split
  · split
    · exact h
    · exact ⟨⟨by show 0 ≤ cU e t 8; omega, by show cU e t 8 ≤ _; omega⟩, ⟨by show 0 ≤ lU e t 8; omega, by show lU e t 8 ≤ _; omega⟩⟩
  · exact h
theorem foldq_inv {σ : Type} {P : σ → Prop} {f : Nat → σ → σ} (h : ∀ q s, P s → P (f q s)) : ∀ n s, P s → P (foldq f n s)
  | 0, _, hs => hs
  | n + 1, s, hs => h n _ (foldq_inv h n s hs)
theorem ext_ok {e : Hp} {lw : Int} (hE : ENV e) : ∀ (k : Nat) (t : Nat → Int) (s : SGT), SOK s → SOK (ext e lw k t s)
  | 0, t, s, h => jst_ok hE t h
  | k + 1, t, s, h => by
    rw [ext]
    split
    · exact foldq_inv (fun q s hs => ext_ok hE k _ s hs) _ _ h
    · exact ext_ok hE k t s h
/-- a cost that is over the bar already -/
theorem prune1 {e : Hp} {lw : Int} (hE : ENV e) {k : Nat} {t : Nat → Int} {s : SGT} (hk : k ≤ 8) (h : s.1 / 32 < cU e t (8 - k) / 32) : ext e lw k t s = s := by
  refine ext_noop k t hk (fun u hu => ?_)
  have h1 := cU_rng hE u (p := 8) (by omega)
  have h2 := cU_rng hE t (p := 8 - k) (by omega)
  have h3 := cA_mono hE u (8 - k) k (by omega)
  rw [show 8 - k + k = 8 by omega] at h3
  rw [cA_congr (u := t) (8 - k) (fun j hj _ => hu j (by omega) (Or.inl hj))] at h3
  have h4 : cA e t (8 - k) / 32 ≤ cA e u 8 / 32 := Int.ediv_le_ediv (by decide) h3
  have h5 : s.1 < cU e u 8 := by omega
  unfold jst
  rw [if_neg]
  intro z
  have := (pb_iff.mp z).2
  omega
theorem gU_mono {e : Hp} {t : Nat → Int} {q : Int} {p r : Nat} (h : p ≤ r) : sub (gU e t p q) (gU e t r q) := by
  intro b hb h1
  rw [gU, bs_bit] at h1 ⊢
  simp only [Bool.and_eq_true, decide_eq_true_eq] at h1 ⊢
  exact ⟨by omega, h1.2⟩
theorem gU_lt {e : Hp} {t : Nat → Int} {q : Int} {p : Nat} (hp : p ≤ 8) : gU e t p q < 256 := bs_lt8 _ hp
/-- a group that can't grow to a fitting one -/
theorem prune2 {e : Hp} {lw : Int} (hE : ENV e) {k q : Nat} {t : Nat → Int} {s : SGT} (hk : k < 8) (hp : isP e (7 - k) = true) (hq : q < (e 2 7).toNat) (h : ¬ (e 18 (gU e t (7 - k) q ||| 2 ^ (7 - k))).toNat.testBit q = true) : ext e lw k (setT t (7 - k) q) s = s := by
  refine ext_noop k _ (by omega) (fun u hu => ?_)
  unfold jst
  rw [if_neg]
  intro z
  have h1 := (pb_iff.mp z).1 q hq
  have e1 : gU e u (7 - k + 1) q = gU e t (7 - k) q ||| 2 ^ (7 - k) := by
    have e2 : gU e u (7 - k) q = gU e t (7 - k) q := gU_congr (fun j hj _ => by
      rw [hu j (by omega) (Or.inl (by omega)), setT, if_neg (by omega)])
    show bs _ (7 - k + 1) = _
    rw [bs]
    have e3 : u (7 - k) = q := by
      rw [hu (7 - k) (by omega) (Or.inl (by omega)), setT, if_pos rfl]
    rw [if_pos (by rw [hp, e3]; simp)]
    show gU e u (7 - k) q ||| _ = _
    rw [e2]
  refine h (hE.2.2.2.2.2 _ _ q (by rw [← e1]; exact gU_lt (by omega)) (gU_lt (Nat.le_refl 8)) ?_ h1)
  rw [← e1]
  exact gU_mono (by omega)
/-- hits: at most one a leaf -/
theorem jst_hits {e : Hp} {lw : Int} (t : Nat → Int) (s : SGT) : s.2.2.1 ≤ (jst e lw t s).2.2.1 ∧ (jst e lw t s).2.2.1 ≤ s.2.2.1 + 1 := by
  unfold jst
  split
  · split
    · show s.2.2.1 ≤ s.2.2.1 + 1 ∧ s.2.2.1 + 1 ≤ s.2.2.1 + 1; omega
    · show s.2.2.1 ≤ s.2.2.1 + 1 ∧ s.2.2.1 + 1 ≤ s.2.2.1 + 1; omega
  · omega
theorem foldq_hits {f : Nat → SGT → SGT} {b : Int} (h : ∀ q s, s.2.2.1 ≤ (f q s).2.2.1 ∧ (f q s).2.2.1 ≤ s.2.2.1 + b) : ∀ (n : Nat) (s : SGT), s.2.2.1 ≤ (foldq f n s).2.2.1 ∧ (foldq f n s).2.2.1 ≤ s.2.2.1 + n * b
  | 0, s => by simp [foldq]
  | n + 1, s => by
    have ih := foldq_hits h n s
    have := h n (foldq f n s)
    rw [foldq]
    have e : ((n + 1 : Nat) : Int) * b = n * b + b := by rw [Int.natCast_add, Int.add_mul]; simp
    rw [e]
    omega
theorem ext_hits0 {e : Hp} {lw : Int} (hQ : (e 2 7).toNat ≤ 5) : ∀ (k : Nat) (t : Nat → Int) (s : SGT), s.2.2.1 ≤ (ext e lw k t s).2.2.1 ∧ (ext e lw k t s).2.2.1 ≤ s.2.2.1 + ((5 ^ k : Nat) : Int)
  | 0, t, s => by
    have := jst_hits (e := e) (lw := lw) t s
    rw [ext]
    simpa using this
  | k + 1, t, s => by
    rw [ext]
    have e5 : ((5 ^ (k + 1) : Nat) : Int) = 5 * ((5 ^ k : Nat) : Int) := by rw [Nat.pow_succ]; omega
    have hp : (0 : Int) ≤ ((5 ^ k : Nat) : Int) := Int.natCast_nonneg _
    split
    · have := foldq_hits (f := fun q s => ext e lw k (setT t (7 - k) q) s) (fun q s => ext_hits0 hQ k (setT t (7 - k) q) s) (e 2 7).toNat s
      have h2 : (((e 2 7).toNat : Nat) : Int) * ((5 ^ k : Nat) : Int) ≤ 5 * ((5 ^ k : Nat) : Int) := Int.mul_le_mul_of_nonneg_right (by omega) hp
      rw [e5]
      omega
    · have := ext_hits0 (lw := lw) hQ k t s
      rw [e5]
      omega
theorem ext_hits {e : Hp} {lw : Int} (hE : ENV e) {t : Nat → Int} {s : SGT} (h0 : s.2.2.1 = 0) : 0 ≤ (ext e lw 8 t s).2.2.1 ∧ (ext e lw 8 t s).2.2.1 < 2000000 := by
  have hQ := hE.2.1
  have := ext_hits0 (e := e) (lw := lw) (by omega) 8 t s
  rw [h0, show (5 ^ 8 : Nat) = 390625 from rfl] at this
  omega
end
section
/-! Search: judge and extend -/
def EE (e : Hp) (lw : Int) (h : Hp) : Prop := h 2 6 = e 2 6 ∧ h 2 7 = e 2 7 ∧ h 2 10 = lw ∧ h 13 = e 13 ∧ h 17 = e 17 ∧ h 18 = e 18 ∧ h 19 = e 19 ∧ h 20 = e 20
def SM (h g : Hp) : Prop := (∀ a, a ≠ 2 → a ≠ 15 → a ≠ 16 → g a = h a) ∧ ∀ j, j ≠ 8 → j ≠ 9 → j ≠ 11 → g 2 j = h 2 j
theorem SM.rf {h : Hp} : SM h h := ⟨fun _ _ _ _ => rfl, fun _ _ _ _ => rfl⟩
theorem SM.tr {h g k : Hp} (a : SM h g) (b : SM g k) : SM h k := ⟨fun x h1 h2 h3 => (b.1 x h1 h2 h3).trans (a.1 x h1 h2 h3), fun x h1 h2 h3 => (b.2 x h1 h2 h3).trans (a.2 x h1 h2 h3)⟩
theorem EE.sm {e h g : Hp} {lw : Int} (a : EE e lw h) (b : SM h g) : EE e lw g := by
  obtain ⟨a1, a2, a3, a4, a5, a6, a7, a8⟩ := a
  obtain ⟨b1, b2⟩ := b
  refine ⟨?_, ?_, ?_, ?_, ?_, ?_, ?_, ?_⟩
  · rw [b2 6 (by decide) (by decide) (by decide), a1]
  · rw [b2 7 (by decide) (by decide) (by decide), a2]
  · rw [b2 10 (by decide) (by decide) (by decide), a3]
  · rw [b1 13 (by decide) (by decide) (by decide), a4]
  · rw [b1 17 (by decide) (by decide) (by decide), a5]
  · rw [b1 18 (by decide) (by decide) (by decide), a6]
  · rw [b1 19 (by decide) (by decide) (by decide), a7]
  · rw [b1 20 (by decide) (by decide) (by decide), a8]
set_option maxHeartbeats 2000000 in
set_option maxRecDepth 20000 in
theorem c_X6_isPresent {d : Nat} {h : Hp} {p : Int} (hp : 0 ≤ p ∧ p < 8) (hb : 0 ≤ h 2 6 ∧ h 2 6 ≤ 255) : Fn d MX6_isPresent [mA 2, mI p] h (some (mI (b01 (isP h p.toNat = true)))) h := by
  intro Q hq X hX hR
  show VW X 0 [some (mA 2), some (mI p)] [] h
  refine v_aload_n hX eX6_isPresent_0 rfl ?_
  refine v_getI hX eX6_isPresent_1 fi_X6_49 ⟨by decide, rfl⟩ ?_
  refine v_iload_n hX eX6_isPresent_4 rfl ?_
  refine v_ishr hX eX6_isPresent_5 ?_
  refine v_iconst hX eX6_isPresent_6 ?_
  refine v_iand hX eX6_isPresent_7 ?_
  rw [bitZ hb (by omega)]
  refine v_ifB_eq hX eX6_isPresent_8 (tgt := 15) rfl (fun c8 => ?_) (fun c8 => ?_)
  · refine v_iconst hX eX6_isPresent_15 ?_
    exact v_zreturn hX hR eX6_isPresent_16 rfl (by omega) (q_f c8 hq)
  · refine v_iconst hX eX6_isPresent_11 ?_
    refine v_goto hX eX6_isPresent_12 (tgt := 16) rfl ?_
    exact v_zreturn hX hR eX6_isPresent_16 rfl (by omega) (q_t c8 hq)
noncomputable def jdH (h : Hp) (lw cost lot : Int) : Hp := if lw = 0 then up h 2 11 (h 2 11 + 1) else cpyH (up (up (up h 2 11 (h 2 11 + 1)) 2 8 cost) 2 9 lot) 15 16 8
set_option maxHeartbeats 2000000 in
set_option maxRecDepth 20000 in
theorem c_X6_judge {d : Nat} {e h : Hp} {lw : Int} (hE : ENV e) (hlw : lw = 0 ∨ lw = 1) (ee : EE e lw h) (hs : SOK (SG h)) (hg : ∀ q : Nat, q < 5 → h 14 q = (gU e (h 15) 8 q : Nat)) :
    Fr (d + 1) MX6_judge [mA 2, mL (cU e (h 15) 8), mL (lU e (h 15) 8)] h (fun r g => r = none ∧ SM h g ∧ g 15 = h 15 ∧ SG g = jst e lw (h 15) (SG h)) := by
  intro Q hq X hX hR
  obtain ⟨a1, a2, a3, a4, a5, a6, a7, a8⟩ := ee
  have hQ := hE.2.1
  have hc := cU_rng hE (h 15) (p := 8) (by omega)
  have hl := lU_rng hE (h 15) 8 (by omega)
  have hb : 0 ≤ h 2 8 ∧ h 2 8 ≤ 4611686018427387904 := hs.1
  have hb2 : 0 ≤ h 2 9 ∧ h 2 9 ≤ 4611686018427387904 := hs.2
  have no : ¬ (okF e (h 15) ∧ (cU e (h 15) 8 < h 2 8 ∨ cU e (h 15) 8 = h 2 8 ∧ lU e (h 15) 8 < h 2 9)) → Q none h := fun z => hq _ _ ⟨rfl, SM.rf, rfl, by
    unfold jst
    rw [if_neg (show ¬ (pb (okF e (h 15) ∧ (cU e (h 15) 8 < (SG h).1 ∨ cU e (h 15) 8 = (SG h).1 ∧ lU e (h 15) 8 < (SG h).2.1)) = true) from fun y => z (pb_iff.mp y))]⟩
  have yes : (okF e (h 15) ∧ (cU e (h 15) 8 < h 2 8 ∨ cU e (h 15) 8 = h 2 8 ∧ lU e (h 15) 8 < h 2 9)) → Q none (jdH h lw (cU e (h 15) 8) (lU e (h 15) 8)) := fun z => hq _ _ (by
    unfold jdH
    by_cases e0 : lw = 0
    · rw [if_pos e0]
      refine ⟨rfl, ⟨fun a h1 h2 h3 => up_obf h1, fun j h1 h2 h3 => up_ne (fun y => h3 y.2)⟩, up_obf (by decide), ?_⟩
      unfold jst
      rw [if_pos (show pb (okF e (h 15) ∧ (cU e (h 15) 8 < (SG h).1 ∨ cU e (h 15) 8 = (SG h).1 ∧ lU e (h 15) 8 < (SG h).2.1)) = true from pb_iff.mpr z), if_pos e0]
      simp [SG, up]
      exact up_obf (by decide)
    · rw [if_neg e0]
      refine ⟨rfl, ⟨fun a h1 h2 h3 => ?_, fun j h1 h2 h3 => ?_⟩, ?_, ?_⟩
      · funext b
        simp [cpyH, up, h1, h3]
      · simp [cpyH, up, h1, h2, h3]
      · funext b
        simp [cpyH, up]
      · unfold jst
        rw [if_pos (show pb (okF e (h 15) ∧ (cU e (h 15) 8 < (SG h).1 ∨ cU e (h 15) 8 = (SG h).1 ∧ lU e (h 15) 8 < (SG h).2.1)) = true from pb_iff.mpr z), if_neg e0]
        simp only [SG, cpyH, up]
        simp
        funext b
        simp [cpy, cpyH, up])
  have after : okF e (h 15) → ∀ l5, VW X 38 [some (mA 2), some (mL (cU e (h 15) 8)), none, some (mL (lU e (h 15) 8)), none, l5] [] h := by
    intro ho l5
    have tail : (cU e (h 15) 8 < h 2 8 ∨ cU e (h 15) 8 = h 2 8 ∧ lU e (h 15) 8 < h 2 9) → VW X 66 [some (mA 2), some (mL (cU e (h 15) 8)), none, some (mL (lU e (h 15) 8)), none, l5] [] h := by
      intro hlt
      have y := yes ⟨ho, hlt⟩
      rcases hlw with rfl | rfl
      · rw [show jdH h 0 (cU e (h 15) 8) (lU e (h 15) 8) = up h 2 11 (h 2 11 + 1) from if_pos rfl] at y
        refine v_aload_n hX eX6_judge_66 rfl ?_
        refine v_dup hX eX6_judge_67 rfl ?_
        refine v_getI hX eX6_judge_68 fi_X6_78 ⟨by decide, rfl⟩ ?_
        refine v_iconst hX eX6_judge_71 ?_
        refine v_iadd hX eX6_judge_72 ?_
        refine v_putI hX eX6_judge_73 fi_X6_78 ⟨by decide, rfl⟩ ?_
        refine v_aload_n hX eX6_judge_76 rfl ?_
        refine v_getZ hX eX6_judge_77 fi_X6_105 ⟨by decide, rfl⟩ ?_
        rw [up_ne (by decide), a3]
        refine v_if_eq hX eX6_judge_80 (tgt := 111) rfl ⟨by omega, by omega⟩ (fun c80 => ?_) (fun c80 => False.elim ((c80 rfl)))
        exact v_return hX hR eX6_judge_111 rfl (y)
      · rw [show jdH h 1 (cU e (h 15) 8) (lU e (h 15) 8) = cpyH (up (up (up h 2 11 (h 2 11 + 1)) 2 8 (cU e (h 15) 8)) 2 9 (lU e (h 15) 8)) 15 16 8 from if_neg (by decide)] at y
        refine v_aload_n hX eX6_judge_66 rfl ?_
        refine v_dup hX eX6_judge_67 rfl ?_
        refine v_getI hX eX6_judge_68 fi_X6_78 ⟨by decide, rfl⟩ ?_
        refine v_iconst hX eX6_judge_71 ?_
        refine v_iadd hX eX6_judge_72 ?_
        refine v_putI hX eX6_judge_73 fi_X6_78 ⟨by decide, rfl⟩ ?_
        refine v_aload_n hX eX6_judge_76 rfl ?_
        refine v_getZ hX eX6_judge_77 fi_X6_105 ⟨by decide, rfl⟩ ?_
        rw [up_ne (by decide), a3]
        refine v_if_eq hX eX6_judge_80 (tgt := 111) rfl ⟨by omega, by omega⟩ (fun c80 => False.elim ((absurd c80 (by decide)))) (fun c80 => ?_)
        refine v_aload_n hX eX6_judge_83 rfl ?_
        refine v_lload_n hX eX6_judge_84 rfl ?_
        refine v_putL hX eX6_judge_85 fi_X6_98 ⟨by decide, rfl⟩ ?_
        refine v_aload_n hX eX6_judge_88 rfl ?_
        refine v_lload_n hX eX6_judge_89 rfl ?_
        refine v_putL hX eX6_judge_90 fi_X6_102 ⟨by decide, rfl⟩ ?_
        refine v_aload_n hX eX6_judge_93 rfl ?_
        refine v_getA hX eX6_judge_94 fi_X6_32 ⟨by decide, rfl⟩ rfl ?_
        refine v_iconst hX eX6_judge_97 ?_
        refine v_aload_n hX eX6_judge_98 rfl ?_
        refine v_getA hX eX6_judge_99 fi_X6_35 ⟨by decide, rfl⟩ rfl ?_
        refine v_iconst hX eX6_judge_102 ?_
        refine v_aload_n hX eX6_judge_103 rfl ?_
        refine v_getA hX eX6_judge_104 fi_X6_35 ⟨by decide, rfl⟩ rfl ?_
        refine v_alen hX eX6_judge_107 (by first | exact ⟨by decide, rfl⟩ | exact AR_rk (by omega)) ?_
        refine v_acopy (n := 8) hX eX6_judge_108 lA_X6_130 ⟨by decide, rfl⟩ ⟨by decide, rfl⟩ (by decide) (Nat.le_of_ble_eq_true rfl) ?_
        try simp only [Int.toNat_natCast, Int.toNat_zero, Int.reduceToNat]
        exact v_return hX hR eX6_judge_111 rfl (y)
    refine v_lload_n hX eX6_judge_38 rfl ?_
    refine v_aload_n hX eX6_judge_39 rfl ?_
    refine v_getL hX eX6_judge_40 fi_X6_98 ⟨by decide, rfl⟩ ?_
    refine v_lcmp hX eX6_judge_43 ⟨by omega, by omega⟩ ⟨by omega, by omega⟩ ?_
    refine v_if_gt hX eX6_judge_44 (tgt := 65) rfl (lcm_rng _ _) (fun c44 => ?_) (fun c44 => ?_)
    · have c := lcm_gt.mp c44
      refine v_return hX hR eX6_judge_65 rfl (no (fun z => ?_))
      omega
    · refine v_lload_n hX eX6_judge_47 rfl ?_
      refine v_aload_n hX eX6_judge_48 rfl ?_
      refine v_getL hX eX6_judge_49 fi_X6_98 ⟨by decide, rfl⟩ ?_
      refine v_lcmp hX eX6_judge_52 ⟨by omega, by omega⟩ ⟨by omega, by omega⟩ ?_
      refine v_if_ne hX eX6_judge_53 (tgt := 66) rfl (lcm_rng _ _) (fun c53 => ?_) (fun c53 => ?_)
      · have c1 : ¬ (h 2 8 < cU e (h 15) 8) := fun z => c44 (lcm_gt.mpr z)
        have c2 : ¬ (cU e (h 15) 8 = h 2 8) := fun z => c53 (lcm_eq.mpr z)
        exact tail (by omega)
      · refine v_lload_n hX eX6_judge_56 rfl ?_
        refine v_aload_n hX eX6_judge_57 rfl ?_
        refine v_getL hX eX6_judge_58 fi_X6_102 ⟨by decide, rfl⟩ ?_
        refine v_lcmp hX eX6_judge_61 ⟨by omega, by omega⟩ ⟨by omega, by omega⟩ ?_
        refine v_if_lt hX eX6_judge_62 (tgt := 66) rfl (lcm_rng _ _) (fun c62 => ?_) (fun c62 => ?_)
        · exact tail (Or.inr ⟨lcm_eq.mp c53, lcm_lt.mp c62⟩)
        · exact v_return hX hR eX6_judge_65 rfl (no (fun z => by have c1 := lcm_eq.mp c53; have c2 : ¬ (lU e (h 15) 8 < h 2 9) := fun y => c62 (lcm_lt.mpr y); omega))
  have loop : ∀ (k i : Nat), i + k = (e 2 7).toNat → (∀ q : Nat, q < i → (e 17 (gU e (h 15) 8 q)).toNat.testBit q = true) → VW X 3 [some (mA 2), some (mL (cU e (h 15) 8)), none, some (mL (lU e (h 15) 8)), none, some (mI i)] [] h := by
    intro k
    induction k with
    | zero =>
      intro i hi hp
      refine v_iload hX eX6_judge_3 rfl ?_
      refine v_aload_n hX eX6_judge_5 rfl ?_
      refine v_getI hX eX6_judge_6 fi_X6_55 ⟨by decide, rfl⟩ ?_
      rw [a2]
      refine v_icmp_ge hX eX6_judge_9 (tgt := 38) rfl ⟨by omega, by omega⟩ ⟨by omega, by omega⟩ (fun c9 => ?_) (fun c9 => False.elim ((by omega)))
      exact after (fun q hq2 => hp q (by omega)) _
    | succ k ih =>
      intro i hi hp
      have hf := hE.2.2.2.2.1 (gU e (h 15) 8 i) (gU_lt (Nat.le_refl 8))
      refine v_iload hX eX6_judge_3 rfl ?_
      refine v_aload_n hX eX6_judge_5 rfl ?_
      refine v_getI hX eX6_judge_6 fi_X6_55 ⟨by decide, rfl⟩ ?_
      rw [a2]
      refine v_icmp_ge hX eX6_judge_9 (tgt := 38) rfl ⟨by omega, by omega⟩ ⟨by omega, by omega⟩ (fun c9 => False.elim ((by omega))) (fun c9 => ?_)
      refine v_aload_n hX eX6_judge_12 rfl ?_
      refine v_getA hX eX6_judge_13 fi_X6_12 ⟨by decide, rfl⟩ rfl ?_
      refine v_iload hX eX6_judge_16 rfl ?_
      refine v_aload_n hX eX6_judge_18 rfl ?_
      refine v_getA hX eX6_judge_19 fi_X6_29 ⟨by decide, rfl⟩ rfl ?_
      refine v_iload hX eX6_judge_22 rfl ?_
      refine v_iald hX eX6_judge_24 (by first | exact ⟨by decide, rfl⟩ | exact AR_rk (by omega)) ⟨by omega, by omega⟩ ?_
      try simp only [Int.toNat_natCast, Int.toNat_zero, Int.reduceToNat]
      rw [hg i (by omega)]
      refine v_fnV hX eX6_judge_25 lV_X6_127 ok_MX0_fits ⟨by decide, rfl⟩ rfl ⟨rfl, Nat.le_of_ble_eq_true rfl⟩ (Nat.le_of_ble_eq_true rfl) (c_X0_fits (gU_lt (Nat.le_refl 8)) ⟨by omega, by omega⟩ (by rw [a5]; exact hf.1)) rfl ?_
      try simp only [Int.toNat_natCast, Int.toNat_zero, Int.reduceToNat]
      rw [a5]
      refine v_ifB_ne hX eX6_judge_28 (tgt := 32) rfl (fun c28 => ?_) (fun c28 => ?_)
      · refine v_iinc hX eX6_judge_32 rfl rfl rfl ?_
        exact v_goto hX eX6_judge_35 (tgt := 3) rfl (ih (i + 1) (by omega) (fun q hq2 => if e2 : q = i then e2 ▸ c28 else hp q (by omega)))
      · exact v_return hX hR eX6_judge_31 rfl (no (fun z => c28 (z.1 i (by omega))))
  show VW X 0 [some (mA 2), some (mL (cU e (h 15) 8)), none, some (mL (lU e (h 15) 8)), none, none] [] h
  refine v_iconst hX eX6_judge_0 ?_
  refine v_istore hX eX6_judge_1 rfl rfl ?_
  exact loop (e 2 7).toNat 0 (by omega) (fun q hq2 => absurd hq2 (Nat.not_lt_zero q))
theorem gU_s {e : Hp} {t : Nat → Int} {p : Nat} {q : Int} : gU e t (p + 1) q = if isP e p = true ∧ t p = q then gU e t p q ||| 2 ^ p else gU e t p q := by
  unfold gU
  rw [bs]
  by_cases h : isP e p = true ∧ t p = q
  · rw [if_pos h, if_pos (by rw [h.1, h.2]; simp)]
  · rw [if_neg h, if_neg (by simpa using h), Nat.or_zero]
set_option maxHeartbeats 2000000 in
set_option maxRecDepth 20000 in
theorem c_X6_extend {e : Hp} {lw : Int} (hE : ENV e) (hlw : lw = 0 ∨ lw = 1) : ∀ (k : Nat), k ≤ 8 → ∀ (d : Nat) (h : Hp), EE e lw h → SOK (SG h) → (∀ q : Nat, q < 5 → h 14 q = (gU e (h 15) (8 - k) q : Nat)) →
    Fr (d + k + 2) MX6_extend [mA 2, mI (8 - k : Nat), mL (cU e (h 15) (8 - k)), mL (lU e (h 15) (8 - k))] h (fun r g => r = none ∧ SM h g ∧ (∀ j, (j < 8 - k ∨ isP e j = false) → g 15 j = h 15 j) ∧ SG g = ext e lw k (h 15) (SG h)) := by
  intro k
  induction k with
  | zero =>
    intro _ d h ee hs hg Q hq X hX hR
    have hc := cU_rng hE (h 15) (p := 8) (by omega)
    have hb : 0 ≤ h 2 8 ∧ h 2 8 ≤ 4611686018427387904 := hs.1
    have pr : h 2 8 / 32 < cU e (h 15) 8 / 32 → Q none h := fun z => hq _ _ ⟨rfl, SM.rf, fun _ _ => rfl, (prune1 (k := 0) hE (by omega) z).symm⟩
    show VW X 0 [some (mA 2), some (mI 8), some (mL (cU e (h 15) 8)), none, some (mL (lU e (h 15) 8)), none, none, none, none, none, none] [] h
    refine v_lload_n hX eX6_extend_0 rfl ?_
    refine v_iconst hX eX6_extend_1 ?_
    refine v_lshr hX eX6_extend_2 ?_
    rw [lshr5 (by omega)]
    refine v_aload_n hX eX6_extend_3 rfl ?_
    refine v_getL hX eX6_extend_4 fi_X6_98 ⟨by decide, rfl⟩ ?_
    refine v_iconst hX eX6_extend_7 ?_
    refine v_lshr hX eX6_extend_8 ?_
    rw [lshr5 (by omega)]
    refine v_lcmp hX eX6_extend_9 ⟨by omega, by omega⟩ ⟨by omega, by omega⟩ ?_
    refine v_if_le hX eX6_extend_10 (tgt := 14) rfl (lcm_rng _ _) (fun c10 => ?_) (fun c10 => ?_)
    · refine v_iload_n hX eX6_extend_14 rfl ?_
      refine v_if_lt hX eX6_extend_15 (tgt := 24) rfl ⟨by omega, by omega⟩ (fun c15 => False.elim ((by omega))) (fun c15 => ?_)
      refine v_iload_n hX eX6_extend_18 rfl ?_
      refine v_bipush hX eX6_extend_19 (by decide) ?_
      refine v_icmp_lt hX eX6_extend_21 (tgt := 32) rfl ⟨by omega, by omega⟩ ⟨by omega, by omega⟩ (fun c21 => False.elim ((by omega))) (fun c21 => ?_)
      refine v_aload_n hX eX6_extend_24 rfl ?_
      refine v_lload_n hX eX6_extend_25 rfl ?_
      refine v_lload hX eX6_extend_26 rfl ?_
      refine v_frV hX eX6_extend_28 lV_X6_113 ok_MX6_judge ⟨by decide, rfl⟩ rfl ⟨rfl, Nat.le_of_ble_eq_true rfl⟩ (Nat.le_of_ble_eq_true rfl) (c_X6_judge hE hlw ee hs hg) rfl ?_
      rintro r g ⟨rfl, g1, g2, g3⟩
      exact v_return hX hR eX6_extend_31 rfl (hq _ _ ⟨rfl, g1, fun j _ => by rw [g2], g3⟩)
    · exact v_return hX hR eX6_extend_13 rfl (pr (by have : ¬ (cU e (h 15) 8 / 32 ≤ h 2 8 / 32) := fun z => c10 (lcm_le.mpr z); omega))
  | succ k ih =>
    intro hk d h ee hs hg Q hq X hX hR
    obtain ⟨a1, a2, a3, a4, a5, a6, a7, a8⟩ := id ee
    have ep : 8 - (k + 1) = 7 - k := by omega
    have ep2 : 8 - k = 7 - k + 1 := by omega
    rw [ep] at hg hq ⊢
    have hc := cU_rng hE (h 15) (p := 7 - k) (by omega)
    have hb : 0 ≤ h 2 8 ∧ h 2 8 ≤ 4611686018427387904 := hs.1
    have hQ := hE.2.1
    have pr : h 2 8 / 32 < cU e (h 15) (7 - k) / 32 → Q none h := fun z => hq _ _ ⟨rfl, SM.rf, fun _ _ => rfl, (prune1 (k := k + 1) hE (by omega) (by rw [ep]; exact z)).symm⟩
    have hpr : 0 ≤ h 2 6 ∧ h 2 6 ≤ 255 := by rw [a1]; exact hE.1
    have ei : isP h (7 - k) = isP e (7 - k) := by unfold isP; rw [a1]
    have loop : isP e (7 - k) = true → ∀ (m i : Nat), i + m = (e 2 7).toNat → ∀ (g : Hp), SM h g → (∀ j, (j < 7 - k ∨ isP e j = false) → g 15 j = h 15 j) → SG g = foldq (fun q s => ext e lw k (setT (h 15) (7 - k) q) s) i (SG h) → ∀ l7 l8 l9 l10,
        VW X 54 [some (mA 2), some (mI (7 - k : Nat)), some (mL (cU e (h 15) (7 - k))), none, some (mL (lU e (h 15) (7 - k))), none, some (mI i), l7, l8, l9, l10] [] g := by
      intro hp m
      induction m with
      | zero =>
        intro i hi g g1 g2 g3 l7 l8 l9 l10
        have e27 : g 2 7 = e 2 7 := by rw [g1.2 7 (by decide) (by decide) (by decide), a2]
        refine v_iload hX eX6_extend_54 rfl ?_
        refine v_aload_n hX eX6_extend_56 rfl ?_
        refine v_getI hX eX6_extend_57 fi_X6_55 ⟨by decide, rfl⟩ ?_
        rw [e27]
        refine v_icmp_ge hX eX6_extend_60 (tgt := 176) rfl ⟨by omega, by omega⟩ ⟨by omega, by omega⟩ (fun c60 => ?_) (fun c60 => False.elim ((by omega)))
        exact v_return hX hR eX6_extend_176 rfl (hq _ _ ⟨rfl, g1, g2, by rw [g3, ext, if_pos hp, show i = (e 2 7).toNat by omega]⟩)
      | succ m ihm =>
        intro i hi g g1 g2 g3 l7 l8 l9 l10
        have eg := ee.sm g1
        obtain ⟨b1, b2, b3, b4, b5, b6, b7, b8⟩ := id eg
        have e14 : g 14 = h 14 := g1.1 14 (by decide) (by decide) (by decide)
        have gi := hg i (by omega)
        have hgl : gU e (h 15) (7 - k) i < 256 := gU_lt (by omega)
        have hpl : gU e (h 15) (7 - k) i ||| 2 ^ (7 - k) < 256 := put_lt hgl (by omega)
        have h18 := (hE.2.2.2.2.1 _ hpl).2
        have sg : SOK (SG g) := by
          rw [g3]
          exact foldq_inv (P := SOK) (fun q s hs => ext_ok hE k _ s hs) _ _ hs
        have h13 := hE.2.2.2.1 (7 - k) (by omega)
        have next : ∀ g', SM h g' → (∀ j, (j < 7 - k ∨ isP e j = false) → g' 15 j = h 15 j) → SG g' = foldq (fun q s => ext e lw k (setT (h 15) (7 - k) q) s) (i + 1) (SG h) → ∀ l7 l8 l9 l10, VW X 170 [some (mA 2), some (mI (7 - k : Nat)), some (mL (cU e (h 15) (7 - k))), none, some (mL (lU e (h 15) (7 - k))), none, some (mI i), l7, l8, l9, l10] [] g' := by
          intro g' n1 n2 n3 l7 l8 l9 l10
          refine v_iinc hX eX6_extend_170 rfl rfl rfl ?_
          exact v_goto hX eX6_extend_173 (tgt := 54) rfl (ihm (i + 1) (by omega) g' n1 n2 n3 _ _ _ _)
        by_cases hcg : (e 18 (gU e (h 15) (7 - k) i ||| 2 ^ (7 - k))).toNat.testBit i = true
        · -- the heap in which the call is made
          let g2' : Hp := up (up g 14 i (gU e (h 15) (7 - k) i ||| 2 ^ (7 - k) : Nat)) 15 (7 - k) i
          have t2 : ∀ j, g2' 15 j = if j = 7 - k then (i : Int) else g 15 j := fun j => by
            show up (up g 14 i _) 15 (7 - k) i 15 j = _
            by_cases hj : j = 7 - k
            · subst hj; rw [up_same, if_pos rfl]
            · rw [up_ne (fun z => hj z.2), up_ob (by decide), if_neg hj]
          have ag : ∀ j, j < 7 - k → isP e j = true → g2' 15 j = h 15 j := fun j hj _ => by
            rw [t2, if_neg (by omega), g2 j (Or.inl hj)]
          have sm2 : SM g2' g2' := SM.rf
          have ee2 : EE e lw g2' := ⟨by rw [← b1]; rfl, by rw [← b2]; rfl, by rw [← b3]; rfl, by rw [← b4]; exact (up_obf (by decide)).trans (up_obf (by decide)), by rw [← b5]; exact (up_obf (by decide)).trans (up_obf (by decide)), by rw [← b6]; exact (up_obf (by decide)).trans (up_obf (by decide)), by rw [← b7]; exact (up_obf (by decide)).trans (up_obf (by decide)), by rw [← b8]; exact (up_obf (by decide)).trans (up_obf (by decide))⟩
          have s2 : SG g2' = SG g := by
            have : g2' 16 = g 16 := (up_obf (by decide)).trans (up_obf (by decide))
            unfold SG
            rw [this]
            rfl
          have gr : ∀ q : Nat, q < 5 → g2' 14 q = (gU e (g2' 15) (8 - k) q : Nat) := fun q hq5 => by
            rw [ep2, gU_s, t2, if_pos rfl, gU_congr ag]
            show up (up g 14 i _) 15 (7 - k) i 14 q = _
            rw [up_ob (by decide)]
            by_cases hqi : q = i
            · subst hqi
              rw [up_same, if_pos ⟨hp, rfl⟩]
            · rw [up_ne (fun z => hqi z.2), e14, hg q hq5, if_neg (fun z => hqi (by omega))]
          have cs : cU e (h 15) (7 - k) + e 19 ((((7 - k : Nat) : Int) * 6 + colI i).toNat) - (bcnt (gU e (h 15) (7 - k) i &&& (e 13 (7 - k)).toNat) : Nat) = cU e (g2' 15) (8 - k) := by
            rw [ep2]
            unfold cU
            rw [cA, prs, if_pos hp, if_pos hp, cA_congr (u := h 15) (7 - k) ag, prs_congr (u := h 15) (7 - k) ag, t2, if_pos rfl, gU_congr ag, ixC, t2, if_pos rfl]
            omega
          have lt : lU e (h 15) (7 - k) + e 20 ((((7 - k : Nat) : Int) * 6 + colI i).toNat) = lU e (g2' 15) (8 - k) := by
            rw [ep2, lU, if_pos hp, lU_congr (u := h 15) (7 - k) ag, ixC, t2, if_pos rfl]
          have call := ih (by omega) d g2' ee2 (by rw [s2]; exact sg) gr
          have fin : ∀ g3' : Hp, SM g2' g3' → (∀ j, (j < 8 - k ∨ isP e j = false) → g3' 15 j = g2' 15 j) → SG g3' = ext e lw k (g2' 15) (SG g2') → ∀ l7 l8 l9 l10, VW X 170 [some (mA 2), some (mI (7 - k : Nat)), some (mL (cU e (h 15) (7 - k))), none, some (mL (lU e (h 15) (7 - k))), none, some (mI i), l7, l8, l9, l10] [] (up g3' 14 i (gU e (h 15) (7 - k) i : Nat)) := by
            intro g3' m1 m2 m3 l7 l8 l9 l10
            have e3 : g3' 14 = g2' 14 := m1.1 14 (by decide) (by decide) (by decide)
            refine next _ ?_ ?_ ?_ _ _ _ _
            · refine SM.tr g1 ⟨fun a h1 h2 h3 => ?_, fun j h1 h2 h3 => ?_⟩
              · by_cases ha : a = 14
                · subst ha
                  funext b
                  by_cases hb : b = i
                  · subst hb; rw [up_same, e14, gi]
                  · rw [up_ne (fun z => hb z.2), e3]
                    show up (up g 14 i _) 15 (7 - k) i 14 b = _
                    rw [up_ob (by decide), up_ne (fun z => hb z.2)]
                · rw [up_obf ha, m1.1 a h1 h2 h3]
                  exact (up_obf h2).trans (up_obf ha)
              · rw [up_ob (by decide), m1.2 j h1 h2 h3]
                exact (up_ob (by decide)).trans (up_ob (by decide))
            · intro j hj
              have hne : j ≠ 7 - k := fun z => by
                rcases hj with hj | hj
                · omega
                · rw [z, hp] at hj; cases hj
              rw [up_ob (by decide), m2 j (by rcases hj with hj | hj; left; omega; right; exact hj), t2, if_neg hne, g2 j hj]
            · rw [show SG (up g3' 14 i (gU e (h 15) (7 - k) i : Nat)) = SG g3' from rfl, m3, s2, foldq, ← g3]
              refine ext_congr k _ _ _ (by omega) (fun j hj8 hj => ?_)
              rw [t2, setT]
              split
              · rfl
              · rename_i hne
                exact g2 j (by rcases hj with hj | hj; left; omega; right; exact hj)
          refine v_iload hX eX6_extend_54 rfl ?_
          refine v_aload_n hX eX6_extend_56 rfl ?_
          refine v_getI hX eX6_extend_57 fi_X6_55 ⟨by decide, rfl⟩ ?_
          rw [b2]
          refine v_icmp_ge hX eX6_extend_60 (tgt := 176) rfl ⟨by omega, by omega⟩ ⟨by omega, by omega⟩ (fun c60 => False.elim ((by omega))) (fun c60 => ?_)
          refine v_aload_n hX eX6_extend_63 rfl ?_
          refine v_getA hX eX6_extend_64 fi_X6_29 ⟨by decide, rfl⟩ rfl ?_
          refine v_iload hX eX6_extend_67 rfl ?_
          refine v_iald hX eX6_extend_69 (by first | exact ⟨by decide, rfl⟩ | exact AR_rk (by omega)) ⟨by omega, by omega⟩ ?_
          try simp only [Int.toNat_natCast, Int.toNat_zero, Int.reduceToNat]
          rw [e14, gi]
          refine v_istore hX eX6_extend_70 rfl rfl ?_
          refine v_iload hX eX6_extend_72 rfl ?_
          refine v_iconst hX eX6_extend_74 ?_
          refine v_iload_n hX eX6_extend_75 rfl ?_
          refine v_ishl hX eX6_extend_76 ?_
          refine v_ior hX eX6_extend_77 ?_
          rw [wb_put hgl (by omega)]
          refine v_istore hX eX6_extend_78 rfl rfl ?_
          refine v_aload_n hX eX6_extend_80 rfl ?_
          refine v_getA hX eX6_extend_81 fi_X6_12 ⟨by decide, rfl⟩ rfl ?_
          refine v_iload hX eX6_extend_84 rfl ?_
          refine v_iload hX eX6_extend_86 rfl ?_
          refine v_fnV hX eX6_extend_88 lV_X6_117 ok_MX0_canGrow ⟨by decide, rfl⟩ rfl ⟨rfl, Nat.le_of_ble_eq_true rfl⟩ (Nat.le_of_ble_eq_true rfl) (c_X0_canGrow hpl ⟨by omega, by omega⟩ (by rw [b6]; exact h18)) rfl ?_
          try simp only [Int.toNat_natCast, Int.toNat_zero, Int.reduceToNat]
          rw [b6]
          refine v_ifB_eq hX eX6_extend_91 (tgt := 170) rfl (fun c91 => False.elim (c91 hcg)) (fun c91 => ?_)
          refine v_iload hX eX6_extend_94 rfl ?_
          refine v_aload_n hX eX6_extend_96 rfl ?_
          refine v_getA hX eX6_extend_97 fi_X6_25 ⟨by decide, rfl⟩ rfl ?_
          refine v_iload_n hX eX6_extend_100 rfl ?_
          refine v_iald hX eX6_extend_101 (by first | exact ⟨by decide, rfl⟩ | exact AR_rk (by omega)) ⟨by omega, by omega⟩ ?_
          try simp only [Int.toNat_natCast, Int.toNat_zero, Int.reduceToNat]
          rw [b4]
          refine v_iand hX eX6_extend_102 ?_
          rw [band_z hgl h13]
          refine v_fnS hX eX6_extend_103 lS_X6_121 ok_MJ6_bitCount_0f7a4 ⟨rfl, Nat.le_of_ble_eq_true rfl⟩ (Nat.le_of_ble_eq_true rfl) (c_bitCount (and_lt8 hgl)) rfl ?_
          try simp only [Int.toNat_natCast, Int.toNat_zero, Int.reduceToNat]
          refine v_i2l hX eX6_extend_106 ⟨by have := bcnt_le (gU e (h 15) (7 - k) i &&& (e 13 (7 - k)).toNat); omega, by have := bcnt_le (gU e (h 15) (7 - k) i &&& (e 13 (7 - k)).toNat); omega⟩ ?_
          refine v_lstore hX eX6_extend_107 rfl rfl ?_
          refine v_aload_n hX eX6_extend_109 rfl ?_
          refine v_getA hX eX6_extend_110 fi_X6_29 ⟨by decide, rfl⟩ rfl ?_
          refine v_iload hX eX6_extend_113 rfl ?_
          refine v_iload hX eX6_extend_115 rfl ?_
          refine v_iast hX eX6_extend_117 (by first | exact ⟨by decide, rfl⟩ | exact AR_rk (by omega)) ⟨by omega, by omega⟩ ?_
          try simp only [Int.toNat_natCast, Int.toNat_zero, Int.reduceToNat]
          refine v_aload_n hX eX6_extend_118 rfl ?_
          refine v_getA hX eX6_extend_119 fi_X6_32 ⟨by decide, rfl⟩ rfl ?_
          refine v_iload_n hX eX6_extend_122 rfl ?_
          refine v_iload hX eX6_extend_123 rfl ?_
          refine v_iast hX eX6_extend_125 (by first | exact ⟨by decide, rfl⟩ | exact AR_rk (by omega)) ⟨by omega, by omega⟩ ?_
          try simp only [Int.toNat_natCast, Int.toNat_zero, Int.reduceToNat]
          refine v_aload_n hX eX6_extend_126 rfl ?_
          refine v_iload_n hX eX6_extend_127 rfl ?_
          refine v_iconst hX eX6_extend_128 ?_
          refine v_iadd hX eX6_extend_129 ?_
          refine v_lload_n hX eX6_extend_130 rfl ?_
          refine v_aload_n hX eX6_extend_131 rfl ?_
          refine v_getA hX eX6_extend_132 fi_X6_21 ⟨by decide, rfl⟩ rfl ?_
          refine v_iload_n hX eX6_extend_135 rfl ?_
          refine v_iload hX eX6_extend_136 rfl ?_
          refine v_fnV hX eX6_extend_138 lV_X6_87 ok_MX5_costOf ⟨by decide, rfl⟩ rfl ⟨rfl, Nat.le_of_ble_eq_true rfl⟩ (Nat.le_of_ble_eq_true rfl) (c_X5_costOf (by omega) ⟨by omega, by omega⟩) rfl ?_
          try simp only [Int.toNat_natCast, Int.toNat_zero, Int.reduceToNat]
          rw [show up (up g 14 i (gU e (h 15) (7 - k) i ||| 2 ^ (7 - k) : Nat)) 15 (7 - k) i 19 = e 19 from ee2.2.2.2.2.2.2.1]
          refine v_ladd hX eX6_extend_141 ?_
          refine v_lload hX eX6_extend_142 rfl ?_
          refine v_lsub hX eX6_extend_144 ?_
          refine v_lload hX eX6_extend_145 rfl ?_
          refine v_aload_n hX eX6_extend_147 rfl ?_
          refine v_getA hX eX6_extend_148 fi_X6_21 ⟨by decide, rfl⟩ rfl ?_
          refine v_iload_n hX eX6_extend_151 rfl ?_
          refine v_iload hX eX6_extend_152 rfl ?_
          refine v_fnV hX eX6_extend_154 lV_X6_95 ok_MX5_digitOf ⟨by decide, rfl⟩ rfl ⟨rfl, Nat.le_of_ble_eq_true rfl⟩ (Nat.le_of_ble_eq_true rfl) (c_X5_digitOf (by omega) ⟨by omega, by omega⟩) rfl ?_
          try simp only [Int.toNat_natCast, Int.toNat_zero, Int.reduceToNat]
          rw [show up (up g 14 i (gU e (h 15) (7 - k) i ||| 2 ^ (7 - k) : Nat)) 15 (7 - k) i 20 = e 20 from ee2.2.2.2.2.2.2.2]
          refine v_ladd hX eX6_extend_157 ?_
          rw [cs, lt, show (((7 - k : Nat) : Int) + 1) = ((8 - k : Nat) : Int) by omega]
          refine v_frS hX eX6_extend_158 lS_X6_109 ok_MX6_extend ⟨rfl, Nat.le_of_ble_eq_true rfl⟩ (Nat.le_of_ble_eq_true rfl) (call) rfl ?_
          rintro r g3' ⟨rfl, m1, m2, m3⟩
          refine v_aload_n hX eX6_extend_161 rfl ?_
          refine v_getA hX eX6_extend_162 fi_X6_29 ⟨by decide, rfl⟩ rfl ?_
          refine v_iload hX eX6_extend_165 rfl ?_
          refine v_iload hX eX6_extend_167 rfl ?_
          refine v_iast hX eX6_extend_169 (by first | exact ⟨by decide, rfl⟩ | exact AR_rk (by omega)) ⟨by omega, by omega⟩ ?_
          try simp only [Int.toNat_natCast, Int.toNat_zero, Int.reduceToNat]
          exact fin g3' m1 m2 m3 _ _ _ _
        · have hno : SG g = foldq (fun q s => ext e lw k (setT (h 15) (7 - k) q) s) (i + 1) (SG h) := by
            rw [foldq, ← g3]
            exact (prune2 hE (by omega) hp (by omega) hcg).symm
          refine v_iload hX eX6_extend_54 rfl ?_
          refine v_aload_n hX eX6_extend_56 rfl ?_
          refine v_getI hX eX6_extend_57 fi_X6_55 ⟨by decide, rfl⟩ ?_
          rw [b2]
          refine v_icmp_ge hX eX6_extend_60 (tgt := 176) rfl ⟨by omega, by omega⟩ ⟨by omega, by omega⟩ (fun c60 => False.elim ((by omega))) (fun c60 => ?_)
          refine v_aload_n hX eX6_extend_63 rfl ?_
          refine v_getA hX eX6_extend_64 fi_X6_29 ⟨by decide, rfl⟩ rfl ?_
          refine v_iload hX eX6_extend_67 rfl ?_
          refine v_iald hX eX6_extend_69 (by first | exact ⟨by decide, rfl⟩ | exact AR_rk (by omega)) ⟨by omega, by omega⟩ ?_
          try simp only [Int.toNat_natCast, Int.toNat_zero, Int.reduceToNat]
          rw [e14, gi]
          refine v_istore hX eX6_extend_70 rfl rfl ?_
          refine v_iload hX eX6_extend_72 rfl ?_
          refine v_iconst hX eX6_extend_74 ?_
          refine v_iload_n hX eX6_extend_75 rfl ?_
          refine v_ishl hX eX6_extend_76 ?_
          refine v_ior hX eX6_extend_77 ?_
          rw [wb_put hgl (by omega)]
          refine v_istore hX eX6_extend_78 rfl rfl ?_
          refine v_aload_n hX eX6_extend_80 rfl ?_
          refine v_getA hX eX6_extend_81 fi_X6_12 ⟨by decide, rfl⟩ rfl ?_
          refine v_iload hX eX6_extend_84 rfl ?_
          refine v_iload hX eX6_extend_86 rfl ?_
          refine v_fnV hX eX6_extend_88 lV_X6_117 ok_MX0_canGrow ⟨by decide, rfl⟩ rfl ⟨rfl, Nat.le_of_ble_eq_true rfl⟩ (Nat.le_of_ble_eq_true rfl) (c_X0_canGrow hpl ⟨by omega, by omega⟩ (by rw [b6]; exact h18)) rfl ?_
          try simp only [Int.toNat_natCast, Int.toNat_zero, Int.reduceToNat]
          rw [b6]
          refine v_ifB_eq hX eX6_extend_91 (tgt := 170) rfl (fun c91 => ?_) (fun c91 => False.elim (hcg c91))
          exact next g g1 g2 hno _ _ _ _
    show VW X 0 [some (mA 2), some (mI (7 - k : Nat)), some (mL (cU e (h 15) (7 - k))), none, some (mL (lU e (h 15) (7 - k))), none, none, none, none, none, none] [] h
    by_cases hp : isP e (7 - k) = true
    · refine v_lload_n hX eX6_extend_0 rfl ?_
      refine v_iconst hX eX6_extend_1 ?_
      refine v_lshr hX eX6_extend_2 ?_
      rw [lshr5 (by omega)]
      refine v_aload_n hX eX6_extend_3 rfl ?_
      refine v_getL hX eX6_extend_4 fi_X6_98 ⟨by decide, rfl⟩ ?_
      refine v_iconst hX eX6_extend_7 ?_
      refine v_lshr hX eX6_extend_8 ?_
      rw [lshr5 (by omega)]
      refine v_lcmp hX eX6_extend_9 ⟨by omega, by omega⟩ ⟨by omega, by omega⟩ ?_
      refine v_if_le hX eX6_extend_10 (tgt := 14) rfl (lcm_rng _ _) (fun c10 => ?_) (fun c10 => ?_)
      · refine v_iload_n hX eX6_extend_14 rfl ?_
        refine v_if_lt hX eX6_extend_15 (tgt := 24) rfl ⟨by omega, by omega⟩ (fun c15 => False.elim ((by omega))) (fun c15 => ?_)
        refine v_iload_n hX eX6_extend_18 rfl ?_
        refine v_bipush hX eX6_extend_19 (by decide) ?_
        refine v_icmp_lt hX eX6_extend_21 (tgt := 32) rfl ⟨by omega, by omega⟩ ⟨by omega, by omega⟩ (fun c21 => ?_) (fun c21 => False.elim ((by omega)))
        refine v_aload_n hX eX6_extend_32 rfl ?_
        refine v_iload_n hX eX6_extend_33 rfl ?_
        refine v_fnV hX eX6_extend_34 lV_X6_83 ok_MX6_isPresent ⟨by decide, rfl⟩ rfl ⟨rfl, Nat.le_of_ble_eq_true rfl⟩ (Nat.le_of_ble_eq_true rfl) (c_X6_isPresent (by omega) hpr) rfl ?_
        try simp only [Int.toNat_natCast, Int.toNat_zero, Int.reduceToNat]
        rw [ei]
        refine v_ifB_ne hX eX6_extend_37 (tgt := 51) rfl (fun c37 => ?_) (fun c37 => False.elim (c37 hp))
        refine v_iconst hX eX6_extend_51 ?_
        refine v_istore hX eX6_extend_52 rfl rfl ?_
        exact loop hp (e 2 7).toNat 0 (by omega) h SM.rf (fun _ _ => rfl) rfl _ _ _ _
      · exact v_return hX hR eX6_extend_13 rfl (pr (by have : ¬ (cU e (h 15) (7 - k) / 32 ≤ h 2 8 / 32) := fun z => c10 (lcm_le.mpr z); omega))
    · have ec : cU e (h 15) (8 - k) = cU e (h 15) (7 - k) := by
        rw [ep2]
        unfold cU
        rw [cA, prs, if_neg hp, if_neg hp]
        omega
      have el : lU e (h 15) (8 - k) = lU e (h 15) (7 - k) := by
        rw [ep2, lU, if_neg hp]
        omega
      have call := ih (by omega) d h ee hs (fun q hq5 => by rw [ep2, gU_s, if_neg (fun z => hp z.1)]; exact hg q hq5)
      rw [ec, el] at call
      have hf : isP e (7 - k) = false := by simpa using hp
      refine v_lload_n hX eX6_extend_0 rfl ?_
      refine v_iconst hX eX6_extend_1 ?_
      refine v_lshr hX eX6_extend_2 ?_
      rw [lshr5 (by omega)]
      refine v_aload_n hX eX6_extend_3 rfl ?_
      refine v_getL hX eX6_extend_4 fi_X6_98 ⟨by decide, rfl⟩ ?_
      refine v_iconst hX eX6_extend_7 ?_
      refine v_lshr hX eX6_extend_8 ?_
      rw [lshr5 (by omega)]
      refine v_lcmp hX eX6_extend_9 ⟨by omega, by omega⟩ ⟨by omega, by omega⟩ ?_
      refine v_if_le hX eX6_extend_10 (tgt := 14) rfl (lcm_rng _ _) (fun c10 => ?_) (fun c10 => ?_)
      · refine v_iload_n hX eX6_extend_14 rfl ?_
        refine v_if_lt hX eX6_extend_15 (tgt := 24) rfl ⟨by omega, by omega⟩ (fun c15 => False.elim ((by omega))) (fun c15 => ?_)
        refine v_iload_n hX eX6_extend_18 rfl ?_
        refine v_bipush hX eX6_extend_19 (by decide) ?_
        refine v_icmp_lt hX eX6_extend_21 (tgt := 32) rfl ⟨by omega, by omega⟩ ⟨by omega, by omega⟩ (fun c21 => ?_) (fun c21 => False.elim ((by omega)))
        refine v_aload_n hX eX6_extend_32 rfl ?_
        refine v_iload_n hX eX6_extend_33 rfl ?_
        refine v_fnV hX eX6_extend_34 lV_X6_83 ok_MX6_isPresent ⟨by decide, rfl⟩ rfl ⟨rfl, Nat.le_of_ble_eq_true rfl⟩ (Nat.le_of_ble_eq_true rfl) (c_X6_isPresent (by omega) hpr) rfl ?_
        try simp only [Int.toNat_natCast, Int.toNat_zero, Int.reduceToNat]
        rw [ei]
        refine v_ifB_ne hX eX6_extend_37 (tgt := 51) rfl (fun c37 => False.elim (hp c37)) (fun c37 => ?_)
        refine v_aload_n hX eX6_extend_40 rfl ?_
        refine v_iload_n hX eX6_extend_41 rfl ?_
        refine v_iconst hX eX6_extend_42 ?_
        refine v_iadd hX eX6_extend_43 ?_
        refine v_lload_n hX eX6_extend_44 rfl ?_
        refine v_lload hX eX6_extend_45 rfl ?_
        rw [show (((7 - k : Nat) : Int) + 1) = ((8 - k : Nat) : Int) by omega]
        refine v_frS hX eX6_extend_47 lS_X6_109 ok_MX6_extend ⟨rfl, Nat.le_of_ble_eq_true rfl⟩ (Nat.le_of_ble_eq_true rfl) (call) rfl ?_
        rintro r g ⟨rfl, m1, m2, m3⟩
        exact v_return hX hR eX6_extend_50 rfl (hq _ _ ⟨rfl, m1, fun j hj => m2 j (by rcases hj with hj | hj; left; omega; right; exact hj), by rw [m3, ext, if_neg hp]⟩)
      · exact v_return hX hR eX6_extend_13 rfl (pr (by have : ¬ (cU e (h 15) (7 - k) / 32 ≤ h 2 8 / 32) := fun z => c10 (lcm_le.mpr z); omega))
end
section
/-! Search: begin and its callers -/
def BG (h g : Hp) : Prop := (∀ a, a ≠ 2 → a ≠ 14 → a ≠ 15 → a ≠ 16 → g a = h a) ∧ ∀ j, j ≠ 8 → j ≠ 9 → j ≠ 10 → j ≠ 11 → g 2 j = h 2 j
def zN (h : Hp) (i : Nat) : Hp := fun a b => if a = 14 ∧ b < i then 0 else h a b
theorem zN_s {h : Hp} {i : Nat} : up (zN h i) 14 i 0 = zN h (i + 1) := by
  funext a b
  simp only [up, zN]
  by_cases ha : a = 14
  · subst ha
    by_cases hb : b = i
    · simp [hb]
    · have : (b < i + 1) ↔ b < i := by omega
      simp [hb, this]
  · simp [ha]
set_option maxHeartbeats 2000000 in
set_option maxRecDepth 20000 in
theorem c_X6_begin {d : Nat} {h : Hp} {b l lw : Int} (hE : ENV h) (hlw : lw = 0 ∨ lw = 1) (hb : 0 ≤ b ∧ b ≤ 4611686018427387904) (hl : 0 ≤ l ∧ l ≤ 4611686018427387904) :
    Fr (d + 11) MX6_begin [mA 2, mL b, mL l, mI lw] h (fun r g => r = none ∧ BG h g ∧ (∀ j, isP h j = false → g 15 j = h 15 j) ∧ SG g = ext h lw 8 (h 15) (b, l, 0, h 16)) := by
  intro Q hq X hX hR
  let h1 : Hp := up (up (up (up h 2 8 b) 2 9 l) 2 10 lw) 2 11 0
  have h1a : ∀ a, a ≠ 2 → h1 a = h a := fun a ha => by funext x; simp [h1, up, ha]
  have h1b : ∀ j, j ≠ 8 → j ≠ 9 → j ≠ 10 → j ≠ 11 → h1 2 j = h 2 j := fun j a1 a2 a3 a4 => by simp [h1, up, a1, a2, a3, a4]
  have z14 : ∀ i a, a ≠ 14 → zN h1 i a = h1 a := fun i a ha => by funext x; simp [zN, ha]
  have loop : ∀ i : Nat, i ≤ 5 → VW X 24 [some (mA 2), some (mL b), none, some (mL l), none, some (mI lw), some (mI i)] [] (zN h1 i) := by
    refine loop_up 5 ?_ ?_
    · have ee : EE h lw (zN h1 5) := ⟨by rw [z14 _ _ (by decide), h1b _ (by decide) (by decide) (by decide) (by decide)], by rw [z14 _ _ (by decide), h1b _ (by decide) (by decide) (by decide) (by decide)], by rw [z14 _ _ (by decide)]; simp [h1, up], by rw [z14 _ _ (by decide), h1a _ (by decide)], by rw [z14 _ _ (by decide), h1a _ (by decide)], by rw [z14 _ _ (by decide), h1a _ (by decide)], by rw [z14 _ _ (by decide), h1a _ (by decide)], by rw [z14 _ _ (by decide), h1a _ (by decide)]⟩
      have e15 : zN h1 5 15 = h 15 := by rw [z14 _ _ (by decide), h1a _ (by decide)]
      have sg : SG (zN h1 5) = (b, l, 0, h 16) := by
        unfold SG
        rw [z14 _ 2 (by decide), z14 _ 16 (by decide), h1a 16 (by decide)]
        simp [h1, up]
      have call := c_X6_extend (lw := lw) hE hlw 8 (Nat.le_refl 8) d (zN h1 5) ee (by rw [sg]; exact ⟨hb, hl⟩) (fun q hq5 => by
        show zN h1 5 14 q = ((gU h (zN h1 5 15) 0 q : Nat) : Int)
        rw [gU, bs, zN, if_pos ⟨rfl, hq5⟩]
        rfl)
      have e1 : cU h (zN h1 5 15) (8 - 8) = 28 := rfl
      have e2 : lU h (zN h1 5 15) (8 - 8) = 0 := rfl
      rw [e1, e2] at call
      refine v_iload hX eX6_begin_24 rfl ?_
      refine v_aload_n hX eX6_begin_26 rfl ?_
      refine v_getA hX eX6_begin_27 fi_X6_29 ⟨by decide, rfl⟩ rfl ?_
      refine v_alen hX eX6_begin_30 (by first | exact ⟨by decide, rfl⟩ | exact AR_rk (by omega)) ?_
      refine v_icmp_ge hX eX6_begin_31 (tgt := 48) rfl ⟨by omega, by omega⟩ ⟨by omega, by omega⟩ (fun c31 => ?_) (fun c31 => False.elim ((by omega)))
      refine v_aload_n hX eX6_begin_48 rfl ?_
      refine v_iconst hX eX6_begin_49 ?_
      refine v_ldc2 (z := 28) hX eX6_begin_50 k_X6_81 (by decide) ?_
      refine v_lconst (z := 0) hX eX6_begin_53 (by decide) ?_
      refine v_frS hX eX6_begin_54 lS_X6_109 ok_MX6_extend ⟨rfl, Nat.le_of_ble_eq_true rfl⟩ (Nat.le_of_ble_eq_true rfl) (call) rfl ?_
      rintro r g ⟨rfl, m1, m2, m3⟩
      exact v_return hX hR eX6_begin_57 rfl (hq _ _ ⟨rfl, ⟨fun a a1 a2 a3 a4 => by rw [m1.1 a a1 a3 a4, z14 _ a a2, h1a a a1], fun j j1 j2 j3 j4 => by rw [m1.2 j j1 j2 j4, z14 _ 2 (by decide), h1b j j1 j2 j3 j4]⟩, fun j hj => by rw [m2 j (Or.inr hj), e15], by rw [m3, sg, e15]⟩)
    · intro i hi ih
      refine v_iload hX eX6_begin_24 rfl ?_
      refine v_aload_n hX eX6_begin_26 rfl ?_
      refine v_getA hX eX6_begin_27 fi_X6_29 ⟨by decide, rfl⟩ rfl ?_
      refine v_alen hX eX6_begin_30 (by first | exact ⟨by decide, rfl⟩ | exact AR_rk (by omega)) ?_
      refine v_icmp_ge hX eX6_begin_31 (tgt := 48) rfl ⟨by omega, by omega⟩ ⟨by omega, by omega⟩ (fun c31 => False.elim ((by omega))) (fun c31 => ?_)
      refine v_aload_n hX eX6_begin_34 rfl ?_
      refine v_getA hX eX6_begin_35 fi_X6_29 ⟨by decide, rfl⟩ rfl ?_
      refine v_iload hX eX6_begin_38 rfl ?_
      refine v_iconst hX eX6_begin_40 ?_
      refine v_iast hX eX6_begin_41 (by first | exact ⟨by decide, rfl⟩ | exact AR_rk (by omega)) ⟨by omega, by omega⟩ ?_
      try simp only [Int.toNat_natCast, Int.toNat_zero, Int.reduceToNat]
      rw [zN_s]
      refine v_iinc hX eX6_begin_42 rfl rfl rfl ?_
      refine v_goto hX eX6_begin_45 (tgt := 24) rfl ?_
      exact ih
  have l0 := loop 0 (by omega)
  rw [show zN h1 0 = h1 from by funext a x; simp [zN]] at l0
  show VW X 0 [some (mA 2), some (mL b), none, some (mL l), none, some (mI lw), none] [] h
  refine v_aload_n hX eX6_begin_0 rfl ?_
  refine v_lload_n hX eX6_begin_1 rfl ?_
  refine v_putL hX eX6_begin_2 fi_X6_98 ⟨by decide, rfl⟩ ?_
  refine v_aload_n hX eX6_begin_5 rfl ?_
  refine v_lload_n hX eX6_begin_6 rfl ?_
  refine v_putL hX eX6_begin_7 fi_X6_102 ⟨by decide, rfl⟩ ?_
  refine v_aload_n hX eX6_begin_10 rfl ?_
  refine v_iload hX eX6_begin_11 rfl ?_
  refine v_putZ hX eX6_begin_13 fi_X6_105 ⟨by decide, rfl⟩ (by omega) ?_
  refine v_aload_n hX eX6_begin_16 rfl ?_
  refine v_iconst hX eX6_begin_17 ?_
  refine v_putI hX eX6_begin_18 fi_X6_78 ⟨by decide, rfl⟩ ?_
  refine v_iconst hX eX6_begin_21 ?_
  refine v_istore hX eX6_begin_22 rfl rfl ?_
  exact l0
abbrev ABV : Int := 4611686018427387904
set_option maxHeartbeats 2000000 in
set_option maxRecDepth 20000 in
theorem c_X6_findBest {d : Nat} {h : Hp} (hE : ENV h) :
    Fr (d + 12) MX6_findBest [mA 2] h (fun r g => r = some (mI (b01 (0 < (ext h 1 8 (h 15) (ABV, ABV, 0, h 16)).2.2.1))) ∧ BG h g ∧ (∀ j, isP h j = false → g 15 j = h 15 j) ∧ SG g = ext h 1 8 (h 15) (ABV, ABV, 0, h 16)) := by
  intro Q hq X hX hR
  have hits : 0 ≤ (ext h 1 8 (h 15) (ABV, ABV, 0, h 16)).2.2.1 ∧ (ext h 1 8 (h 15) (ABV, ABV, 0, h 16)).2.2.1 < 2000000 := ext_hits hE rfl
  show VW X 0 [some (mA 2)] [] h
  refine v_aload_n hX eX6_findBest_0 rfl ?_
  refine v_ldc2 (z := 4611686018427387904) hX eX6_findBest_1 k_X6_72 (by decide) ?_
  refine v_ldc2 (z := 4611686018427387904) hX eX6_findBest_4 k_X6_72 (by decide) ?_
  refine v_iconst hX eX6_findBest_7 ?_
  refine v_frV hX eX6_findBest_8 lV_X6_74 ok_MX6_begin ⟨by decide, rfl⟩ rfl ⟨rfl, Nat.le_of_ble_eq_true rfl⟩ (Nat.le_of_ble_eq_true rfl) (c_X6_begin hE (Or.inr rfl) (by decide) (by decide)) rfl ?_
  rintro r g ⟨rfl, m1, m2, m3⟩
  have e11 : g 2 11 = (ext h 1 8 (h 15) (ABV, ABV, 0, h 16)).2.2.1 := by rw [← m3]; rfl
  refine v_aload_n hX eX6_findBest_11 rfl ?_
  refine v_getI hX eX6_findBest_12 fi_X6_78 ⟨by decide, rfl⟩ ?_
  rw [e11]
  refine v_if_le hX eX6_findBest_15 (tgt := 22) rfl ⟨by omega, by omega⟩ (fun c15 => ?_) (fun c15 => ?_)
  · refine v_iconst hX eX6_findBest_22 ?_
    exact v_zreturn hX hR eX6_findBest_23 rfl (by omega) (hq _ _ ⟨by rw [b01_f (by omega)], m1, m2, m3⟩)
  · refine v_iconst hX eX6_findBest_18 ?_
    refine v_goto hX eX6_findBest_19 (tgt := 23) rfl ?_
    exact v_zreturn hX hR eX6_findBest_23 rfl (by omega) (hq _ _ ⟨by rw [b01_t (by omega)], m1, m2, m3⟩)
set_option maxHeartbeats 2000000 in
set_option maxRecDepth 20000 in
theorem c_X6_countRight {d : Nat} {h : Hp} (hE : ENV h) :
    Fr (d + 12) MX6_countRight [mA 2] h (fun r g => r = some (mI (ext h 0 8 (h 15) (ABV, ABV, 0, h 16)).2.2.1) ∧ BG h g ∧ (∀ j, isP h j = false → g 15 j = h 15 j) ∧ SG g = ext h 0 8 (h 15) (ABV, ABV, 0, h 16)) := by
  intro Q hq X hX hR
  show VW X 0 [some (mA 2)] [] h
  refine v_aload_n hX eX6_countRight_0 rfl ?_
  refine v_ldc2 (z := 4611686018427387904) hX eX6_countRight_1 k_X6_72 (by decide) ?_
  refine v_ldc2 (z := 4611686018427387904) hX eX6_countRight_4 k_X6_72 (by decide) ?_
  refine v_iconst hX eX6_countRight_7 ?_
  refine v_frV hX eX6_countRight_8 lV_X6_74 ok_MX6_begin ⟨by decide, rfl⟩ rfl ⟨rfl, Nat.le_of_ble_eq_true rfl⟩ (Nat.le_of_ble_eq_true rfl) (c_X6_begin hE (Or.inl rfl) (by decide) (by decide)) rfl ?_
  rintro r g ⟨rfl, m1, m2, m3⟩
  have e11 : g 2 11 = (ext h 0 8 (h 15) (ABV, ABV, 0, h 16)).2.2.1 := by rw [← m3]; rfl
  refine v_aload_n hX eX6_countRight_11 rfl ?_
  refine v_getI hX eX6_countRight_12 fi_X6_78 ⟨by decide, rfl⟩ ?_
  rw [e11]
  exact v_ireturn hX hR eX6_countRight_15 rfl (hq _ _ ⟨rfl, m1, m2, m3⟩)
/-! countBetter -/
def fbF (e : Hp) (t : Nat → Int) (p : Nat) : Nat → Bool := fun j => decide (t p ≠ -1) && (decide (t j = t p) && (isP e j && (e 13 p).toNat.testBit j))
def prs2 (e : Hp) (t : Nat → Int) : Nat → Int
  | 0 => 0
  | p + 1 => prs2 e t p + if isP e p = true then (cntF (fbF e t p) p : Int) else 0
def cU2 (e : Hp) (t : Nat → Int) (p : Nat) : Int := 28 + cA e t p - prs2 e t p
theorem prs2_rng {e : Hp} (t : Nat → Int) : ∀ p : Nat, p ≤ 8 → 0 ≤ prs2 e t p ∧ 2 * prs2 e t p ≤ (p * (p - 1) : Nat)
  | 0, _ => by simp [prs2]
  | p + 1, hp => by
    have ih := prs2_rng (e := e) t p (by omega)
    have hb := cntF_le (fbF e t p) p
    have e1 : (p + 1) * (p + 1 - 1) = p * (p - 1) + 2 * p := by
      have : ∀ p, p < 8 → (p + 1) * (p + 1 - 1) = p * (p - 1) + 2 * p := by decide
      exact this p (by omega)
    rw [prs2, e1]
    split <;> omega
theorem cU2_rng {e : Hp} (hE : ENV e) (t : Nat → Int) {p : Nat} (hp : p ≤ 8) : 0 ≤ cU2 e t p ∧ cU2 e t p ≤ 40000000000000 := by
  have h1 := cA_rng hE t p hp
  have h2 := prs2_rng (e := e) t p hp
  have h3 : p * (p - 1) ≤ 56 := by
    have : ∀ p, p ≤ 8 → p * (p - 1) ≤ 56 := by decide
    exact this p hp
  unfold cU2
  omega
set_option maxHeartbeats 2000000 in
set_option maxRecDepth 20000 in
theorem c_X6_friendsBefore {d : Nat} {h : Hp} {p : Nat} (hp : p < 8) (hL : PLI h) (hE : ENV h) : Fn (d + 1) MX6_friendsBefore [mA 2, mI p, mA 4] h (some (mI (cntF (fbF h (h 4) p) p : Nat))) h := by
  intro Q hq X hX hR
  have lp := hL p hp
  have h13 := hE.2.2.2.1 p hp
  have loop : ∀ i : Nat, i ≤ p → ∀ l5, VW X 5 [some (mA 2), some (mI p), some (mA 4), some (mI (cntF (fbF h (h 4) p) i : Nat)), some (mI i), l5] [] h := by
    refine loop_up p ?_ ?_
    · intro l5
      refine v_iload hX eX6_friendsBefore_5 rfl ?_
      refine v_iload_n hX eX6_friendsBefore_7 rfl ?_
      refine v_icmp_ge hX eX6_friendsBefore_8 (tgt := 72) rfl ⟨by omega, by omega⟩ ⟨by omega, by omega⟩ (fun c8 => ?_) (fun c8 => False.elim ((by omega)))
      refine v_iload_n hX eX6_friendsBefore_72 rfl ?_
      exact v_ireturn hX hR eX6_friendsBefore_73 rfl (hq)
    · intro i hi ih l5
      have li := hL i (by omega)
      have no : fbF h (h 4) p i = false → ∀ l5, VW X 66 [some (mA 2), some (mI p), some (mA 4), some (mI (cntF (fbF h (h 4) p) i : Nat)), some (mI i), l5] [] h := by
        intro hf l5
        have ih2 := ih l5
        rw [cntF, hf] at ih2
        refine v_iinc hX eX6_friendsBefore_66 rfl rfl rfl ?_
        exact v_goto hX eX6_friendsBefore_69 (tgt := 5) rfl ih2
      have yes : fbF h (h 4) p i = true → ∀ l5, VW X 63 [some (mA 2), some (mI p), some (mA 4), some (mI (cntF (fbF h (h 4) p) i : Nat)), some (mI i), l5] [] h := by
        intro hf l5
        have ih2 := ih l5
        rw [cntF, if_pos hf] at ih2
        refine v_iinc hX eX6_friendsBefore_63 rfl rfl rfl ?_
        refine v_iinc hX eX6_friendsBefore_66 rfl rfl rfl ?_
        exact v_goto hX eX6_friendsBefore_69 (tgt := 5) rfl ih2
      refine v_iload hX eX6_friendsBefore_5 rfl ?_
      refine v_iload_n hX eX6_friendsBefore_7 rfl ?_
      refine v_icmp_ge hX eX6_friendsBefore_8 (tgt := 72) rfl ⟨by omega, by omega⟩ ⟨by omega, by omega⟩ (fun c8 => False.elim ((by omega))) (fun c8 => ?_)
      refine v_aload_n hX eX6_friendsBefore_11 rfl ?_
      refine v_iload_n hX eX6_friendsBefore_12 rfl ?_
      refine v_iald hX eX6_friendsBefore_13 (by first | exact ⟨by decide, rfl⟩ | exact AR_rk (by omega)) ⟨by omega, by omega⟩ ?_
      try simp only [Int.toNat_natCast, Int.toNat_zero, Int.reduceToNat]
      refine v_iconst hX eX6_friendsBefore_14 ?_
      refine v_icmp_eq hX eX6_friendsBefore_15 (tgt := 32) rfl ⟨by omega, by omega⟩ ⟨by omega, by omega⟩ (fun c15 => ?_) (fun c15 => ?_)
      · refine v_iconst hX eX6_friendsBefore_32 ?_
        refine v_istore hX eX6_friendsBefore_33 rfl rfl ?_
        refine v_iload hX eX6_friendsBefore_35 rfl ?_
        refine v_if_eq hX eX6_friendsBefore_37 (tgt := 66) rfl ⟨by omega, by omega⟩ (fun c37 => ?_) (fun c37 => False.elim ((by omega)))
        exact no (by simp [fbF, c15]) _
      · refine v_aload_n hX eX6_friendsBefore_18 rfl ?_
        refine v_iload hX eX6_friendsBefore_19 rfl ?_
        refine v_iald hX eX6_friendsBefore_21 (by first | exact ⟨by decide, rfl⟩ | exact AR_rk (by omega)) ⟨by omega, by omega⟩ ?_
        try simp only [Int.toNat_natCast, Int.toNat_zero, Int.reduceToNat]
        refine v_aload_n hX eX6_friendsBefore_22 rfl ?_
        refine v_iload_n hX eX6_friendsBefore_23 rfl ?_
        refine v_iald hX eX6_friendsBefore_24 (by first | exact ⟨by decide, rfl⟩ | exact AR_rk (by omega)) ⟨by omega, by omega⟩ ?_
        try simp only [Int.toNat_natCast, Int.toNat_zero, Int.reduceToNat]
        refine v_icmp_ne hX eX6_friendsBefore_25 (tgt := 32) rfl ⟨by omega, by omega⟩ ⟨by omega, by omega⟩ (fun c25 => ?_) (fun c25 => ?_)
        · refine v_iconst hX eX6_friendsBefore_32 ?_
          refine v_istore hX eX6_friendsBefore_33 rfl rfl ?_
          refine v_iload hX eX6_friendsBefore_35 rfl ?_
          refine v_if_eq hX eX6_friendsBefore_37 (tgt := 66) rfl ⟨by omega, by omega⟩ (fun c37 => ?_) (fun c37 => False.elim ((by omega)))
          exact no (by simp [fbF, c25]) _
        · refine v_iconst hX eX6_friendsBefore_28 ?_
          refine v_goto hX eX6_friendsBefore_29 (tgt := 33) rfl ?_
          refine v_istore hX eX6_friendsBefore_33 rfl rfl ?_
          refine v_iload hX eX6_friendsBefore_35 rfl ?_
          refine v_if_eq hX eX6_friendsBefore_37 (tgt := 66) rfl ⟨by omega, by omega⟩ (fun c37 => False.elim ((by omega))) (fun c37 => ?_)
          refine v_aload_n hX eX6_friendsBefore_40 rfl ?_
          refine v_iload hX eX6_friendsBefore_41 rfl ?_
          refine v_fnV hX eX6_friendsBefore_43 lV_X6_83 ok_MX6_isPresent ⟨by decide, rfl⟩ rfl ⟨rfl, Nat.le_of_ble_eq_true rfl⟩ (Nat.le_of_ble_eq_true rfl) (c_X6_isPresent (by omega) hE.1) rfl ?_
          try simp only [Int.toNat_natCast, Int.toNat_zero, Int.reduceToNat]
          refine v_ifB_eq hX eX6_friendsBefore_46 (tgt := 66) rfl (fun c46 => ?_) (fun c46 => ?_)
          · exact no (by simp [fbF]; intros; simp_all) _
          · refine v_aload_n hX eX6_friendsBefore_49 rfl ?_
            refine v_getA hX eX6_friendsBefore_50 fi_X6_25 ⟨by decide, rfl⟩ rfl ?_
            refine v_iload_n hX eX6_friendsBefore_53 rfl ?_
            refine v_iald hX eX6_friendsBefore_54 (by first | exact ⟨by decide, rfl⟩ | exact AR_rk (by omega)) ⟨by omega, by omega⟩ ?_
            try simp only [Int.toNat_natCast, Int.toNat_zero, Int.reduceToNat]
            refine v_iload hX eX6_friendsBefore_55 rfl ?_
            refine v_ishr hX eX6_friendsBefore_57 ?_
            refine v_iconst hX eX6_friendsBefore_58 ?_
            refine v_iand hX eX6_friendsBefore_59 ?_
            rw [bitZ h13 (by omega)]
            rw [Int.toNat_natCast]
            refine v_ifB_eq hX eX6_friendsBefore_60 (tgt := 66) rfl (fun c60 => ?_) (fun c60 => ?_)
            · exact no (by simp [fbF]; intros; simp_all) _
            · exact yes (by simp [fbF]; exact ⟨c15, c25, c46, c60⟩) _
  show VW X 0 [some (mA 2), some (mI p), some (mA 4), none, none, none] [] h
  refine v_iconst hX eX6_friendsBefore_0 ?_
  refine v_istore_n hX eX6_friendsBefore_1 rfl rfl ?_
  refine v_iconst hX eX6_friendsBefore_2 ?_
  refine v_istore hX eX6_friendsBefore_3 rfl rfl ?_
  exact loop 0 (by omega) _
set_option maxHeartbeats 2000000 in
set_option maxRecDepth 20000 in
theorem c_X6_countBetter {d : Nat} {h : Hp} (hE : ENV h) (hL : PLI h) :
    Fr (d + 12) MX6_countBetter [mA 2, mA 4] h (fun r g => r = some (mI (ext h 0 8 (h 15) (cU2 h (h 4) 8, lU h (h 4) 8, 0, h 16)).2.2.1) ∧ BG h g ∧ (∀ j, isP h j = false → g 15 j = h 15 j) ∧ SG g = ext h 0 8 (h 15) (cU2 h (h 4) 8, lU h (h 4) 8, 0, h 16)) := by
  intro Q hq X hX hR
  have c8 := cU2_rng hE (h 4) (p := 8) (by omega)
  have l8 := lU_rng hE (h 4) 8 (by omega)
  have loop : ∀ i : Nat, i ≤ 8 → VW X 10 [some (mA 2), some (mA 4), some (mL (cU2 h (h 4) i)), none, some (mL (lU h (h 4) i)), none, some (mI i)] [] h := by
    refine loop_up 8 ?_ ?_
    · refine v_iload hX eX6_countBetter_10 rfl ?_
      refine v_bipush hX eX6_countBetter_12 (by decide) ?_
      refine v_icmp_ge hX eX6_countBetter_14 (tgt := 82) rfl ⟨by omega, by omega⟩ ⟨by omega, by omega⟩ (fun c14 => ?_) (fun c14 => False.elim ((by omega)))
      refine v_aload_n hX eX6_countBetter_82 rfl ?_
      refine v_lload_n hX eX6_countBetter_83 rfl ?_
      refine v_lload hX eX6_countBetter_84 rfl ?_
      refine v_iconst hX eX6_countBetter_86 ?_
      refine v_frV hX eX6_countBetter_87 lV_X6_74 ok_MX6_begin ⟨by decide, rfl⟩ rfl ⟨rfl, Nat.le_of_ble_eq_true rfl⟩ (Nat.le_of_ble_eq_true rfl) (c_X6_begin hE (Or.inl rfl) (by omega) (by omega)) rfl ?_
      rintro r g ⟨rfl, m1, m2, m3⟩
      have e11 : g 2 11 = (ext h 0 8 (h 15) (cU2 h (h 4) 8, lU h (h 4) 8, 0, h 16)).2.2.1 := by rw [← m3]; rfl
      refine v_aload_n hX eX6_countBetter_90 rfl ?_
      refine v_getI hX eX6_countBetter_91 fi_X6_78 ⟨by decide, rfl⟩ ?_
      rw [e11]
      exact v_ireturn hX hR eX6_countBetter_94 rfl (hq _ _ ⟨rfl, m1, m2, m3⟩)
    · intro i hi ih
      have li := hL i hi
      have cf := cntF_le (fbF h (h 4) i) i
      refine v_iload hX eX6_countBetter_10 rfl ?_
      refine v_bipush hX eX6_countBetter_12 (by decide) ?_
      refine v_icmp_ge hX eX6_countBetter_14 (tgt := 82) rfl ⟨by omega, by omega⟩ ⟨by omega, by omega⟩ (fun c14 => False.elim ((by omega))) (fun c14 => ?_)
      refine v_iload hX eX6_countBetter_17 rfl ?_
      refine v_aload_n hX eX6_countBetter_19 rfl ?_
      refine v_alen hX eX6_countBetter_20 (by first | exact ⟨by decide, rfl⟩ | exact AR_rk (by omega)) ?_
      refine v_icmp_ge hX eX6_countBetter_21 (tgt := 82) rfl ⟨by omega, by omega⟩ ⟨by omega, by omega⟩ (fun c21 => False.elim ((by omega))) (fun c21 => ?_)
      refine v_aload_n hX eX6_countBetter_24 rfl ?_
      refine v_iload hX eX6_countBetter_25 rfl ?_
      refine v_fnV hX eX6_countBetter_27 lV_X6_83 ok_MX6_isPresent ⟨by decide, rfl⟩ rfl ⟨rfl, Nat.le_of_ble_eq_true rfl⟩ (Nat.le_of_ble_eq_true rfl) (c_X6_isPresent (by omega) hE.1) rfl ?_
      try simp only [Int.toNat_natCast, Int.toNat_zero, Int.reduceToNat]
      refine v_ifB_eq hX eX6_countBetter_30 (tgt := 76) rfl (fun c30 => ?_) (fun c30 => ?_)
      · rw [show cU2 h (h 4) (i + 1) = cU2 h (h 4) i from by rw [cU2, cA, prs2, if_neg c30, if_neg c30, cU2]; omega, show lU h (h 4) (i + 1) = lU h (h 4) i from by rw [lU, if_neg c30]; omega] at ih
        refine v_iinc hX eX6_countBetter_76 rfl rfl rfl ?_
        exact v_goto hX eX6_countBetter_79 (tgt := 10) rfl ih
      · refine v_lload_n hX eX6_countBetter_33 rfl ?_
        refine v_aload_n hX eX6_countBetter_34 rfl ?_
        refine v_getA hX eX6_countBetter_35 fi_X6_21 ⟨by decide, rfl⟩ rfl ?_
        refine v_iload hX eX6_countBetter_38 rfl ?_
        refine v_aload_n hX eX6_countBetter_40 rfl ?_
        refine v_iload hX eX6_countBetter_41 rfl ?_
        refine v_iald hX eX6_countBetter_43 (by first | exact ⟨by decide, rfl⟩ | exact AR_rk (by omega)) ⟨by omega, by omega⟩ ?_
        try simp only [Int.toNat_natCast, Int.toNat_zero, Int.reduceToNat]
        refine v_fnV hX eX6_countBetter_44 lV_X6_87 ok_MX5_costOf ⟨by decide, rfl⟩ rfl ⟨rfl, Nat.le_of_ble_eq_true rfl⟩ (Nat.le_of_ble_eq_true rfl) (c_X5_costOf (by omega) ⟨by omega, by omega⟩) rfl ?_
        try simp only [Int.toNat_natCast, Int.toNat_zero, Int.reduceToNat]
        refine v_aload_n hX eX6_countBetter_47 rfl ?_
        refine v_iload hX eX6_countBetter_48 rfl ?_
        refine v_aload_n hX eX6_countBetter_50 rfl ?_
        refine v_fnV hX eX6_countBetter_51 lV_X6_91 ok_MX6_friendsBefore ⟨by decide, rfl⟩ rfl ⟨rfl, Nat.le_of_ble_eq_true rfl⟩ (Nat.le_of_ble_eq_true rfl) (c_X6_friendsBefore (by omega) hL hE) rfl ?_
        try simp only [Int.toNat_natCast, Int.toNat_zero, Int.reduceToNat]
        refine v_i2l hX eX6_countBetter_54 ⟨by omega, by omega⟩ ?_
        refine v_lsub hX eX6_countBetter_55 ?_
        refine v_ladd hX eX6_countBetter_56 ?_
        refine v_lstore_n hX eX6_countBetter_57 rfl rfl ?_
        refine v_lload hX eX6_countBetter_58 rfl ?_
        refine v_aload_n hX eX6_countBetter_60 rfl ?_
        refine v_getA hX eX6_countBetter_61 fi_X6_21 ⟨by decide, rfl⟩ rfl ?_
        refine v_iload hX eX6_countBetter_64 rfl ?_
        refine v_aload_n hX eX6_countBetter_66 rfl ?_
        refine v_iload hX eX6_countBetter_67 rfl ?_
        refine v_iald hX eX6_countBetter_69 (by first | exact ⟨by decide, rfl⟩ | exact AR_rk (by omega)) ⟨by omega, by omega⟩ ?_
        try simp only [Int.toNat_natCast, Int.toNat_zero, Int.reduceToNat]
        refine v_fnV hX eX6_countBetter_70 lV_X6_95 ok_MX5_digitOf ⟨by decide, rfl⟩ rfl ⟨rfl, Nat.le_of_ble_eq_true rfl⟩ (Nat.le_of_ble_eq_true rfl) (c_X5_digitOf (by omega) ⟨by omega, by omega⟩) rfl ?_
        try simp only [Int.toNat_natCast, Int.toNat_zero, Int.reduceToNat]
        refine v_ladd hX eX6_countBetter_73 ?_
        refine v_lstore hX eX6_countBetter_74 rfl rfl ?_
        rw [show cU2 h (h 4) (i + 1) = cU2 h (h 4) i + (h 19 ((i : Int) * 6 + colI (h 4 i)).toNat - (cntF (fbF h (h 4) i) i : Nat)) from by rw [cU2, cA, prs2, if_pos c30, if_pos c30, cU2, ixC]; omega, show lU h (h 4) (i + 1) = lU h (h 4) i + h 20 ((i : Int) * 6 + colI (h 4 i)).toNat from by rw [lU, if_pos c30, ixC]] at ih
        refine v_iinc hX eX6_countBetter_76 rfl rfl rfl ?_
        exact v_goto hX eX6_countBetter_79 (tgt := 10) rfl ih
  have l0 := loop 0 (by omega)
  show VW X 0 [some (mA 2), some (mA 4), none, none, none, none, none] [] h
  refine v_ldc2 (z := 28) hX eX6_countBetter_0 k_X6_81 (by decide) ?_
  refine v_lstore_n hX eX6_countBetter_3 rfl rfl ?_
  refine v_lconst (z := 0) hX eX6_countBetter_4 (by decide) ?_
  refine v_lstore hX eX6_countBetter_5 rfl rfl ?_
  refine v_iconst hX eX6_countBetter_7 ?_
  refine v_istore hX eX6_countBetter_8 rfl rfl ?_
  exact l0
set_option maxHeartbeats 2000000 in
set_option maxRecDepth 20000 in
theorem c_X6_foundFor {d : Nat} {h : Hp} {p : Int} (hp : 0 ≤ p ∧ p < 8) : Fn d MX6_foundFor [mA 2, mI p] h (some (mI (h 16 p.toNat))) h := by
  intro Q hq X hX hR
  show VW X 0 [some (mA 2), some (mI p)] [] h
  refine v_iload_n hX eX6_foundFor_0 rfl ?_
  refine v_if_lt hX eX6_foundFor_1 (tgt := 13) rfl ⟨by omega, by omega⟩ (fun c1 => False.elim ((by omega))) (fun c1 => ?_)
  refine v_iload_n hX eX6_foundFor_4 rfl ?_
  refine v_aload_n hX eX6_foundFor_5 rfl ?_
  refine v_getA hX eX6_foundFor_6 fi_X6_35 ⟨by decide, rfl⟩ rfl ?_
  refine v_alen hX eX6_foundFor_9 (by first | exact ⟨by decide, rfl⟩ | exact AR_rk (by omega)) ?_
  refine v_icmp_lt hX eX6_foundFor_10 (tgt := 17) rfl ⟨by omega, by omega⟩ ⟨by omega, by omega⟩ (fun c10 => ?_) (fun c10 => False.elim ((by omega)))
  refine v_aload_n hX eX6_foundFor_17 rfl ?_
  refine v_getA hX eX6_foundFor_18 fi_X6_35 ⟨by decide, rfl⟩ rfl ?_
  refine v_iload_n hX eX6_foundFor_21 rfl ?_
  refine v_iald hX eX6_foundFor_22 (by first | exact ⟨by decide, rfl⟩ | exact AR_rk (by omega)) ⟨by omega, by omega⟩ ?_
  try simp only [Int.toNat_natCast, Int.toNat_zero, Int.reduceToNat]
  exact v_ireturn hX hR eX6_foundFor_23 rfl (hq)
theorem cpyH_s {h : Hp} {i : Nat} : up (cpyH h 16 4 i) 4 i (h 16 i) = cpyH h 16 4 (i + 1) := by
  funext a b
  simp only [up, cpyH]
  by_cases ha : a = 4
  · subst ha
    by_cases hb : b = i
    · simp [hb]
    · have : (b < i + 1) ↔ b < i := by omega
      simp [hb, this]
  · simp [ha]
set_option maxHeartbeats 2000000 in
set_option maxRecDepth 20000 in
theorem c_X6_copyFound {d : Nat} {h : Hp} : Fn d MX6_copyFound [mA 2, mA 4] h none (cpyH h 16 4 8) := by
  intro Q hq X hX hR
  have loop : ∀ i : Nat, i ≤ 8 → VW X 2 [some (mA 2), some (mA 4), some (mI i)] [] (cpyH h 16 4 i) := by
    refine loop_up 8 ?_ ?_
    · refine v_iload_n hX eX6_copyFound_2 rfl ?_
      refine v_aload_n hX eX6_copyFound_3 rfl ?_
      refine v_getA hX eX6_copyFound_4 fi_X6_35 ⟨by decide, rfl⟩ rfl ?_
      refine v_alen hX eX6_copyFound_7 (by first | exact ⟨by decide, rfl⟩ | exact AR_rk (by omega)) ?_
      refine v_icmp_ge hX eX6_copyFound_8 (tgt := 32) rfl ⟨by omega, by omega⟩ ⟨by omega, by omega⟩ (fun c8 => ?_) (fun c8 => False.elim ((by omega)))
      exact v_return hX hR eX6_copyFound_32 rfl (hq)
    · intro i hi ih
      have e16 : cpyH h 16 4 i 16 i = h 16 i := by simp [cpyH]
      refine v_iload_n hX eX6_copyFound_2 rfl ?_
      refine v_aload_n hX eX6_copyFound_3 rfl ?_
      refine v_getA hX eX6_copyFound_4 fi_X6_35 ⟨by decide, rfl⟩ rfl ?_
      refine v_alen hX eX6_copyFound_7 (by first | exact ⟨by decide, rfl⟩ | exact AR_rk (by omega)) ?_
      refine v_icmp_ge hX eX6_copyFound_8 (tgt := 32) rfl ⟨by omega, by omega⟩ ⟨by omega, by omega⟩ (fun c8 => False.elim ((by omega))) (fun c8 => ?_)
      refine v_iload_n hX eX6_copyFound_11 rfl ?_
      refine v_aload_n hX eX6_copyFound_12 rfl ?_
      refine v_alen hX eX6_copyFound_13 (by first | exact ⟨by decide, rfl⟩ | exact AR_rk (by omega)) ?_
      refine v_icmp_ge hX eX6_copyFound_14 (tgt := 32) rfl ⟨by omega, by omega⟩ ⟨by omega, by omega⟩ (fun c14 => False.elim ((by omega))) (fun c14 => ?_)
      refine v_aload_n hX eX6_copyFound_17 rfl ?_
      refine v_iload_n hX eX6_copyFound_18 rfl ?_
      refine v_aload_n hX eX6_copyFound_19 rfl ?_
      refine v_getA hX eX6_copyFound_20 fi_X6_35 ⟨by decide, rfl⟩ rfl ?_
      refine v_iload_n hX eX6_copyFound_23 rfl ?_
      refine v_iald hX eX6_copyFound_24 (by first | exact ⟨by decide, rfl⟩ | exact AR_rk (by omega)) ⟨by omega, by omega⟩ ?_
      try simp only [Int.toNat_natCast, Int.toNat_zero, Int.reduceToNat]
      rw [e16]
      refine v_iast hX eX6_copyFound_25 (by first | exact ⟨by decide, rfl⟩ | exact AR_rk (by omega)) ⟨by omega, by omega⟩ ?_
      try simp only [Int.toNat_natCast, Int.toNat_zero, Int.reduceToNat]
      rw [cpyH_s]
      refine v_iinc hX eX6_copyFound_26 rfl rfl rfl ?_
      refine v_goto hX eX6_copyFound_29 (tgt := 2) rfl ?_
      exact ih
  have l0 := loop 0 (by omega)
  rw [show cpyH h 16 4 0 = h from by funext a x; simp [cpyH]] at l0
  show VW X 0 [some (mA 2), some (mA 4), none] [] h
  refine v_iconst hX eX6_copyFound_0 ?_
  refine v_istore_n hX eX6_copyFound_1 rfl rfl ?_
  exact l0
def mvF (h : Hp) : Nat → Bool := fun p => isP h p && (decide (h 4 p ≠ -1) && decide (h 4 p ≠ h 16 p))
set_option maxHeartbeats 2000000 in
set_option maxRecDepth 20000 in
theorem c_X6_movedFrom {d : Nat} {h : Hp} (hb : 0 ≤ h 2 6 ∧ h 2 6 ≤ 255) (hL : PLI h) (hf : ∀ p, p < 8 → rng (h 16 p)) : Fn (d + 1) MX6_movedFrom [mA 2, mA 4] h (some (mI (cntF (mvF h) 8 : Nat))) h := by
  intro Q hq X hX hR
  have loop : ∀ i : Nat, i ≤ 8 → VW X 4 [some (mA 2), some (mA 4), some (mI (cntF (mvF h) i : Nat)), some (mI i)] [] h := by
    refine loop_up 8 ?_ ?_
    · refine v_iload_n hX eX6_movedFrom_4 rfl ?_
      refine v_aload_n hX eX6_movedFrom_5 rfl ?_
      refine v_getA hX eX6_movedFrom_6 fi_X6_35 ⟨by decide, rfl⟩ rfl ?_
      refine v_alen hX eX6_movedFrom_9 (by first | exact ⟨by decide, rfl⟩ | exact AR_rk (by omega)) ?_
      refine v_icmp_ge hX eX6_movedFrom_10 (tgt := 55) rfl ⟨by omega, by omega⟩ ⟨by omega, by omega⟩ (fun c10 => ?_) (fun c10 => False.elim ((by omega)))
      refine v_iload_n hX eX6_movedFrom_55 rfl ?_
      exact v_ireturn hX hR eX6_movedFrom_56 rfl (hq)
    · intro i hi ih
      have li := hL i hi
      have fi := hf i hi
      have no : mvF h i = false → VW X 49 [some (mA 2), some (mA 4), some (mI (cntF (mvF h) i : Nat)), some (mI i)] [] h := by
        intro hf
        rw [cntF, hf] at ih
        refine v_iinc hX eX6_movedFrom_49 rfl rfl rfl ?_
        exact v_goto hX eX6_movedFrom_52 (tgt := 4) rfl ih
      refine v_iload_n hX eX6_movedFrom_4 rfl ?_
      refine v_aload_n hX eX6_movedFrom_5 rfl ?_
      refine v_getA hX eX6_movedFrom_6 fi_X6_35 ⟨by decide, rfl⟩ rfl ?_
      refine v_alen hX eX6_movedFrom_9 (by first | exact ⟨by decide, rfl⟩ | exact AR_rk (by omega)) ?_
      refine v_icmp_ge hX eX6_movedFrom_10 (tgt := 55) rfl ⟨by omega, by omega⟩ ⟨by omega, by omega⟩ (fun c10 => False.elim ((by omega))) (fun c10 => ?_)
      refine v_iload_n hX eX6_movedFrom_13 rfl ?_
      refine v_aload_n hX eX6_movedFrom_14 rfl ?_
      refine v_alen hX eX6_movedFrom_15 (by first | exact ⟨by decide, rfl⟩ | exact AR_rk (by omega)) ?_
      refine v_icmp_ge hX eX6_movedFrom_16 (tgt := 55) rfl ⟨by omega, by omega⟩ ⟨by omega, by omega⟩ (fun c16 => False.elim ((by omega))) (fun c16 => ?_)
      refine v_aload_n hX eX6_movedFrom_19 rfl ?_
      refine v_iload_n hX eX6_movedFrom_20 rfl ?_
      refine v_fnV hX eX6_movedFrom_21 lV_X6_83 ok_MX6_isPresent ⟨by decide, rfl⟩ rfl ⟨rfl, Nat.le_of_ble_eq_true rfl⟩ (Nat.le_of_ble_eq_true rfl) (c_X6_isPresent (by omega) hb) rfl ?_
      try simp only [Int.toNat_natCast, Int.toNat_zero, Int.reduceToNat]
      refine v_ifB_eq hX eX6_movedFrom_24 (tgt := 49) rfl (fun c24 => ?_) (fun c24 => ?_)
      · exact no (by simp [mvF]; intros; simp_all)
      · refine v_aload_n hX eX6_movedFrom_27 rfl ?_
        refine v_iload_n hX eX6_movedFrom_28 rfl ?_
        refine v_iald hX eX6_movedFrom_29 (by first | exact ⟨by decide, rfl⟩ | exact AR_rk (by omega)) ⟨by omega, by omega⟩ ?_
        try simp only [Int.toNat_natCast, Int.toNat_zero, Int.reduceToNat]
        refine v_iconst hX eX6_movedFrom_30 ?_
        refine v_icmp_eq hX eX6_movedFrom_31 (tgt := 49) rfl ⟨by omega, by omega⟩ ⟨by omega, by omega⟩ (fun c31 => ?_) (fun c31 => ?_)
        · exact no (by simp [mvF]; intros; simp_all)
        · refine v_aload_n hX eX6_movedFrom_34 rfl ?_
          refine v_iload_n hX eX6_movedFrom_35 rfl ?_
          refine v_iald hX eX6_movedFrom_36 (by first | exact ⟨by decide, rfl⟩ | exact AR_rk (by omega)) ⟨by omega, by omega⟩ ?_
          try simp only [Int.toNat_natCast, Int.toNat_zero, Int.reduceToNat]
          refine v_aload_n hX eX6_movedFrom_37 rfl ?_
          refine v_getA hX eX6_movedFrom_38 fi_X6_35 ⟨by decide, rfl⟩ rfl ?_
          refine v_iload_n hX eX6_movedFrom_41 rfl ?_
          refine v_iald hX eX6_movedFrom_42 (by first | exact ⟨by decide, rfl⟩ | exact AR_rk (by omega)) ⟨by omega, by omega⟩ ?_
          try simp only [Int.toNat_natCast, Int.toNat_zero, Int.reduceToNat]
          refine v_icmp_eq hX eX6_movedFrom_43 (tgt := 49) rfl ⟨by omega, by omega⟩ ⟨by omega, by omega⟩ (fun c43 => ?_) (fun c43 => ?_)
          · exact no (by simp [mvF]; intros; simp_all)
          · refine v_iinc hX eX6_movedFrom_46 rfl rfl rfl ?_
            rw [cntF, if_pos (show mvF h i = true from by simp [mvF]; exact ⟨c24, c31, c43⟩)] at ih
            refine v_iinc hX eX6_movedFrom_49 rfl rfl rfl ?_
            exact v_goto hX eX6_movedFrom_52 (tgt := 4) rfl ih
  show VW X 0 [some (mA 2), some (mA 4), none, none] [] h
  refine v_iconst hX eX6_movedFrom_0 ?_
  refine v_istore_n hX eX6_movedFrom_1 rfl rfl ?_
  refine v_iconst hX eX6_movedFrom_2 ?_
  refine v_istore_n hX eX6_movedFrom_3 rfl rfl ?_
  exact loop 0 (by omega)
end
section
/-! Search.prepare -/
noncomputable def P0 (h : Hp) : Hp := up (up (SFn (FGi h 0) (h 1 3).toNat) 2 6 (bs (prF h) (h 1 3).toNat : Nat)) 2 7 (h 1 4)
noncomputable def PRi (h : Hp) (i : Nat) : Hp := fun a b => if a = 13 ∧ b < i then (if b < (h 1 3).toNat then h (23 + b) 4 else 0) else if a = 15 ∧ b < i then -1 else P0 h a b
noncomputable def PRH (h : Hp) : Hp := PRi h 8
theorem P0_ne {h : Hp} {a : Nat} (h2 : a ≠ 2) (h3 : a ≠ 17) (h4 : a ≠ 18) (h5 : a ≠ 19) (h6 : a ≠ 20) : P0 h a = h a := by
  unfold P0
  rw [up_obf h2, up_obf h2, SFn_ne h5 h6, FGi_ne h3 h4]
theorem PRi_ne {h : Hp} {i a : Nat} (h0 : a ≠ 13) (h1 : a ≠ 15) (h2 : a ≠ 2) (h3 : a ≠ 17) (h4 : a ≠ 18) (h5 : a ≠ 19) (h6 : a ≠ 20) : PRi h i a = h a := by
  funext b
  unfold PRi
  rw [if_neg (fun z => h0 z.1), if_neg (fun z => h1 z.1), P0_ne h2 h3 h4 h5 h6]
theorem PRi_RE {h : Hp} {i : Nat} : RE h (PRi h i) := RE.of (fun k hk => PRi_ne (by omega) (by omega) (by omega) (by omega) (by omega) (by omega) (by omega))
theorem PRi_s {h : Hp} {i : Nat} : up (up (PRi h i) 13 i (if i < (h 1 3).toNat then h (23 + i) 4 else 0)) 15 i (-1) = PRi h (i + 1) := by
  funext a b
  simp only [up, PRi]
  by_cases hb : b = i
  · subst hb
    by_cases a1 : a = 15
    · subst a1; simp
    · by_cases a2 : a = 13
      · subst a2; simp
      · simp [a1, a2]
  · have : (b < i + 1) ↔ b < i := by omega
    simp [hb, this]
theorem plc_RE {h g : Hp} (e : RE h g) (p : Nat) : plc g p = plc h p := by
  unfold plc
  rw [e.2.1, e.1]
theorem prF_RE {h g : Hp} (e : RE h g) : prF g = prF h := by
  funext p
  simp only [prF, e.2.2.1]
set_option maxHeartbeats 2000000 in
set_option maxRecDepth 20000 in
theorem c_X6_prepare {d : Nat} {h : Hp} (hI : RI h) (hP : ∀ p, p < (h 1 3).toNat → 0 ≤ plc h p ∧ plc h p ≤ 7) : Fn (d + 5) MX6_prepare [mA 2, mA 1] h none (PRH h) := by
  intro Q hq X hX hR
  have hn := hI.n
  have e1 : FGi h 0 1 3 = h 1 3 := by rw [FGi_ne (by decide) (by decide)]
  have e2 : SFn (FGi h 0) (h 1 3).toNat 1 = h 1 := by rw [SFn_ne (by decide) (by decide), FGi_ne (by decide) (by decide)]
  have re2 : RE h (SFn (FGi h 0) (h 1 3).toNat) := RE.of (fun k hk => by rw [SFn_ne (by omega) (by omega), FGi_ne (by omega) (by omega)])
  have loop : ∀ i : Nat, i ≤ 8 → ∀ l3, VW X 34 [some (mA 2), some (mA 1), some (mI i), l3] [] (PRi h i) := by
    refine loop_up 8 ?_ ?_
    · intro l3
      refine v_iload_n hX eX6_prepare_34 rfl ?_
      refine v_bipush hX eX6_prepare_35 (by decide) ?_
      refine v_icmp_ge hX eX6_prepare_37 (tgt := 77) rfl ⟨by omega, by omega⟩ ⟨by omega, by omega⟩ (fun c37 => ?_) (fun c37 => False.elim ((by omega)))
      exact v_return hX hR eX6_prepare_77 rfl (hq)
    · intro i hi ih l3
      have hI2 : RI (PRi h i) := PRi_RE.ri hI
      have n2 : PRi h i 1 3 = h 1 3 := by rw [PRi_RE.1]
      have s := PRi_s (h := h) (i := i)
      by_cases hin : i < (h 1 3).toNat
      · rw [if_pos hin] at s
        refine v_iload_n hX eX6_prepare_34 rfl ?_
        refine v_bipush hX eX6_prepare_35 (by decide) ?_
        refine v_icmp_ge hX eX6_prepare_37 (tgt := 77) rfl ⟨by omega, by omega⟩ ⟨by omega, by omega⟩ (fun c37 => False.elim ((by omega))) (fun c37 => ?_)
        refine v_aload_n hX eX6_prepare_40 rfl ?_
        refine v_iload_n hX eX6_prepare_41 rfl ?_
        refine v_fnV hX eX6_prepare_42 lV_X6_56 ok_MX4_pupilOf ⟨by decide, rfl⟩ rfl ⟨rfl, Nat.le_of_ble_eq_true rfl⟩ (Nat.le_of_ble_eq_true rfl) (c_X4_pupilOf hI2 ⟨by omega, by rw [n2]; omega⟩) rfl ?_
        try simp only [Int.toNat_natCast, Int.toNat_zero, Int.reduceToNat]
        refine v_astore_n hX eX6_prepare_45 rfl rfl ?_
        refine v_aload_n hX eX6_prepare_46 rfl ?_
        refine v_getA hX eX6_prepare_47 fi_X6_25 ⟨by decide, rfl⟩ rfl ?_
        refine v_iload_n hX eX6_prepare_50 rfl ?_
        refine v_aload_n hX eX6_prepare_51 rfl ?_
        refine v_ifnonnull hX eX6_prepare_52 (tgt := 59) rfl ?_
        refine v_aload_n hX eX6_prepare_59 rfl ?_
        refine v_getI hX eX6_prepare_60 fi_X6_60 (OB_pu (by omega)) ?_
        rw [PRi_RE.2.2.1]
        refine v_iast hX eX6_prepare_63 (by first | exact ⟨by decide, rfl⟩ | exact AR_rk (by omega)) ⟨by omega, by omega⟩ ?_
        try simp only [Int.toNat_natCast, Int.toNat_zero, Int.reduceToNat]
        refine v_aload_n hX eX6_prepare_64 rfl ?_
        refine v_getA hX eX6_prepare_65 fi_X6_32 ⟨by decide, rfl⟩ rfl ?_
        refine v_iload_n hX eX6_prepare_68 rfl ?_
        refine v_iconst hX eX6_prepare_69 ?_
        refine v_iast hX eX6_prepare_70 (by first | exact ⟨by decide, rfl⟩ | exact AR_rk (by omega)) ⟨by omega, by omega⟩ ?_
        try simp only [Int.toNat_natCast, Int.toNat_zero, Int.reduceToNat]
        rw [s]
        refine v_iinc hX eX6_prepare_71 rfl rfl rfl ?_
        refine v_goto hX eX6_prepare_74 (tgt := 34) rfl ?_
        exact ih _
      · rw [if_neg hin] at s
        refine v_iload_n hX eX6_prepare_34 rfl ?_
        refine v_bipush hX eX6_prepare_35 (by decide) ?_
        refine v_icmp_ge hX eX6_prepare_37 (tgt := 77) rfl ⟨by omega, by omega⟩ ⟨by omega, by omega⟩ (fun c37 => False.elim ((by omega))) (fun c37 => ?_)
        refine v_aload_n hX eX6_prepare_40 rfl ?_
        refine v_iload_n hX eX6_prepare_41 rfl ?_
        refine v_fnV hX eX6_prepare_42 lV_X6_56 ok_MX4_pupilOf ⟨by decide, rfl⟩ rfl ⟨rfl, Nat.le_of_ble_eq_true rfl⟩ (Nat.le_of_ble_eq_true rfl) (c_X4_pupilOf_N hI2 ⟨by omega, by omega⟩ (fun z => by have := z.2; rw [n2] at this; omega)) rfl ?_
        try simp only [Int.toNat_natCast, Int.toNat_zero, Int.reduceToNat]
        refine v_astore_nN hX eX6_prepare_45 rfl rfl ?_
        refine v_aload_n hX eX6_prepare_46 rfl ?_
        refine v_getA hX eX6_prepare_47 fi_X6_25 ⟨by decide, rfl⟩ rfl ?_
        refine v_iload_n hX eX6_prepare_50 rfl ?_
        refine v_aload_nN hX eX6_prepare_51 rfl ?_
        refine v_ifnonnullN hX eX6_prepare_52 ?_
        refine v_iconst hX eX6_prepare_55 ?_
        refine v_goto hX eX6_prepare_56 (tgt := 63) rfl ?_
        refine v_iast hX eX6_prepare_63 (by first | exact ⟨by decide, rfl⟩ | exact AR_rk (by omega)) ⟨by omega, by omega⟩ ?_
        try simp only [Int.toNat_natCast, Int.toNat_zero, Int.reduceToNat]
        refine v_aload_n hX eX6_prepare_64 rfl ?_
        refine v_getA hX eX6_prepare_65 fi_X6_32 ⟨by decide, rfl⟩ rfl ?_
        refine v_iload_n hX eX6_prepare_68 rfl ?_
        refine v_iconst hX eX6_prepare_69 ?_
        refine v_iast hX eX6_prepare_70 (by first | exact ⟨by decide, rfl⟩ | exact AR_rk (by omega)) ⟨by omega, by omega⟩ ?_
        try simp only [Int.toNat_natCast, Int.toNat_zero, Int.reduceToNat]
        rw [s]
        refine v_iinc hX eX6_prepare_71 rfl rfl rfl ?_
        refine v_goto hX eX6_prepare_74 (tgt := 34) rfl ?_
        exact ih _
  have l0 := loop 0 (by omega) none
  rw [show PRi h 0 = P0 h from by funext a b; simp [PRi]] at l0
  show VW X 0 [some (mA 2), some (mA 1), none, none] [] h
  refine v_aload_n hX eX6_prepare_0 rfl ?_
  refine v_getA hX eX6_prepare_1 fi_X6_12 ⟨by decide, rfl⟩ rfl ?_
  refine v_aload_n hX eX6_prepare_4 rfl ?_
  refine v_fnV0 hX eX6_prepare_5 lV_X6_38 ok_MX0_fill ⟨by decide, rfl⟩ rfl ⟨rfl, Nat.le_of_ble_eq_true rfl⟩ (Nat.le_of_ble_eq_true rfl) (c_X0_fill hI) rfl ?_
  try simp only [Int.toNat_natCast, Int.toNat_zero, Int.reduceToNat]
  refine v_aload_n hX eX6_prepare_8 rfl ?_
  refine v_getA hX eX6_prepare_9 fi_X6_21 ⟨by decide, rfl⟩ rfl ?_
  refine v_aload_n hX eX6_prepare_12 rfl ?_
  refine v_fnV0 hX eX6_prepare_13 lV_X6_42 ok_MX5_fill ⟨by decide, rfl⟩ rfl ⟨rfl, Nat.le_of_ble_eq_true rfl⟩ (Nat.le_of_ble_eq_true rfl) (c_X5_fill (FGi_RE.ri hI) (fun p hp => by rw [plc_RE FGi_RE]; rw [e1] at hp; exact hP p hp)) rfl ?_
  try simp only [Int.toNat_natCast, Int.toNat_zero, Int.reduceToNat]
  rw [e1]
  refine v_aload_n hX eX6_prepare_16 rfl ?_
  refine v_aload_n hX eX6_prepare_17 rfl ?_
  refine v_fnV hX eX6_prepare_18 lV_X6_43 ok_MX4_presentBits ⟨by decide, rfl⟩ rfl ⟨rfl, Nat.le_of_ble_eq_true rfl⟩ (Nat.le_of_ble_eq_true rfl) (c_X4_presentBits (re2.ri hI)) rfl ?_
  try simp only [Int.toNat_natCast, Int.toNat_zero, Int.reduceToNat]
  rw [prF_RE re2, e2]
  refine v_putI hX eX6_prepare_21 fi_X6_49 ⟨by decide, rfl⟩ ?_
  refine v_aload_n hX eX6_prepare_24 rfl ?_
  refine v_aload_n hX eX6_prepare_25 rfl ?_
  refine v_getI hX eX6_prepare_26 fi_X6_52 ⟨by decide, rfl⟩ ?_
  rw [up_ob (by decide), e2]
  refine v_putI hX eX6_prepare_29 fi_X6_55 ⟨by decide, rfl⟩ ?_
  refine v_iconst hX eX6_prepare_32 ?_
  refine v_istore_n hX eX6_prepare_33 rfl rfl ?_
  exact l0
/-! what it leaves behind -/
def SCI (h : Hp) : Prop := ∀ i, i < 48 → 0 ≤ h 19 i ∧ h 19 i ≤ 4398046511104 ∧ h 19 i % 32 = 0 ∧ 0 ≤ h 20 i ∧ h 20 i ≤ 4503599627370496
theorem cstV_rng {r s : Int} (hr : 0 ≤ r ∧ r ≤ 6) (hs : 0 ≤ s ∧ s ≤ 300) : 0 ≤ cstV r s ∧ cstV r s ≤ 137438953472 ∧ cstV r s % 32 = 0 := by
  have hm := cst_mul hr hs
  unfold cstV
  rcases (show r = 0 ∨ r = 1 ∨ r = 2 ∨ r = 3 ∨ r = 4 ∨ r = 5 ∨ r = 6 by omega) with rfl | rfl | rfl | rfl | rfl | rfl | rfl
  · rw [if_pos (by decide)]; omega
  · rw [if_pos (by decide)]; omega
  · rw [if_neg (by decide), show ((2 ^ (20 + 4 * ((2 : Int) - 2).toNat) : Nat) : Int) = 1048576 from by decide]; omega
  · rw [if_neg (by decide), show ((2 ^ (20 + 4 * ((3 : Int) - 2).toNat) : Nat) : Int) = 16777216 from by decide]; omega
  · rw [if_neg (by decide), show ((2 ^ (20 + 4 * ((4 : Int) - 2).toNat) : Nat) : Int) = 268435456 from by decide]; omega
  · rw [if_neg (by decide), show ((2 ^ (20 + 4 * ((5 : Int) - 2).toNat) : Nat) : Int) = 4294967296 from by decide]; omega
  · rw [if_neg (by decide), show ((2 ^ (20 + 4 * ((6 : Int) - 2).toNat) : Nat) : Int) = 68719476736 from by decide]; omega
theorem digV_rng {r c pl : Int} (hr : 0 ≤ r ∧ r ≤ 6) (hc : 0 ≤ c ∧ c ≤ 5) : 0 ≤ digV r c pl ∧ digV r c pl ≤ 4503599627370496 := by
  have hk : 2 ^ (6 * (7 - pl.toNat)) ≤ 2 ^ 42 := pw2 (by omega)
  have h1 : (0 : Int) ≤ ((2 ^ (6 * (7 - pl.toNat)) : Nat) : Int) := Int.natCast_nonneg _
  have h2 : ((2 ^ (6 * (7 - pl.toNat)) : Nat) : Int) ≤ 4398046511104 := by omega
  unfold digV
  constructor
  · exact Int.mul_nonneg (by omega) h1
  · have := Int.mul_le_mul (show r * 8 + c ≤ 53 by omega) h2 h1 (by decide)
    omega
theorem rkc_rng {h : Hp} (hI : RI h) {p c : Nat} (hp : p < 8) : 0 ≤ rkc h (31 + p) c ∧ rkc h (31 + p) c ≤ 6 := by
  unfold rkc
  split
  · rename_i hc
    have := (hI.pu hp).2.2.2.2.2.2 c hc
    omega
  · decide
theorem PRH_17 {h : Hp} {x : Nat} (hx : x < 256) : PRH h 17 x = (fitN h x : Nat) := by
  unfold PRH PRi P0
  rw [if_neg (by omega), if_neg (by omega), up_ob (by decide), up_ob (by decide), SFn_ne (by decide) (by decide), FGi, if_pos ⟨rfl, Nat.zero_le _, hx⟩]
theorem PRH_18 {h : Hp} {x : Nat} (hx : x < 256) : PRH h 18 x = (opnN h x : Nat) := by
  unfold PRH PRi P0
  rw [if_neg (by omega), if_neg (by omega), up_ob (by decide), up_ob (by decide), SFn_ne (by decide) (by decide), FGi, if_neg (by omega), if_pos ⟨rfl, Nat.zero_le _, hx⟩]
theorem PRH_19 {h : Hp} {i : Nat} : PRH h 19 i = if i < 6 * (h 1 3).toNat then csC h (i / 6) (i % 6) else h 19 i := by
  unfold PRH PRi P0
  rw [if_neg (by omega), if_neg (by omega), up_ob (by decide), up_ob (by decide), SFn]
  split
  · rename_i z
    rw [if_pos z.2]
    unfold csC rkc
    rw [FGi_ne (by omega) (by omega), FGi_ne (by omega) (by omega)]
  · rename_i z
    rw [if_neg (by omega), if_neg (by omega), FGi_ne (by decide) (by decide)]
theorem PRH_20 {h : Hp} {i : Nat} : PRH h 20 i = if i < 6 * (h 1 3).toNat then dgC h (i / 6) (i % 6) else h 20 i := by
  unfold PRH PRi P0
  rw [if_neg (by omega), if_neg (by omega), up_ob (by decide), up_ob (by decide), SFn, if_neg (by omega)]
  split
  · rename_i z
    rw [if_pos z.2]
    unfold dgC rkc
    rw [FGi_ne (by omega) (by omega), plc_RE FGi_RE]
  · rename_i z
    rw [if_neg (by omega), FGi_ne (by decide) (by decide)]
theorem PRH_26 {h : Hp} : PRH h 2 6 = (bs (prF h) (h 1 3).toNat : Nat) := by
  unfold PRH PRi P0
  rw [if_neg (by omega), if_neg (by omega), up_ne (by decide), up_same]
theorem PRH_27 {h : Hp} : PRH h 2 7 = h 1 4 := by
  unfold PRH PRi P0
  rw [if_neg (by omega), if_neg (by omega), up_same]
theorem PRH_2 {h : Hp} {j : Nat} (h6 : j ≠ 6) (h7 : j ≠ 7) : PRH h 2 j = h 2 j := by
  unfold PRH PRi P0
  rw [if_neg (by omega), if_neg (by omega), up_ne (by omega), up_ne (by omega), SFn_ne (by decide) (by decide), FGi_ne (by decide) (by decide)]
theorem PRH_13 {h : Hp} {j : Nat} (hj : j < 8) : PRH h 13 j = if j < (h 1 3).toNat then h (23 + j) 4 else 0 := by
  unfold PRH PRi
  rw [if_pos ⟨rfl, hj⟩]
theorem PRH_15 {h : Hp} {j : Nat} (hj : j < 8) : PRH h 15 j = -1 := by
  unfold PRH PRi
  rw [if_neg (by omega), if_pos ⟨rfl, hj⟩]
theorem PRH_isP {h : Hp} (j : Nat) : isP (PRH h) j = (decide (j < (h 1 3).toNat) && prF h j) := by
  unfold isP
  rw [PRH_26, Int.toNat_natCast, bs_bit]
theorem PRH_ENV {h : Hp} (hI : RI h) (hS : SCI h) : ENV (PRH h) := by
  have hn := hI.n
  have hbl : bs (prF h) (h 1 3).toNat < 256 := bs_lt8 _ (by omega)
  refine ⟨by rw [PRH_26]; omega, by rw [PRH_27]; exact hI.q, fun i hi => ?_, fun j hj => ?_, fun x hx => ?_, fun x y q hx hy hs hf => ?_⟩
  · have h0 := hS i hi
    rw [PRH_19, PRH_20]
    split
    · rename_i hin
      have hr := rkc_rng hI (p := i / 6) (c := i % 6) (by omega)
      have hs := (hI.pu (p := i / 6) (by omega)).2.2.1
      have c := cstV_rng hr hs
      have g := digV_rng (pl := plc h (i / 6)) hr (c := ((i % 6 : Nat) : Int)) (by omega)
      unfold csC dgC
      omega
    · exact h0
  · rw [PRH_13 hj]
    split
    · exact (hI.pu hj).2.2.2.1
    · decide
  · rw [PRH_17 hx, PRH_18 hx]
    have := fitN_lt hI x
    have := opnN_lt (h := h) x
    omega
  · rw [PRH_17 hy, Int.toNat_natCast] at hf
    rw [PRH_18 hx, Int.toNat_natCast, opnN, bs_bit]
    have hq5 : q < 5 := Classical.byContradiction (fun z => by
      rw [Nat.testBit_lt_two_pow (Nat.lt_of_lt_of_le (fitN_lt hI y) (show 2 ^ 5 ≤ 2 ^ q from pw2 (by omega)))] at hf
      cases hf)
    simp only [hq5, decide_true, Bool.true_and]
    exact pb_iff.mpr ⟨y, hy, hs, hf⟩
set_option maxHeartbeats 2000000 in
set_option maxRecDepth 20000 in
theorem c_X6_tellRanks {d : Nat} {h : Hp} {p : Nat} {pl s : Int} {k : Nat} (hp : p < 8) (hpl : 0 ≤ pl ∧ pl ≤ 7) (hs : 0 ≤ s ∧ s ≤ 300) (hk : AR k 0 5) (hk2 : k ≠ 19 ∧ k ≠ 20) (hr : ∀ j, j < 5 → 0 ≤ h k j ∧ h k j ≤ 6) : Fn (d + 2) MX6_tellRanks [mA 2, mI p, mI pl, mI s, mA k] h none (FPn h p pl s k 6) := by
  intro Q hq X hX hR
  show VW X 0 [some (mA 2), some (mI p), some (mI pl), some (mI s), some (mA k)] [] h
  refine v_aload_n hX eX6_tellRanks_0 rfl ?_
  refine v_getA hX eX6_tellRanks_1 fi_X6_21 ⟨by decide, rfl⟩ rfl ?_
  refine v_iload_n hX eX6_tellRanks_4 rfl ?_
  refine v_iload_n hX eX6_tellRanks_5 rfl ?_
  refine v_iload_n hX eX6_tellRanks_6 rfl ?_
  refine v_aload hX eX6_tellRanks_7 rfl ?_
  refine v_fnV0 hX eX6_tellRanks_9 lV_X6_64 ok_MX5_fillPupil ⟨by decide, rfl⟩ rfl ⟨rfl, Nat.le_of_ble_eq_true rfl⟩ (Nat.le_of_ble_eq_true rfl) (c_X5_fillPupil hp hpl hs hk hk2 hr) rfl ?_
  try simp only [Int.toNat_natCast, Int.toNat_zero, Int.reduceToNat]
  exact v_return hX hR eX6_tellRanks_12 rfl (hq)
set_option maxHeartbeats 2000000 in
set_option maxRecDepth 20000 in
theorem c_X6_chargeMove {d : Nat} {h : Hp} {p : Nat} {had : Int} (hp : p < 8) (hr : rng had) : Fn (d + 2) MX6_chargeMove [mA 2, mI p, mI had] h none (CMn h p had 5) := by
  intro Q hq X hX hR
  show VW X 0 [some (mA 2), some (mI p), some (mI had)] [] h
  refine v_aload_n hX eX6_chargeMove_0 rfl ?_
  refine v_getA hX eX6_chargeMove_1 fi_X6_21 ⟨by decide, rfl⟩ rfl ?_
  refine v_iload_n hX eX6_chargeMove_4 rfl ?_
  refine v_iload_n hX eX6_chargeMove_5 rfl ?_
  refine v_fnV0 hX eX6_chargeMove_6 lV_X6_68 ok_MX5_chargeMove ⟨by decide, rfl⟩ rfl ⟨rfl, Nat.le_of_ble_eq_true rfl⟩ (Nat.le_of_ble_eq_true rfl) (c_X5_chargeMove hp hr) rfl ?_
  try simp only [Int.toNat_natCast, Int.toNat_zero, Int.reduceToNat]
  exact v_return hX hR eX6_chargeMove_9 rfl (hq)
end
