section
-- ===== PART A: goes FIRST, ahead of the names: the tables' words, and 'selects' of the private methods out of them =====
/-- a private method of a class that the tables say can be made, by its rows of tables_1 -/
def lw_okq (q : MethodName × Nat) : Prop := (q.1.cls ≠ "java/lang/invoke/MethodHandle" ∧ q.1.cls ≠ "java/lang/invoke/VarHandle") ∧ Cond.instantiable q.1.cls q.2 ∈ tables_1 ∧ Cond.privateMethod q.1 ∈ tables_1 ∧ Cond.instanceMethod q.1 ∈ tables_1
theorem lw_p0 : lw_okq (⟨"WishSharer$Roll", "firstProjectWith", "(I[I)I"⟩, 5) := ⟨⟨by decide +kernel, by decide +kernel⟩, List.mem_of_getElem? (i := 26) (by decide +kernel), List.mem_of_getElem? (i := 356) (by decide +kernel), List.mem_of_getElem? (i := 357) (by decide +kernel)⟩
theorem lw_p1 : lw_okq (⟨"WishSharer$Roll", "groupOf", "([II)I"⟩, 5) := ⟨⟨by decide +kernel, by decide +kernel⟩, List.mem_of_getElem? (i := 26) (by decide +kernel), List.mem_of_getElem? (i := 360) (by decide +kernel), List.mem_of_getElem? (i := 361) (by decide +kernel)⟩
theorem lw_p2 : lw_okq (⟨"WishSharer$Roll", "groupHas", "(III)Z"⟩, 5) := ⟨⟨by decide +kernel, by decide +kernel⟩, List.mem_of_getElem? (i := 26) (by decide +kernel), List.mem_of_getElem? (i := 364) (by decide +kernel), List.mem_of_getElem? (i := 365) (by decide +kernel)⟩
theorem lw_p3 : lw_okq (⟨"WishSharer$Roll", "lacksSkill", "(LWishSharer$Project;I)Z"⟩, 5) := ⟨⟨by decide +kernel, by decide +kernel⟩, List.mem_of_getElem? (i := 26) (by decide +kernel), List.mem_of_getElem? (i := 381) (by decide +kernel), List.mem_of_getElem? (i := 382) (by decide +kernel)⟩
theorem lw_p4 : lw_okq (⟨"WishSharer$Roll", "firstPupilWith", "(I[I)I"⟩, 5) := ⟨⟨by decide +kernel, by decide +kernel⟩, List.mem_of_getElem? (i := 26) (by decide +kernel), List.mem_of_getElem? (i := 386) (by decide +kernel), List.mem_of_getElem? (i := 387) (by decide +kernel)⟩
theorem lw_p5 : lw_okq (⟨"WishSharer$Roll", "pupilHas", "(II[I)Z"⟩, 5) := ⟨⟨by decide +kernel, by decide +kernel⟩, List.mem_of_getElem? (i := 26) (by decide +kernel), List.mem_of_getElem? (i := 390) (by decide +kernel), List.mem_of_getElem? (i := 391) (by decide +kernel)⟩
theorem lw_p6 : lw_okq (⟨"WishSharer$Search", "begin", "(JJZ)V"⟩, 12) := ⟨⟨by decide +kernel, by decide +kernel⟩, List.mem_of_getElem? (i := 125) (by decide +kernel), List.mem_of_getElem? (i := 437) (by decide +kernel), List.mem_of_getElem? (i := 438) (by decide +kernel)⟩
theorem lw_p7 : lw_okq (⟨"WishSharer$Search", "judge", "(JJ)V"⟩, 12) := ⟨⟨by decide +kernel, by decide +kernel⟩, List.mem_of_getElem? (i := 125) (by decide +kernel), List.mem_of_getElem? (i := 445) (by decide +kernel), List.mem_of_getElem? (i := 446) (by decide +kernel)⟩
theorem lw_p8 : lw_okq (⟨"WishSharer$Search", "isPresent", "(I)Z"⟩, 12) := ⟨⟨by decide +kernel, by decide +kernel⟩, List.mem_of_getElem? (i := 125) (by decide +kernel), List.mem_of_getElem? (i := 456) (by decide +kernel), List.mem_of_getElem? (i := 457) (by decide +kernel)⟩
theorem lw_p9 : lw_okq (⟨"WishSharer$Search", "friendsBefore", "(I[I)I"⟩, 12) := ⟨⟨by decide +kernel, by decide +kernel⟩, List.mem_of_getElem? (i := 125) (by decide +kernel), List.mem_of_getElem? (i := 489) (by decide +kernel), List.mem_of_getElem? (i := 490) (by decide +kernel)⟩
theorem lw_p10 : lw_okq (⟨"WishSharer", "countRanks", "(I)I"⟩, 8) := ⟨⟨by decide +kernel, by decide +kernel⟩, List.mem_of_getElem? (i := 18) (by decide +kernel), List.mem_of_getElem? (i := 497) (by decide +kernel), List.mem_of_getElem? (i := 498) (by decide +kernel)⟩
theorem lw_p11 : lw_okq (⟨"WishSharer", "isPlaced", "(I)Z"⟩, 8) := ⟨⟨by decide +kernel, by decide +kernel⟩, List.mem_of_getElem? (i := 18) (by decide +kernel), List.mem_of_getElem? (i := 501) (by decide +kernel), List.mem_of_getElem? (i := 502) (by decide +kernel)⟩
theorem lw_p12 : lw_okq (⟨"WishSharer", "rankByPlan", "(I)I"⟩, 8) := ⟨⟨by decide +kernel, by decide +kernel⟩, List.mem_of_getElem? (i := 18) (by decide +kernel), List.mem_of_getElem? (i := 505) (by decide +kernel), List.mem_of_getElem? (i := 506) (by decide +kernel)⟩
theorem lw_p13 : lw_okq (⟨"WishSharer", "grief", "()I"⟩, 8) := ⟨⟨by decide +kernel, by decide +kernel⟩, List.mem_of_getElem? (i := 18) (by decide +kernel), List.mem_of_getElem? (i := 509) (by decide +kernel), List.mem_of_getElem? (i := 510) (by decide +kernel)⟩
theorem lw_p14 : lw_okq (⟨"WishSharer", "friendPairs", "()I"⟩, 8) := ⟨⟨by decide +kernel, by decide +kernel⟩, List.mem_of_getElem? (i := 18) (by decide +kernel), List.mem_of_getElem? (i := 518) (by decide +kernel), List.mem_of_getElem? (i := 519) (by decide +kernel)⟩
theorem lw_p15 : lw_okq (⟨"WishSharer", "projectsUsed", "()I"⟩, 8) := ⟨⟨by decide +kernel, by decide +kernel⟩, List.mem_of_getElem? (i := 18) (by decide +kernel), List.mem_of_getElem? (i := 526) (by decide +kernel), List.mem_of_getElem? (i := 527) (by decide +kernel)⟩
def lw_privs_1 : List (MethodName × Nat) := [(⟨"WishSharer$Roll", "firstProjectWith", "(I[I)I"⟩, 5), (⟨"WishSharer$Roll", "groupOf", "([II)I"⟩, 5), (⟨"WishSharer$Roll", "groupHas", "(III)Z"⟩, 5), (⟨"WishSharer$Roll", "lacksSkill", "(LWishSharer$Project;I)Z"⟩, 5), (⟨"WishSharer$Roll", "firstPupilWith", "(I[I)I"⟩, 5), (⟨"WishSharer$Roll", "pupilHas", "(II[I)Z"⟩, 5), (⟨"WishSharer$Search", "begin", "(JJZ)V"⟩, 12), (⟨"WishSharer$Search", "judge", "(JJ)V"⟩, 12), (⟨"WishSharer$Search", "isPresent", "(I)Z"⟩, 12), (⟨"WishSharer$Search", "friendsBefore", "(I[I)I"⟩, 12), (⟨"WishSharer", "countRanks", "(I)I"⟩, 8), (⟨"WishSharer", "isPlaced", "(I)Z"⟩, 8), (⟨"WishSharer", "rankByPlan", "(I)I"⟩, 8), (⟨"WishSharer", "grief", "()I"⟩, 8), (⟨"WishSharer", "friendPairs", "()I"⟩, 8), (⟨"WishSharer", "projectsUsed", "()I"⟩, 8)]
theorem lw_r1 : ∀ q ∈ lw_privs_1, lw_okq q := List.forall_mem_cons.mpr ⟨lw_p0, List.forall_mem_cons.mpr ⟨lw_p1, List.forall_mem_cons.mpr ⟨lw_p2, List.forall_mem_cons.mpr ⟨lw_p3, List.forall_mem_cons.mpr ⟨lw_p4, List.forall_mem_cons.mpr ⟨lw_p5, List.forall_mem_cons.mpr ⟨lw_p6, List.forall_mem_cons.mpr ⟨lw_p7, List.forall_mem_cons.mpr ⟨lw_p8, List.forall_mem_cons.mpr ⟨lw_p9, List.forall_mem_cons.mpr ⟨lw_p10, List.forall_mem_cons.mpr ⟨lw_p11, List.forall_mem_cons.mpr ⟨lw_p12, List.forall_mem_cons.mpr ⟨lw_p13, List.forall_mem_cons.mpr ⟨lw_p14, List.forall_mem_cons.mpr ⟨lw_p15, fun _ h => absurd h List.not_mem_nil⟩⟩⟩⟩⟩⟩⟩⟩⟩⟩⟩⟩⟩⟩⟩⟩
theorem lw_p16 : lw_okq (⟨"WishSharer", "bothGain", "(II)Z"⟩, 8) := ⟨⟨by decide +kernel, by decide +kernel⟩, List.mem_of_getElem? (i := 18) (by decide +kernel), List.mem_of_getElem? (i := 534) (by decide +kernel), List.mem_of_getElem? (i := 535) (by decide +kernel)⟩
theorem lw_p17 : lw_okq (⟨"WishSharer", "gains", "(II)Z"⟩, 8) := ⟨⟨by decide +kernel, by decide +kernel⟩, List.mem_of_getElem? (i := 18) (by decide +kernel), List.mem_of_getElem? (i := 538) (by decide +kernel), List.mem_of_getElem? (i := 539) (by decide +kernel)⟩
theorem lw_p18 : lw_okq (⟨"WishSharer", "rightAfterExchange", "(II)Z"⟩, 8) := ⟨⟨by decide +kernel, by decide +kernel⟩, List.mem_of_getElem? (i := 18) (by decide +kernel), List.mem_of_getElem? (i := 542) (by decide +kernel), List.mem_of_getElem? (i := 543) (by decide +kernel)⟩
theorem lw_p19 : lw_okq (⟨"WishSharer", "findPayingTale", "(ILWishSharer$Pupil;I)Z"⟩, 8) := ⟨⟨by decide +kernel, by decide +kernel⟩, List.mem_of_getElem? (i := 18) (by decide +kernel), List.mem_of_getElem? (i := 572) (by decide +kernel), List.mem_of_getElem? (i := 573) (by decide +kernel)⟩
theorem lw_p20 : lw_okq (⟨"WishSharer", "rankByTale", "(I)V"⟩, 8) := ⟨⟨by decide +kernel, by decide +kernel⟩, List.mem_of_getElem? (i := 18) (by decide +kernel), List.mem_of_getElem? (i := 576) (by decide +kernel), List.mem_of_getElem? (i := 577) (by decide +kernel)⟩
theorem lw_p21 : lw_okq (⟨"java/lang/Throwable", "fillInStackTrace", "(I)Ljava/lang/Throwable;"⟩, 6) := ⟨⟨by decide +kernel, by decide +kernel⟩, List.mem_of_getElem? (i := 665) (by decide +kernel), List.mem_of_getElem? (i := 663) (by decide +kernel), List.mem_of_getElem? (i := 664) (by decide +kernel)⟩
theorem lw_p22 : lw_okq (⟨"WishSharerModel", "isPupil", "(I)Z"⟩, 37) := ⟨⟨by decide +kernel, by decide +kernel⟩, List.mem_of_getElem? (i := 697) (by decide +kernel), List.mem_of_getElem? (i := 834) (by decide +kernel), List.mem_of_getElem? (i := 835) (by decide +kernel)⟩
theorem lw_p23 : lw_okq (⟨"WishSharerModel", "isProject", "(I)Z"⟩, 37) := ⟨⟨by decide +kernel, by decide +kernel⟩, List.mem_of_getElem? (i := 697) (by decide +kernel), List.mem_of_getElem? (i := 842) (by decide +kernel), List.mem_of_getElem? (i := 843) (by decide +kernel)⟩
theorem lw_p24 : lw_okq (⟨"WishSharerModel", "hasWish", "(II)Z"⟩, 37) := ⟨⟨by decide +kernel, by decide +kernel⟩, List.mem_of_getElem? (i := 697) (by decide +kernel), List.mem_of_getElem? (i := 846) (by decide +kernel), List.mem_of_getElem? (i := 847) (by decide +kernel)⟩
theorem lw_p25 : lw_okq (⟨"WishSharerModel", "add", "(II)V"⟩, 37) := ⟨⟨by decide +kernel, by decide +kernel⟩, List.mem_of_getElem? (i := 697) (by decide +kernel), List.mem_of_getElem? (i := 850) (by decide +kernel), List.mem_of_getElem? (i := 851) (by decide +kernel)⟩
theorem lw_p26 : lw_okq (⟨"WishSharerModel", "areTwo", "(II)Z"⟩, 37) := ⟨⟨by decide +kernel, by decide +kernel⟩, List.mem_of_getElem? (i := 697) (by decide +kernel), List.mem_of_getElem? (i := 863) (by decide +kernel), List.mem_of_getElem? (i := 864) (by decide +kernel)⟩
theorem lw_p27 : lw_okq (⟨"WishSharerModel", "present", "()I"⟩, 37) := ⟨⟨by decide +kernel, by decide +kernel⟩, List.mem_of_getElem? (i := 697) (by decide +kernel), List.mem_of_getElem? (i := 888) (by decide +kernel), List.mem_of_getElem? (i := 889) (by decide +kernel)⟩
theorem lw_p28 : lw_okq (⟨"WishSharerModel", "refuse", "()I"⟩, 37) := ⟨⟨by decide +kernel, by decide +kernel⟩, List.mem_of_getElem? (i := 697) (by decide +kernel), List.mem_of_getElem? (i := 897) (by decide +kernel), List.mem_of_getElem? (i := 898) (by decide +kernel)⟩
theorem lw_p29 : lw_okq (⟨"WishSharerModel", "rankOf", "(II)I"⟩, 37) := ⟨⟨by decide +kernel, by decide +kernel⟩, List.mem_of_getElem? (i := 697) (by decide +kernel), List.mem_of_getElem? (i := 901) (by decide +kernel), List.mem_of_getElem? (i := 902) (by decide +kernel)⟩
theorem lw_p30 : lw_okq (⟨"WishSharerModel", "wrongOf", "([I)I"⟩, 37) := ⟨⟨by decide +kernel, by decide +kernel⟩, List.mem_of_getElem? (i := 697) (by decide +kernel), List.mem_of_getElem? (i := 917) (by decide +kernel), List.mem_of_getElem? (i := 918) (by decide +kernel)⟩
theorem lw_p31 : lw_okq (⟨"WishSharerModel", "isSize", "(II)Z"⟩, 37) := ⟨⟨by decide +kernel, by decide +kernel⟩, List.mem_of_getElem? (i := 697) (by decide +kernel), List.mem_of_getElem? (i := 924) (by decide +kernel), List.mem_of_getElem? (i := 925) (by decide +kernel)⟩
def lw_privs_2 : List (MethodName × Nat) := [(⟨"WishSharer", "bothGain", "(II)Z"⟩, 8), (⟨"WishSharer", "gains", "(II)Z"⟩, 8), (⟨"WishSharer", "rightAfterExchange", "(II)Z"⟩, 8), (⟨"WishSharer", "findPayingTale", "(ILWishSharer$Pupil;I)Z"⟩, 8), (⟨"WishSharer", "rankByTale", "(I)V"⟩, 8), (⟨"java/lang/Throwable", "fillInStackTrace", "(I)Ljava/lang/Throwable;"⟩, 6), (⟨"WishSharerModel", "isPupil", "(I)Z"⟩, 37), (⟨"WishSharerModel", "isProject", "(I)Z"⟩, 37), (⟨"WishSharerModel", "hasWish", "(II)Z"⟩, 37), (⟨"WishSharerModel", "add", "(II)V"⟩, 37), (⟨"WishSharerModel", "areTwo", "(II)Z"⟩, 37), (⟨"WishSharerModel", "present", "()I"⟩, 37), (⟨"WishSharerModel", "refuse", "()I"⟩, 37), (⟨"WishSharerModel", "rankOf", "(II)I"⟩, 37), (⟨"WishSharerModel", "wrongOf", "([I)I"⟩, 37), (⟨"WishSharerModel", "isSize", "(II)Z"⟩, 37)]
theorem lw_r2 : ∀ q ∈ lw_privs_2, lw_okq q := List.forall_mem_cons.mpr ⟨lw_p16, List.forall_mem_cons.mpr ⟨lw_p17, List.forall_mem_cons.mpr ⟨lw_p18, List.forall_mem_cons.mpr ⟨lw_p19, List.forall_mem_cons.mpr ⟨lw_p20, List.forall_mem_cons.mpr ⟨lw_p21, List.forall_mem_cons.mpr ⟨lw_p22, List.forall_mem_cons.mpr ⟨lw_p23, List.forall_mem_cons.mpr ⟨lw_p24, List.forall_mem_cons.mpr ⟨lw_p25, List.forall_mem_cons.mpr ⟨lw_p26, List.forall_mem_cons.mpr ⟨lw_p27, List.forall_mem_cons.mpr ⟨lw_p28, List.forall_mem_cons.mpr ⟨lw_p29, List.forall_mem_cons.mpr ⟨lw_p30, List.forall_mem_cons.mpr ⟨lw_p31, fun _ h => absurd h List.not_mem_nil⟩⟩⟩⟩⟩⟩⟩⟩⟩⟩⟩⟩⟩⟩⟩⟩
theorem lw_p32 : lw_okq (⟨"WishSharerModel", "isTwice", "(II)Z"⟩, 37) := ⟨⟨by decide +kernel, by decide +kernel⟩, List.mem_of_getElem? (i := 697) (by decide +kernel), List.mem_of_getElem? (i := 928) (by decide +kernel), List.mem_of_getElem? (i := 929) (by decide +kernel)⟩
theorem lw_p33 : lw_okq (⟨"WishSharerModel", "isLed", "([III)Z"⟩, 37) := ⟨⟨by decide +kernel, by decide +kernel⟩, List.mem_of_getElem? (i := 697) (by decide +kernel), List.mem_of_getElem? (i := 932) (by decide +kernel), List.mem_of_getElem? (i := 933) (by decide +kernel)⟩
theorem lw_p34 : lw_okq (⟨"WishSharerModel", "hasSkills", "([III)Z"⟩, 37) := ⟨⟨by decide +kernel, by decide +kernel⟩, List.mem_of_getElem? (i := 697) (by decide +kernel), List.mem_of_getElem? (i := 936) (by decide +kernel), List.mem_of_getElem? (i := 937) (by decide +kernel)⟩
theorem lw_p35 : lw_okq (⟨"WishSharerModel", "all", "(I)V"⟩, 37) := ⟨⟨by decide +kernel, by decide +kernel⟩, List.mem_of_getElem? (i := 697) (by decide +kernel), List.mem_of_getElem? (i := 944) (by decide +kernel), List.mem_of_getElem? (i := 945) (by decide +kernel)⟩
theorem lw_p36 : lw_okq (⟨"WishSharerModel", "goes", "(I)V"⟩, 37) := ⟨⟨by decide +kernel, by decide +kernel⟩, List.mem_of_getElem? (i := 697) (by decide +kernel), List.mem_of_getElem? (i := 949) (by decide +kernel), List.mem_of_getElem? (i := 950) (by decide +kernel)⟩
theorem lw_p37 : lw_okq (⟨"WishSharerModel", "finds", "()V"⟩, 37) := ⟨⟨by decide +kernel, by decide +kernel⟩, List.mem_of_getElem? (i := 697) (by decide +kernel), List.mem_of_getElem? (i := 953) (by decide +kernel), List.mem_of_getElem? (i := 954) (by decide +kernel)⟩
theorem lw_p38 : lw_okq (⟨"WishSharerModel", "movesOf", "([I)I"⟩, 37) := ⟨⟨by decide +kernel, by decide +kernel⟩, List.mem_of_getElem? (i := 697) (by decide +kernel), List.mem_of_getElem? (i := 957) (by decide +kernel), List.mem_of_getElem? (i := 958) (by decide +kernel)⟩
theorem lw_p39 : lw_okq (⟨"WishSharerModel", "isBetter", "([I)Z"⟩, 37) := ⟨⟨by decide +kernel, by decide +kernel⟩, List.mem_of_getElem? (i := 697) (by decide +kernel), List.mem_of_getElem? (i := 961) (by decide +kernel), List.mem_of_getElem? (i := 962) (by decide +kernel)⟩
theorem lw_p40 : lw_okq (⟨"WishSharerModel", "weigh", "([I)V"⟩, 37) := ⟨⟨by decide +kernel, by decide +kernel⟩, List.mem_of_getElem? (i := 697) (by decide +kernel), List.mem_of_getElem? (i := 965) (by decide +kernel), List.mem_of_getElem? (i := 966) (by decide +kernel)⟩
theorem lw_p41 : lw_okq (⟨"WishSharerModel", "rankBy", "(II)I"⟩, 37) := ⟨⟨by decide +kernel, by decide +kernel⟩, List.mem_of_getElem? (i := 697) (by decide +kernel), List.mem_of_getElem? (i := 969) (by decide +kernel), List.mem_of_getElem? (i := 970) (by decide +kernel)⟩
theorem lw_p42 : lw_okq (⟨"WishSharerModel", "isAhead", "([I[I)Z"⟩, 37) := ⟨⟨by decide +kernel, by decide +kernel⟩, List.mem_of_getElem? (i := 697) (by decide +kernel), List.mem_of_getElem? (i := 976) (by decide +kernel), List.mem_of_getElem? (i := 977) (by decide +kernel)⟩
theorem lw_p43 : lw_okq (⟨"WishSharerModel", "keeps", "([I)V"⟩, 37) := ⟨⟨by decide +kernel, by decide +kernel⟩, List.mem_of_getElem? (i := 697) (by decide +kernel), List.mem_of_getElem? (i := 980) (by decide +kernel), List.mem_of_getElem? (i := 981) (by decide +kernel)⟩
theorem lw_p44 : lw_okq (⟨"WishSharerModel", "may", "(II)Z"⟩, 37) := ⟨⟨by decide +kernel, by decide +kernel⟩, List.mem_of_getElem? (i := 697) (by decide +kernel), List.mem_of_getElem? (i := 984) (by decide +kernel), List.mem_of_getElem? (i := 985) (by decide +kernel)⟩
theorem lw_p45 : lw_okq (⟨"WishSharerModel", "takes", "()V"⟩, 37) := ⟨⟨by decide +kernel, by decide +kernel⟩, List.mem_of_getElem? (i := 697) (by decide +kernel), List.mem_of_getElem? (i := 988) (by decide +kernel), List.mem_of_getElem? (i := 989) (by decide +kernel)⟩
theorem lw_p46 : lw_okq (⟨"WishSharerModel", "wouldSwap", "(II)Z"⟩, 37) := ⟨⟨by decide +kernel, by decide +kernel⟩, List.mem_of_getElem? (i := 697) (by decide +kernel), List.mem_of_getElem? (i := 1006) (by decide +kernel), List.mem_of_getElem? (i := 1007) (by decide +kernel)⟩
theorem lw_p47 : lw_okq (⟨"WishSharerModel", "nextOrder", "()Z"⟩, 37) := ⟨⟨by decide +kernel, by decide +kernel⟩, List.mem_of_getElem? (i := 697) (by decide +kernel), List.mem_of_getElem? (i := 1018) (by decide +kernel), List.mem_of_getElem? (i := 1019) (by decide +kernel)⟩
def lw_privs_3 : List (MethodName × Nat) := [(⟨"WishSharerModel", "isTwice", "(II)Z"⟩, 37), (⟨"WishSharerModel", "isLed", "([III)Z"⟩, 37), (⟨"WishSharerModel", "hasSkills", "([III)Z"⟩, 37), (⟨"WishSharerModel", "all", "(I)V"⟩, 37), (⟨"WishSharerModel", "goes", "(I)V"⟩, 37), (⟨"WishSharerModel", "finds", "()V"⟩, 37), (⟨"WishSharerModel", "movesOf", "([I)I"⟩, 37), (⟨"WishSharerModel", "isBetter", "([I)Z"⟩, 37), (⟨"WishSharerModel", "weigh", "([I)V"⟩, 37), (⟨"WishSharerModel", "rankBy", "(II)I"⟩, 37), (⟨"WishSharerModel", "isAhead", "([I[I)Z"⟩, 37), (⟨"WishSharerModel", "keeps", "([I)V"⟩, 37), (⟨"WishSharerModel", "may", "(II)Z"⟩, 37), (⟨"WishSharerModel", "takes", "()V"⟩, 37), (⟨"WishSharerModel", "wouldSwap", "(II)Z"⟩, 37), (⟨"WishSharerModel", "nextOrder", "()Z"⟩, 37)]
theorem lw_r3 : ∀ q ∈ lw_privs_3, lw_okq q := List.forall_mem_cons.mpr ⟨lw_p32, List.forall_mem_cons.mpr ⟨lw_p33, List.forall_mem_cons.mpr ⟨lw_p34, List.forall_mem_cons.mpr ⟨lw_p35, List.forall_mem_cons.mpr ⟨lw_p36, List.forall_mem_cons.mpr ⟨lw_p37, List.forall_mem_cons.mpr ⟨lw_p38, List.forall_mem_cons.mpr ⟨lw_p39, List.forall_mem_cons.mpr ⟨lw_p40, List.forall_mem_cons.mpr ⟨lw_p41, List.forall_mem_cons.mpr ⟨lw_p42, List.forall_mem_cons.mpr ⟨lw_p43, List.forall_mem_cons.mpr ⟨lw_p44, List.forall_mem_cons.mpr ⟨lw_p45, List.forall_mem_cons.mpr ⟨lw_p46, List.forall_mem_cons.mpr ⟨lw_p47, fun _ h => absurd h List.not_mem_nil⟩⟩⟩⟩⟩⟩⟩⟩⟩⟩⟩⟩⟩⟩⟩⟩
theorem lw_p48 : lw_okq (⟨"WishSharerModel", "exchange", "(II)V"⟩, 37) := ⟨⟨by decide +kernel, by decide +kernel⟩, List.mem_of_getElem? (i := 697) (by decide +kernel), List.mem_of_getElem? (i := 1022) (by decide +kernel), List.mem_of_getElem? (i := 1023) (by decide +kernel)⟩
def lw_privs_4 : List (MethodName × Nat) := [(⟨"WishSharerModel", "exchange", "(II)V"⟩, 37)]
theorem lw_r4 : ∀ q ∈ lw_privs_4, lw_okq q := List.forall_mem_cons.mpr ⟨lw_p48, fun _ h => absurd h List.not_mem_nil⟩
def lw_privs : List (MethodName × Nat) := lw_privs_1 ++ (lw_privs_2 ++ (lw_privs_3 ++ (lw_privs_4)))
def lw_tbl : List Cond := k2_sels lw_privs ++ tables_1
theorem lw_privs_ok : ∀ q ∈ lw_privs, lw_okq q := by
  show ∀ q ∈ lw_privs_1 ++ (lw_privs_2 ++ (lw_privs_3 ++ (lw_privs_4))), lw_okq q
  exact List.forall_mem_append.mpr ⟨lw_r1, List.forall_mem_append.mpr ⟨lw_r2, List.forall_mem_append.mpr ⟨lw_r3, lw_r4⟩⟩⟩
-- ===== end of PART A; then your names; then what follows =====
end
section
-- names (begun from the task's printed names)
def RX0 : String := "WishSharer$Groups"
def TX0 : u_T := fun k => match k with
  | 0 => ("WishSharer$Groups", "fitting", "[I", true)
  | _ => ("WishSharer$Groups", "open", "[I", true)
def tyX0 : Nat → FieldType := fun k => match k with
  | 0 => .array .int
  | _ => .array .int
abbrev wsX00 : List Cond := u_ws RX0 TX0 2
theorem nmX0 : ∀ a, a < 2 → ∀ b, b < 2 → a ≠ b → (TX0 a).2.1 ≠ (TX0 b).2.1 := by decide +kernel
theorem tyX0_ok : ∀ k, k < 2 → parseFieldDescriptor (TX0 k).2.2.1 = some (tyX0 k) := by decide +kernel
abbrev cX0_init : ByteArray := prog_2_method_1_code
def yX0_init : MethodName := ⟨RX0, "<init>", "()V"⟩
abbrev cX0_fill : ByteArray := prog_2_method_2_code
def yX0_fill : MethodName := ⟨RX0, "fill", "(LWishSharer$Roll;)V"⟩
abbrev cX0_fits : ByteArray := prog_2_method_3_code
def yX0_fits : MethodName := ⟨RX0, "fits", "(II)Z"⟩
abbrev cX0_canGrow : ByteArray := prog_2_method_4_code
def yX0_canGrow : MethodName := ⟨RX0, "canGrow", "(II)Z"⟩
def RX1 : String := "WishSharer$Ledger"
def TX1 : u_T := fun k => match k with
  | 0 => ("WishSharer$Ledger", "projects", "[I", true)
  | 1 => ("WishSharer$Ledger", "ranks", "[I", true)
  | _ => ("WishSharer$Ledger", "years", "I", false)
def tyX1 : Nat → FieldType := fun k => match k with
  | 0 => .array .int
  | 1 => .array .int
  | _ => .int
abbrev wsX10 : List Cond := u_ws RX1 TX1 3
theorem nmX1 : ∀ a, a < 3 → ∀ b, b < 3 → a ≠ b → (TX1 a).2.1 ≠ (TX1 b).2.1 := by decide +kernel
theorem tyX1_ok : ∀ k, k < 3 → parseFieldDescriptor (TX1 k).2.2.1 = some (tyX1 k) := by decide +kernel
abbrev cX1_init : ByteArray := prog_3_method_1_code
def yX1_init : MethodName := ⟨RX1, "<init>", "()V"⟩
abbrev cX1_note : ByteArray := prog_3_method_2_code
def yX1_note : MethodName := ⟨RX1, "note", "(III)V"⟩
abbrev cX1_projectOf : ByteArray := prog_3_method_3_code
def yX1_projectOf : MethodName := ⟨RX1, "projectOf", "(II)I"⟩
abbrev cX1_rankOf : ByteArray := prog_3_method_4_code
def yX1_rankOf : MethodName := ⟨RX1, "rankOf", "(II)I"⟩
abbrev cX1_cellOf : ByteArray := prog_3_method_5_code
def yX1_cellOf : MethodName := ⟨RX1, "cellOf", "(II)I"⟩
def RX2 : String := "WishSharer$Project"
def TX2 : u_T := fun k => match k with
  | 0 => ("WishSharer$Project", "kind", "I", false)
  | 1 => ("WishSharer$Project", "least", "I", false)
  | 2 => ("WishSharer$Project", "most", "I", false)
  | 3 => ("WishSharer$Project", "skills", "I", false)
  | 4 => ("WishSharer$Project", "leader", "I", false)
  | _ => ("WishSharer$Project", "onOffer", "Z", false)
def tyX2 : Nat → FieldType := fun k => match k with
  | 0 => .int
  | 1 => .int
  | 2 => .int
  | 3 => .int
  | 4 => .int
  | _ => .boolean
abbrev wsX20 : List Cond := u_ws RX2 TX2 6
theorem nmX2 : ∀ a, a < 6 → ∀ b, b < 6 → a ≠ b → (TX2 a).2.1 ≠ (TX2 b).2.1 := by decide +kernel
theorem tyX2_ok : ∀ k, k < 6 → parseFieldDescriptor (TX2 k).2.2.1 = some (tyX2 k) := by decide +kernel
abbrev cX2_init : ByteArray := prog_4_method_1_code
def yX2_init : MethodName := ⟨RX2, "<init>", "()V"⟩
abbrev cX2_takes : ByteArray := prog_4_method_2_code
def yX2_takes : MethodName := ⟨RX2, "takes", "(I)Z"⟩
abbrev cX2_runsTwice : ByteArray := prog_4_method_3_code
def yX2_runsTwice : MethodName := ⟨RX2, "runsTwice", "(I)Z"⟩
abbrev cX2_lacksLeader : ByteArray := prog_4_method_4_code
def yX2_lacksLeader : MethodName := ⟨RX2, "lacksLeader", "(I)Z"⟩
def RX3 : String := "WishSharer$Pupil"
def TX3 : u_T := fun k => match k with
  | 0 => ("WishSharer$Pupil", "ranks", "[I", true)
  | 1 => ("WishSharer$Pupil", "skills", "I", false)
  | 2 => ("WishSharer$Pupil", "wished", "I", false)
  | 3 => ("WishSharer$Pupil", "score", "I", false)
  | 4 => ("WishSharer$Pupil", "friendBits", "I", false)
  | 5 => ("WishSharer$Pupil", "apartBits", "I", false)
  | _ => ("WishSharer$Pupil", "present", "Z", false)
def tyX3 : Nat → FieldType := fun k => match k with
  | 0 => .array .int
  | 1 => .int
  | 2 => .int
  | 3 => .int
  | 4 => .int
  | 5 => .int
  | _ => .boolean
abbrev wsX30 : List Cond := u_ws RX3 TX3 7
theorem nmX3 : ∀ a, a < 7 → ∀ b, b < 7 → a ≠ b → (TX3 a).2.1 ≠ (TX3 b).2.1 := by decide +kernel
theorem tyX3_ok : ∀ k, k < 7 → parseFieldDescriptor (TX3 k).2.2.1 = some (tyX3 k) := by decide +kernel
abbrev cX3_init : ByteArray := prog_5_method_1_code
def yX3_init : MethodName := ⟨RX3, "<init>", "()V"⟩
abbrev cX3_addWish : ByteArray := prog_5_method_2_code
def yX3_addWish : MethodName := ⟨RX3, "addWish", "(I)Z"⟩
abbrev cX3_clearWishes : ByteArray := prog_5_method_3_code
def yX3_clearWishes : MethodName := ⟨RX3, "clearWishes", "()V"⟩
abbrev cX3_rankIn : ByteArray := prog_5_method_4_code
def yX3_rankIn : MethodName := ⟨RX3, "rankIn", "(I)I"⟩
def RX4 : String := "WishSharer$Roll"
def TX4 : u_T := fun k => match k with
  | 0 => ("WishSharer$Roll", "pupils", "[LWishSharer$Pupil;", true)
  | 1 => ("WishSharer$Roll", "projects", "[LWishSharer$Project;", true)
  | 2 => ("WishSharer$Roll", "order", "[I", true)
  | 3 => ("WishSharer$Roll", "pupilCount", "I", false)
  | _ => ("WishSharer$Roll", "projectCount", "I", false)
def tyX4 : Nat → FieldType := fun k => match k with
  | 0 => .array (.object "WishSharer$Pupil")
  | 1 => .array (.object "WishSharer$Project")
  | 2 => .array .int
  | 3 => .int
  | _ => .int
abbrev wsX40 : List Cond := u_ws RX4 TX4 5
theorem nmX4 : ∀ a, a < 5 → ∀ b, b < 5 → a ≠ b → (TX4 a).2.1 ≠ (TX4 b).2.1 := by decide +kernel
theorem tyX4_ok : ∀ k, k < 5 → parseFieldDescriptor (TX4 k).2.2.1 = some (tyX4 k) := by decide +kernel
abbrev cX4_init : ByteArray := prog_6_method_1_code
def yX4_init : MethodName := ⟨RX4, "<init>", "()V"⟩
abbrev cX4_addPupil : ByteArray := prog_6_method_2_code
def yX4_addPupil : MethodName := ⟨RX4, "addPupil", "(I)I"⟩
abbrev cX4_addProject : ByteArray := prog_6_method_3_code
def yX4_addProject : MethodName := ⟨RX4, "addProject", "(IIIII)I"⟩
abbrev cX4_isPupil : ByteArray := prog_6_method_4_code
def yX4_isPupil : MethodName := ⟨RX4, "isPupil", "(I)Z"⟩
abbrev cX4_isProject : ByteArray := prog_6_method_5_code
def yX4_isProject : MethodName := ⟨RX4, "isProject", "(I)Z"⟩
abbrev cX4_pupilOf : ByteArray := prog_6_method_6_code
def yX4_pupilOf : MethodName := ⟨RX4, "pupilOf", "(I)LWishSharer$Pupil;"⟩
abbrev cX4_projectOf : ByteArray := prog_6_method_7_code
def yX4_projectOf : MethodName := ⟨RX4, "projectOf", "(I)LWishSharer$Project;"⟩
abbrev cX4_scoreOf : ByteArray := prog_6_method_8_code
def yX4_scoreOf : MethodName := ⟨RX4, "scoreOf", "(I)I"⟩
abbrev cX4_addScore : ByteArray := prog_6_method_9_code
def yX4_addScore : MethodName := ⟨RX4, "addScore", "(II)V"⟩
abbrev cX4_areFriends : ByteArray := prog_6_method_10_code
def yX4_areFriends : MethodName := ⟨RX4, "areFriends", "(II)Z"⟩
abbrev cX4_presentBits : ByteArray := prog_6_method_11_code
def yX4_presentBits : MethodName := ⟨RX4, "presentBits", "()I"⟩
abbrev cX4_offeredCount : ByteArray := prog_6_method_12_code
def yX4_offeredCount : MethodName := ⟨RX4, "offeredCount", "()I"⟩
abbrev cX4_drawLots : ByteArray := prog_6_method_13_code
def yX4_drawLots : MethodName := ⟨RX4, "drawLots", "(I)V"⟩
abbrev cX4_placeOf : ByteArray := prog_6_method_14_code
def yX4_placeOf : MethodName := ⟨RX4, "placeOf", "(I)I"⟩
abbrev cX4_faultOf : ByteArray := prog_6_method_15_code
def yX4_faultOf : MethodName := ⟨RX4, "faultOf", "([I)I"⟩
abbrev cX4_firstPupilWith : ByteArray := prog_6_method_16_code
def yX4_firstPupilWith : MethodName := ⟨RX4, "firstPupilWith", "(I[I)I"⟩
abbrev cX4_pupilHas : ByteArray := prog_6_method_17_code
def yX4_pupilHas : MethodName := ⟨RX4, "pupilHas", "(II[I)Z"⟩
abbrev cX4_firstProjectWith : ByteArray := prog_6_method_18_code
def yX4_firstProjectWith : MethodName := ⟨RX4, "firstProjectWith", "(I[I)I"⟩
abbrev cX4_groupHas : ByteArray := prog_6_method_19_code
def yX4_groupHas : MethodName := ⟨RX4, "groupHas", "(III)Z"⟩
abbrev cX4_lacksSkill : ByteArray := prog_6_method_20_code
def yX4_lacksSkill : MethodName := ⟨RX4, "lacksSkill", "(LWishSharer$Project;I)Z"⟩
abbrev cX4_groupOf : ByteArray := prog_6_method_21_code
def yX4_groupOf : MethodName := ⟨RX4, "groupOf", "([II)I"⟩
abbrev cX4_allows : ByteArray := prog_6_method_22_code
def yX4_allows : MethodName := ⟨RX4, "allows", "(II)Z"⟩
def RX5 : String := "WishSharer$Scale"
def TX5 : u_T := fun k => match k with
  | 0 => ("WishSharer$Scale", "costs", "[J", true)
  | _ => ("WishSharer$Scale", "digits", "[J", true)
def tyX5 : Nat → FieldType := fun k => match k with
  | 0 => .array .long
  | _ => .array .long
abbrev wsX50 : List Cond := u_ws RX5 TX5 2
theorem nmX5 : ∀ a, a < 2 → ∀ b, b < 2 → a ≠ b → (TX5 a).2.1 ≠ (TX5 b).2.1 := by decide +kernel
theorem tyX5_ok : ∀ k, k < 2 → parseFieldDescriptor (TX5 k).2.2.1 = some (tyX5 k) := by decide +kernel
abbrev cX5_init : ByteArray := prog_7_method_1_code
def yX5_init : MethodName := ⟨RX5, "<init>", "()V"⟩
abbrev cX5_fill : ByteArray := prog_7_method_2_code
def yX5_fill : MethodName := ⟨RX5, "fill", "(LWishSharer$Roll;)V"⟩
abbrev cX5_fillPupil : ByteArray := prog_7_method_3_code
def yX5_fillPupil : MethodName := ⟨RX5, "fillPupil", "(III[I)V"⟩
abbrev cX5_costOfRank : ByteArray := prog_7_method_4_code
def yX5_costOfRank : MethodName := ⟨RX5, "costOfRank", "(II)J"⟩
abbrev cX5_chargeMove : ByteArray := prog_7_method_5_code
def yX5_chargeMove : MethodName := ⟨RX5, "chargeMove", "(II)V"⟩
abbrev cX5_costOf : ByteArray := prog_7_method_6_code
def yX5_costOf : MethodName := ⟨RX5, "costOf", "(II)J"⟩
abbrev cX5_digitOf : ByteArray := prog_7_method_7_code
def yX5_digitOf : MethodName := ⟨RX5, "digitOf", "(II)J"⟩
abbrev cX5_cellOf : ByteArray := prog_7_method_8_code
def yX5_cellOf : MethodName := ⟨RX5, "cellOf", "(II)I"⟩
def RX6 : String := "WishSharer$Search"
def TX6 : u_T := fun k => match k with
  | 0 => ("WishSharer$Search", "groups", "LWishSharer$Groups;", true)
  | 1 => ("WishSharer$Search", "scale", "LWishSharer$Scale;", true)
  | 2 => ("WishSharer$Search", "friendBits", "[I", true)
  | 3 => ("WishSharer$Search", "groupOf", "[I", true)
  | 4 => ("WishSharer$Search", "trial", "[I", true)
  | 5 => ("WishSharer$Search", "found", "[I", true)
  | 6 => ("WishSharer$Search", "presentBits", "I", false)
  | 7 => ("WishSharer$Search", "projectCount", "I", false)
  | 8 => ("WishSharer$Search", "bar", "J", false)
  | 9 => ("WishSharer$Search", "lotBar", "J", false)
  | 10 => ("WishSharer$Search", "lowersBar", "Z", false)
  | _ => ("WishSharer$Search", "hits", "I", false)
def tyX6 : Nat → FieldType := fun k => match k with
  | 0 => .object "WishSharer$Groups"
  | 1 => .object "WishSharer$Scale"
  | 2 => .array .int
  | 3 => .array .int
  | 4 => .array .int
  | 5 => .array .int
  | 6 => .int
  | 7 => .int
  | 8 => .long
  | 9 => .long
  | 10 => .boolean
  | _ => .int
abbrev wsX60 : List Cond := u_ws RX6 TX6 12
theorem nmX6 : ∀ a, a < 12 → ∀ b, b < 12 → a ≠ b → (TX6 a).2.1 ≠ (TX6 b).2.1 := by decide +kernel
theorem tyX6_ok : ∀ k, k < 12 → parseFieldDescriptor (TX6 k).2.2.1 = some (tyX6 k) := by decide +kernel
abbrev cX6_init : ByteArray := prog_8_method_1_code
def yX6_init : MethodName := ⟨RX6, "<init>", "()V"⟩
abbrev cX6_prepare : ByteArray := prog_8_method_2_code
def yX6_prepare : MethodName := ⟨RX6, "prepare", "(LWishSharer$Roll;)V"⟩
abbrev cX6_tellRanks : ByteArray := prog_8_method_3_code
def yX6_tellRanks : MethodName := ⟨RX6, "tellRanks", "(III[I)V"⟩
abbrev cX6_chargeMove : ByteArray := prog_8_method_4_code
def yX6_chargeMove : MethodName := ⟨RX6, "chargeMove", "(II)V"⟩
abbrev cX6_findBest : ByteArray := prog_8_method_5_code
def yX6_findBest : MethodName := ⟨RX6, "findBest", "()Z"⟩
abbrev cX6_countRight : ByteArray := prog_8_method_6_code
def yX6_countRight : MethodName := ⟨RX6, "countRight", "()I"⟩
abbrev cX6_countBetter : ByteArray := prog_8_method_7_code
def yX6_countBetter : MethodName := ⟨RX6, "countBetter", "([I)I"⟩
abbrev cX6_isPresent : ByteArray := prog_8_method_8_code
def yX6_isPresent : MethodName := ⟨RX6, "isPresent", "(I)Z"⟩
abbrev cX6_friendsBefore : ByteArray := prog_8_method_9_code
def yX6_friendsBefore : MethodName := ⟨RX6, "friendsBefore", "(I[I)I"⟩
abbrev cX6_begin : ByteArray := prog_8_method_10_code
def yX6_begin : MethodName := ⟨RX6, "begin", "(JJZ)V"⟩
abbrev cX6_extend : ByteArray := prog_8_method_11_code
def yX6_extend : MethodName := ⟨RX6, "extend", "(LWishSharer$Search;IJJ)V"⟩
abbrev cX6_judge : ByteArray := prog_8_method_12_code
def yX6_judge : MethodName := ⟨RX6, "judge", "(JJ)V"⟩
abbrev cX6_foundFor : ByteArray := prog_8_method_13_code
def yX6_foundFor : MethodName := ⟨RX6, "foundFor", "(I)I"⟩
abbrev cX6_copyFound : ByteArray := prog_8_method_14_code
def yX6_copyFound : MethodName := ⟨RX6, "copyFound", "([I)V"⟩
abbrev cX6_movedFrom : ByteArray := prog_8_method_15_code
def yX6_movedFrom : MethodName := ⟨RX6, "movedFrom", "([I)I"⟩
def RX7 : String := "WishSharer"
def TX7 : u_T := fun k => match k with
  | 0 => ("WishSharer", "roll", "LWishSharer$Roll;", true)
  | 1 => ("WishSharer", "search", "LWishSharer$Search;", true)
  | 2 => ("WishSharer", "ledger", "LWishSharer$Ledger;", true)
  | 3 => ("WishSharer", "plan", "[I", true)
  | 4 => ("WishSharer", "told", "[I", true)
  | 5 => ("WishSharer", "tale", "[I", true)
  | 6 => ("WishSharer", "taleRanks", "[I", true)
  | _ => ("WishSharer", "toldCount", "I", false)
def tyX7 : Nat → FieldType := fun k => match k with
  | 0 => .object "WishSharer$Roll"
  | 1 => .object "WishSharer$Search"
  | 2 => .object "WishSharer$Ledger"
  | 3 => .array .int
  | 4 => .array .int
  | 5 => .array .int
  | 6 => .array .int
  | _ => .int
abbrev wsX70 : List Cond := u_ws RX7 TX7 8
theorem nmX7 : ∀ a, a < 8 → ∀ b, b < 8 → a ≠ b → (TX7 a).2.1 ≠ (TX7 b).2.1 := by decide +kernel
theorem tyX7_ok : ∀ k, k < 8 → parseFieldDescriptor (TX7 k).2.2.1 = some (tyX7 k) := by decide +kernel
abbrev cX7_init : ByteArray := prog_1_method_1_code
def yX7_init : MethodName := ⟨RX7, "<init>", "()V"⟩
abbrev cX7_pupil : ByteArray := prog_1_method_2_code
def yX7_pupil : MethodName := ⟨RX7, "pupil", "(I)I"⟩
abbrev cX7_project : ByteArray := prog_1_method_3_code
def yX7_project : MethodName := ⟨RX7, "project", "(IIIII)I"⟩
abbrev cX7_wish : ByteArray := prog_1_method_4_code
def yX7_wish : MethodName := ⟨RX7, "wish", "(II)I"⟩
abbrev cX7_wishes : ByteArray := prog_1_method_5_code
def yX7_wishes : MethodName := ⟨RX7, "wishes", "(IIIII)I"⟩
abbrev cX7_friends : ByteArray := prog_1_method_6_code
def yX7_friends : MethodName := ⟨RX7, "friends", "(IIZ)Z"⟩
abbrev cX7_apart : ByteArray := prog_1_method_7_code
def yX7_apart : MethodName := ⟨RX7, "apart", "(IIZ)Z"⟩
abbrev cX7_here : ByteArray := prog_1_method_8_code
def yX7_here : MethodName := ⟨RX7, "here", "(IZ)Z"⟩
abbrev cX7_offered : ByteArray := prog_1_method_9_code
def yX7_offered : MethodName := ⟨RX7, "offered", "(IZ)Z"⟩
abbrev cX7_lots : ByteArray := prog_1_method_10_code
def yX7_lots : MethodName := ⟨RX7, "lots", "(I)Z"⟩
abbrev cX7_count : ByteArray := prog_1_method_11_code
def yX7_count : MethodName := ⟨RX7, "count", "(I)I"⟩
abbrev cX7_of : ByteArray := prog_1_method_12_code
def yX7_of : MethodName := ⟨RX7, "of", "(II)I"⟩
abbrev cX7_rank : ByteArray := prog_1_method_13_code
def yX7_rank : MethodName := ⟨RX7, "rank", "(II)I"⟩
abbrev cX7_put : ByteArray := prog_1_method_14_code
def yX7_put : MethodName := ⟨RX7, "put", "(II)Z"⟩
abbrev cX7_wrong : ByteArray := prog_1_method_15_code
def yX7_wrong : MethodName := ⟨RX7, "wrong", "()I"⟩
abbrev cX7_best : ByteArray := prog_1_method_16_code
def yX7_best : MethodName := ⟨RX7, "best", "()I"⟩
abbrev cX7_plans : ByteArray := prog_1_method_17_code
def yX7_plans : MethodName := ⟨RX7, "plans", "(I)I"⟩
abbrev cX7_worth : ByteArray := prog_1_method_18_code
def yX7_worth : MethodName := ⟨RX7, "worth", "(I)I"⟩
abbrev cX7_swap : ByteArray := prog_1_method_19_code
def yX7_swap : MethodName := ⟨RX7, "swap", "()I"⟩
abbrev cX7_change : ByteArray := prog_1_method_20_code
def yX7_change : MethodName := ⟨RX7, "change", "()I"⟩
abbrev cX7_lie : ByteArray := prog_1_method_21_code
def yX7_lie : MethodName := ⟨RX7, "lie", "(I)I"⟩
abbrev cX7_book : ByteArray := prog_1_method_22_code
def yX7_book : MethodName := ⟨RX7, "book", "()I"⟩
abbrev cX7_year : ByteArray := prog_1_method_23_code
def yX7_year : MethodName := ⟨RX7, "year", "(II)I"⟩
abbrev cX7_undo : ByteArray := prog_1_method_24_code
def yX7_undo : MethodName := ⟨RX7, "undo", "()I"⟩
abbrev cX7_row : ByteArray := prog_1_method_25_code
def yX7_row : MethodName := ⟨RX7, "row", "(I)I"⟩
abbrev cX7_withBit : ByteArray := prog_1_method_26_code
def yX7_withBit : MethodName := ⟨RX7, "withBit", "(IIZ)I"⟩
abbrev cX7_isPlaced : ByteArray := prog_1_method_27_code
def yX7_isPlaced : MethodName := ⟨RX7, "isPlaced", "(I)Z"⟩
abbrev cX7_rankByPlan : ByteArray := prog_1_method_28_code
def yX7_rankByPlan : MethodName := ⟨RX7, "rankByPlan", "(I)I"⟩
abbrev cX7_countRanks : ByteArray := prog_1_method_29_code
def yX7_countRanks : MethodName := ⟨RX7, "countRanks", "(I)I"⟩
abbrev cX7_grief : ByteArray := prog_1_method_30_code
def yX7_grief : MethodName := ⟨RX7, "grief", "()I"⟩
abbrev cX7_friendPairs : ByteArray := prog_1_method_31_code
def yX7_friendPairs : MethodName := ⟨RX7, "friendPairs", "()I"⟩
abbrev cX7_projectsUsed : ByteArray := prog_1_method_32_code
def yX7_projectsUsed : MethodName := ⟨RX7, "projectsUsed", "()I"⟩
abbrev cX7_bothGain : ByteArray := prog_1_method_33_code
def yX7_bothGain : MethodName := ⟨RX7, "bothGain", "(II)Z"⟩
abbrev cX7_gains : ByteArray := prog_1_method_34_code
def yX7_gains : MethodName := ⟨RX7, "gains", "(II)Z"⟩
abbrev cX7_rightAfterExchange : ByteArray := prog_1_method_35_code
def yX7_rightAfterExchange : MethodName := ⟨RX7, "rightAfterExchange", "(II)Z"⟩
abbrev cX7_findPayingTale : ByteArray := prog_1_method_36_code
def yX7_findPayingTale : MethodName := ⟨RX7, "findPayingTale", "(ILWishSharer$Pupil;I)Z"⟩
abbrev cX7_rankByTale : ByteArray := prog_1_method_37_code
def yX7_rankByTale : MethodName := ⟨RX7, "rankByTale", "(I)V"⟩
abbrev cX7_turnToNext : ByteArray := prog_1_method_38_code
def yX7_turnToNext : MethodName := ⟨RX7, "turnToNext", "([II)Z"⟩
abbrev cX7_exchangePlaces : ByteArray := prog_1_method_39_code
def yX7_exchangePlaces : MethodName := ⟨RX7, "exchangePlaces", "([III)V"⟩
def RX8 : String := "WishSharerModel"
def TX8 : u_T := fun k => match k with
  | 0 => ("WishSharerModel", "thrown", "I", false)
  | 1 => ("WishSharerModel", "pupils", "I", false)
  | 2 => ("WishSharerModel", "skills", "[I", true)
  | 3 => ("WishSharerModel", "isHere", "[Z", true)
  | 4 => ("WishSharerModel", "wishes", "[I", true)
  | 5 => ("WishSharerModel", "wish", "[I", true)
  | 6 => ("WishSharerModel", "score", "[I", true)
  | 7 => ("WishSharerModel", "plan", "[I", true)
  | 8 => ("WishSharerModel", "areFriends", "[Z", true)
  | 9 => ("WishSharerModel", "areApart", "[Z", true)
  | 10 => ("WishSharerModel", "lot", "[I", true)
  | 11 => ("WishSharerModel", "projects", "I", false)
  | 12 => ("WishSharerModel", "kind", "[I", true)
  | 13 => ("WishSharerModel", "least", "[I", true)
  | 14 => ("WishSharerModel", "most", "[I", true)
  | 15 => ("WishSharerModel", "wanted", "[I", true)
  | 16 => ("WishSharerModel", "leader", "[I", true)
  | 17 => ("WishSharerModel", "isOffered", "[Z", true)
  | 18 => ("WishSharerModel", "ranks", "I", false)
  | 19 => ("WishSharerModel", "grief", "I", false)
  | 20 => ("WishSharerModel", "pals", "I", false)
  | 21 => ("WishSharerModel", "trial", "[I", true)
  | 22 => ("WishSharerModel", "best", "[I", true)
  | 23 => ("WishSharerModel", "found", "I", false)
  | 24 => ("WishSharerModel", "bestRanks", "I", false)
  | 25 => ("WishSharerModel", "bestGrief", "I", false)
  | 26 => ("WishSharerModel", "bestFriends", "I", false)
  | 27 => ("WishSharerModel", "bestMoves", "I", false)
  | 28 => ("WishSharerModel", "aim", "I", false)
  | 29 => ("WishSharerModel", "order", "[I", true)
  | 30 => ("WishSharerModel", "true1", "[I", true)
  | 31 => ("WishSharerModel", "years", "I", false)
  | 32 => ("WishSharerModel", "yearPlan", "[I", true)
  | 33 => ("WishSharerModel", "yearRank", "[I", true)
  | 34 => ("WishSharerModel", "yearPupils", "[I", true)
  | 35 => ("WishSharerModel", "row", "[I", true)
  | _ => ("WishSharerModel", "rows", "I", false)
def tyX8 : Nat → FieldType := fun k => match k with
  | 0 => .int
  | 1 => .int
  | 2 => .array .int
  | 3 => .array .boolean
  | 4 => .array .int
  | 5 => .array .int
  | 6 => .array .int
  | 7 => .array .int
  | 8 => .array .boolean
  | 9 => .array .boolean
  | 10 => .array .int
  | 11 => .int
  | 12 => .array .int
  | 13 => .array .int
  | 14 => .array .int
  | 15 => .array .int
  | 16 => .array .int
  | 17 => .array .boolean
  | 18 => .int
  | 19 => .int
  | 20 => .int
  | 21 => .array .int
  | 22 => .array .int
  | 23 => .int
  | 24 => .int
  | 25 => .int
  | 26 => .int
  | 27 => .int
  | 28 => .int
  | 29 => .array .int
  | 30 => .array .int
  | 31 => .int
  | 32 => .array .int
  | 33 => .array .int
  | 34 => .array .int
  | 35 => .array .int
  | _ => .int
abbrev wsX80 : List Cond := u_ws RX8 TX8 37
theorem nmX8 : ∀ a, a < 37 → ∀ b, b < 37 → a ≠ b → (TX8 a).2.1 ≠ (TX8 b).2.1 := by decide +kernel
theorem tyX8_ok : ∀ k, k < 37 → parseFieldDescriptor (TX8 k).2.2.1 = some (tyX8 k) := by decide +kernel
abbrev cX8_init : ByteArray := prog_10_method_1_code
def yX8_init : MethodName := ⟨RX8, "<init>", "()V"⟩
abbrev cX8_thrown : ByteArray := prog_10_method_2_code
def yX8_thrown : MethodName := ⟨RX8, "thrown", "()I"⟩
abbrev cX8_in : ByteArray := prog_10_method_3_code
def yX8_in : MethodName := ⟨RX8, "in", "(JJJ)Z"⟩
abbrev cX8_refuse : ByteArray := prog_10_method_4_code
def yX8_refuse : MethodName := ⟨RX8, "refuse", "()I"⟩
abbrev cX8_isPupil : ByteArray := prog_10_method_5_code
def yX8_isPupil : MethodName := ⟨RX8, "isPupil", "(I)Z"⟩
abbrev cX8_isProject : ByteArray := prog_10_method_6_code
def yX8_isProject : MethodName := ⟨RX8, "isProject", "(I)Z"⟩
abbrev cX8_pupil : ByteArray := prog_10_method_7_code
def yX8_pupil : MethodName := ⟨RX8, "pupil", "(I)I"⟩
abbrev cX8_project : ByteArray := prog_10_method_8_code
def yX8_project : MethodName := ⟨RX8, "project", "(IIIII)I"⟩
abbrev cX8_hasWish : ByteArray := prog_10_method_9_code
def yX8_hasWish : MethodName := ⟨RX8, "hasWish", "(II)Z"⟩
abbrev cX8_add : ByteArray := prog_10_method_10_code
def yX8_add : MethodName := ⟨RX8, "add", "(II)V"⟩
abbrev cX8_wish : ByteArray := prog_10_method_11_code
def yX8_wish : MethodName := ⟨RX8, "wish", "(II)I"⟩
abbrev cX8_wishes : ByteArray := prog_10_method_12_code
def yX8_wishes : MethodName := ⟨RX8, "wishes", "(IIIII)I"⟩
abbrev cX8_areTwo : ByteArray := prog_10_method_13_code
def yX8_areTwo : MethodName := ⟨RX8, "areTwo", "(II)Z"⟩
abbrev cX8_friends : ByteArray := prog_10_method_14_code
def yX8_friends : MethodName := ⟨RX8, "friends", "(IIZ)Z"⟩
abbrev cX8_apart : ByteArray := prog_10_method_15_code
def yX8_apart : MethodName := ⟨RX8, "apart", "(IIZ)Z"⟩
abbrev cX8_here : ByteArray := prog_10_method_16_code
def yX8_here : MethodName := ⟨RX8, "here", "(IZ)Z"⟩
abbrev cX8_offered : ByteArray := prog_10_method_17_code
def yX8_offered : MethodName := ⟨RX8, "offered", "(IZ)Z"⟩
abbrev cX8_lots : ByteArray := prog_10_method_18_code
def yX8_lots : MethodName := ⟨RX8, "lots", "(I)Z"⟩
abbrev cX8_present : ByteArray := prog_10_method_19_code
def yX8_present : MethodName := ⟨RX8, "present", "()I"⟩
abbrev cX8_count : ByteArray := prog_10_method_20_code
def yX8_count : MethodName := ⟨RX8, "count", "(I)I"⟩
abbrev cX8_rankOf : ByteArray := prog_10_method_21_code
def yX8_rankOf : MethodName := ⟨RX8, "rankOf", "(II)I"⟩
abbrev cX8_of : ByteArray := prog_10_method_22_code
def yX8_of : MethodName := ⟨RX8, "of", "(II)I"⟩
abbrev cX8_rank : ByteArray := prog_10_method_23_code
def yX8_rank : MethodName := ⟨RX8, "rank", "(II)I"⟩
abbrev cX8_put : ByteArray := prog_10_method_24_code
def yX8_put : MethodName := ⟨RX8, "put", "(II)Z"⟩
abbrev cX8_sizeOf : ByteArray := prog_10_method_25_code
def yX8_sizeOf : MethodName := ⟨RX8, "sizeOf", "([III)I"⟩
abbrev cX8_isTwice : ByteArray := prog_10_method_26_code
def yX8_isTwice : MethodName := ⟨RX8, "isTwice", "(II)Z"⟩
abbrev cX8_isSize : ByteArray := prog_10_method_27_code
def yX8_isSize : MethodName := ⟨RX8, "isSize", "(II)Z"⟩
abbrev cX8_hasSkills : ByteArray := prog_10_method_28_code
def yX8_hasSkills : MethodName := ⟨RX8, "hasSkills", "([III)Z"⟩
abbrev cX8_isLed : ByteArray := prog_10_method_29_code
def yX8_isLed : MethodName := ⟨RX8, "isLed", "([III)Z"⟩
abbrev cX8_wrongOf : ByteArray := prog_10_method_30_code
def yX8_wrongOf : MethodName := ⟨RX8, "wrongOf", "([I)I"⟩
abbrev cX8_wrong : ByteArray := prog_10_method_31_code
def yX8_wrong : MethodName := ⟨RX8, "wrong", "()I"⟩
abbrev cX8_nines : ByteArray := prog_10_method_32_code
def yX8_nines : MethodName := ⟨RX8, "nines", "(I)I"⟩
abbrev cX8_rankBy : ByteArray := prog_10_method_33_code
def yX8_rankBy : MethodName := ⟨RX8, "rankBy", "(II)I"⟩
abbrev cX8_weigh : ByteArray := prog_10_method_34_code
def yX8_weigh : MethodName := ⟨RX8, "weigh", "([I)V"⟩
abbrev cX8_isAhead : ByteArray := prog_10_method_35_code
def yX8_isAhead : MethodName := ⟨RX8, "isAhead", "([I[I)Z"⟩
abbrev cX8_isBetter : ByteArray := prog_10_method_36_code
def yX8_isBetter : MethodName := ⟨RX8, "isBetter", "([I)Z"⟩
abbrev cX8_keeps : ByteArray := prog_10_method_37_code
def yX8_keeps : MethodName := ⟨RX8, "keeps", "([I)V"⟩
abbrev cX8_movesOf : ByteArray := prog_10_method_38_code
def yX8_movesOf : MethodName := ⟨RX8, "movesOf", "([I)I"⟩
abbrev cX8_finds : ByteArray := prog_10_method_39_code
def yX8_finds : MethodName := ⟨RX8, "finds", "()V"⟩
abbrev cX8_may : ByteArray := prog_10_method_40_code
def yX8_may : MethodName := ⟨RX8, "may", "(II)Z"⟩
abbrev cX8_goes : ByteArray := prog_10_method_41_code
def yX8_goes : MethodName := ⟨RX8, "goes", "(I)V"⟩
abbrev cX8_all : ByteArray := prog_10_method_42_code
def yX8_all : MethodName := ⟨RX8, "all", "(I)V"⟩
abbrev cX8_takes : ByteArray := prog_10_method_43_code
def yX8_takes : MethodName := ⟨RX8, "takes", "()V"⟩
abbrev cX8_best : ByteArray := prog_10_method_44_code
def yX8_best : MethodName := ⟨RX8, "best", "()I"⟩
abbrev cX8_plans : ByteArray := prog_10_method_45_code
def yX8_plans : MethodName := ⟨RX8, "plans", "(I)I"⟩
abbrev cX8_worth : ByteArray := prog_10_method_46_code
def yX8_worth : MethodName := ⟨RX8, "worth", "(I)I"⟩
abbrev cX8_wouldSwap : ByteArray := prog_10_method_47_code
def yX8_wouldSwap : MethodName := ⟨RX8, "wouldSwap", "(II)Z"⟩
abbrev cX8_swap : ByteArray := prog_10_method_48_code
def yX8_swap : MethodName := ⟨RX8, "swap", "()I"⟩
abbrev cX8_change : ByteArray := prog_10_method_49_code
def yX8_change : MethodName := ⟨RX8, "change", "()I"⟩
abbrev cX8_nextOrder : ByteArray := prog_10_method_50_code
def yX8_nextOrder : MethodName := ⟨RX8, "nextOrder", "()Z"⟩
abbrev cX8_exchange : ByteArray := prog_10_method_51_code
def yX8_exchange : MethodName := ⟨RX8, "exchange", "(II)V"⟩
abbrev cX8_lie : ByteArray := prog_10_method_52_code
def yX8_lie : MethodName := ⟨RX8, "lie", "(I)I"⟩
abbrev cX8_book : ByteArray := prog_10_method_53_code
def yX8_book : MethodName := ⟨RX8, "book", "()I"⟩
abbrev cX8_year : ByteArray := prog_10_method_54_code
def yX8_year : MethodName := ⟨RX8, "year", "(II)I"⟩
abbrev cX8_undo : ByteArray := prog_10_method_55_code
def yX8_undo : MethodName := ⟨RX8, "undo", "()I"⟩
abbrev cX8_row : ByteArray := prog_10_method_56_code
def yX8_row : MethodName := ⟨RX8, "row", "(I)I"⟩
def RJx145de : String := "java/io/Serializable"
def TJx145de : u_T := fun k => match k with
  | _ => ("", "", "", false)
def tyJx145de : Nat → FieldType := fun k => match k with
  | _ => .int
abbrev wsJx145de0 : List Cond := u_ws RJx145de TJx145de 0
theorem nmJx145de : ∀ a, a < 0 → ∀ b, b < 0 → a ≠ b → (TJx145de a).2.1 ≠ (TJx145de b).2.1 := by decide +kernel
theorem tyJx145de_ok : ∀ k, k < 0 → parseFieldDescriptor (TJx145de k).2.2.1 = some (tyJx145de k) := by decide +kernel
def RJ6 : String := "java/lang/Integer"
def TJ6 : u_T := fun k => match k with
  | _ => ("", "", "", false)
def tyJ6 : Nat → FieldType := fun k => match k with
  | _ => .int
abbrev wsJ60 : List Cond := u_ws RJ6 TJ6 0
theorem nmJ6 : ∀ a, a < 0 → ∀ b, b < 0 → a ≠ b → (TJ6 a).2.1 ≠ (TJ6 b).2.1 := by decide +kernel
theorem tyJ6_ok : ∀ k, k < 0 → parseFieldDescriptor (TJ6 k).2.2.1 = some (tyJ6 k) := by decide +kernel
abbrev cJ6_bitCount_0f7a4 : ByteArray := prog_13_method_49_code
def yJ6_bitCount_0f7a4 : MethodName := ⟨RJ6, "bitCount", "(I)I"⟩
def RJ9 : String := "java/lang/Math"
def TJ9 : u_T := fun k => match k with
  | _ => ("", "", "", false)
def tyJ9 : Nat → FieldType := fun k => match k with
  | _ => .int
abbrev wsJ90 : List Cond := u_ws RJ9 TJ9 0
theorem nmJ9 : ∀ a, a < 0 → ∀ b, b < 0 → a ≠ b → (TJ9 a).2.1 ≠ (TJ9 b).2.1 := by decide +kernel
theorem tyJ9_ok : ∀ k, k < 0 → parseFieldDescriptor (TJ9 k).2.2.1 = some (tyJ9 k) := by decide +kernel
abbrev cJ9_max_7cf53 : ByteArray := prog_14_method_65_code
def yJ9_max_7cf53 : MethodName := ⟨RJ9, "max", "(II)I"⟩
def RJ10 : String := "java/lang/System"
def TJ10 : u_T := fun k => match k with
  | _ => ("", "", "", false)
def tyJ10 : Nat → FieldType := fun k => match k with
  | _ => .int
abbrev wsJ100 : List Cond := u_ws RJ10 TJ10 0
theorem nmJ10 : ∀ a, a < 0 → ∀ b, b < 0 → a ≠ b → (TJ10 a).2.1 ≠ (TJ10 b).2.1 := by decide +kernel
theorem tyJ10_ok : ∀ k, k < 0 → parseFieldDescriptor (TJ10 k).2.2.1 = some (tyJ10 k) := by decide +kernel
def RL : String := "WishSharerLaw"
abbrev cL_of : ByteArray := method_3_code
def yL_of : MethodName := ⟨RL, "of", "(LWishSharer;II[J)I"⟩
abbrev cL_row : ByteArray := method_4_code
def yL_row : MethodName := ⟨RL, "row", "(LWishSharer;I[J)I"⟩
abbrev cL_law : ByteArray := code
def yL_law : MethodName := ⟨RL, "law", "([I)Z"⟩
def wsX0_init : List Cond := .code yX0_init cX0_init 1 none :: ([.methodLink RX0 3 objectInit, .instanceMethod objectInit, .code objectInit ⟨#[0xb1]⟩ 1 none, .arrayClass .int, .fieldLink RX0 9 "WishSharer$Groups" "fitting" "[I", .fieldLink RX0 15 "WishSharer$Groups" "open" "[I"] ++ wsX00)
def wsX4_presentBits : List Cond := .code yX4_presentBits cX4_presentBits 3 (some .int) :: ([.fieldLink RX4 29 "WishSharer$Roll" "pupilCount" "I", .fieldLink RX4 11 "WishSharer$Roll" "pupils" "[LWishSharer$Pupil;", .fieldLink RX4 69 "WishSharer$Pupil" "present" "Z"] ++ wsX40 ++ wsX30)
abbrev vwCl : List vw_C := [(RX0, TX0, 2), (RX1, TX1, 3), (RX2, TX2, 6), (RX3, TX3, 7), (RX4, TX4, 5), (RX5, TX5, 2), (RX6, TX6, 12), (RX7, TX7, 8), (RX8, TX8, 37)]
def TB : List Cond := lw_tbl.filter goodWord
theorem tbm (i : Nat) {w : Cond} (h : lw_tbl[i]? = some w) (g : goodWord w = true) : w ∈ TB := List.mem_filter.mpr ⟨List.mem_of_getElem? h, g⟩
theorem tb_good : ∀ w ∈ TB, goodWord w = true := fun _ h => (List.mem_filter.mp h).2
abbrev MT : Type := MethodName × ByteArray × Nat × Option FieldType × Nat
def MOK (M : MT) : Prop := plainName M.1.cls = true ∧ Cond.code M.1 M.2.1 M.2.2.1 M.2.2.2.1 ∈ TB ∧ M.2.2.1 ≤ 40 ∧ M.1.cls ≠ "java/lang/invoke/MethodHandle" ∧ M.1.cls ≠ "java/lang/invoke/VarHandle" ∧ (parseMethodDescriptor M.1.desc).map (fun d => d.parameters.length) = some M.2.2.2.2
def MX0_init : MT := (yX0_init, cX0_init, 1, none, 0)
def MX0_fill : MT := (yX0_fill, cX0_fill, 7, none, 1)
theorem ok_MX0_fill : MOK MX0_fill := ⟨by decide +kernel, tbm 453 (by decide +kernel) (by decide +kernel), by decide +kernel, by decide +kernel, by decide +kernel, by decide +kernel⟩
def MX0_fits : MT := (yX0_fits, cX0_fits, 3, (some FieldType.boolean), 2)
theorem ok_MX0_fits : MOK MX0_fits := ⟨by decide +kernel, tbm 500 (by decide +kernel) (by decide +kernel), by decide +kernel, by decide +kernel, by decide +kernel, by decide +kernel⟩
def MX0_canGrow : MT := (yX0_canGrow, cX0_canGrow, 3, (some FieldType.boolean), 2)
theorem ok_MX0_canGrow : MOK MX0_canGrow := ⟨by decide +kernel, tbm 511 (by decide +kernel) (by decide +kernel), by decide +kernel, by decide +kernel, by decide +kernel, by decide +kernel⟩
def MX1_init : MT := (yX1_init, cX1_init, 1, none, 0)
def MX1_note : MT := (yX1_note, cX1_note, 5, none, 3)
theorem ok_MX1_note : MOK MX1_note := ⟨by decide +kernel, tbm 645 (by decide +kernel) (by decide +kernel), by decide +kernel, by decide +kernel, by decide +kernel, by decide +kernel⟩
def MX1_projectOf : MT := (yX1_projectOf, cX1_projectOf, 4, (some FieldType.int), 2)
theorem ok_MX1_projectOf : MOK MX1_projectOf := ⟨by decide +kernel, tbm 668 (by decide +kernel) (by decide +kernel), by decide +kernel, by decide +kernel, by decide +kernel, by decide +kernel⟩
def MX1_rankOf : MT := (yX1_rankOf, cX1_rankOf, 4, (some FieldType.int), 2)
theorem ok_MX1_rankOf : MOK MX1_rankOf := ⟨by decide +kernel, tbm 660 (by decide +kernel) (by decide +kernel), by decide +kernel, by decide +kernel, by decide +kernel, by decide +kernel⟩
def MX1_cellOf : MT := (yX1_cellOf, cX1_cellOf, 3, (some FieldType.int), 2)
theorem ok_MX1_cellOf : MOK MX1_cellOf := ⟨by decide +kernel, tbm 648 (by decide +kernel) (by decide +kernel), by decide +kernel, by decide +kernel, by decide +kernel, by decide +kernel⟩
def MX2_init : MT := (yX2_init, cX2_init, 1, none, 0)
def MX2_takes : MT := (yX2_takes, cX2_takes, 2, (some FieldType.boolean), 1)
theorem ok_MX2_takes : MOK MX2_takes := ⟨by decide +kernel, tbm 420 (by decide +kernel) (by decide +kernel), by decide +kernel, by decide +kernel, by decide +kernel, by decide +kernel⟩
def MX2_runsTwice : MT := (yX2_runsTwice, cX2_runsTwice, 2, (some FieldType.boolean), 1)
theorem ok_MX2_runsTwice : MOK MX2_runsTwice := ⟨by decide +kernel, tbm 424 (by decide +kernel) (by decide +kernel), by decide +kernel, by decide +kernel, by decide +kernel, by decide +kernel⟩
def MX2_lacksLeader : MT := (yX2_lacksLeader, cX2_lacksLeader, 2, (some FieldType.boolean), 1)
theorem ok_MX2_lacksLeader : MOK MX2_lacksLeader := ⟨by decide +kernel, tbm 428 (by decide +kernel) (by decide +kernel), by decide +kernel, by decide +kernel, by decide +kernel, by decide +kernel⟩
def MX3_init : MT := (yX3_init, cX3_init, 2, none, 0)
def MX3_addWish : MT := (yX3_addWish, cX3_addWish, 2, (some FieldType.boolean), 1)
theorem ok_MX3_addWish : MOK MX3_addWish := ⟨by decide +kernel, tbm 321 (by decide +kernel) (by decide +kernel), by decide +kernel, by decide +kernel, by decide +kernel, by decide +kernel⟩
def MX3_clearWishes : MT := (yX3_clearWishes, cX3_clearWishes, 2, none, 0)
theorem ok_MX3_clearWishes : MOK MX3_clearWishes := ⟨by decide +kernel, tbm 329 (by decide +kernel) (by decide +kernel), by decide +kernel, by decide +kernel, by decide +kernel, by decide +kernel⟩
def MX3_rankIn : MT := (yX3_rankIn, cX3_rankIn, 2, (some FieldType.int), 1)
theorem ok_MX3_rankIn : MOK MX3_rankIn := ⟨by decide +kernel, tbm 391 (by decide +kernel) (by decide +kernel), by decide +kernel, by decide +kernel, by decide +kernel, by decide +kernel⟩
def MX4_init : MT := (yX4_init, cX4_init, 2, none, 0)
def MX4_addPupil : MT := (yX4_addPupil, cX4_addPupil, 3, (some FieldType.int), 1)
theorem ok_MX4_addPupil : MOK MX4_addPupil := ⟨by decide +kernel, tbm 292 (by decide +kernel) (by decide +kernel), by decide +kernel, by decide +kernel, by decide +kernel, by decide +kernel⟩
def MX4_addProject : MT := (yX4_addProject, cX4_addProject, 8, (some FieldType.int), 5)
theorem ok_MX4_addProject : MOK MX4_addProject := ⟨by decide +kernel, tbm 304 (by decide +kernel) (by decide +kernel), by decide +kernel, by decide +kernel, by decide +kernel, by decide +kernel⟩
def MX4_isPupil : MT := (yX4_isPupil, cX4_isPupil, 2, (some FieldType.boolean), 1)
theorem ok_MX4_isPupil : MOK MX4_isPupil := ⟨by decide +kernel, tbm 300 (by decide +kernel) (by decide +kernel), by decide +kernel, by decide +kernel, by decide +kernel, by decide +kernel⟩
def MX4_isProject : MT := (yX4_isProject, cX4_isProject, 2, (some FieldType.boolean), 1)
theorem ok_MX4_isProject : MOK MX4_isProject := ⟨by decide +kernel, tbm 317 (by decide +kernel) (by decide +kernel), by decide +kernel, by decide +kernel, by decide +kernel, by decide +kernel⟩
def MX4_pupilOf : MT := (yX4_pupilOf, cX4_pupilOf, 2, (some (FieldType.object "WishSharer$Pupil")), 1)
theorem ok_MX4_pupilOf : MOK MX4_pupilOf := ⟨by decide +kernel, tbm 312 (by decide +kernel) (by decide +kernel), by decide +kernel, by decide +kernel, by decide +kernel, by decide +kernel⟩
def MX4_projectOf : MT := (yX4_projectOf, cX4_projectOf, 2, (some (FieldType.object "WishSharer$Project")), 1)
theorem ok_MX4_projectOf : MOK MX4_projectOf := ⟨by decide +kernel, tbm 352 (by decide +kernel) (by decide +kernel), by decide +kernel, by decide +kernel, by decide +kernel, by decide +kernel⟩
def MX4_scoreOf : MT := (yX4_scoreOf, cX4_scoreOf, 3, (some FieldType.int), 1)
theorem ok_MX4_scoreOf : MOK MX4_scoreOf := ⟨by decide +kernel, tbm 564 (by decide +kernel) (by decide +kernel), by decide +kernel, by decide +kernel, by decide +kernel, by decide +kernel⟩
def MX4_addScore : MT := (yX4_addScore, cX4_addScore, 4, none, 2)
theorem ok_MX4_addScore : MOK MX4_addScore := ⟨by decide +kernel, tbm 652 (by decide +kernel) (by decide +kernel), by decide +kernel, by decide +kernel, by decide +kernel, by decide +kernel⟩
def MX4_areFriends : MT := (yX4_areFriends, cX4_areFriends, 4, (some FieldType.boolean), 2)
theorem ok_MX4_areFriends : MOK MX4_areFriends := ⟨by decide +kernel, tbm 573 (by decide +kernel) (by decide +kernel), by decide +kernel, by decide +kernel, by decide +kernel, by decide +kernel⟩
def MX4_presentBits : MT := (yX4_presentBits, cX4_presentBits, 3, (some FieldType.int), 0)
theorem ok_MX4_presentBits : MOK MX4_presentBits := ⟨by decide +kernel, tbm 373 (by decide +kernel) (by decide +kernel), by decide +kernel, by decide +kernel, by decide +kernel, by decide +kernel⟩
def MX4_offeredCount : MT := (yX4_offeredCount, cX4_offeredCount, 3, (some FieldType.int), 0)
theorem ok_MX4_offeredCount : MOK MX4_offeredCount := ⟨by decide +kernel, tbm 383 (by decide +kernel) (by decide +kernel), by decide +kernel, by decide +kernel, by decide +kernel, by decide +kernel⟩
def MX4_drawLots : MT := (yX4_drawLots, cX4_drawLots, 4, none, 1)
theorem ok_MX4_drawLots : MOK MX4_drawLots := ⟨by decide +kernel, tbm 361 (by decide +kernel) (by decide +kernel), by decide +kernel, by decide +kernel, by decide +kernel, by decide +kernel⟩
def MX4_placeOf : MT := (yX4_placeOf, cX4_placeOf, 3, (some FieldType.int), 1)
theorem ok_MX4_placeOf : MOK MX4_placeOf := ⟨by decide +kernel, tbm 467 (by decide +kernel) (by decide +kernel), by decide +kernel, by decide +kernel, by decide +kernel, by decide +kernel⟩
def MX4_faultOf : MT := (yX4_faultOf, cX4_faultOf, 5, (some FieldType.int), 1)
theorem ok_MX4_faultOf : MOK MX4_faultOf := ⟨by decide +kernel, tbm 403 (by decide +kernel) (by decide +kernel), by decide +kernel, by decide +kernel, by decide +kernel, by decide +kernel⟩
def MX4_firstPupilWith : MT := (yX4_firstPupilWith, cX4_firstPupilWith, 4, (some FieldType.int), 2)
theorem ok_MX4_firstPupilWith : MOK MX4_firstPupilWith := ⟨by decide +kernel, tbm 437 (by decide +kernel) (by decide +kernel), by decide +kernel, by decide +kernel, by decide +kernel, by decide +kernel⟩
def MX4_pupilHas : MT := (yX4_pupilHas, cX4_pupilHas, 6, (some FieldType.boolean), 3)
theorem ok_MX4_pupilHas : MOK MX4_pupilHas := ⟨by decide +kernel, tbm 441 (by decide +kernel) (by decide +kernel), by decide +kernel, by decide +kernel, by decide +kernel, by decide +kernel⟩
def MX4_firstProjectWith : MT := (yX4_firstProjectWith, cX4_firstProjectWith, 4, (some FieldType.int), 2)
theorem ok_MX4_firstProjectWith : MOK MX4_firstProjectWith := ⟨by decide +kernel, tbm 407 (by decide +kernel) (by decide +kernel), by decide +kernel, by decide +kernel, by decide +kernel, by decide +kernel⟩
def MX4_groupHas : MT := (yX4_groupHas, cX4_groupHas, 5, (some FieldType.boolean), 3)
theorem ok_MX4_groupHas : MOK MX4_groupHas := ⟨by decide +kernel, tbm 415 (by decide +kernel) (by decide +kernel), by decide +kernel, by decide +kernel, by decide +kernel, by decide +kernel⟩
def MX4_lacksSkill : MT := (yX4_lacksSkill, cX4_lacksSkill, 6, (some FieldType.boolean), 2)
theorem ok_MX4_lacksSkill : MOK MX4_lacksSkill := ⟨by decide +kernel, tbm 432 (by decide +kernel) (by decide +kernel), by decide +kernel, by decide +kernel, by decide +kernel, by decide +kernel⟩
def MX4_groupOf : MT := (yX4_groupOf, cX4_groupOf, 5, (some FieldType.int), 2)
theorem ok_MX4_groupOf : MOK MX4_groupOf := ⟨by decide +kernel, tbm 411 (by decide +kernel) (by decide +kernel), by decide +kernel, by decide +kernel, by decide +kernel, by decide +kernel⟩
def MX4_allows : MT := (yX4_allows, cX4_allows, 4, (some FieldType.boolean), 2)
theorem ok_MX4_allows : MOK MX4_allows := ⟨by decide +kernel, tbm 458 (by decide +kernel) (by decide +kernel), by decide +kernel, by decide +kernel, by decide +kernel, by decide +kernel⟩
def MX5_init : MT := (yX5_init, cX5_init, 1, none, 0)
def MX5_fill : MT := (yX5_fill, cX5_fill, 4, none, 1)
theorem ok_MX5_fill : MOK MX5_fill := ⟨by decide +kernel, tbm 462 (by decide +kernel) (by decide +kernel), by decide +kernel, by decide +kernel, by decide +kernel, by decide +kernel⟩
def MX5_fillPupil : MT := (yX5_fillPupil, cX5_fillPupil, 10, none, 4)
theorem ok_MX5_fillPupil : MOK MX5_fillPupil := ⟨by decide +kernel, tbm 471 (by decide +kernel) (by decide +kernel), by decide +kernel, by decide +kernel, by decide +kernel, by decide +kernel⟩
def MX5_costOfRank : MT := (yX5_costOfRank, cX5_costOfRank, 4, (some FieldType.long), 2)
theorem ok_MX5_costOfRank : MOK MX5_costOfRank := ⟨by decide +kernel, tbm 477 (by decide +kernel) (by decide +kernel), by decide +kernel, by decide +kernel, by decide +kernel, by decide +kernel⟩
def MX5_chargeMove : MT := (yX5_chargeMove, cX5_chargeMove, 4, none, 2)
theorem ok_MX5_chargeMove : MOK MX5_chargeMove := ⟨by decide +kernel, tbm 606 (by decide +kernel) (by decide +kernel), by decide +kernel, by decide +kernel, by decide +kernel, by decide +kernel⟩
def MX5_costOf : MT := (yX5_costOf, cX5_costOf, 3, (some FieldType.long), 2)
theorem ok_MX5_costOf : MOK MX5_costOf := ⟨by decide +kernel, tbm 516 (by decide +kernel) (by decide +kernel), by decide +kernel, by decide +kernel, by decide +kernel, by decide +kernel⟩
def MX5_digitOf : MT := (yX5_digitOf, cX5_digitOf, 3, (some FieldType.long), 2)
theorem ok_MX5_digitOf : MOK MX5_digitOf := ⟨by decide +kernel, tbm 520 (by decide +kernel) (by decide +kernel), by decide +kernel, by decide +kernel, by decide +kernel, by decide +kernel⟩
def MX5_cellOf : MT := (yX5_cellOf, cX5_cellOf, 4, (some FieldType.int), 2)
theorem ok_MX5_cellOf : MOK MX5_cellOf := ⟨by decide +kernel, tbm 474 (by decide +kernel) (by decide +kernel), by decide +kernel, by decide +kernel, by decide +kernel, by decide +kernel⟩
def MX6_init : MT := (yX6_init, cX6_init, 1, none, 0)
def MX6_prepare : MT := (yX6_prepare, cX6_prepare, 4, none, 1)
theorem ok_MX6_prepare : MOK MX6_prepare := ⟨by decide +kernel, tbm 449 (by decide +kernel) (by decide +kernel), by decide +kernel, by decide +kernel, by decide +kernel, by decide +kernel⟩
def MX6_tellRanks : MT := (yX6_tellRanks, cX6_tellRanks, 5, none, 4)
theorem ok_MX6_tellRanks : MOK MX6_tellRanks := ⟨by decide +kernel, tbm 632 (by decide +kernel) (by decide +kernel), by decide +kernel, by decide +kernel, by decide +kernel, by decide +kernel⟩
def MX6_chargeMove : MT := (yX6_chargeMove, cX6_chargeMove, 3, none, 2)
theorem ok_MX6_chargeMove : MOK MX6_chargeMove := ⟨by decide +kernel, tbm 602 (by decide +kernel) (by decide +kernel), by decide +kernel, by decide +kernel, by decide +kernel, by decide +kernel⟩
def MX6_findBest : MT := (yX6_findBest, cX6_findBest, 1, (some FieldType.boolean), 0)
theorem ok_MX6_findBest : MOK MX6_findBest := ⟨by decide +kernel, tbm 483 (by decide +kernel) (by decide +kernel), by decide +kernel, by decide +kernel, by decide +kernel, by decide +kernel⟩
def MX6_countRight : MT := (yX6_countRight, cX6_countRight, 1, (some FieldType.int), 0)
theorem ok_MX6_countRight : MOK MX6_countRight := ⟨by decide +kernel, tbm 532 (by decide +kernel) (by decide +kernel), by decide +kernel, by decide +kernel, by decide +kernel, by decide +kernel⟩
def MX6_countBetter : MT := (yX6_countBetter, cX6_countBetter, 7, (some FieldType.int), 1)
theorem ok_MX6_countBetter : MOK MX6_countBetter := ⟨by decide +kernel, tbm 536 (by decide +kernel) (by decide +kernel), by decide +kernel, by decide +kernel, by decide +kernel, by decide +kernel⟩
def MX6_isPresent : MT := (yX6_isPresent, cX6_isPresent, 2, (some FieldType.boolean), 1)
theorem ok_MX6_isPresent : MOK MX6_isPresent := ⟨by decide +kernel, tbm 507 (by decide +kernel) (by decide +kernel), by decide +kernel, by decide +kernel, by decide +kernel, by decide +kernel⟩
def MX6_friendsBefore : MT := (yX6_friendsBefore, cX6_friendsBefore, 6, (some FieldType.int), 2)
theorem ok_MX6_friendsBefore : MOK MX6_friendsBefore := ⟨by decide +kernel, tbm 540 (by decide +kernel) (by decide +kernel), by decide +kernel, by decide +kernel, by decide +kernel, by decide +kernel⟩
def MX6_begin : MT := (yX6_begin, cX6_begin, 7, none, 3)
theorem ok_MX6_begin : MOK MX6_begin := ⟨by decide +kernel, tbm 488 (by decide +kernel) (by decide +kernel), by decide +kernel, by decide +kernel, by decide +kernel, by decide +kernel⟩
def MX6_extend : MT := (yX6_extend, cX6_extend, 11, none, 4)
theorem ok_MX6_extend : MOK MX6_extend := ⟨by decide +kernel, tbm 492 (by decide +kernel) (by decide +kernel), by decide +kernel, by decide +kernel, by decide +kernel, by decide +kernel⟩
def MX6_judge : MT := (yX6_judge, cX6_judge, 6, none, 2)
theorem ok_MX6_judge : MOK MX6_judge := ⟨by decide +kernel, tbm 496 (by decide +kernel) (by decide +kernel), by decide +kernel, by decide +kernel, by decide +kernel, by decide +kernel⟩
def MX6_foundFor : MT := (yX6_foundFor, cX6_foundFor, 2, (some FieldType.int), 1)
theorem ok_MX6_foundFor : MOK MX6_foundFor := ⟨by decide +kernel, tbm 619 (by decide +kernel) (by decide +kernel), by decide +kernel, by decide +kernel, by decide +kernel, by decide +kernel⟩
def MX6_copyFound : MT := (yX6_copyFound, cX6_copyFound, 3, none, 1)
theorem ok_MX6_copyFound : MOK MX6_copyFound := ⟨by decide +kernel, tbm 524 (by decide +kernel) (by decide +kernel), by decide +kernel, by decide +kernel, by decide +kernel, by decide +kernel⟩
def MX6_movedFrom : MT := (yX6_movedFrom, cX6_movedFrom, 4, (some FieldType.int), 1)
theorem ok_MX6_movedFrom : MOK MX6_movedFrom := ⟨by decide +kernel, tbm 611 (by decide +kernel) (by decide +kernel), by decide +kernel, by decide +kernel, by decide +kernel, by decide +kernel⟩
def MX7_init : MT := (yX7_init, cX7_init, 2, none, 0)
def MX7_pupil : MT := (yX7_pupil, cX7_pupil, 2, (some FieldType.int), 1)
theorem ok_MX7_pupil : MOK MX7_pupil := ⟨by decide +kernel, tbm 288 (by decide +kernel) (by decide +kernel), by decide +kernel, by decide +kernel, by decide +kernel, by decide +kernel⟩
def MX7_project : MT := (yX7_project, cX7_project, 6, (some FieldType.int), 5)
theorem ok_MX7_project : MOK MX7_project := ⟨by decide +kernel, tbm 296 (by decide +kernel) (by decide +kernel), by decide +kernel, by decide +kernel, by decide +kernel, by decide +kernel⟩
def MX7_wish : MT := (yX7_wish, cX7_wish, 4, (some FieldType.int), 2)
theorem ok_MX7_wish : MOK MX7_wish := ⟨by decide +kernel, tbm 308 (by decide +kernel) (by decide +kernel), by decide +kernel, by decide +kernel, by decide +kernel, by decide +kernel⟩
def MX7_wishes : MT := (yX7_wishes, cX7_wishes, 11, (some FieldType.int), 5)
theorem ok_MX7_wishes : MOK MX7_wishes := ⟨by decide +kernel, tbm 325 (by decide +kernel) (by decide +kernel), by decide +kernel, by decide +kernel, by decide +kernel, by decide +kernel⟩
def MX7_friends : MT := (yX7_friends, cX7_friends, 6, (some FieldType.boolean), 3)
theorem ok_MX7_friends : MOK MX7_friends := ⟨by decide +kernel, tbm 333 (by decide +kernel) (by decide +kernel), by decide +kernel, by decide +kernel, by decide +kernel, by decide +kernel⟩
def MX7_apart : MT := (yX7_apart, cX7_apart, 6, (some FieldType.boolean), 3)
theorem ok_MX7_apart : MOK MX7_apart := ⟨by decide +kernel, tbm 340 (by decide +kernel) (by decide +kernel), by decide +kernel, by decide +kernel, by decide +kernel, by decide +kernel⟩
def MX7_here : MT := (yX7_here, cX7_here, 4, (some FieldType.boolean), 2)
theorem ok_MX7_here : MOK MX7_here := ⟨by decide +kernel, tbm 344 (by decide +kernel) (by decide +kernel), by decide +kernel, by decide +kernel, by decide +kernel, by decide +kernel⟩
def MX7_offered : MT := (yX7_offered, cX7_offered, 4, (some FieldType.boolean), 2)
theorem ok_MX7_offered : MOK MX7_offered := ⟨by decide +kernel, tbm 348 (by decide +kernel) (by decide +kernel), by decide +kernel, by decide +kernel, by decide +kernel, by decide +kernel⟩
def MX7_lots : MT := (yX7_lots, cX7_lots, 2, (some FieldType.boolean), 1)
theorem ok_MX7_lots : MOK MX7_lots := ⟨by decide +kernel, tbm 357 (by decide +kernel) (by decide +kernel), by decide +kernel, by decide +kernel, by decide +kernel, by decide +kernel⟩
def MX7_count : MT := (yX7_count, cX7_count, 2, (some FieldType.int), 1)
theorem ok_MX7_count : MOK MX7_count := ⟨by decide +kernel, tbm 369 (by decide +kernel) (by decide +kernel), by decide +kernel, by decide +kernel, by decide +kernel, by decide +kernel⟩
def MX7_of : MT := (yX7_of, cX7_of, 4, (some FieldType.int), 2)
theorem ok_MX7_of : MOK MX7_of := ⟨by decide +kernel, tbm 676 (by decide +kernel) (by decide +kernel), by decide +kernel, by decide +kernel, by decide +kernel, by decide +kernel⟩
def MX7_rank : MT := (yX7_rank, cX7_rank, 4, (some FieldType.int), 2)
theorem ok_MX7_rank : MOK MX7_rank := ⟨by decide +kernel, tbm 387 (by decide +kernel) (by decide +kernel), by decide +kernel, by decide +kernel, by decide +kernel, by decide +kernel⟩
def MX7_put : MT := (yX7_put, cX7_put, 3, (some FieldType.boolean), 2)
theorem ok_MX7_put : MOK MX7_put := ⟨by decide +kernel, tbm 395 (by decide +kernel) (by decide +kernel), by decide +kernel, by decide +kernel, by decide +kernel, by decide +kernel⟩
def MX7_wrong : MT := (yX7_wrong, cX7_wrong, 1, (some FieldType.int), 0)
theorem ok_MX7_wrong : MOK MX7_wrong := ⟨by decide +kernel, tbm 399 (by decide +kernel) (by decide +kernel), by decide +kernel, by decide +kernel, by decide +kernel, by decide +kernel⟩
def MX7_best : MT := (yX7_best, cX7_best, 1, (some FieldType.int), 0)
theorem ok_MX7_best : MOK MX7_best := ⟨by decide +kernel, tbm 445 (by decide +kernel) (by decide +kernel), by decide +kernel, by decide +kernel, by decide +kernel, by decide +kernel⟩
def MX7_plans : MT := (yX7_plans, cX7_plans, 2, (some FieldType.int), 1)
theorem ok_MX7_plans : MOK MX7_plans := ⟨by decide +kernel, tbm 528 (by decide +kernel) (by decide +kernel), by decide +kernel, by decide +kernel, by decide +kernel, by decide +kernel⟩
def MX7_worth : MT := (yX7_worth, cX7_worth, 2, (some FieldType.int), 1)
theorem ok_MX7_worth : MOK MX7_worth := ⟨by decide +kernel, tbm 544 (by decide +kernel) (by decide +kernel), by decide +kernel, by decide +kernel, by decide +kernel, by decide +kernel⟩
def MX7_swap : MT := (yX7_swap, cX7_swap, 3, (some FieldType.int), 0)
theorem ok_MX7_swap : MOK MX7_swap := ⟨by decide +kernel, tbm 581 (by decide +kernel) (by decide +kernel), by decide +kernel, by decide +kernel, by decide +kernel, by decide +kernel⟩
def MX7_change : MT := (yX7_change, cX7_change, 2, (some FieldType.int), 0)
theorem ok_MX7_change : MOK MX7_change := ⟨by decide +kernel, tbm 598 (by decide +kernel) (by decide +kernel), by decide +kernel, by decide +kernel, by decide +kernel, by decide +kernel⟩
def MX7_lie : MT := (yX7_lie, cX7_lie, 4, (some FieldType.int), 1)
theorem ok_MX7_lie : MOK MX7_lie := ⟨by decide +kernel, tbm 615 (by decide +kernel) (by decide +kernel), by decide +kernel, by decide +kernel, by decide +kernel, by decide +kernel⟩
def MX7_book : MT := (yX7_book, cX7_book, 3, (some FieldType.int), 0)
theorem ok_MX7_book : MOK MX7_book := ⟨by decide +kernel, tbm 641 (by decide +kernel) (by decide +kernel), by decide +kernel, by decide +kernel, by decide +kernel, by decide +kernel⟩
def MX7_year : MT := (yX7_year, cX7_year, 3, (some FieldType.int), 2)
theorem ok_MX7_year : MOK MX7_year := ⟨by decide +kernel, tbm 656 (by decide +kernel) (by decide +kernel), by decide +kernel, by decide +kernel, by decide +kernel, by decide +kernel⟩
def MX7_undo : MT := (yX7_undo, cX7_undo, 3, (some FieldType.int), 0)
theorem ok_MX7_undo : MOK MX7_undo := ⟨by decide +kernel, tbm 664 (by decide +kernel) (by decide +kernel), by decide +kernel, by decide +kernel, by decide +kernel, by decide +kernel⟩
def MX7_row : MT := (yX7_row, cX7_row, 2, (some FieldType.int), 1)
theorem ok_MX7_row : MOK MX7_row := ⟨by decide +kernel, tbm 744 (by decide +kernel) (by decide +kernel), by decide +kernel, by decide +kernel, by decide +kernel, by decide +kernel⟩
def MX7_withBit : MT := (yX7_withBit, cX7_withBit, 3, (some FieldType.int), 3)
theorem ok_MX7_withBit : MOK MX7_withBit := ⟨by decide +kernel, tbm 336 (by decide +kernel) (by decide +kernel), by decide +kernel, by decide +kernel, by decide +kernel, by decide +kernel⟩
def MX7_isPlaced : MT := (yX7_isPlaced, cX7_isPlaced, 3, (some FieldType.boolean), 1)
theorem ok_MX7_isPlaced : MOK MX7_isPlaced := ⟨by decide +kernel, tbm 552 (by decide +kernel) (by decide +kernel), by decide +kernel, by decide +kernel, by decide +kernel, by decide +kernel⟩
def MX7_rankByPlan : MT := (yX7_rankByPlan, cX7_rankByPlan, 3, (some FieldType.int), 1)
theorem ok_MX7_rankByPlan : MOK MX7_rankByPlan := ⟨by decide +kernel, tbm 556 (by decide +kernel) (by decide +kernel), by decide +kernel, by decide +kernel, by decide +kernel, by decide +kernel⟩
def MX7_countRanks : MT := (yX7_countRanks, cX7_countRanks, 4, (some FieldType.int), 1)
theorem ok_MX7_countRanks : MOK MX7_countRanks := ⟨by decide +kernel, tbm 548 (by decide +kernel) (by decide +kernel), by decide +kernel, by decide +kernel, by decide +kernel, by decide +kernel⟩
def MX7_grief : MT := (yX7_grief, cX7_grief, 3, (some FieldType.int), 0)
theorem ok_MX7_grief : MOK MX7_grief := ⟨by decide +kernel, tbm 560 (by decide +kernel) (by decide +kernel), by decide +kernel, by decide +kernel, by decide +kernel, by decide +kernel⟩
def MX7_friendPairs : MT := (yX7_friendPairs, cX7_friendPairs, 4, (some FieldType.int), 0)
theorem ok_MX7_friendPairs : MOK MX7_friendPairs := ⟨by decide +kernel, tbm 569 (by decide +kernel) (by decide +kernel), by decide +kernel, by decide +kernel, by decide +kernel, by decide +kernel⟩
def MX7_projectsUsed : MT := (yX7_projectsUsed, cX7_projectsUsed, 3, (some FieldType.int), 0)
theorem ok_MX7_projectsUsed : MOK MX7_projectsUsed := ⟨by decide +kernel, tbm 577 (by decide +kernel) (by decide +kernel), by decide +kernel, by decide +kernel, by decide +kernel, by decide +kernel⟩
def MX7_bothGain : MT := (yX7_bothGain, cX7_bothGain, 3, (some FieldType.boolean), 2)
theorem ok_MX7_bothGain : MOK MX7_bothGain := ⟨by decide +kernel, tbm 585 (by decide +kernel) (by decide +kernel), by decide +kernel, by decide +kernel, by decide +kernel, by decide +kernel⟩
def MX7_gains : MT := (yX7_gains, cX7_gains, 4, (some FieldType.boolean), 2)
theorem ok_MX7_gains : MOK MX7_gains := ⟨by decide +kernel, tbm 589 (by decide +kernel) (by decide +kernel), by decide +kernel, by decide +kernel, by decide +kernel, by decide +kernel⟩
def MX7_rightAfterExchange : MT := (yX7_rightAfterExchange, cX7_rightAfterExchange, 4, (some FieldType.boolean), 2)
theorem ok_MX7_rightAfterExchange : MOK MX7_rightAfterExchange := ⟨by decide +kernel, tbm 593 (by decide +kernel) (by decide +kernel), by decide +kernel, by decide +kernel, by decide +kernel, by decide +kernel⟩
def MX7_findPayingTale : MT := (yX7_findPayingTale, cX7_findPayingTale, 6, (some FieldType.boolean), 3)
theorem ok_MX7_findPayingTale : MOK MX7_findPayingTale := ⟨by decide +kernel, tbm 623 (by decide +kernel) (by decide +kernel), by decide +kernel, by decide +kernel, by decide +kernel, by decide +kernel⟩
def MX7_rankByTale : MT := (yX7_rankByTale, cX7_rankByTale, 4, none, 1)
theorem ok_MX7_rankByTale : MOK MX7_rankByTale := ⟨by decide +kernel, tbm 627 (by decide +kernel) (by decide +kernel), by decide +kernel, by decide +kernel, by decide +kernel, by decide +kernel⟩
def MX7_turnToNext : MT := (yX7_turnToNext, cX7_turnToNext, 6, (some FieldType.boolean), 2)
theorem ok_MX7_turnToNext : MOK MX7_turnToNext := ⟨by decide +kernel, tbm 637 (by decide +kernel) (by decide +kernel), by decide +kernel, by decide +kernel, by decide +kernel, by decide +kernel⟩
def MX7_exchangePlaces : MT := (yX7_exchangePlaces, cX7_exchangePlaces, 4, none, 3)
theorem ok_MX7_exchangePlaces : MOK MX7_exchangePlaces := ⟨by decide +kernel, tbm 365 (by decide +kernel) (by decide +kernel), by decide +kernel, by decide +kernel, by decide +kernel, by decide +kernel⟩
def MX8_init : MT := (yX8_init, cX8_init, 1, none, 0)
def MX8_thrown : MT := (yX8_thrown, cX8_thrown, 1, (some FieldType.int), 0)
theorem ok_MX8_thrown : MOK MX8_thrown := ⟨by decide +kernel, tbm 867 (by decide +kernel) (by decide +kernel), by decide +kernel, by decide +kernel, by decide +kernel, by decide +kernel⟩
def MX8_in : MT := (yX8_in, cX8_in, 6, (some FieldType.boolean), 3)
theorem ok_MX8_in : MOK MX8_in := ⟨by decide +kernel, tbm 875 (by decide +kernel) (by decide +kernel), by decide +kernel, by decide +kernel, by decide +kernel, by decide +kernel⟩
def MX8_refuse : MT := (yX8_refuse, cX8_refuse, 1, (some FieldType.int), 0)
theorem ok_MX8_refuse : MOK MX8_refuse := ⟨by decide +kernel, tbm 948 (by decide +kernel) (by decide +kernel), by decide +kernel, by decide +kernel, by decide +kernel, by decide +kernel⟩
def MX8_isPupil : MT := (yX8_isPupil, cX8_isPupil, 2, (some FieldType.boolean), 1)
theorem ok_MX8_isPupil : MOK MX8_isPupil := ⟨by decide +kernel, tbm 885 (by decide +kernel) (by decide +kernel), by decide +kernel, by decide +kernel, by decide +kernel, by decide +kernel⟩
def MX8_isProject : MT := (yX8_isProject, cX8_isProject, 2, (some FieldType.boolean), 1)
theorem ok_MX8_isProject : MOK MX8_isProject := ⟨by decide +kernel, tbm 893 (by decide +kernel) (by decide +kernel), by decide +kernel, by decide +kernel, by decide +kernel, by decide +kernel⟩
def MX8_pupil : MT := (yX8_pupil, cX8_pupil, 3, (some FieldType.int), 1)
theorem ok_MX8_pupil : MOK MX8_pupil := ⟨by decide +kernel, tbm 871 (by decide +kernel) (by decide +kernel), by decide +kernel, by decide +kernel, by decide +kernel, by decide +kernel⟩
def MX8_project : MT := (yX8_project, cX8_project, 8, (some FieldType.int), 5)
theorem ok_MX8_project : MOK MX8_project := ⟨by decide +kernel, tbm 879 (by decide +kernel) (by decide +kernel), by decide +kernel, by decide +kernel, by decide +kernel, by decide +kernel⟩
def MX8_hasWish : MT := (yX8_hasWish, cX8_hasWish, 5, (some FieldType.boolean), 2)
theorem ok_MX8_hasWish : MOK MX8_hasWish := ⟨by decide +kernel, tbm 897 (by decide +kernel) (by decide +kernel), by decide +kernel, by decide +kernel, by decide +kernel, by decide +kernel⟩
def MX8_add : MT := (yX8_add, cX8_add, 3, none, 2)
theorem ok_MX8_add : MOK MX8_add := ⟨by decide +kernel, tbm 901 (by decide +kernel) (by decide +kernel), by decide +kernel, by decide +kernel, by decide +kernel, by decide +kernel⟩
def MX8_wish : MT := (yX8_wish, cX8_wish, 3, (some FieldType.int), 2)
theorem ok_MX8_wish : MOK MX8_wish := ⟨by decide +kernel, tbm 889 (by decide +kernel) (by decide +kernel), by decide +kernel, by decide +kernel, by decide +kernel, by decide +kernel⟩
def MX8_wishes : MT := (yX8_wishes, cX8_wishes, 8, (some FieldType.int), 5)
theorem ok_MX8_wishes : MOK MX8_wishes := ⟨by decide +kernel, tbm 905 (by decide +kernel) (by decide +kernel), by decide +kernel, by decide +kernel, by decide +kernel, by decide +kernel⟩
def MX8_areTwo : MT := (yX8_areTwo, cX8_areTwo, 3, (some FieldType.boolean), 2)
theorem ok_MX8_areTwo : MOK MX8_areTwo := ⟨by decide +kernel, tbm 914 (by decide +kernel) (by decide +kernel), by decide +kernel, by decide +kernel, by decide +kernel, by decide +kernel⟩
def MX8_friends : MT := (yX8_friends, cX8_friends, 4, (some FieldType.boolean), 3)
theorem ok_MX8_friends : MOK MX8_friends := ⟨by decide +kernel, tbm 910 (by decide +kernel) (by decide +kernel), by decide +kernel, by decide +kernel, by decide +kernel, by decide +kernel⟩
def MX8_apart : MT := (yX8_apart, cX8_apart, 4, (some FieldType.boolean), 3)
theorem ok_MX8_apart : MOK MX8_apart := ⟨by decide +kernel, tbm 918 (by decide +kernel) (by decide +kernel), by decide +kernel, by decide +kernel, by decide +kernel, by decide +kernel⟩
def MX8_here : MT := (yX8_here, cX8_here, 3, (some FieldType.boolean), 2)
theorem ok_MX8_here : MOK MX8_here := ⟨by decide +kernel, tbm 922 (by decide +kernel) (by decide +kernel), by decide +kernel, by decide +kernel, by decide +kernel, by decide +kernel⟩
def MX8_offered : MT := (yX8_offered, cX8_offered, 3, (some FieldType.boolean), 2)
theorem ok_MX8_offered : MOK MX8_offered := ⟨by decide +kernel, tbm 926 (by decide +kernel) (by decide +kernel), by decide +kernel, by decide +kernel, by decide +kernel, by decide +kernel⟩
def MX8_lots : MT := (yX8_lots, cX8_lots, 6, (some FieldType.boolean), 1)
theorem ok_MX8_lots : MOK MX8_lots := ⟨by decide +kernel, tbm 930 (by decide +kernel) (by decide +kernel), by decide +kernel, by decide +kernel, by decide +kernel, by decide +kernel⟩
def MX8_present : MT := (yX8_present, cX8_present, 3, (some FieldType.int), 0)
theorem ok_MX8_present : MOK MX8_present := ⟨by decide +kernel, tbm 939 (by decide +kernel) (by decide +kernel), by decide +kernel, by decide +kernel, by decide +kernel, by decide +kernel⟩
def MX8_count : MT := (yX8_count, cX8_count, 4, (some FieldType.int), 1)
theorem ok_MX8_count : MOK MX8_count := ⟨by decide +kernel, tbm 935 (by decide +kernel) (by decide +kernel), by decide +kernel, by decide +kernel, by decide +kernel, by decide +kernel⟩
def MX8_rankOf : MT := (yX8_rankOf, cX8_rankOf, 4, (some FieldType.int), 2)
theorem ok_MX8_rankOf : MOK MX8_rankOf := ⟨by decide +kernel, tbm 952 (by decide +kernel) (by decide +kernel), by decide +kernel, by decide +kernel, by decide +kernel, by decide +kernel⟩
def MX8_of : MT := (yX8_of, cX8_of, 4, (some FieldType.int), 2)
theorem ok_MX8_of : MOK MX8_of := ⟨by decide +kernel, tbm 943 (by decide +kernel) (by decide +kernel), by decide +kernel, by decide +kernel, by decide +kernel, by decide +kernel⟩
def MX8_rank : MT := (yX8_rank, cX8_rank, 3, (some FieldType.int), 2)
theorem ok_MX8_rank : MOK MX8_rank := ⟨by decide +kernel, tbm 956 (by decide +kernel) (by decide +kernel), by decide +kernel, by decide +kernel, by decide +kernel, by decide +kernel⟩
def MX8_put : MT := (yX8_put, cX8_put, 3, (some FieldType.boolean), 2)
theorem ok_MX8_put : MOK MX8_put := ⟨by decide +kernel, tbm 960 (by decide +kernel) (by decide +kernel), by decide +kernel, by decide +kernel, by decide +kernel, by decide +kernel⟩
def MX8_sizeOf : MT := (yX8_sizeOf, cX8_sizeOf, 5, (some FieldType.int), 3)
theorem ok_MX8_sizeOf : MOK MX8_sizeOf := ⟨by decide +kernel, tbm 971 (by decide +kernel) (by decide +kernel), by decide +kernel, by decide +kernel, by decide +kernel, by decide +kernel⟩
def MX8_isTwice : MT := (yX8_isTwice, cX8_isTwice, 3, (some FieldType.boolean), 2)
theorem ok_MX8_isTwice : MOK MX8_isTwice := ⟨by decide +kernel, tbm 979 (by decide +kernel) (by decide +kernel), by decide +kernel, by decide +kernel, by decide +kernel, by decide +kernel⟩
def MX8_isSize : MT := (yX8_isSize, cX8_isSize, 3, (some FieldType.boolean), 2)
theorem ok_MX8_isSize : MOK MX8_isSize := ⟨by decide +kernel, tbm 975 (by decide +kernel) (by decide +kernel), by decide +kernel, by decide +kernel, by decide +kernel, by decide +kernel⟩
def MX8_hasSkills : MT := (yX8_hasSkills, cX8_hasSkills, 7, (some FieldType.boolean), 3)
theorem ok_MX8_hasSkills : MOK MX8_hasSkills := ⟨by decide +kernel, tbm 987 (by decide +kernel) (by decide +kernel), by decide +kernel, by decide +kernel, by decide +kernel, by decide +kernel⟩
def MX8_isLed : MT := (yX8_isLed, cX8_isLed, 4, (some FieldType.boolean), 3)
theorem ok_MX8_isLed : MOK MX8_isLed := ⟨by decide +kernel, tbm 983 (by decide +kernel) (by decide +kernel), by decide +kernel, by decide +kernel, by decide +kernel, by decide +kernel⟩
def MX8_wrongOf : MT := (yX8_wrongOf, cX8_wrongOf, 6, (some FieldType.int), 1)
theorem ok_MX8_wrongOf : MOK MX8_wrongOf := ⟨by decide +kernel, tbm 968 (by decide +kernel) (by decide +kernel), by decide +kernel, by decide +kernel, by decide +kernel, by decide +kernel⟩
def MX8_wrong : MT := (yX8_wrong, cX8_wrong, 1, (some FieldType.int), 0)
theorem ok_MX8_wrong : MOK MX8_wrong := ⟨by decide +kernel, tbm 964 (by decide +kernel) (by decide +kernel), by decide +kernel, by decide +kernel, by decide +kernel, by decide +kernel⟩
def MX8_nines : MT := (yX8_nines, cX8_nines, 3, (some FieldType.int), 1)
theorem ok_MX8_nines : MOK MX8_nines := ⟨by decide +kernel, tbm 1023 (by decide +kernel) (by decide +kernel), by decide +kernel, by decide +kernel, by decide +kernel, by decide +kernel⟩
def MX8_rankBy : MT := (yX8_rankBy, cX8_rankBy, 3, (some FieldType.int), 2)
theorem ok_MX8_rankBy : MOK MX8_rankBy := ⟨by decide +kernel, tbm 1020 (by decide +kernel) (by decide +kernel), by decide +kernel, by decide +kernel, by decide +kernel, by decide +kernel⟩
def MX8_weigh : MT := (yX8_weigh, cX8_weigh, 5, none, 1)
theorem ok_MX8_weigh : MOK MX8_weigh := ⟨by decide +kernel, tbm 1016 (by decide +kernel) (by decide +kernel), by decide +kernel, by decide +kernel, by decide +kernel, by decide +kernel⟩
def MX8_isAhead : MT := (yX8_isAhead, cX8_isAhead, 7, (some FieldType.boolean), 2)
theorem ok_MX8_isAhead : MOK MX8_isAhead := ⟨by decide +kernel, tbm 1027 (by decide +kernel) (by decide +kernel), by decide +kernel, by decide +kernel, by decide +kernel, by decide +kernel⟩
def MX8_isBetter : MT := (yX8_isBetter, cX8_isBetter, 2, (some FieldType.boolean), 1)
theorem ok_MX8_isBetter : MOK MX8_isBetter := ⟨by decide +kernel, tbm 1012 (by decide +kernel) (by decide +kernel), by decide +kernel, by decide +kernel, by decide +kernel, by decide +kernel⟩
def MX8_keeps : MT := (yX8_keeps, cX8_keeps, 3, none, 1)
theorem ok_MX8_keeps : MOK MX8_keeps := ⟨by decide +kernel, tbm 1031 (by decide +kernel) (by decide +kernel), by decide +kernel, by decide +kernel, by decide +kernel, by decide +kernel⟩
def MX8_movesOf : MT := (yX8_movesOf, cX8_movesOf, 4, (some FieldType.int), 1)
theorem ok_MX8_movesOf : MOK MX8_movesOf := ⟨by decide +kernel, tbm 1008 (by decide +kernel) (by decide +kernel), by decide +kernel, by decide +kernel, by decide +kernel, by decide +kernel⟩
def MX8_finds : MT := (yX8_finds, cX8_finds, 3, none, 0)
theorem ok_MX8_finds : MOK MX8_finds := ⟨by decide +kernel, tbm 1004 (by decide +kernel) (by decide +kernel), by decide +kernel, by decide +kernel, by decide +kernel, by decide +kernel⟩
def MX8_may : MT := (yX8_may, cX8_may, 5, (some FieldType.boolean), 2)
theorem ok_MX8_may : MOK MX8_may := ⟨by decide +kernel, tbm 1035 (by decide +kernel) (by decide +kernel), by decide +kernel, by decide +kernel, by decide +kernel, by decide +kernel⟩
def MX8_goes : MT := (yX8_goes, cX8_goes, 3, none, 1)
theorem ok_MX8_goes : MOK MX8_goes := ⟨by decide +kernel, tbm 1000 (by decide +kernel) (by decide +kernel), by decide +kernel, by decide +kernel, by decide +kernel, by decide +kernel⟩
def MX8_all : MT := (yX8_all, cX8_all, 2, none, 1)
theorem ok_MX8_all : MOK MX8_all := ⟨by decide +kernel, tbm 995 (by decide +kernel) (by decide +kernel), by decide +kernel, by decide +kernel, by decide +kernel, by decide +kernel⟩
def MX8_takes : MT := (yX8_takes, cX8_takes, 2, none, 0)
theorem ok_MX8_takes : MOK MX8_takes := ⟨by decide +kernel, tbm 1039 (by decide +kernel) (by decide +kernel), by decide +kernel, by decide +kernel, by decide +kernel, by decide +kernel⟩
def MX8_best : MT := (yX8_best, cX8_best, 1, (some FieldType.int), 0)
theorem ok_MX8_best : MOK MX8_best := ⟨by decide +kernel, tbm 991 (by decide +kernel) (by decide +kernel), by decide +kernel, by decide +kernel, by decide +kernel, by decide +kernel⟩
def MX8_plans : MT := (yX8_plans, cX8_plans, 2, (some FieldType.int), 1)
theorem ok_MX8_plans : MOK MX8_plans := ⟨by decide +kernel, tbm 1043 (by decide +kernel) (by decide +kernel), by decide +kernel, by decide +kernel, by decide +kernel, by decide +kernel⟩
def MX8_worth : MT := (yX8_worth, cX8_worth, 9, (some FieldType.int), 1)
theorem ok_MX8_worth : MOK MX8_worth := ⟨by decide +kernel, tbm 1047 (by decide +kernel) (by decide +kernel), by decide +kernel, by decide +kernel, by decide +kernel, by decide +kernel⟩
def MX8_wouldSwap : MT := (yX8_wouldSwap, cX8_wouldSwap, 4, (some FieldType.boolean), 2)
theorem ok_MX8_wouldSwap : MOK MX8_wouldSwap := ⟨by decide +kernel, tbm 1057 (by decide +kernel) (by decide +kernel), by decide +kernel, by decide +kernel, by decide +kernel, by decide +kernel⟩
def MX8_swap : MT := (yX8_swap, cX8_swap, 3, (some FieldType.int), 0)
theorem ok_MX8_swap : MOK MX8_swap := ⟨by decide +kernel, tbm 1053 (by decide +kernel) (by decide +kernel), by decide +kernel, by decide +kernel, by decide +kernel, by decide +kernel⟩
def MX8_change : MT := (yX8_change, cX8_change, 1, (some FieldType.int), 0)
theorem ok_MX8_change : MOK MX8_change := ⟨by decide +kernel, tbm 1061 (by decide +kernel) (by decide +kernel), by decide +kernel, by decide +kernel, by decide +kernel, by decide +kernel⟩
def MX8_nextOrder : MT := (yX8_nextOrder, cX8_nextOrder, 5, (some FieldType.boolean), 0)
theorem ok_MX8_nextOrder : MOK MX8_nextOrder := ⟨by decide +kernel, tbm 1069 (by decide +kernel) (by decide +kernel), by decide +kernel, by decide +kernel, by decide +kernel, by decide +kernel⟩
def MX8_exchange : MT := (yX8_exchange, cX8_exchange, 4, none, 2)
theorem ok_MX8_exchange : MOK MX8_exchange := ⟨by decide +kernel, tbm 1073 (by decide +kernel) (by decide +kernel), by decide +kernel, by decide +kernel, by decide +kernel, by decide +kernel⟩
def MX8_lie : MT := (yX8_lie, cX8_lie, 8, (some FieldType.int), 1)
theorem ok_MX8_lie : MOK MX8_lie := ⟨by decide +kernel, tbm 1065 (by decide +kernel) (by decide +kernel), by decide +kernel, by decide +kernel, by decide +kernel, by decide +kernel⟩
def MX8_book : MT := (yX8_book, cX8_book, 3, (some FieldType.int), 0)
theorem ok_MX8_book : MOK MX8_book := ⟨by decide +kernel, tbm 1077 (by decide +kernel) (by decide +kernel), by decide +kernel, by decide +kernel, by decide +kernel, by decide +kernel⟩
def MX8_year : MT := (yX8_year, cX8_year, 3, (some FieldType.int), 2)
theorem ok_MX8_year : MOK MX8_year := ⟨by decide +kernel, tbm 1084 (by decide +kernel) (by decide +kernel), by decide +kernel, by decide +kernel, by decide +kernel, by decide +kernel⟩
def MX8_undo : MT := (yX8_undo, cX8_undo, 3, (some FieldType.int), 0)
theorem ok_MX8_undo : MOK MX8_undo := ⟨by decide +kernel, tbm 1088 (by decide +kernel) (by decide +kernel), by decide +kernel, by decide +kernel, by decide +kernel, by decide +kernel⟩
def MX8_row : MT := (yX8_row, cX8_row, 2, (some FieldType.int), 1)
theorem ok_MX8_row : MOK MX8_row := ⟨by decide +kernel, tbm 1092 (by decide +kernel) (by decide +kernel), by decide +kernel, by decide +kernel, by decide +kernel, by decide +kernel⟩
def MJ6_bitCount_0f7a4 : MT := (yJ6_bitCount_0f7a4, cJ6_bitCount_0f7a4, 1, (some FieldType.int), 1)
theorem ok_MJ6_bitCount_0f7a4 : MOK MJ6_bitCount_0f7a4 := ⟨by decide +kernel, tbm 376 (by decide +kernel) (by decide +kernel), by decide +kernel, by decide +kernel, by decide +kernel, by decide +kernel⟩
def MJ9_max_7cf53 : MT := (yJ9_max_7cf53, cJ9_max_7cf53, 2, (some FieldType.int), 2)
def LVk (own : String) (idx : Nat) (M : MT) : Prop := Cond.methodLink own idx M.1 ∈ TB ∧ Cond.instanceMethod M.1 ∈ TB ∧ Cond.selects M.1.cls M.1 M.1 ∈ TB ∧ Cond.initialized M.1.cls ∈ TB
def LSk (own : String) (idx : Nat) (M : MT) : Prop := Cond.methodLink own idx M.1 ∈ TB ∧ Cond.static M.1 ∈ TB ∧ Cond.initialized M.1.cls ∈ TB
theorem lV_L_23 : LVk RL 23 MX7_pupil := ⟨tbm 285 (by decide +kernel) (by decide +kernel), tbm 286 (by decide +kernel) (by decide +kernel), tbm 287 (by decide +kernel) (by decide +kernel), tbm 50 (by decide +kernel) (by decide +kernel)⟩
theorem lV_X7_43 : LVk RX7 43 MX4_addPupil := ⟨tbm 289 (by decide +kernel) (by decide +kernel), tbm 290 (by decide +kernel) (by decide +kernel), tbm 291 (by decide +kernel) (by decide +kernel), tbm 51 (by decide +kernel) (by decide +kernel)⟩
theorem lV_L_27 : LVk RL 27 MX7_project := ⟨tbm 293 (by decide +kernel) (by decide +kernel), tbm 294 (by decide +kernel) (by decide +kernel), tbm 295 (by decide +kernel) (by decide +kernel), tbm 50 (by decide +kernel) (by decide +kernel)⟩
theorem lV_X7_47 : LVk RX7 47 MX4_isPupil := ⟨tbm 297 (by decide +kernel) (by decide +kernel), tbm 298 (by decide +kernel) (by decide +kernel), tbm 299 (by decide +kernel) (by decide +kernel), tbm 51 (by decide +kernel) (by decide +kernel)⟩
theorem lV_X7_51 : LVk RX7 51 MX4_addProject := ⟨tbm 301 (by decide +kernel) (by decide +kernel), tbm 302 (by decide +kernel) (by decide +kernel), tbm 303 (by decide +kernel) (by decide +kernel), tbm 51 (by decide +kernel) (by decide +kernel)⟩
theorem lV_L_32 : LVk RL 32 MX7_wish := ⟨tbm 305 (by decide +kernel) (by decide +kernel), tbm 306 (by decide +kernel) (by decide +kernel), tbm 307 (by decide +kernel) (by decide +kernel), tbm 50 (by decide +kernel) (by decide +kernel)⟩
theorem lV_X7_55 : LVk RX7 55 MX4_pupilOf := ⟨tbm 309 (by decide +kernel) (by decide +kernel), tbm 310 (by decide +kernel) (by decide +kernel), tbm 311 (by decide +kernel) (by decide +kernel), tbm 51 (by decide +kernel) (by decide +kernel)⟩
theorem lV_X4_52 : LVk RX4 52 MX4_isPupil := ⟨tbm 313 (by decide +kernel) (by decide +kernel), tbm 298 (by decide +kernel) (by decide +kernel), tbm 299 (by decide +kernel) (by decide +kernel), tbm 51 (by decide +kernel) (by decide +kernel)⟩
theorem lV_X7_59 : LVk RX7 59 MX4_isProject := ⟨tbm 314 (by decide +kernel) (by decide +kernel), tbm 315 (by decide +kernel) (by decide +kernel), tbm 316 (by decide +kernel) (by decide +kernel), tbm 51 (by decide +kernel) (by decide +kernel)⟩
theorem lV_X7_62 : LVk RX7 62 MX3_addWish := ⟨tbm 318 (by decide +kernel) (by decide +kernel), tbm 319 (by decide +kernel) (by decide +kernel), tbm 320 (by decide +kernel) (by decide +kernel), tbm 52 (by decide +kernel) (by decide +kernel)⟩
theorem lV_L_36 : LVk RL 36 MX7_wishes := ⟨tbm 322 (by decide +kernel) (by decide +kernel), tbm 323 (by decide +kernel) (by decide +kernel), tbm 324 (by decide +kernel) (by decide +kernel), tbm 50 (by decide +kernel) (by decide +kernel)⟩
theorem lV_X7_71 : LVk RX7 71 MX3_clearWishes := ⟨tbm 326 (by decide +kernel) (by decide +kernel), tbm 327 (by decide +kernel) (by decide +kernel), tbm 328 (by decide +kernel) (by decide +kernel), tbm 52 (by decide +kernel) (by decide +kernel)⟩
theorem lV_L_40 : LVk RL 40 MX7_friends := ⟨tbm 330 (by decide +kernel) (by decide +kernel), tbm 331 (by decide +kernel) (by decide +kernel), tbm 332 (by decide +kernel) (by decide +kernel), tbm 50 (by decide +kernel) (by decide +kernel)⟩
theorem lS_X7_77 : LSk RX7 77 MX7_withBit := ⟨tbm 334 (by decide +kernel) (by decide +kernel), tbm 335 (by decide +kernel) (by decide +kernel), tbm 50 (by decide +kernel) (by decide +kernel)⟩
theorem lV_L_45 : LVk RL 45 MX7_apart := ⟨tbm 337 (by decide +kernel) (by decide +kernel), tbm 338 (by decide +kernel) (by decide +kernel), tbm 339 (by decide +kernel) (by decide +kernel), tbm 50 (by decide +kernel) (by decide +kernel)⟩
theorem lV_L_49 : LVk RL 49 MX7_here := ⟨tbm 341 (by decide +kernel) (by decide +kernel), tbm 342 (by decide +kernel) (by decide +kernel), tbm 343 (by decide +kernel) (by decide +kernel), tbm 50 (by decide +kernel) (by decide +kernel)⟩
theorem lV_L_54 : LVk RL 54 MX7_offered := ⟨tbm 345 (by decide +kernel) (by decide +kernel), tbm 346 (by decide +kernel) (by decide +kernel), tbm 347 (by decide +kernel) (by decide +kernel), tbm 50 (by decide +kernel) (by decide +kernel)⟩
theorem lV_X7_88 : LVk RX7 88 MX4_projectOf := ⟨tbm 349 (by decide +kernel) (by decide +kernel), tbm 350 (by decide +kernel) (by decide +kernel), tbm 351 (by decide +kernel) (by decide +kernel), tbm 51 (by decide +kernel) (by decide +kernel)⟩
theorem lV_X4_56 : LVk RX4 56 MX4_isProject := ⟨tbm 353 (by decide +kernel) (by decide +kernel), tbm 315 (by decide +kernel) (by decide +kernel), tbm 316 (by decide +kernel) (by decide +kernel), tbm 51 (by decide +kernel) (by decide +kernel)⟩
theorem lV_L_58 : LVk RL 58 MX7_lots := ⟨tbm 354 (by decide +kernel) (by decide +kernel), tbm 355 (by decide +kernel) (by decide +kernel), tbm 356 (by decide +kernel) (by decide +kernel), tbm 50 (by decide +kernel) (by decide +kernel)⟩
theorem lV_X7_97 : LVk RX7 97 MX4_drawLots := ⟨tbm 358 (by decide +kernel) (by decide +kernel), tbm 359 (by decide +kernel) (by decide +kernel), tbm 360 (by decide +kernel) (by decide +kernel), tbm 51 (by decide +kernel) (by decide +kernel)⟩
theorem lV_L_63 : LVk RL 63 MX7_count := ⟨tbm 366 (by decide +kernel) (by decide +kernel), tbm 367 (by decide +kernel) (by decide +kernel), tbm 368 (by decide +kernel) (by decide +kernel), tbm 50 (by decide +kernel) (by decide +kernel)⟩
theorem lV_X7_107 : LVk RX7 107 MX4_presentBits := ⟨tbm 370 (by decide +kernel) (by decide +kernel), tbm 371 (by decide +kernel) (by decide +kernel), tbm 372 (by decide +kernel) (by decide +kernel), tbm 51 (by decide +kernel) (by decide +kernel)⟩
theorem lS_X7_111 : LSk RX7 111 MJ6_bitCount_0f7a4 := ⟨tbm 374 (by decide +kernel) (by decide +kernel), tbm 375 (by decide +kernel) (by decide +kernel), tbm 59 (by decide +kernel) (by decide +kernel)⟩
theorem lV_X7_122 : LVk RX7 122 MX4_offeredCount := ⟨tbm 380 (by decide +kernel) (by decide +kernel), tbm 381 (by decide +kernel) (by decide +kernel), tbm 382 (by decide +kernel) (by decide +kernel), tbm 51 (by decide +kernel) (by decide +kernel)⟩
theorem lV_L_77 : LVk RL 77 MX7_rank := ⟨tbm 384 (by decide +kernel) (by decide +kernel), tbm 385 (by decide +kernel) (by decide +kernel), tbm 386 (by decide +kernel) (by decide +kernel), tbm 50 (by decide +kernel) (by decide +kernel)⟩
theorem lV_X7_134 : LVk RX7 134 MX3_rankIn := ⟨tbm 388 (by decide +kernel) (by decide +kernel), tbm 389 (by decide +kernel) (by decide +kernel), tbm 390 (by decide +kernel) (by decide +kernel), tbm 52 (by decide +kernel) (by decide +kernel)⟩
theorem lV_L_81 : LVk RL 81 MX7_put := ⟨tbm 392 (by decide +kernel) (by decide +kernel), tbm 393 (by decide +kernel) (by decide +kernel), tbm 394 (by decide +kernel) (by decide +kernel), tbm 50 (by decide +kernel) (by decide +kernel)⟩
theorem lV_L_86 : LVk RL 86 MX7_wrong := ⟨tbm 396 (by decide +kernel) (by decide +kernel), tbm 397 (by decide +kernel) (by decide +kernel), tbm 398 (by decide +kernel) (by decide +kernel), tbm 50 (by decide +kernel) (by decide +kernel)⟩
theorem lV_X7_140 : LVk RX7 140 MX4_faultOf := ⟨tbm 400 (by decide +kernel) (by decide +kernel), tbm 401 (by decide +kernel) (by decide +kernel), tbm 402 (by decide +kernel) (by decide +kernel), tbm 51 (by decide +kernel) (by decide +kernel)⟩
theorem lV_X4_81 : LVk RX4 81 MX4_firstProjectWith := ⟨tbm 404 (by decide +kernel) (by decide +kernel), tbm 406 (by decide +kernel) (by decide +kernel), tbm 0 (by decide +kernel) (by decide +kernel), tbm 51 (by decide +kernel) (by decide +kernel)⟩
theorem lV_X4_95 : LVk RX4 95 MX4_groupOf := ⟨tbm 408 (by decide +kernel) (by decide +kernel), tbm 410 (by decide +kernel) (by decide +kernel), tbm 1 (by decide +kernel) (by decide +kernel), tbm 51 (by decide +kernel) (by decide +kernel)⟩
theorem lV_X4_99 : LVk RX4 99 MX4_groupHas := ⟨tbm 412 (by decide +kernel) (by decide +kernel), tbm 414 (by decide +kernel) (by decide +kernel), tbm 2 (by decide +kernel) (by decide +kernel), tbm 51 (by decide +kernel) (by decide +kernel)⟩
theorem lS_X4_103 : LSk RX4 103 MJ6_bitCount_0f7a4 := ⟨tbm 416 (by decide +kernel) (by decide +kernel), tbm 375 (by decide +kernel) (by decide +kernel), tbm 59 (by decide +kernel) (by decide +kernel)⟩
theorem lV_X4_109 : LVk RX4 109 MX2_takes := ⟨tbm 417 (by decide +kernel) (by decide +kernel), tbm 418 (by decide +kernel) (by decide +kernel), tbm 419 (by decide +kernel) (by decide +kernel), tbm 53 (by decide +kernel) (by decide +kernel)⟩
theorem lV_X2_15 : LVk RX2 15 MX2_runsTwice := ⟨tbm 421 (by decide +kernel) (by decide +kernel), tbm 422 (by decide +kernel) (by decide +kernel), tbm 423 (by decide +kernel) (by decide +kernel), tbm 53 (by decide +kernel) (by decide +kernel)⟩
theorem lV_X4_112 : LVk RX4 112 MX2_lacksLeader := ⟨tbm 425 (by decide +kernel) (by decide +kernel), tbm 426 (by decide +kernel) (by decide +kernel), tbm 427 (by decide +kernel) (by decide +kernel), tbm 53 (by decide +kernel) (by decide +kernel)⟩
theorem lV_X4_115 : LVk RX4 115 MX4_lacksSkill := ⟨tbm 429 (by decide +kernel) (by decide +kernel), tbm 431 (by decide +kernel) (by decide +kernel), tbm 3 (by decide +kernel) (by decide +kernel), tbm 51 (by decide +kernel) (by decide +kernel)⟩
theorem lV_X4_119 : LVk RX4 119 MX2_runsTwice := ⟨tbm 433 (by decide +kernel) (by decide +kernel), tbm 422 (by decide +kernel) (by decide +kernel), tbm 423 (by decide +kernel) (by decide +kernel), tbm 53 (by decide +kernel) (by decide +kernel)⟩
theorem lV_X4_85 : LVk RX4 85 MX4_firstPupilWith := ⟨tbm 434 (by decide +kernel) (by decide +kernel), tbm 436 (by decide +kernel) (by decide +kernel), tbm 4 (by decide +kernel) (by decide +kernel), tbm 51 (by decide +kernel) (by decide +kernel)⟩
theorem lV_X4_88 : LVk RX4 88 MX4_pupilHas := ⟨tbm 438 (by decide +kernel) (by decide +kernel), tbm 440 (by decide +kernel) (by decide +kernel), tbm 5 (by decide +kernel) (by decide +kernel), tbm 51 (by decide +kernel) (by decide +kernel)⟩
theorem lV_L_90 : LVk RL 90 MX7_best := ⟨tbm 442 (by decide +kernel) (by decide +kernel), tbm 443 (by decide +kernel) (by decide +kernel), tbm 444 (by decide +kernel) (by decide +kernel), tbm 50 (by decide +kernel) (by decide +kernel)⟩
theorem lV_X7_144 : LVk RX7 144 MX6_prepare := ⟨tbm 446 (by decide +kernel) (by decide +kernel), tbm 447 (by decide +kernel) (by decide +kernel), tbm 448 (by decide +kernel) (by decide +kernel), tbm 54 (by decide +kernel) (by decide +kernel)⟩
theorem lV_X6_38 : LVk RX6 38 MX0_fill := ⟨tbm 450 (by decide +kernel) (by decide +kernel), tbm 451 (by decide +kernel) (by decide +kernel), tbm 452 (by decide +kernel) (by decide +kernel), tbm 55 (by decide +kernel) (by decide +kernel)⟩
theorem lV_X0_18 : LVk RX0 18 MX4_presentBits := ⟨tbm 454 (by decide +kernel) (by decide +kernel), tbm 371 (by decide +kernel) (by decide +kernel), tbm 372 (by decide +kernel) (by decide +kernel), tbm 51 (by decide +kernel) (by decide +kernel)⟩
theorem lV_X0_28 : LVk RX0 28 MX4_allows := ⟨tbm 455 (by decide +kernel) (by decide +kernel), tbm 456 (by decide +kernel) (by decide +kernel), tbm 457 (by decide +kernel) (by decide +kernel), tbm 51 (by decide +kernel) (by decide +kernel)⟩
theorem lV_X6_42 : LVk RX6 42 MX5_fill := ⟨tbm 459 (by decide +kernel) (by decide +kernel), tbm 460 (by decide +kernel) (by decide +kernel), tbm 461 (by decide +kernel) (by decide +kernel), tbm 56 (by decide +kernel) (by decide +kernel)⟩
theorem lV_X5_24 : LVk RX5 24 MX4_pupilOf := ⟨tbm 463 (by decide +kernel) (by decide +kernel), tbm 310 (by decide +kernel) (by decide +kernel), tbm 311 (by decide +kernel) (by decide +kernel), tbm 51 (by decide +kernel) (by decide +kernel)⟩
theorem lV_X5_28 : LVk RX5 28 MX4_placeOf := ⟨tbm 464 (by decide +kernel) (by decide +kernel), tbm 465 (by decide +kernel) (by decide +kernel), tbm 466 (by decide +kernel) (by decide +kernel), tbm 51 (by decide +kernel) (by decide +kernel)⟩
theorem lV_X5_41 : LVk RX5 41 MX5_fillPupil := ⟨tbm 468 (by decide +kernel) (by decide +kernel), tbm 469 (by decide +kernel) (by decide +kernel), tbm 470 (by decide +kernel) (by decide +kernel), tbm 56 (by decide +kernel) (by decide +kernel)⟩
theorem lS_X5_45 : LSk RX5 45 MX5_cellOf := ⟨tbm 472 (by decide +kernel) (by decide +kernel), tbm 473 (by decide +kernel) (by decide +kernel), tbm 56 (by decide +kernel) (by decide +kernel)⟩
theorem lS_X5_49 : LSk RX5 49 MX5_costOfRank := ⟨tbm 475 (by decide +kernel) (by decide +kernel), tbm 476 (by decide +kernel) (by decide +kernel), tbm 56 (by decide +kernel) (by decide +kernel)⟩
theorem lV_X6_43 : LVk RX6 43 MX4_presentBits := ⟨tbm 478 (by decide +kernel) (by decide +kernel), tbm 371 (by decide +kernel) (by decide +kernel), tbm 372 (by decide +kernel) (by decide +kernel), tbm 51 (by decide +kernel) (by decide +kernel)⟩
theorem lV_X6_56 : LVk RX6 56 MX4_pupilOf := ⟨tbm 479 (by decide +kernel) (by decide +kernel), tbm 310 (by decide +kernel) (by decide +kernel), tbm 311 (by decide +kernel) (by decide +kernel), tbm 51 (by decide +kernel) (by decide +kernel)⟩
theorem lV_X7_148 : LVk RX7 148 MX6_findBest := ⟨tbm 480 (by decide +kernel) (by decide +kernel), tbm 481 (by decide +kernel) (by decide +kernel), tbm 482 (by decide +kernel) (by decide +kernel), tbm 54 (by decide +kernel) (by decide +kernel)⟩
theorem lV_X6_74 : LVk RX6 74 MX6_begin := ⟨tbm 485 (by decide +kernel) (by decide +kernel), tbm 487 (by decide +kernel) (by decide +kernel), tbm 6 (by decide +kernel) (by decide +kernel), tbm 54 (by decide +kernel) (by decide +kernel)⟩
theorem lS_X6_109 : LSk RX6 109 MX6_extend := ⟨tbm 490 (by decide +kernel) (by decide +kernel), tbm 491 (by decide +kernel) (by decide +kernel), tbm 54 (by decide +kernel) (by decide +kernel)⟩
theorem lV_X6_113 : LVk RX6 113 MX6_judge := ⟨tbm 493 (by decide +kernel) (by decide +kernel), tbm 495 (by decide +kernel) (by decide +kernel), tbm 7 (by decide +kernel) (by decide +kernel), tbm 54 (by decide +kernel) (by decide +kernel)⟩
theorem lV_X6_127 : LVk RX6 127 MX0_fits := ⟨tbm 497 (by decide +kernel) (by decide +kernel), tbm 498 (by decide +kernel) (by decide +kernel), tbm 499 (by decide +kernel) (by decide +kernel), tbm 55 (by decide +kernel) (by decide +kernel)⟩
theorem lV_X6_83 : LVk RX6 83 MX6_isPresent := ⟨tbm 504 (by decide +kernel) (by decide +kernel), tbm 506 (by decide +kernel) (by decide +kernel), tbm 8 (by decide +kernel) (by decide +kernel), tbm 54 (by decide +kernel) (by decide +kernel)⟩
theorem lV_X6_117 : LVk RX6 117 MX0_canGrow := ⟨tbm 508 (by decide +kernel) (by decide +kernel), tbm 509 (by decide +kernel) (by decide +kernel), tbm 510 (by decide +kernel) (by decide +kernel), tbm 55 (by decide +kernel) (by decide +kernel)⟩
theorem lS_X6_121 : LSk RX6 121 MJ6_bitCount_0f7a4 := ⟨tbm 512 (by decide +kernel) (by decide +kernel), tbm 375 (by decide +kernel) (by decide +kernel), tbm 59 (by decide +kernel) (by decide +kernel)⟩
theorem lV_X6_87 : LVk RX6 87 MX5_costOf := ⟨tbm 513 (by decide +kernel) (by decide +kernel), tbm 514 (by decide +kernel) (by decide +kernel), tbm 515 (by decide +kernel) (by decide +kernel), tbm 56 (by decide +kernel) (by decide +kernel)⟩
theorem lV_X6_95 : LVk RX6 95 MX5_digitOf := ⟨tbm 517 (by decide +kernel) (by decide +kernel), tbm 518 (by decide +kernel) (by decide +kernel), tbm 519 (by decide +kernel) (by decide +kernel), tbm 56 (by decide +kernel) (by decide +kernel)⟩
theorem lV_X7_152 : LVk RX7 152 MX6_copyFound := ⟨tbm 521 (by decide +kernel) (by decide +kernel), tbm 522 (by decide +kernel) (by decide +kernel), tbm 523 (by decide +kernel) (by decide +kernel), tbm 54 (by decide +kernel) (by decide +kernel)⟩
theorem lV_L_94 : LVk RL 94 MX7_plans := ⟨tbm 525 (by decide +kernel) (by decide +kernel), tbm 526 (by decide +kernel) (by decide +kernel), tbm 527 (by decide +kernel) (by decide +kernel), tbm 50 (by decide +kernel) (by decide +kernel)⟩
theorem lV_X7_156 : LVk RX7 156 MX6_countRight := ⟨tbm 529 (by decide +kernel) (by decide +kernel), tbm 530 (by decide +kernel) (by decide +kernel), tbm 531 (by decide +kernel) (by decide +kernel), tbm 54 (by decide +kernel) (by decide +kernel)⟩
theorem lV_X7_159 : LVk RX7 159 MX6_countBetter := ⟨tbm 533 (by decide +kernel) (by decide +kernel), tbm 534 (by decide +kernel) (by decide +kernel), tbm 535 (by decide +kernel) (by decide +kernel), tbm 54 (by decide +kernel) (by decide +kernel)⟩
theorem lV_X6_91 : LVk RX6 91 MX6_friendsBefore := ⟨tbm 537 (by decide +kernel) (by decide +kernel), tbm 539 (by decide +kernel) (by decide +kernel), tbm 9 (by decide +kernel) (by decide +kernel), tbm 54 (by decide +kernel) (by decide +kernel)⟩
theorem lV_L_98 : LVk RL 98 MX7_worth := ⟨tbm 541 (by decide +kernel) (by decide +kernel), tbm 542 (by decide +kernel) (by decide +kernel), tbm 543 (by decide +kernel) (by decide +kernel), tbm 50 (by decide +kernel) (by decide +kernel)⟩
theorem lV_X7_162 : LVk RX7 162 MX7_countRanks := ⟨tbm 545 (by decide +kernel) (by decide +kernel), tbm 547 (by decide +kernel) (by decide +kernel), tbm 10 (by decide +kernel) (by decide +kernel), tbm 50 (by decide +kernel) (by decide +kernel)⟩
theorem lV_X7_211 : LVk RX7 211 MX7_isPlaced := ⟨tbm 549 (by decide +kernel) (by decide +kernel), tbm 551 (by decide +kernel) (by decide +kernel), tbm 11 (by decide +kernel) (by decide +kernel), tbm 50 (by decide +kernel) (by decide +kernel)⟩
theorem lV_X7_195 : LVk RX7 195 MX7_rankByPlan := ⟨tbm 553 (by decide +kernel) (by decide +kernel), tbm 555 (by decide +kernel) (by decide +kernel), tbm 12 (by decide +kernel) (by decide +kernel), tbm 50 (by decide +kernel) (by decide +kernel)⟩
theorem lV_X7_165 : LVk RX7 165 MX7_grief := ⟨tbm 557 (by decide +kernel) (by decide +kernel), tbm 559 (by decide +kernel) (by decide +kernel), tbm 13 (by decide +kernel) (by decide +kernel), tbm 50 (by decide +kernel) (by decide +kernel)⟩
theorem lV_X7_214 : LVk RX7 214 MX4_scoreOf := ⟨tbm 561 (by decide +kernel) (by decide +kernel), tbm 562 (by decide +kernel) (by decide +kernel), tbm 563 (by decide +kernel) (by decide +kernel), tbm 51 (by decide +kernel) (by decide +kernel)⟩
theorem lV_X4_59 : LVk RX4 59 MX4_pupilOf := ⟨tbm 565 (by decide +kernel) (by decide +kernel), tbm 310 (by decide +kernel) (by decide +kernel), tbm 311 (by decide +kernel) (by decide +kernel), tbm 51 (by decide +kernel) (by decide +kernel)⟩
theorem lV_X7_168 : LVk RX7 168 MX7_friendPairs := ⟨tbm 566 (by decide +kernel) (by decide +kernel), tbm 568 (by decide +kernel) (by decide +kernel), tbm 14 (by decide +kernel) (by decide +kernel), tbm 50 (by decide +kernel) (by decide +kernel)⟩
theorem lV_X7_217 : LVk RX7 217 MX4_areFriends := ⟨tbm 570 (by decide +kernel) (by decide +kernel), tbm 571 (by decide +kernel) (by decide +kernel), tbm 572 (by decide +kernel) (by decide +kernel), tbm 51 (by decide +kernel) (by decide +kernel)⟩
theorem lV_X7_171 : LVk RX7 171 MX7_projectsUsed := ⟨tbm 574 (by decide +kernel) (by decide +kernel), tbm 576 (by decide +kernel) (by decide +kernel), tbm 15 (by decide +kernel) (by decide +kernel), tbm 50 (by decide +kernel) (by decide +kernel)⟩
theorem lV_L_102 : LVk RL 102 MX7_swap := ⟨tbm 578 (by decide +kernel) (by decide +kernel), tbm 579 (by decide +kernel) (by decide +kernel), tbm 580 (by decide +kernel) (by decide +kernel), tbm 50 (by decide +kernel) (by decide +kernel)⟩
theorem lV_X7_174 : LVk RX7 174 MX7_bothGain := ⟨tbm 582 (by decide +kernel) (by decide +kernel), tbm 584 (by decide +kernel) (by decide +kernel), tbm 16 (by decide +kernel) (by decide +kernel), tbm 50 (by decide +kernel) (by decide +kernel)⟩
theorem lV_X7_220 : LVk RX7 220 MX7_gains := ⟨tbm 586 (by decide +kernel) (by decide +kernel), tbm 588 (by decide +kernel) (by decide +kernel), tbm 17 (by decide +kernel) (by decide +kernel), tbm 50 (by decide +kernel) (by decide +kernel)⟩
theorem lV_X7_178 : LVk RX7 178 MX7_rightAfterExchange := ⟨tbm 590 (by decide +kernel) (by decide +kernel), tbm 592 (by decide +kernel) (by decide +kernel), tbm 18 (by decide +kernel) (by decide +kernel), tbm 50 (by decide +kernel) (by decide +kernel)⟩
theorem lS_X7_223 : LSk RX7 223 MX7_exchangePlaces := ⟨tbm 594 (by decide +kernel) (by decide +kernel), tbm 364 (by decide +kernel) (by decide +kernel), tbm 50 (by decide +kernel) (by decide +kernel)⟩
theorem lV_L_106 : LVk RL 106 MX7_change := ⟨tbm 595 (by decide +kernel) (by decide +kernel), tbm 596 (by decide +kernel) (by decide +kernel), tbm 597 (by decide +kernel) (by decide +kernel), tbm 50 (by decide +kernel) (by decide +kernel)⟩
theorem lV_X7_181 : LVk RX7 181 MX6_chargeMove := ⟨tbm 599 (by decide +kernel) (by decide +kernel), tbm 600 (by decide +kernel) (by decide +kernel), tbm 601 (by decide +kernel) (by decide +kernel), tbm 54 (by decide +kernel) (by decide +kernel)⟩
theorem lV_X6_68 : LVk RX6 68 MX5_chargeMove := ⟨tbm 603 (by decide +kernel) (by decide +kernel), tbm 604 (by decide +kernel) (by decide +kernel), tbm 605 (by decide +kernel) (by decide +kernel), tbm 56 (by decide +kernel) (by decide +kernel)⟩
theorem lV_X7_185 : LVk RX7 185 MX6_movedFrom := ⟨tbm 608 (by decide +kernel) (by decide +kernel), tbm 609 (by decide +kernel) (by decide +kernel), tbm 610 (by decide +kernel) (by decide +kernel), tbm 54 (by decide +kernel) (by decide +kernel)⟩
theorem lV_L_110 : LVk RL 110 MX7_lie := ⟨tbm 612 (by decide +kernel) (by decide +kernel), tbm 613 (by decide +kernel) (by decide +kernel), tbm 614 (by decide +kernel) (by decide +kernel), tbm 50 (by decide +kernel) (by decide +kernel)⟩
theorem lV_X7_188 : LVk RX7 188 MX6_foundFor := ⟨tbm 616 (by decide +kernel) (by decide +kernel), tbm 617 (by decide +kernel) (by decide +kernel), tbm 618 (by decide +kernel) (by decide +kernel), tbm 54 (by decide +kernel) (by decide +kernel)⟩
theorem lV_X7_191 : LVk RX7 191 MX7_findPayingTale := ⟨tbm 620 (by decide +kernel) (by decide +kernel), tbm 622 (by decide +kernel) (by decide +kernel), tbm 19 (by decide +kernel) (by decide +kernel), tbm 50 (by decide +kernel) (by decide +kernel)⟩
theorem lV_X7_227 : LVk RX7 227 MX7_rankByTale := ⟨tbm 624 (by decide +kernel) (by decide +kernel), tbm 626 (by decide +kernel) (by decide +kernel), tbm 20 (by decide +kernel) (by decide +kernel), tbm 50 (by decide +kernel) (by decide +kernel)⟩
theorem lV_X7_137 : LVk RX7 137 MX4_placeOf := ⟨tbm 628 (by decide +kernel) (by decide +kernel), tbm 465 (by decide +kernel) (by decide +kernel), tbm 466 (by decide +kernel) (by decide +kernel), tbm 51 (by decide +kernel) (by decide +kernel)⟩
theorem lV_X7_230 : LVk RX7 230 MX6_tellRanks := ⟨tbm 629 (by decide +kernel) (by decide +kernel), tbm 630 (by decide +kernel) (by decide +kernel), tbm 631 (by decide +kernel) (by decide +kernel), tbm 54 (by decide +kernel) (by decide +kernel)⟩
theorem lV_X6_64 : LVk RX6 64 MX5_fillPupil := ⟨tbm 633 (by decide +kernel) (by decide +kernel), tbm 469 (by decide +kernel) (by decide +kernel), tbm 470 (by decide +kernel) (by decide +kernel), tbm 56 (by decide +kernel) (by decide +kernel)⟩
theorem lS_X7_240 : LSk RX7 240 MX7_turnToNext := ⟨tbm 635 (by decide +kernel) (by decide +kernel), tbm 636 (by decide +kernel) (by decide +kernel), tbm 50 (by decide +kernel) (by decide +kernel)⟩
theorem lV_L_114 : LVk RL 114 MX7_book := ⟨tbm 638 (by decide +kernel) (by decide +kernel), tbm 639 (by decide +kernel) (by decide +kernel), tbm 640 (by decide +kernel) (by decide +kernel), tbm 50 (by decide +kernel) (by decide +kernel)⟩
theorem lV_X7_198 : LVk RX7 198 MX1_note := ⟨tbm 642 (by decide +kernel) (by decide +kernel), tbm 643 (by decide +kernel) (by decide +kernel), tbm 644 (by decide +kernel) (by decide +kernel), tbm 57 (by decide +kernel) (by decide +kernel)⟩
theorem lS_X1_22 : LSk RX1 22 MX1_cellOf := ⟨tbm 646 (by decide +kernel) (by decide +kernel), tbm 647 (by decide +kernel) (by decide +kernel), tbm 57 (by decide +kernel) (by decide +kernel)⟩
theorem lV_X7_202 : LVk RX7 202 MX4_addScore := ⟨tbm 649 (by decide +kernel) (by decide +kernel), tbm 650 (by decide +kernel) (by decide +kernel), tbm 651 (by decide +kernel) (by decide +kernel), tbm 51 (by decide +kernel) (by decide +kernel)⟩
theorem lV_L_118 : LVk RL 118 MX7_year := ⟨tbm 653 (by decide +kernel) (by decide +kernel), tbm 654 (by decide +kernel) (by decide +kernel), tbm 655 (by decide +kernel) (by decide +kernel), tbm 50 (by decide +kernel) (by decide +kernel)⟩
theorem lV_X7_205 : LVk RX7 205 MX1_rankOf := ⟨tbm 657 (by decide +kernel) (by decide +kernel), tbm 658 (by decide +kernel) (by decide +kernel), tbm 659 (by decide +kernel) (by decide +kernel), tbm 57 (by decide +kernel) (by decide +kernel)⟩
theorem lV_L_122 : LVk RL 122 MX7_undo := ⟨tbm 661 (by decide +kernel) (by decide +kernel), tbm 662 (by decide +kernel) (by decide +kernel), tbm 663 (by decide +kernel) (by decide +kernel), tbm 50 (by decide +kernel) (by decide +kernel)⟩
theorem lV_X7_209 : LVk RX7 209 MX1_projectOf := ⟨tbm 665 (by decide +kernel) (by decide +kernel), tbm 666 (by decide +kernel) (by decide +kernel), tbm 667 (by decide +kernel) (by decide +kernel), tbm 57 (by decide +kernel) (by decide +kernel)⟩
theorem lV_L_7 : LVk RL 7 MX7_of := ⟨tbm 673 (by decide +kernel) (by decide +kernel), tbm 674 (by decide +kernel) (by decide +kernel), tbm 675 (by decide +kernel) (by decide +kernel), tbm 50 (by decide +kernel) (by decide +kernel)⟩
theorem lV_L_15 : LVk RL 15 MX7_row := ⟨tbm 741 (by decide +kernel) (by decide +kernel), tbm 742 (by decide +kernel) (by decide +kernel), tbm 743 (by decide +kernel) (by decide +kernel), tbm 50 (by decide +kernel) (by decide +kernel)⟩
theorem lV_L_73 : LVk RL 73 MX8_thrown := ⟨tbm 864 (by decide +kernel) (by decide +kernel), tbm 865 (by decide +kernel) (by decide +kernel), tbm 866 (by decide +kernel) (by decide +kernel), tbm 58 (by decide +kernel) (by decide +kernel)⟩
theorem lV_L_26 : LVk RL 26 MX8_pupil := ⟨tbm 868 (by decide +kernel) (by decide +kernel), tbm 869 (by decide +kernel) (by decide +kernel), tbm 870 (by decide +kernel) (by decide +kernel), tbm 58 (by decide +kernel) (by decide +kernel)⟩
theorem lS_X8_87 : LSk RX8 87 MX8_in := ⟨tbm 873 (by decide +kernel) (by decide +kernel), tbm 874 (by decide +kernel) (by decide +kernel), tbm 58 (by decide +kernel) (by decide +kernel)⟩
theorem lV_L_31 : LVk RL 31 MX8_project := ⟨tbm 876 (by decide +kernel) (by decide +kernel), tbm 877 (by decide +kernel) (by decide +kernel), tbm 878 (by decide +kernel) (by decide +kernel), tbm 58 (by decide +kernel) (by decide +kernel)⟩
theorem lV_X8_100 : LVk RX8 100 MX8_isPupil := ⟨tbm 882 (by decide +kernel) (by decide +kernel), tbm 884 (by decide +kernel) (by decide +kernel), tbm 22 (by decide +kernel) (by decide +kernel), tbm 58 (by decide +kernel) (by decide +kernel)⟩
theorem lV_L_35 : LVk RL 35 MX8_wish := ⟨tbm 886 (by decide +kernel) (by decide +kernel), tbm 887 (by decide +kernel) (by decide +kernel), tbm 888 (by decide +kernel) (by decide +kernel), tbm 58 (by decide +kernel) (by decide +kernel)⟩
theorem lV_X8_104 : LVk RX8 104 MX8_isProject := ⟨tbm 890 (by decide +kernel) (by decide +kernel), tbm 892 (by decide +kernel) (by decide +kernel), tbm 23 (by decide +kernel) (by decide +kernel), tbm 58 (by decide +kernel) (by decide +kernel)⟩
theorem lV_X8_107 : LVk RX8 107 MX8_hasWish := ⟨tbm 894 (by decide +kernel) (by decide +kernel), tbm 896 (by decide +kernel) (by decide +kernel), tbm 24 (by decide +kernel) (by decide +kernel), tbm 58 (by decide +kernel) (by decide +kernel)⟩
theorem lV_X8_111 : LVk RX8 111 MX8_add := ⟨tbm 898 (by decide +kernel) (by decide +kernel), tbm 900 (by decide +kernel) (by decide +kernel), tbm 25 (by decide +kernel) (by decide +kernel), tbm 58 (by decide +kernel) (by decide +kernel)⟩
theorem lV_L_39 : LVk RL 39 MX8_wishes := ⟨tbm 902 (by decide +kernel) (by decide +kernel), tbm 903 (by decide +kernel) (by decide +kernel), tbm 904 (by decide +kernel) (by decide +kernel), tbm 58 (by decide +kernel) (by decide +kernel)⟩
theorem lV_L_44 : LVk RL 44 MX8_friends := ⟨tbm 907 (by decide +kernel) (by decide +kernel), tbm 908 (by decide +kernel) (by decide +kernel), tbm 909 (by decide +kernel) (by decide +kernel), tbm 58 (by decide +kernel) (by decide +kernel)⟩
theorem lV_X8_117 : LVk RX8 117 MX8_areTwo := ⟨tbm 911 (by decide +kernel) (by decide +kernel), tbm 913 (by decide +kernel) (by decide +kernel), tbm 26 (by decide +kernel) (by decide +kernel), tbm 58 (by decide +kernel) (by decide +kernel)⟩
theorem lV_L_48 : LVk RL 48 MX8_apart := ⟨tbm 915 (by decide +kernel) (by decide +kernel), tbm 916 (by decide +kernel) (by decide +kernel), tbm 917 (by decide +kernel) (by decide +kernel), tbm 58 (by decide +kernel) (by decide +kernel)⟩
theorem lV_L_53 : LVk RL 53 MX8_here := ⟨tbm 919 (by decide +kernel) (by decide +kernel), tbm 920 (by decide +kernel) (by decide +kernel), tbm 921 (by decide +kernel) (by decide +kernel), tbm 58 (by decide +kernel) (by decide +kernel)⟩
theorem lV_L_57 : LVk RL 57 MX8_offered := ⟨tbm 923 (by decide +kernel) (by decide +kernel), tbm 924 (by decide +kernel) (by decide +kernel), tbm 925 (by decide +kernel) (by decide +kernel), tbm 58 (by decide +kernel) (by decide +kernel)⟩
theorem lV_L_62 : LVk RL 62 MX8_lots := ⟨tbm 927 (by decide +kernel) (by decide +kernel), tbm 928 (by decide +kernel) (by decide +kernel), tbm 929 (by decide +kernel) (by decide +kernel), tbm 58 (by decide +kernel) (by decide +kernel)⟩
theorem lV_L_66 : LVk RL 66 MX8_count := ⟨tbm 932 (by decide +kernel) (by decide +kernel), tbm 933 (by decide +kernel) (by decide +kernel), tbm 934 (by decide +kernel) (by decide +kernel), tbm 58 (by decide +kernel) (by decide +kernel)⟩
theorem lV_X8_121 : LVk RX8 121 MX8_present := ⟨tbm 936 (by decide +kernel) (by decide +kernel), tbm 938 (by decide +kernel) (by decide +kernel), tbm 27 (by decide +kernel) (by decide +kernel), tbm 58 (by decide +kernel) (by decide +kernel)⟩
theorem lV_L_72 : LVk RL 72 MX8_of := ⟨tbm 940 (by decide +kernel) (by decide +kernel), tbm 941 (by decide +kernel) (by decide +kernel), tbm 942 (by decide +kernel) (by decide +kernel), tbm 58 (by decide +kernel) (by decide +kernel)⟩
theorem lV_X8_133 : LVk RX8 133 MX8_refuse := ⟨tbm 945 (by decide +kernel) (by decide +kernel), tbm 947 (by decide +kernel) (by decide +kernel), tbm 28 (by decide +kernel) (by decide +kernel), tbm 58 (by decide +kernel) (by decide +kernel)⟩
theorem lV_X8_136 : LVk RX8 136 MX8_rankOf := ⟨tbm 949 (by decide +kernel) (by decide +kernel), tbm 951 (by decide +kernel) (by decide +kernel), tbm 29 (by decide +kernel) (by decide +kernel), tbm 58 (by decide +kernel) (by decide +kernel)⟩
theorem lV_L_80 : LVk RL 80 MX8_rank := ⟨tbm 953 (by decide +kernel) (by decide +kernel), tbm 954 (by decide +kernel) (by decide +kernel), tbm 955 (by decide +kernel) (by decide +kernel), tbm 58 (by decide +kernel) (by decide +kernel)⟩
theorem lV_L_85 : LVk RL 85 MX8_put := ⟨tbm 957 (by decide +kernel) (by decide +kernel), tbm 958 (by decide +kernel) (by decide +kernel), tbm 959 (by decide +kernel) (by decide +kernel), tbm 58 (by decide +kernel) (by decide +kernel)⟩
theorem lV_L_89 : LVk RL 89 MX8_wrong := ⟨tbm 961 (by decide +kernel) (by decide +kernel), tbm 962 (by decide +kernel) (by decide +kernel), tbm 963 (by decide +kernel) (by decide +kernel), tbm 58 (by decide +kernel) (by decide +kernel)⟩
theorem lV_X8_157 : LVk RX8 157 MX8_wrongOf := ⟨tbm 965 (by decide +kernel) (by decide +kernel), tbm 967 (by decide +kernel) (by decide +kernel), tbm 30 (by decide +kernel) (by decide +kernel), tbm 58 (by decide +kernel) (by decide +kernel)⟩
theorem lS_X8_143 : LSk RX8 143 MX8_sizeOf := ⟨tbm 969 (by decide +kernel) (by decide +kernel), tbm 970 (by decide +kernel) (by decide +kernel), tbm 58 (by decide +kernel) (by decide +kernel)⟩
theorem lV_X8_147 : LVk RX8 147 MX8_isSize := ⟨tbm 972 (by decide +kernel) (by decide +kernel), tbm 974 (by decide +kernel) (by decide +kernel), tbm 31 (by decide +kernel) (by decide +kernel), tbm 58 (by decide +kernel) (by decide +kernel)⟩
theorem lV_X8_140 : LVk RX8 140 MX8_isTwice := ⟨tbm 976 (by decide +kernel) (by decide +kernel), tbm 978 (by decide +kernel) (by decide +kernel), tbm 32 (by decide +kernel) (by decide +kernel), tbm 58 (by decide +kernel) (by decide +kernel)⟩
theorem lV_X8_150 : LVk RX8 150 MX8_isLed := ⟨tbm 980 (by decide +kernel) (by decide +kernel), tbm 982 (by decide +kernel) (by decide +kernel), tbm 33 (by decide +kernel) (by decide +kernel), tbm 58 (by decide +kernel) (by decide +kernel)⟩
theorem lV_X8_154 : LVk RX8 154 MX8_hasSkills := ⟨tbm 984 (by decide +kernel) (by decide +kernel), tbm 986 (by decide +kernel) (by decide +kernel), tbm 34 (by decide +kernel) (by decide +kernel), tbm 58 (by decide +kernel) (by decide +kernel)⟩
theorem lV_L_93 : LVk RL 93 MX8_best := ⟨tbm 988 (by decide +kernel) (by decide +kernel), tbm 989 (by decide +kernel) (by decide +kernel), tbm 990 (by decide +kernel) (by decide +kernel), tbm 58 (by decide +kernel) (by decide +kernel)⟩
theorem lV_X8_224 : LVk RX8 224 MX8_all := ⟨tbm 992 (by decide +kernel) (by decide +kernel), tbm 994 (by decide +kernel) (by decide +kernel), tbm 35 (by decide +kernel) (by decide +kernel), tbm 58 (by decide +kernel) (by decide +kernel)⟩
theorem lV_X8_216 : LVk RX8 216 MX8_goes := ⟨tbm 997 (by decide +kernel) (by decide +kernel), tbm 999 (by decide +kernel) (by decide +kernel), tbm 36 (by decide +kernel) (by decide +kernel), tbm 58 (by decide +kernel) (by decide +kernel)⟩
theorem lV_X8_213 : LVk RX8 213 MX8_finds := ⟨tbm 1001 (by decide +kernel) (by decide +kernel), tbm 1003 (by decide +kernel) (by decide +kernel), tbm 37 (by decide +kernel) (by decide +kernel), tbm 58 (by decide +kernel) (by decide +kernel)⟩
theorem lV_X8_197 : LVk RX8 197 MX8_movesOf := ⟨tbm 1005 (by decide +kernel) (by decide +kernel), tbm 1007 (by decide +kernel) (by decide +kernel), tbm 38 (by decide +kernel) (by decide +kernel), tbm 58 (by decide +kernel) (by decide +kernel)⟩
theorem lV_X8_203 : LVk RX8 203 MX8_isBetter := ⟨tbm 1009 (by decide +kernel) (by decide +kernel), tbm 1011 (by decide +kernel) (by decide +kernel), tbm 39 (by decide +kernel) (by decide +kernel), tbm 58 (by decide +kernel) (by decide +kernel)⟩
theorem lV_X8_177 : LVk RX8 177 MX8_weigh := ⟨tbm 1013 (by decide +kernel) (by decide +kernel), tbm 1015 (by decide +kernel) (by decide +kernel), tbm 40 (by decide +kernel) (by decide +kernel), tbm 58 (by decide +kernel) (by decide +kernel)⟩
theorem lV_X8_170 : LVk RX8 170 MX8_rankBy := ⟨tbm 1017 (by decide +kernel) (by decide +kernel), tbm 1019 (by decide +kernel) (by decide +kernel), tbm 41 (by decide +kernel) (by decide +kernel), tbm 58 (by decide +kernel) (by decide +kernel)⟩
theorem lS_X8_173 : LSk RX8 173 MX8_nines := ⟨tbm 1021 (by decide +kernel) (by decide +kernel), tbm 1022 (by decide +kernel) (by decide +kernel), tbm 58 (by decide +kernel) (by decide +kernel)⟩
theorem lV_X8_190 : LVk RX8 190 MX8_isAhead := ⟨tbm 1024 (by decide +kernel) (by decide +kernel), tbm 1026 (by decide +kernel) (by decide +kernel), tbm 42 (by decide +kernel) (by decide +kernel), tbm 58 (by decide +kernel) (by decide +kernel)⟩
theorem lV_X8_210 : LVk RX8 210 MX8_keeps := ⟨tbm 1028 (by decide +kernel) (by decide +kernel), tbm 1030 (by decide +kernel) (by decide +kernel), tbm 43 (by decide +kernel) (by decide +kernel), tbm 58 (by decide +kernel) (by decide +kernel)⟩
theorem lV_X8_220 : LVk RX8 220 MX8_may := ⟨tbm 1032 (by decide +kernel) (by decide +kernel), tbm 1034 (by decide +kernel) (by decide +kernel), tbm 44 (by decide +kernel) (by decide +kernel), tbm 58 (by decide +kernel) (by decide +kernel)⟩
theorem lV_X8_227 : LVk RX8 227 MX8_takes := ⟨tbm 1036 (by decide +kernel) (by decide +kernel), tbm 1038 (by decide +kernel) (by decide +kernel), tbm 45 (by decide +kernel) (by decide +kernel), tbm 58 (by decide +kernel) (by decide +kernel)⟩
theorem lV_L_97 : LVk RL 97 MX8_plans := ⟨tbm 1040 (by decide +kernel) (by decide +kernel), tbm 1041 (by decide +kernel) (by decide +kernel), tbm 1042 (by decide +kernel) (by decide +kernel), tbm 58 (by decide +kernel) (by decide +kernel)⟩
theorem lV_L_101 : LVk RL 101 MX8_worth := ⟨tbm 1044 (by decide +kernel) (by decide +kernel), tbm 1045 (by decide +kernel) (by decide +kernel), tbm 1046 (by decide +kernel) (by decide +kernel), tbm 58 (by decide +kernel) (by decide +kernel)⟩
theorem lS_X8_232 : LSk RX8 232 MJ6_bitCount_0f7a4 := ⟨tbm 1049 (by decide +kernel) (by decide +kernel), tbm 375 (by decide +kernel) (by decide +kernel), tbm 59 (by decide +kernel) (by decide +kernel)⟩
theorem lV_L_105 : LVk RL 105 MX8_swap := ⟨tbm 1050 (by decide +kernel) (by decide +kernel), tbm 1051 (by decide +kernel) (by decide +kernel), tbm 1052 (by decide +kernel) (by decide +kernel), tbm 58 (by decide +kernel) (by decide +kernel)⟩
theorem lV_X8_237 : LVk RX8 237 MX8_wouldSwap := ⟨tbm 1054 (by decide +kernel) (by decide +kernel), tbm 1056 (by decide +kernel) (by decide +kernel), tbm 46 (by decide +kernel) (by decide +kernel), tbm 58 (by decide +kernel) (by decide +kernel)⟩
theorem lV_L_109 : LVk RL 109 MX8_change := ⟨tbm 1058 (by decide +kernel) (by decide +kernel), tbm 1059 (by decide +kernel) (by decide +kernel), tbm 1060 (by decide +kernel) (by decide +kernel), tbm 58 (by decide +kernel) (by decide +kernel)⟩
theorem lV_L_113 : LVk RL 113 MX8_lie := ⟨tbm 1062 (by decide +kernel) (by decide +kernel), tbm 1063 (by decide +kernel) (by decide +kernel), tbm 1064 (by decide +kernel) (by decide +kernel), tbm 58 (by decide +kernel) (by decide +kernel)⟩
theorem lV_X8_243 : LVk RX8 243 MX8_nextOrder := ⟨tbm 1066 (by decide +kernel) (by decide +kernel), tbm 1068 (by decide +kernel) (by decide +kernel), tbm 47 (by decide +kernel) (by decide +kernel), tbm 58 (by decide +kernel) (by decide +kernel)⟩
theorem lV_X8_240 : LVk RX8 240 MX8_exchange := ⟨tbm 1070 (by decide +kernel) (by decide +kernel), tbm 1072 (by decide +kernel) (by decide +kernel), tbm 48 (by decide +kernel) (by decide +kernel), tbm 58 (by decide +kernel) (by decide +kernel)⟩
theorem lV_L_117 : LVk RL 117 MX8_book := ⟨tbm 1074 (by decide +kernel) (by decide +kernel), tbm 1075 (by decide +kernel) (by decide +kernel), tbm 1076 (by decide +kernel) (by decide +kernel), tbm 58 (by decide +kernel) (by decide +kernel)⟩
theorem lV_L_121 : LVk RL 121 MX8_year := ⟨tbm 1081 (by decide +kernel) (by decide +kernel), tbm 1082 (by decide +kernel) (by decide +kernel), tbm 1083 (by decide +kernel) (by decide +kernel), tbm 58 (by decide +kernel) (by decide +kernel)⟩
theorem lV_L_125 : LVk RL 125 MX8_undo := ⟨tbm 1085 (by decide +kernel) (by decide +kernel), tbm 1086 (by decide +kernel) (by decide +kernel), tbm 1087 (by decide +kernel) (by decide +kernel), tbm 58 (by decide +kernel) (by decide +kernel)⟩
theorem lV_L_129 : LVk RL 129 MX8_row := ⟨tbm 1089 (by decide +kernel) (by decide +kernel), tbm 1090 (by decide +kernel) (by decide +kernel), tbm 1091 (by decide +kernel) (by decide +kernel), tbm 58 (by decide +kernel) (by decide +kernel)⟩
def FKL : List (List Nat) := [[2, 2], [2, 2, 0], [0, 0, 0, 0, 0, 3], [2, 0, 0, 0, 0, 0, 3], [2, 2, 2, 0, 0], [2, 2], [2, 2, 2, 2, 2, 2, 0, 0, 1, 1, 3, 0], [2, 2, 2, 2, 2, 2, 2, 0], [0, 0, 2, 2, 2, 2, 2, 2, 2, 2, 2, 0, 2, 2, 2, 2, 2, 2, 0, 0, 0, 2, 2, 0, 0, 0, 0, 0, 0, 2, 2, 0, 2, 2, 2, 2, 0]]
def FK (ci j : Nat) : Nat := (FKL.getD ci []).getD j 0
def NF (ci : Nat) : Nat := (FKL.getD ci []).length
def kty : Nat → FieldType := fun k => match k with
  | 0 => .int
  | 1 => .long
  | 3 => .boolean
  | _ => .int
def FI (own : String) (idx ci j kd : Nat) : Prop := ∃ (C : String) (T : u_T) (N : Nat), vwCl[ci]? = some (C, T, N) ∧ j < N ∧ N = NF ci ∧ FK ci j = kd ∧ Cond.fieldLink own idx (T j).1 (T j).2.1 (T j).2.2.1 ∈ TB ∧ (kd ≠ 2 → (T j).2.2.2 = false ∧ parseFieldDescriptor (T j).2.2.1 = some (kty kd))
theorem fi_X3_9 : FI RX3 9 3 0 2 := ⟨RX3, TX3, 7, rfl, by decide +kernel, by decide +kernel, by decide +kernel, tbm 89 (by decide +kernel) (by decide +kernel), (fun h => absurd rfl h)⟩
theorem fi_X5_37 : FI RX5 37 3 0 2 := ⟨RX3, TX3, 7, rfl, by decide +kernel, by decide +kernel, by decide +kernel, tbm 90 (by decide +kernel) (by decide +kernel), (fun h => absurd rfl h)⟩
theorem fi_X4_33 : FI RX4 33 3 1 0 := ⟨RX3, TX3, 7, rfl, by decide +kernel, by decide +kernel, by decide +kernel, tbm 91 (by decide +kernel) (by decide +kernel), (fun _ => ⟨rfl, by decide +kernel⟩)⟩
theorem fi_X7_128 : FI RX7 128 3 1 0 := ⟨RX3, TX3, 7, rfl, by decide +kernel, by decide +kernel, by decide +kernel, tbm 92 (by decide +kernel) (by decide +kernel), (fun _ => ⟨rfl, by decide +kernel⟩)⟩
theorem fi_X3_19 : FI RX3 19 3 2 0 := ⟨RX3, TX3, 7, rfl, by decide +kernel, by decide +kernel, by decide +kernel, tbm 93 (by decide +kernel) (by decide +kernel), (fun _ => ⟨rfl, by decide +kernel⟩)⟩
theorem fi_X7_67 : FI RX7 67 3 2 0 := ⟨RX3, TX3, 7, rfl, by decide +kernel, by decide +kernel, by decide +kernel, tbm 94 (by decide +kernel) (by decide +kernel), (fun _ => ⟨rfl, by decide +kernel⟩)⟩
theorem fi_X5_32 : FI RX5 32 3 3 0 := ⟨RX3, TX3, 7, rfl, by decide +kernel, by decide +kernel, by decide +kernel, tbm 95 (by decide +kernel) (by decide +kernel), (fun _ => ⟨rfl, by decide +kernel⟩)⟩
theorem fi_X4_63 : FI RX4 63 3 3 0 := ⟨RX3, TX3, 7, rfl, by decide +kernel, by decide +kernel, by decide +kernel, tbm 96 (by decide +kernel) (by decide +kernel), (fun _ => ⟨rfl, by decide +kernel⟩)⟩
theorem fi_X7_131 : FI RX7 131 3 3 0 := ⟨RX3, TX3, 7, rfl, by decide +kernel, by decide +kernel, by decide +kernel, tbm 97 (by decide +kernel) (by decide +kernel), (fun _ => ⟨rfl, by decide +kernel⟩)⟩
theorem fi_X6_60 : FI RX6 60 3 4 0 := ⟨RX3, TX3, 7, rfl, by decide +kernel, by decide +kernel, by decide +kernel, tbm 98 (by decide +kernel) (by decide +kernel), (fun _ => ⟨rfl, by decide +kernel⟩)⟩
theorem fi_X7_74 : FI RX7 74 3 4 0 := ⟨RX3, TX3, 7, rfl, by decide +kernel, by decide +kernel, by decide +kernel, tbm 99 (by decide +kernel) (by decide +kernel), (fun _ => ⟨rfl, by decide +kernel⟩)⟩
theorem fi_X4_66 : FI RX4 66 3 4 0 := ⟨RX3, TX3, 7, rfl, by decide +kernel, by decide +kernel, by decide +kernel, tbm 100 (by decide +kernel) (by decide +kernel), (fun _ => ⟨rfl, by decide +kernel⟩)⟩
theorem fi_X7_81 : FI RX7 81 3 5 0 := ⟨RX3, TX3, 7, rfl, by decide +kernel, by decide +kernel, by decide +kernel, tbm 101 (by decide +kernel) (by decide +kernel), (fun _ => ⟨rfl, by decide +kernel⟩)⟩
theorem fi_X4_92 : FI RX4 92 3 5 0 := ⟨RX3, TX3, 7, rfl, by decide +kernel, by decide +kernel, by decide +kernel, tbm 102 (by decide +kernel) (by decide +kernel), (fun _ => ⟨rfl, by decide +kernel⟩)⟩
theorem fi_X3_15 : FI RX3 15 3 6 3 := ⟨RX3, TX3, 7, rfl, by decide +kernel, by decide +kernel, by decide +kernel, tbm 103 (by decide +kernel) (by decide +kernel), (fun _ => ⟨rfl, by decide +kernel⟩)⟩
theorem fi_X7_84 : FI RX7 84 3 6 3 := ⟨RX3, TX3, 7, rfl, by decide +kernel, by decide +kernel, by decide +kernel, tbm 104 (by decide +kernel) (by decide +kernel), (fun _ => ⟨rfl, by decide +kernel⟩)⟩
theorem fi_X4_69 : FI RX4 69 3 6 3 := ⟨RX3, TX3, 7, rfl, by decide +kernel, by decide +kernel, by decide +kernel, tbm 105 (by decide +kernel) (by decide +kernel), (fun _ => ⟨rfl, by decide +kernel⟩)⟩
theorem fi_X2_26 : FI RX2 26 2 0 0 := ⟨RX2, TX2, 6, rfl, by decide +kernel, by decide +kernel, by decide +kernel, tbm 127 (by decide +kernel) (by decide +kernel), (fun _ => ⟨rfl, by decide +kernel⟩)⟩
theorem fi_X4_39 : FI RX4 39 2 0 0 := ⟨RX2, TX2, 6, rfl, by decide +kernel, by decide +kernel, by decide +kernel, tbm 128 (by decide +kernel) (by decide +kernel), (fun _ => ⟨rfl, by decide +kernel⟩)⟩
theorem fi_X2_19 : FI RX2 19 2 1 0 := ⟨RX2, TX2, 6, rfl, by decide +kernel, by decide +kernel, by decide +kernel, tbm 129 (by decide +kernel) (by decide +kernel), (fun _ => ⟨rfl, by decide +kernel⟩)⟩
theorem fi_X4_42 : FI RX4 42 2 1 0 := ⟨RX2, TX2, 6, rfl, by decide +kernel, by decide +kernel, by decide +kernel, tbm 130 (by decide +kernel) (by decide +kernel), (fun _ => ⟨rfl, by decide +kernel⟩)⟩
theorem fi_X2_23 : FI RX2 23 2 2 0 := ⟨RX2, TX2, 6, rfl, by decide +kernel, by decide +kernel, by decide +kernel, tbm 131 (by decide +kernel) (by decide +kernel), (fun _ => ⟨rfl, by decide +kernel⟩)⟩
theorem fi_X4_45 : FI RX4 45 2 2 0 := ⟨RX2, TX2, 6, rfl, by decide +kernel, by decide +kernel, by decide +kernel, tbm 132 (by decide +kernel) (by decide +kernel), (fun _ => ⟨rfl, by decide +kernel⟩)⟩
theorem fi_X4_48 : FI RX4 48 2 3 0 := ⟨RX2, TX2, 6, rfl, by decide +kernel, by decide +kernel, by decide +kernel, tbm 133 (by decide +kernel) (by decide +kernel), (fun _ => ⟨rfl, by decide +kernel⟩)⟩
theorem fi_X4_49 : FI RX4 49 2 4 0 := ⟨RX2, TX2, 6, rfl, by decide +kernel, by decide +kernel, by decide +kernel, tbm 134 (by decide +kernel) (by decide +kernel), (fun _ => ⟨rfl, by decide +kernel⟩)⟩
theorem fi_X2_29 : FI RX2 29 2 4 0 := ⟨RX2, TX2, 6, rfl, by decide +kernel, by decide +kernel, by decide +kernel, tbm 135 (by decide +kernel) (by decide +kernel), (fun _ => ⟨rfl, by decide +kernel⟩)⟩
theorem fi_X2_9 : FI RX2 9 2 5 3 := ⟨RX2, TX2, 6, rfl, by decide +kernel, by decide +kernel, by decide +kernel, tbm 136 (by decide +kernel) (by decide +kernel), (fun _ => ⟨rfl, by decide +kernel⟩)⟩
theorem fi_X7_92 : FI RX7 92 2 5 3 := ⟨RX2, TX2, 6, rfl, by decide +kernel, by decide +kernel, by decide +kernel, tbm 137 (by decide +kernel) (by decide +kernel), (fun _ => ⟨rfl, by decide +kernel⟩)⟩
theorem fi_X4_73 : FI RX4 73 2 5 3 := ⟨RX2, TX2, 6, rfl, by decide +kernel, by decide +kernel, by decide +kernel, tbm 138 (by decide +kernel) (by decide +kernel), (fun _ => ⟨rfl, by decide +kernel⟩)⟩
theorem fi_X4_11 : FI RX4 11 4 0 2 := ⟨RX4, TX4, 5, rfl, by decide +kernel, by decide +kernel, by decide +kernel, tbm 152 (by decide +kernel) (by decide +kernel), (fun h => absurd rfl h)⟩
theorem fi_X4_19 : FI RX4 19 4 1 2 := ⟨RX4, TX4, 5, rfl, by decide +kernel, by decide +kernel, by decide +kernel, tbm 153 (by decide +kernel) (by decide +kernel), (fun h => absurd rfl h)⟩
theorem fi_X4_23 : FI RX4 23 4 2 2 := ⟨RX4, TX4, 5, rfl, by decide +kernel, by decide +kernel, by decide +kernel, tbm 154 (by decide +kernel) (by decide +kernel), (fun h => absurd rfl h)⟩
theorem fi_X4_29 : FI RX4 29 4 3 0 := ⟨RX4, TX4, 5, rfl, by decide +kernel, by decide +kernel, by decide +kernel, tbm 155 (by decide +kernel) (by decide +kernel), (fun _ => ⟨rfl, by decide +kernel⟩)⟩
theorem fi_X5_18 : FI RX5 18 4 3 0 := ⟨RX4, TX4, 5, rfl, by decide +kernel, by decide +kernel, by decide +kernel, tbm 156 (by decide +kernel) (by decide +kernel), (fun _ => ⟨rfl, by decide +kernel⟩)⟩
theorem fi_X7_101 : FI RX7 101 4 3 0 := ⟨RX4, TX4, 5, rfl, by decide +kernel, by decide +kernel, by decide +kernel, tbm 157 (by decide +kernel) (by decide +kernel), (fun _ => ⟨rfl, by decide +kernel⟩)⟩
theorem fi_X6_52 : FI RX6 52 4 4 0 := ⟨RX4, TX4, 5, rfl, by decide +kernel, by decide +kernel, by decide +kernel, tbm 158 (by decide +kernel) (by decide +kernel), (fun _ => ⟨rfl, by decide +kernel⟩)⟩
theorem fi_X0_24 : FI RX0 24 4 4 0 := ⟨RX4, TX4, 5, rfl, by decide +kernel, by decide +kernel, by decide +kernel, tbm 159 (by decide +kernel) (by decide +kernel), (fun _ => ⟨rfl, by decide +kernel⟩)⟩
theorem fi_X4_36 : FI RX4 36 4 4 0 := ⟨RX4, TX4, 5, rfl, by decide +kernel, by decide +kernel, by decide +kernel, tbm 160 (by decide +kernel) (by decide +kernel), (fun _ => ⟨rfl, by decide +kernel⟩)⟩
theorem fi_X7_104 : FI RX7 104 4 4 0 := ⟨RX4, TX4, 5, rfl, by decide +kernel, by decide +kernel, by decide +kernel, tbm 161 (by decide +kernel) (by decide +kernel), (fun _ => ⟨rfl, by decide +kernel⟩)⟩
theorem fi_X0_9 : FI RX0 9 0 0 2 := ⟨RX0, TX0, 2, rfl, by decide +kernel, by decide +kernel, by decide +kernel, tbm 185 (by decide +kernel) (by decide +kernel), (fun h => absurd rfl h)⟩
theorem fi_X0_15 : FI RX0 15 0 1 2 := ⟨RX0, TX0, 2, rfl, by decide +kernel, by decide +kernel, by decide +kernel, tbm 186 (by decide +kernel) (by decide +kernel), (fun h => absurd rfl h)⟩
theorem fi_X5_11 : FI RX5 11 5 0 2 := ⟨RX5, TX5, 2, rfl, by decide +kernel, by decide +kernel, by decide +kernel, tbm 198 (by decide +kernel) (by decide +kernel), (fun h => absurd rfl h)⟩
theorem fi_X5_15 : FI RX5 15 5 1 2 := ⟨RX5, TX5, 2, rfl, by decide +kernel, by decide +kernel, by decide +kernel, tbm 199 (by decide +kernel) (by decide +kernel), (fun h => absurd rfl h)⟩
theorem fi_X6_12 : FI RX6 12 6 0 2 := ⟨RX6, TX6, 12, rfl, by decide +kernel, by decide +kernel, by decide +kernel, tbm 206 (by decide +kernel) (by decide +kernel), (fun h => absurd rfl h)⟩
theorem fi_X6_21 : FI RX6 21 6 1 2 := ⟨RX6, TX6, 12, rfl, by decide +kernel, by decide +kernel, by decide +kernel, tbm 207 (by decide +kernel) (by decide +kernel), (fun h => absurd rfl h)⟩
theorem fi_X6_25 : FI RX6 25 6 2 2 := ⟨RX6, TX6, 12, rfl, by decide +kernel, by decide +kernel, by decide +kernel, tbm 208 (by decide +kernel) (by decide +kernel), (fun h => absurd rfl h)⟩
theorem fi_X6_29 : FI RX6 29 6 3 2 := ⟨RX6, TX6, 12, rfl, by decide +kernel, by decide +kernel, by decide +kernel, tbm 209 (by decide +kernel) (by decide +kernel), (fun h => absurd rfl h)⟩
theorem fi_X6_32 : FI RX6 32 6 4 2 := ⟨RX6, TX6, 12, rfl, by decide +kernel, by decide +kernel, by decide +kernel, tbm 210 (by decide +kernel) (by decide +kernel), (fun h => absurd rfl h)⟩
theorem fi_X6_35 : FI RX6 35 6 5 2 := ⟨RX6, TX6, 12, rfl, by decide +kernel, by decide +kernel, by decide +kernel, tbm 211 (by decide +kernel) (by decide +kernel), (fun h => absurd rfl h)⟩
theorem fi_X6_49 : FI RX6 49 6 6 0 := ⟨RX6, TX6, 12, rfl, by decide +kernel, by decide +kernel, by decide +kernel, tbm 212 (by decide +kernel) (by decide +kernel), (fun _ => ⟨rfl, by decide +kernel⟩)⟩
theorem fi_X6_55 : FI RX6 55 6 7 0 := ⟨RX6, TX6, 12, rfl, by decide +kernel, by decide +kernel, by decide +kernel, tbm 213 (by decide +kernel) (by decide +kernel), (fun _ => ⟨rfl, by decide +kernel⟩)⟩
theorem fi_X6_98 : FI RX6 98 6 8 1 := ⟨RX6, TX6, 12, rfl, by decide +kernel, by decide +kernel, by decide +kernel, tbm 214 (by decide +kernel) (by decide +kernel), (fun _ => ⟨rfl, by decide +kernel⟩)⟩
theorem fi_X6_102 : FI RX6 102 6 9 1 := ⟨RX6, TX6, 12, rfl, by decide +kernel, by decide +kernel, by decide +kernel, tbm 215 (by decide +kernel) (by decide +kernel), (fun _ => ⟨rfl, by decide +kernel⟩)⟩
theorem fi_X6_105 : FI RX6 105 6 10 3 := ⟨RX6, TX6, 12, rfl, by decide +kernel, by decide +kernel, by decide +kernel, tbm 216 (by decide +kernel) (by decide +kernel), (fun _ => ⟨rfl, by decide +kernel⟩)⟩
theorem fi_X6_78 : FI RX6 78 6 11 0 := ⟨RX6, TX6, 12, rfl, by decide +kernel, by decide +kernel, by decide +kernel, tbm 217 (by decide +kernel) (by decide +kernel), (fun _ => ⟨rfl, by decide +kernel⟩)⟩
theorem fi_X1_9 : FI RX1 9 1 0 2 := ⟨RX1, TX1, 3, rfl, by decide +kernel, by decide +kernel, by decide +kernel, tbm 249 (by decide +kernel) (by decide +kernel), (fun h => absurd rfl h)⟩
theorem fi_X1_15 : FI RX1 15 1 1 2 := ⟨RX1, TX1, 3, rfl, by decide +kernel, by decide +kernel, by decide +kernel, tbm 250 (by decide +kernel) (by decide +kernel), (fun h => absurd rfl h)⟩
theorem fi_X1_18 : FI RX1 18 1 2 0 := ⟨RX1, TX1, 3, rfl, by decide +kernel, by decide +kernel, by decide +kernel, tbm 251 (by decide +kernel) (by decide +kernel), (fun _ => ⟨rfl, by decide +kernel⟩)⟩
theorem fi_X7_116 : FI RX7 116 1 2 0 := ⟨RX1, TX1, 3, rfl, by decide +kernel, by decide +kernel, by decide +kernel, tbm 252 (by decide +kernel) (by decide +kernel), (fun _ => ⟨rfl, by decide +kernel⟩)⟩
theorem fi_X7_10 : FI RX7 10 7 0 2 := ⟨RX7, TX7, 8, rfl, by decide +kernel, by decide +kernel, by decide +kernel, tbm 260 (by decide +kernel) (by decide +kernel), (fun h => absurd rfl h)⟩
theorem fi_X7_19 : FI RX7 19 7 1 2 := ⟨RX7, TX7, 8, rfl, by decide +kernel, by decide +kernel, by decide +kernel, tbm 261 (by decide +kernel) (by decide +kernel), (fun h => absurd rfl h)⟩
theorem fi_X7_26 : FI RX7 26 7 2 2 := ⟨RX7, TX7, 8, rfl, by decide +kernel, by decide +kernel, by decide +kernel, tbm 262 (by decide +kernel) (by decide +kernel), (fun h => absurd rfl h)⟩
theorem fi_X7_30 : FI RX7 30 7 3 2 := ⟨RX7, TX7, 8, rfl, by decide +kernel, by decide +kernel, by decide +kernel, tbm 263 (by decide +kernel) (by decide +kernel), (fun h => absurd rfl h)⟩
theorem fi_X7_34 : FI RX7 34 7 4 2 := ⟨RX7, TX7, 8, rfl, by decide +kernel, by decide +kernel, by decide +kernel, tbm 264 (by decide +kernel) (by decide +kernel), (fun h => absurd rfl h)⟩
theorem fi_X7_37 : FI RX7 37 7 5 2 := ⟨RX7, TX7, 8, rfl, by decide +kernel, by decide +kernel, by decide +kernel, tbm 265 (by decide +kernel) (by decide +kernel), (fun h => absurd rfl h)⟩
theorem fi_X7_40 : FI RX7 40 7 6 2 := ⟨RX7, TX7, 8, rfl, by decide +kernel, by decide +kernel, by decide +kernel, tbm 266 (by decide +kernel) (by decide +kernel), (fun h => absurd rfl h)⟩
theorem fi_X7_119 : FI RX7 119 7 7 0 := ⟨RX7, TX7, 8, rfl, by decide +kernel, by decide +kernel, by decide +kernel, tbm 267 (by decide +kernel) (by decide +kernel), (fun _ => ⟨rfl, by decide +kernel⟩)⟩
theorem fi_X8_80 : FI RX8 80 8 0 0 := ⟨RX8, TX8, 37, rfl, by decide +kernel, by decide +kernel, by decide +kernel, tbm 751 (by decide +kernel) (by decide +kernel), (fun _ => ⟨rfl, by decide +kernel⟩)⟩
theorem fi_X8_84 : FI RX8 84 8 1 0 := ⟨RX8, TX8, 37, rfl, by decide +kernel, by decide +kernel, by decide +kernel, tbm 752 (by decide +kernel) (by decide +kernel), (fun _ => ⟨rfl, by decide +kernel⟩)⟩
theorem fi_X8_9 : FI RX8 9 8 2 2 := ⟨RX8, TX8, 37, rfl, by decide +kernel, by decide +kernel, by decide +kernel, tbm 753 (by decide +kernel) (by decide +kernel), (fun h => absurd rfl h)⟩
theorem fi_X8_13 : FI RX8 13 8 3 2 := ⟨RX8, TX8, 37, rfl, by decide +kernel, by decide +kernel, by decide +kernel, tbm 754 (by decide +kernel) (by decide +kernel), (fun h => absurd rfl h)⟩
theorem fi_X8_17 : FI RX8 17 8 4 2 := ⟨RX8, TX8, 37, rfl, by decide +kernel, by decide +kernel, by decide +kernel, tbm 755 (by decide +kernel) (by decide +kernel), (fun h => absurd rfl h)⟩
theorem fi_X8_20 : FI RX8 20 8 5 2 := ⟨RX8, TX8, 37, rfl, by decide +kernel, by decide +kernel, by decide +kernel, tbm 756 (by decide +kernel) (by decide +kernel), (fun h => absurd rfl h)⟩
theorem fi_X8_23 : FI RX8 23 8 6 2 := ⟨RX8, TX8, 37, rfl, by decide +kernel, by decide +kernel, by decide +kernel, tbm 757 (by decide +kernel) (by decide +kernel), (fun h => absurd rfl h)⟩
theorem fi_X8_26 : FI RX8 26 8 7 2 := ⟨RX8, TX8, 37, rfl, by decide +kernel, by decide +kernel, by decide +kernel, tbm 758 (by decide +kernel) (by decide +kernel), (fun h => absurd rfl h)⟩
theorem fi_X8_29 : FI RX8 29 8 8 2 := ⟨RX8, TX8, 37, rfl, by decide +kernel, by decide +kernel, by decide +kernel, tbm 759 (by decide +kernel) (by decide +kernel), (fun h => absurd rfl h)⟩
theorem fi_X8_32 : FI RX8 32 8 9 2 := ⟨RX8, TX8, 37, rfl, by decide +kernel, by decide +kernel, by decide +kernel, tbm 760 (by decide +kernel) (by decide +kernel), (fun h => absurd rfl h)⟩
theorem fi_X8_35 : FI RX8 35 8 10 2 := ⟨RX8, TX8, 37, rfl, by decide +kernel, by decide +kernel, by decide +kernel, tbm 761 (by decide +kernel) (by decide +kernel), (fun h => absurd rfl h)⟩
theorem fi_X8_91 : FI RX8 91 8 11 0 := ⟨RX8, TX8, 37, rfl, by decide +kernel, by decide +kernel, by decide +kernel, tbm 762 (by decide +kernel) (by decide +kernel), (fun _ => ⟨rfl, by decide +kernel⟩)⟩
theorem fi_X8_38 : FI RX8 38 8 12 2 := ⟨RX8, TX8, 37, rfl, by decide +kernel, by decide +kernel, by decide +kernel, tbm 763 (by decide +kernel) (by decide +kernel), (fun h => absurd rfl h)⟩
theorem fi_X8_41 : FI RX8 41 8 13 2 := ⟨RX8, TX8, 37, rfl, by decide +kernel, by decide +kernel, by decide +kernel, tbm 764 (by decide +kernel) (by decide +kernel), (fun h => absurd rfl h)⟩
theorem fi_X8_44 : FI RX8 44 8 14 2 := ⟨RX8, TX8, 37, rfl, by decide +kernel, by decide +kernel, by decide +kernel, tbm 765 (by decide +kernel) (by decide +kernel), (fun h => absurd rfl h)⟩
theorem fi_X8_47 : FI RX8 47 8 15 2 := ⟨RX8, TX8, 37, rfl, by decide +kernel, by decide +kernel, by decide +kernel, tbm 766 (by decide +kernel) (by decide +kernel), (fun h => absurd rfl h)⟩
theorem fi_X8_50 : FI RX8 50 8 16 2 := ⟨RX8, TX8, 37, rfl, by decide +kernel, by decide +kernel, by decide +kernel, tbm 767 (by decide +kernel) (by decide +kernel), (fun h => absurd rfl h)⟩
theorem fi_X8_53 : FI RX8 53 8 17 2 := ⟨RX8, TX8, 37, rfl, by decide +kernel, by decide +kernel, by decide +kernel, tbm 768 (by decide +kernel) (by decide +kernel), (fun h => absurd rfl h)⟩
theorem fi_X8_161 : FI RX8 161 8 18 0 := ⟨RX8, TX8, 37, rfl, by decide +kernel, by decide +kernel, by decide +kernel, tbm 769 (by decide +kernel) (by decide +kernel), (fun _ => ⟨rfl, by decide +kernel⟩)⟩
theorem fi_X8_164 : FI RX8 164 8 19 0 := ⟨RX8, TX8, 37, rfl, by decide +kernel, by decide +kernel, by decide +kernel, tbm 770 (by decide +kernel) (by decide +kernel), (fun _ => ⟨rfl, by decide +kernel⟩)⟩
theorem fi_X8_167 : FI RX8 167 8 20 0 := ⟨RX8, TX8, 37, rfl, by decide +kernel, by decide +kernel, by decide +kernel, tbm 771 (by decide +kernel) (by decide +kernel), (fun _ => ⟨rfl, by decide +kernel⟩)⟩
theorem fi_X8_56 : FI RX8 56 8 21 2 := ⟨RX8, TX8, 37, rfl, by decide +kernel, by decide +kernel, by decide +kernel, tbm 772 (by decide +kernel) (by decide +kernel), (fun h => absurd rfl h)⟩
theorem fi_X8_59 : FI RX8 59 8 22 2 := ⟨RX8, TX8, 37, rfl, by decide +kernel, by decide +kernel, by decide +kernel, tbm 773 (by decide +kernel) (by decide +kernel), (fun h => absurd rfl h)⟩
theorem fi_X8_200 : FI RX8 200 8 23 0 := ⟨RX8, TX8, 37, rfl, by decide +kernel, by decide +kernel, by decide +kernel, tbm 774 (by decide +kernel) (by decide +kernel), (fun _ => ⟨rfl, by decide +kernel⟩)⟩
theorem fi_X8_181 : FI RX8 181 8 24 0 := ⟨RX8, TX8, 37, rfl, by decide +kernel, by decide +kernel, by decide +kernel, tbm 775 (by decide +kernel) (by decide +kernel), (fun _ => ⟨rfl, by decide +kernel⟩)⟩
theorem fi_X8_184 : FI RX8 184 8 25 0 := ⟨RX8, TX8, 37, rfl, by decide +kernel, by decide +kernel, by decide +kernel, tbm 776 (by decide +kernel) (by decide +kernel), (fun _ => ⟨rfl, by decide +kernel⟩)⟩
theorem fi_X8_187 : FI RX8 187 8 26 0 := ⟨RX8, TX8, 37, rfl, by decide +kernel, by decide +kernel, by decide +kernel, tbm 777 (by decide +kernel) (by decide +kernel), (fun _ => ⟨rfl, by decide +kernel⟩)⟩
theorem fi_X8_207 : FI RX8 207 8 27 0 := ⟨RX8, TX8, 37, rfl, by decide +kernel, by decide +kernel, by decide +kernel, tbm 778 (by decide +kernel) (by decide +kernel), (fun _ => ⟨rfl, by decide +kernel⟩)⟩
theorem fi_X8_194 : FI RX8 194 8 28 0 := ⟨RX8, TX8, 37, rfl, by decide +kernel, by decide +kernel, by decide +kernel, tbm 779 (by decide +kernel) (by decide +kernel), (fun _ => ⟨rfl, by decide +kernel⟩)⟩
theorem fi_X8_62 : FI RX8 62 8 29 2 := ⟨RX8, TX8, 37, rfl, by decide +kernel, by decide +kernel, by decide +kernel, tbm 780 (by decide +kernel) (by decide +kernel), (fun h => absurd rfl h)⟩
theorem fi_X8_65 : FI RX8 65 8 30 2 := ⟨RX8, TX8, 37, rfl, by decide +kernel, by decide +kernel, by decide +kernel, tbm 781 (by decide +kernel) (by decide +kernel), (fun h => absurd rfl h)⟩
theorem fi_X8_125 : FI RX8 125 8 31 0 := ⟨RX8, TX8, 37, rfl, by decide +kernel, by decide +kernel, by decide +kernel, tbm 782 (by decide +kernel) (by decide +kernel), (fun _ => ⟨rfl, by decide +kernel⟩)⟩
theorem fi_X8_68 : FI RX8 68 8 32 2 := ⟨RX8, TX8, 37, rfl, by decide +kernel, by decide +kernel, by decide +kernel, tbm 783 (by decide +kernel) (by decide +kernel), (fun h => absurd rfl h)⟩
theorem fi_X8_71 : FI RX8 71 8 33 2 := ⟨RX8, TX8, 37, rfl, by decide +kernel, by decide +kernel, by decide +kernel, tbm 784 (by decide +kernel) (by decide +kernel), (fun h => absurd rfl h)⟩
theorem fi_X8_74 : FI RX8 74 8 34 2 := ⟨RX8, TX8, 37, rfl, by decide +kernel, by decide +kernel, by decide +kernel, tbm 785 (by decide +kernel) (by decide +kernel), (fun h => absurd rfl h)⟩
theorem fi_X8_77 : FI RX8 77 8 35 2 := ⟨RX8, TX8, 37, rfl, by decide +kernel, by decide +kernel, by decide +kernel, tbm 786 (by decide +kernel) (by decide +kernel), (fun h => absurd rfl h)⟩
theorem fi_X8_128 : FI RX8 128 8 36 0 := ⟨RX8, TX8, 37, rfl, by decide +kernel, by decide +kernel, by decide +kernel, tbm 787 (by decide +kernel) (by decide +kernel), (fun _ => ⟨rfl, by decide +kernel⟩)⟩
theorem tb_places (ws : List Cond) (ps : List Nat) (hp : ws = ps.filterMap (fun i => lw_tbl[i]?)) (h : ws.all goodWord = true) : ∀ w ∈ ws, w ∈ TB := by
  intro w hw
  have h1 := List.all_eq_true.mp h w hw
  rw [hp] at hw
  obtain ⟨i, -, hi⟩ := List.mem_filterMap.mp hw
  exact tbm i hi h1
theorem ws_in_0 : ∀ w ∈ u_ws RX0 TX0 2, w ∈ TB := tb_places _ [187, 189] (by decide +kernel) (by decide +kernel)
theorem ws_in_1 : ∀ w ∈ u_ws RX1 TX1 3, w ∈ TB := tb_places _ [253, 255, 257] (by decide +kernel) (by decide +kernel)
theorem ws_in_2 : ∀ w ∈ u_ws RX2 TX2 6, w ∈ TB := tb_places _ [139, 141, 143, 145, 147, 149] (by decide +kernel) (by decide +kernel)
theorem ws_in_3 : ∀ w ∈ u_ws RX3 TX3 7, w ∈ TB := tb_places _ [106, 108, 110, 112, 114, 116, 118] (by decide +kernel) (by decide +kernel)
theorem ws_in_4 : ∀ w ∈ u_ws RX4 TX4 5, w ∈ TB := tb_places _ [162, 164, 166, 168, 170] (by decide +kernel) (by decide +kernel)
theorem ws_in_5 : ∀ w ∈ u_ws RX5 TX5 2, w ∈ TB := tb_places _ [200, 202] (by decide +kernel) (by decide +kernel)
theorem ws_in_6 : ∀ w ∈ u_ws RX6 TX6 12, w ∈ TB := tb_places _ [218, 220, 222, 224, 226, 228, 230, 232, 234, 236, 238, 240] (by decide +kernel) (by decide +kernel)
theorem ws_in_7 : ∀ w ∈ u_ws RX7 TX7 8, w ∈ TB := tb_places _ [268, 270, 272, 274, 276, 278, 280, 282] (by decide +kernel) (by decide +kernel)
theorem ws_in_8 : ∀ w ∈ u_ws RX8 TX8 37, w ∈ TB := tb_places _ [788, 790, 792, 794, 796, 798, 800, 802, 804, 806, 808, 810, 812, 814, 816, 818, 820, 822, 824, 826, 828, 830, 832, 834, 836, 838, 840, 842, 844, 846, 848, 850, 852, 854, 856, 858, 860] (by decide +kernel) (by decide +kernel)
theorem cl_facts : ∀ (ci : Nat) (C : String) (T : u_T) (N : Nat), vwCl[ci]? = some (C, T, N) → (∀ w ∈ u_ws C T N, w ∈ TB) ∧ (∀ a, a < N → ∀ b, b < N → a ≠ b → (T a).2.1 ≠ (T b).2.1) ∧ ∃ ty : Nat → FieldType, ∀ k, k < N → parseFieldDescriptor (T k).2.2.1 = some (ty k)
  | 0, _, _, _, h => by cases h; exact ⟨ws_in_0, nmX0, tyX0, tyX0_ok⟩
  | 1, _, _, _, h => by cases h; exact ⟨ws_in_1, nmX1, tyX1, tyX1_ok⟩
  | 2, _, _, _, h => by cases h; exact ⟨ws_in_2, nmX2, tyX2, tyX2_ok⟩
  | 3, _, _, _, h => by cases h; exact ⟨ws_in_3, nmX3, tyX3, tyX3_ok⟩
  | 4, _, _, _, h => by cases h; exact ⟨ws_in_4, nmX4, tyX4, tyX4_ok⟩
  | 5, _, _, _, h => by cases h; exact ⟨ws_in_5, nmX5, tyX5, tyX5_ok⟩
  | 6, _, _, _, h => by cases h; exact ⟨ws_in_6, nmX6, tyX6, tyX6_ok⟩
  | 7, _, _, _, h => by cases h; exact ⟨ws_in_7, nmX7, tyX7, tyX7_ok⟩
  | 8, _, _, _, h => by cases h; exact ⟨ws_in_8, nmX8, tyX8, tyX8_ok⟩
  | k + 9, _, _, _, h => by simp [vwCl] at h
theorem k_X4_76 : Cond.constant RX4 76 (1103515245) ∈ TB := tbm 362 (by decide +kernel) (by decide +kernel)
theorem k_J6_265 : Cond.constant RJ6 265 (1431655765) ∈ TB := tbm 377 (by decide +kernel) (by decide +kernel)
theorem k_J6_266 : Cond.constant RJ6 266 (858993459) ∈ TB := tbm 378 (by decide +kernel) (by decide +kernel)
theorem k_J6_267 : Cond.constant RJ6 267 (252645135) ∈ TB := tbm 379 (by decide +kernel) (by decide +kernel)
theorem k_X6_72 : Cond.constantLong RX6 72 (4611686018427387904) ∈ TB := tbm 484 (by decide +kernel) (by decide +kernel)
theorem k_X6_81 : Cond.constantLong RX6 81 (28) ∈ TB := tbm 489 (by decide +kernel) (by decide +kernel)
theorem k_X5_53 : Cond.constantLong RX5 53 (1099511627776) ∈ TB := tbm 607 (by decide +kernel) (by decide +kernel)
theorem k_X8_94 : Cond.constantLong RX8 94 (255) ∈ TB := tbm 872 (by decide +kernel) (by decide +kernel)
theorem k_X8_96 : Cond.constantLong RX8 96 (3) ∈ TB := tbm 880 (by decide +kernel) (by decide +kernel)
theorem k_X8_98 : Cond.constantLong RX8 98 (8) ∈ TB := tbm 881 (by decide +kernel) (by decide +kernel)
theorem k_X8_115 : Cond.constantLong RX8 115 (2) ∈ TB := tbm 906 (by decide +kernel) (by decide +kernel)
theorem k_X8_120 : Cond.constant RX8 120 (1103515245) ∈ TB := tbm 931 (by decide +kernel) (by decide +kernel)
theorem k_X8_131 : Cond.constantLong RX8 131 (6) ∈ TB := tbm 944 (by decide +kernel) (by decide +kernel)
theorem k_X8_223 : Cond.constant RX8 223 (268435456) ∈ TB := tbm 996 (by decide +kernel) (by decide +kernel)
theorem k_X8_230 : Cond.constantLong RX8 230 (9) ∈ TB := tbm 1048 (by decide +kernel) (by decide +kernel)
end
section
def Dc (M : MT) (pc : Nat) (i : Instr) (len nx : Nat) : Prop := decode M.2.1 pc = .ok (i, len) ∧ nx = pc + len
end
section
-- THE V LAYER: a state of the system as numbers; a judgement over it; a rule an instruction
abbrev MV : Type := (Int ⊕ Int) ⊕ Option Nat
abbrev mI (z : Int) : MV := .inl (.inl z)
abbrev mL (z : Int) : MV := .inl (.inr z)
abbrev mA (k : Nat) : MV := .inr (some k)
abbrev mN : MV := .inr none
abbrev Hp : Type := Nat → Nat → Int
def up (h : Hp) (k j : Nat) (v : Int) : Hp := fun a b => if a = k ∧ b = j then v else h a b
def conc (al : Nat → Nat) : MV → Value
  | .inl (.inl z) => .int (Int32.ofInt z)
  | .inl (.inr z) => .long (Int64.ofInt z)
  | .inr (some k) => .ref (al k)
  | .inr none => .null
def mcat : MV → Nat
  | .inl (.inr _) => 2
  | _ => 1
theorem conc_cat (al : Nat → Nat) (v : MV) : (conc al v).category = mcat v := by
  rcases v with (z | z) | (_ | k) <;> rfl
/-! the heap's shape: objects by their class, arrays by their kind (0 int, 1 boolean, 2 long, 3 Pupil, 4 Project) and length -/
def SHL : List (Nat ⊕ (Nat × Nat)) := [.inl 7, .inl 4, .inl 6, .inl 1, .inr (0, 8), .inr (0, 5), .inr (0, 5), .inr (0, 5), .inr (3, 8), .inr (4, 5), .inr (0, 8), .inl 0, .inl 5, .inr (0, 8), .inr (0, 5), .inr (0, 8), .inr (0, 8), .inr (0, 256), .inr (0, 256), .inr (2, 48), .inr (2, 48), .inr (0, 480), .inr (0, 480),
  .inl 3, .inl 3, .inl 3, .inl 3, .inl 3, .inl 3, .inl 3, .inl 3, .inr (0, 5), .inr (0, 5), .inr (0, 5), .inr (0, 5), .inr (0, 5), .inr (0, 5), .inr (0, 5), .inr (0, 5), .inl 2, .inl 2, .inl 2, .inl 2, .inl 2,
  .inl 8, .inr (0, 8), .inr (1, 8), .inr (0, 8), .inr (0, 40), .inr (0, 8), .inr (0, 8), .inr (1, 64), .inr (1, 64), .inr (0, 8), .inr (0, 5), .inr (0, 5), .inr (0, 5), .inr (0, 5), .inr (0, 5), .inr (1, 5), .inr (0, 8), .inr (0, 8), .inr (0, 5), .inr (0, 5), .inr (0, 480), .inr (0, 480), .inr (0, 60), .inr (0, 5), .inr (2, 1)]
def KN : Nat := 69
def SH (k : Nat) : Nat ⊕ (Nat × Nat) := SHL.getD k (.inl 0)
/-! the references: they never change -/
def RFL : List (List (Option Nat)) := [[some 1, some 2, some 3, some 4, some 5, some 6, some 7], [some 8, some 9, some 10], [some 11, some 12, some 13, some 14, some 15, some 16], [some 21, some 22], [], [], [], [], [some 23, some 24, some 25, some 26, some 27, some 28, some 29, some 30], [some 39, some 40, some 41, some 42, some 43], [], [some 17, some 18], [some 19, some 20], [], [], [], [], [], [], [], [], [], [],
  [some 31], [some 32], [some 33], [some 34], [some 35], [some 36], [some 37], [some 38], [], [], [], [], [], [], [], [], [], [], [], [], [],
  [none, none, some 45, some 46, some 47, some 48, some 49, some 50, some 51, some 52, some 53, none, some 54, some 55, some 56, some 57, some 58, some 59, none, none, none, some 60, some 61, none, none, none, none, none, none, some 62, some 63, none, some 64, some 65, some 66, some 67, none]]
def RF (k j : Nat) : Option Nat := (RFL.getD k []).getD j none
def fval (al : Nat → Nat) (h : Hp) (k ci j : Nat) : Value := match FK ci j with
  | 1 => .long (Int64.ofInt (h k j))
  | 2 => va_rf ((RF k j).map al)
  | _ => .int (Int32.ofInt (h k j))
def cellE (al : Nat → Nat) (tc : Nat → ClassId) (h : Hp) (k : Nat) : va_E := match SH k with
  | .inl ci => .inr (ci, (List.range (NF ci)).map (fval al h k ci))
  | .inr (t, n) => .inl (tc t, n, match t with
    | 0 => .inl (fun j => Int32.ofInt (h k j))
    | 1 => .inl (fun j => Int32.ofInt (h k j))
    | 2 => .inr (.inl (fun j => Int64.ofInt (h k j)))
    | _ => .inr (.inr (.inr (.inr (fun j => (RF k j).map al)))))
def TY (tc : Nat → ClassId) : List (ClassId × FieldType) := [(tc 0, .int), (tc 1, .boolean), (tc 2, .long), (tc 3, .object "WishSharer$Pupil"), (tc 4, .object "WishSharer$Project")]
def WS (al : Nat → Nat) (tc : Nat → ClassId) (h : Hp) : va_W := (List.range KN).map (fun k => (al k, cellE al tc h k))
theorem WS_get {al : Nat → Nat} {tc : Nat → ClassId} {h : Hp} {k : Nat} (hk : k < KN) : (WS al tc h)[k]? = some (al k, cellE al tc h k) := by
  simp [WS, hk]
theorem cellE_ne {al : Nat → Nat} {tc : Nat → ClassId} {h h' : Hp} {k : Nat} (e : ∀ j, h' k j = h k j) : cellE al tc h' k = cellE al tc h k := by
  have hf : h' k = h k := funext e
  have hv : ∀ ci, fval al h' k ci = fval al h k ci := fun ci => by funext j; simp only [fval, hf]
  simp only [cellE, hf, hv]
theorem WS_set {al : Nat → Nat} {tc : Nat → ClassId} {h : Hp} {k j : Nat} {v : Int} (x : va_E) (hx : x = cellE al tc (up h k j v) k) : (WS al tc h).set k (al k, x) = WS al tc (up h k j v) := by
  subst hx
  apply List.ext_getElem?
  intro i
  by_cases hi : i = k
  · subst hi
    by_cases hn : i < KN
    · rw [WS_get hn, List.getElem?_set_self (by simp [WS, hn])]
    · simp [WS, hn, List.getElem?_set]
  · rw [List.getElem?_set_ne (Ne.symm hi)]
    by_cases hn : i < KN
    · rw [WS_get hn, WS_get hn, cellE_ne (h' := up h k j v) (h := h) (fun b => by simp [up, hi])]
    · simp [WS, hn]
/-! locals -/
def LL (al : Nat → Nat) (ls : List (Option MV)) : List (Nat × Value) := (List.range ls.length).filterMap (fun i => (ls.getD i none).map (fun v => (i, conc al v)))
theorem LL_mem {al : Nat → Nat} {ls : List (Option MV)} {i : Nat} {w : Value} : (i, w) ∈ LL al ls ↔ ∃ v, ls[i]? = some (some v) ∧ w = conc al v := by
  simp only [LL, List.mem_filterMap, List.mem_range, Option.map_eq_some_iff, List.getD_eq_getElem?_getD]
  constructor
  · rintro ⟨a, h1, v, h2, h3⟩
    cases h3
    rw [List.getElem?_eq_getElem h1] at h2 ⊢
    exact ⟨v, by simpa using h2, rfl⟩
  · rintro ⟨v, h1, rfl⟩
    exact ⟨i, (List.getElem?_eq_some_iff.mp h1).1, v, by rw [h1]; rfl, rfl⟩
def LH (al : Nat → Nat) (ls : List (Option MV)) (la : Array Slot) (n : Nat) : Prop := la.size = n ∧ lv_wf la ∧ ∀ (i : Nat) (v : MV), ls[i]? = some (some v) → la[i]? = some (.val (conc al v))
theorem LH.has {al : Nat → Nat} {ls : List (Option MV)} {la : Array Slot} {n : Nat} (h : LH al ls la n) : lv_has la n (LL al ls) :=
  ⟨h.1, h.2.1, fun q hq => by
    obtain ⟨i, w⟩ := q
    obtain ⟨v, h1, rfl⟩ := LL_mem.mp hq
    exact h.2.2 i v h1⟩
def nlg (ls : List (Option MV)) : Nat → Bool
  | 0 => true
  | j + 1 => match ls[j]? with
    | some (some (.inl (.inr _))) => false
    | _ => true
theorem nlg_cat {al : Nat → Nat} {ls : List (Option MV)} {i j : Nat} {v : MV} (h : nlg ls i = true) (e : j + 1 = i) (hv : ls[j]? = some (some v)) : ¬ (conc al v).category = 2 := by
  subst e
  simp only [nlg, hv] at h
  rcases v with (z | z) | (_ | k)
  · exact fun q => by cases q
  · exact absurd h (by simp)
  · exact fun q => by cases q
  · exact fun q => by cases q
theorem LH.store {al : Nat → Nat} {ls : List (Option MV)} {la : Array Slot} {n i : Nat} {v : MV} (hn : nlg ls i = true)
    (h : lv_has la n ((i, conc al v) :: (LL al ls).filter (fun q => !(q.1 == i) && !(q.1 + 1 == i && q.2.category == 2)))) : LH al (ls.set i (some v)) la n := by
  refine ⟨h.1, h.2.1, fun j w hj => ?_⟩
  by_cases e : j = i
  · subst e
    have hl : j < ls.length := by
      have := (List.getElem?_eq_some_iff.mp hj).1
      simpa using this
    rw [List.getElem?_set_self hl] at hj
    cases hj
    exact h.2.2 (j, conc al v) List.mem_cons_self
  · rw [List.getElem?_set_ne (Ne.symm e)] at hj
    refine h.2.2 (j, conc al w) (List.mem_cons_of_mem _ (List.mem_filter.mpr ⟨LL_mem.mpr ⟨w, hj, rfl⟩, ?_⟩))
    by_cases e2 : j + 1 = i
    · have := nlg_cat (al := al) hn e2 hj
      simp [e, this]
    · simp [e, e2]
theorem LH.store2 {al : Nat → Nat} {ls : List (Option MV)} {la : Array Slot} {n i : Nat} {v : MV} (hn : nlg ls i = true)
    (h : lv_has la n ((i, conc al v) :: (LL al ls).filter (fun q => !(q.1 == i) && (!(q.1 == i + 1) && !(q.1 + 1 == i && q.2.category == 2))))) : LH al ((ls.set i (some v)).set (i + 1) none) la n := by
  refine ⟨h.1, h.2.1, fun j w hj => ?_⟩
  by_cases e1 : j = i + 1
  · subst e1
    rw [List.getElem?_set] at hj
    split at hj
    · split at hj <;> simp at hj
    · simp at *
  rw [List.getElem?_set_ne (Ne.symm e1)] at hj
  by_cases e : j = i
  · subst e
    have hl : j < ls.length := by
      have := (List.getElem?_eq_some_iff.mp hj).1
      simpa using this
    rw [List.getElem?_set_self hl] at hj
    cases hj
    exact h.2.2 (j, conc al v) List.mem_cons_self
  · rw [List.getElem?_set_ne (Ne.symm e)] at hj
    refine h.2.2 (j, conc al w) (List.mem_cons_of_mem _ (List.mem_filter.mpr ⟨LL_mem.mpr ⟨w, hj, rfl⟩, ?_⟩))
    by_cases e2 : j + 1 = i
    · have := nlg_cat (al := al) hn e2 hj
      simp [e, e1, this]
    · simp [e, e1, e2]
/-! the judgement -/
abbrev CT : Type := Program × Launch × Env × Room × State × MethodId × Array Value × List Frame × Method × Code × (Nat → Nat) × (Nat → ClassId) × va_G × (Nat → Prop) × (State → Prop) × Nat × Nat
def NEST (U : State) : Prop := va_Nw (.methodLinkNest RX4 77 yX7_exchangePlaces RX7) U
def VW (X : CT) (pc : Nat) (ls : List (Option MV)) (st : List MV) (h : Hp) : Prop := match X with
  | (p, l, e, R, s, m, args, below, meth, c, al, tc, D, A, Z, rc, rs) =>
    ∀ (H : Heap) (locs : List Loc) (la : Array Slot) (cells slots : Nat), va_P D vwCl (WS al tc h) H → va_D A (WS al tc h) → va_S A s.heap H locs → LH al ls la c.maxLocals → cells + rc ≤ R.cells → slots + rs ≤ R.slots →
      W p l e R s m args below meth c H locs cells slots Z (F0 m pc la (st.map (conc al)))
def Cx (d : Nat) (M : MT) (X : CT) : Prop := match X with
  | (p, _, _, R, s, m, args, _, meth, c, _, tc, D, A, _, _, _) =>
    p.tables.exec = Jvm.exec ∧ c.code = M.2.1 ∧ c.maxLocals = M.2.2.1 ∧ meth.sig.returnType = M.2.2.2.1 ∧ s.vm.findClass M.1.cls = some m.cls ∧ (∀ w ∈ TB, w.before args s = true) ∧ meth.locks = false ∧ va_K D vwCl (TY tc) s ∧ (∀ q, s.heap.size ≤ q → A q) ∧ d ≤ R.frames ∧ 64 * d + 20 ≤ R.locals ∧ NEST s
def QV (al : Nat → Nat) (tc : Nat → ClassId) (D : va_G) (A : Nat → Prop) (Q : Option MV → Hp → Prop) : Array Value → State → Outcome → State → Prop := fun _ st oc t =>
  (∃ (r : Option MV) (h : Hp), oc = .returned (r.map (conc al)) ∧ Q r h ∧ va_P D vwCl (WS al tc h) t.heap ∧ va_K D vwCl (TY tc) t ∧ va_D A (WS al tc h)) ∧ va_F A st t
def Rt (Q : Option MV → Hp → Prop) (X : CT) : Prop := match X with
  | (_, _, _, R, s, _, args, below, _, _, al, tc, D, A, Z, _, _) => Z = MQ below (QV al tc D A Q) args s R.cells R.slots A
def entL : List MV → Nat → List (Option MV)
  | [], n => List.replicate n none
  | .inl (.inr z) :: as, n + 2 => some (mL z) :: none :: entL as n
  | .inl (.inl z) :: as, n + 1 => some (mI z) :: entL as n
  | .inr r :: as, n + 1 => some (.inr r) :: entL as n
  | _, _ => []
/-- a method from its entry: it returns, with Q of its answer and of the numbers behind it -/
def Ct (d : Nat) (M : MT) (as : List MV) (h : Hp) (Q : Option MV → Hp → Prop) : Prop := ∀ X, Cx d M X → Rt Q X → VW X 0 (entL as M.2.2.1) [] h
theorem Ct.mono {d : Nat} {M : MT} {as : List MV} {h : Hp} {Q Q' : Option MV → Hp → Prop} (hc : Ct d M as h Q) (hq : ∀ r g, Q r g → Q' r g) : ∀ X, Cx d M X → Rt Q X → VW X 0 (entL as M.2.2.1) [] h := fun X a b => hc X a b
/-! numbers -/
abbrev rng (z : Int) : Prop := -2147483648 ≤ z ∧ z < 2147483648
abbrev lrng (z : Int) : Prop := -9223372036854775808 ≤ z ∧ z < 9223372036854775808
theorem oi_toInt {z : Int} (h : rng z) : (Int32.ofInt z).toInt = z := by
  rw [Int32.toInt_ofInt]
  show z.bmod 4294967296 = z
  exact Int.bmod_eq_of_le (by omega) (by omega)
theorem ol_toInt {z : Int} (h : lrng z) : (Int64.ofInt z).toInt = z := by
  rw [Int64.toInt_ofInt]
  show z.bmod 18446744073709551616 = z
  exact Int.bmod_eq_of_le (by omega) (by omega)
theorem oi_of (x : Int32) : Int32.ofInt x.toInt = x := Int32.ofInt_toInt x
theorem oi_lt {a b : Int} (ha : rng a) (hb : rng b) : Int32.ofInt a < Int32.ofInt b ↔ a < b := by
  rw [Int32.lt_iff_toInt_lt, oi_toInt ha, oi_toInt hb]
theorem oi_le {a b : Int} (ha : rng a) (hb : rng b) : Int32.ofInt a ≤ Int32.ofInt b ↔ a ≤ b := by
  rw [Int32.le_iff_toInt_le, oi_toInt ha, oi_toInt hb]
theorem oi_eq {a b : Int} (ha : rng a) (hb : rng b) : Int32.ofInt a = Int32.ofInt b ↔ a = b := by
  rw [← Int32.toInt_inj, oi_toInt ha, oi_toInt hb]
theorem ol_lt {a b : Int} (ha : lrng a) (hb : lrng b) : Int64.ofInt a < Int64.ofInt b ↔ a < b := by
  rw [Int64.lt_iff_toInt_lt, ol_toInt ha, ol_toInt hb]
theorem ol_eq {a b : Int} (ha : lrng a) (hb : lrng b) : Int64.ofInt a = Int64.ofInt b ↔ a = b := by
  rw [← Int64.toInt_inj, ol_toInt ha, ol_toInt hb]
theorem oi_clamp {z : Int} (h0 : 0 ≤ z) (h : z < 2147483648) : (Int32.ofInt z).toNatClampNeg = z.toNat := by
  show (Int32.ofInt z).toInt.toNat = z.toNat
  rw [oi_toInt ⟨by omega, h⟩]
theorem oi_in {z : Int} {n : Nat} (h0 : 0 ≤ z) (h : z < n) (hn : n < 2147483648) : vp_in (Int32.ofInt z) n := by
  rw [vp_in_iff, oi_toInt ⟨by omega, by omega⟩]
  exact ⟨h0, h⟩
def band (a b : Int) : Int := (Int32.ofInt a &&& Int32.ofInt b).toInt
def bor (a b : Int) : Int := (Int32.ofInt a ||| Int32.ofInt b).toInt
def bxor (a b : Int) : Int := (Int32.ofInt a ^^^ Int32.ofInt b).toInt
def bshl (a b : Int) : Int := (Int32.ofInt a <<< (Int32.ofInt b &&& 31)).toInt
def bshr (a b : Int) : Int := (Int32.ofInt a >>> (Int32.ofInt b &&& 31)).toInt
def bushr (a b : Int) : Int := (((Int32.ofInt a).toUInt32 >>> ((Int32.ofInt b).toUInt32 &&& Int32.toUInt32 31)).toInt32).toInt
def irem (a b : Int) : Int := (Int32.ofInt a - Int32.ofInt a / Int32.ofInt b * Int32.ofInt b).toInt
def i2b (a : Int) : Int := ((Int32.ofInt a).toInt8.toInt32).toInt
def lshl (a b : Int) : Int := (Int64.ofInt a <<< ((Int32.ofInt b).toInt64 &&& 63)).toInt
def lshr (a b : Int) : Int := (Int64.ofInt a >>> ((Int32.ofInt b).toInt64 &&& 63)).toInt
def lcm (a b : Int) : Int := if b < a then 1 else if a = b then 0 else -1
end
section
section VRULES
variable {d : Nat} {M : MT} {X : CT} {pc nx : Nat} {ls : List (Option MV)} {st : List MV} {h : Hp}
theorem vw_top {p : Program} {l : Launch} {e : Env} {R : Room} {s : State} {m : MethodId} {args : Array Value} {below : List Frame} {meth : Method} {c : Code} {H : Heap} {locs : List Loc} {cells slots : Nat} {Z : State → Prop} {la : Array Slot} {al : Nat → Nat} {v : MV} {w : Value} (e1 : conc al v = w) (k : W p l e R s m args below meth c H locs cells slots Z (F0 m pc la (List.map (conc al) (v :: st)))) : W p l e R s m args below meth c H locs cells slots Z (F0 m pc la (w :: List.map (conc al) st)) := e1 ▸ k
theorem v_iconst (hX : Cx d M X) {n : Int} (hd : Dc M pc (.iconst n) 1 nx) (k : VW X nx ls (mI n :: st) h) : VW X pc ls (st) h := by
  obtain ⟨p, l, e, R, s, m, args, below, meth, c, al, tc, D, A, Z, rc, rs⟩ := X
  obtain ⟨hx, hb, hml, hr, hown, hts, hlk, hK, hA, hfr, hlo, hne⟩ := hX
  obtain ⟨hdg, rfl⟩ := hd
  intro H locs la cells slots hP hD hS hl h1 h2
  exact lv_iconst hx hb hdg rfl (k H locs la cells slots hP hD hS hl h1 h2)
theorem v_bipush (hX : Cx d M X) {n : Int} (hd : Dc M pc (.bipush n) 2 nx) (hv : (Int8.ofInt n).toInt32 = Int32.ofInt n) (k : VW X nx ls (mI n :: st) h) : VW X pc ls (st) h := by
  obtain ⟨p, l, e, R, s, m, args, below, meth, c, al, tc, D, A, Z, rc, rs⟩ := X
  obtain ⟨hx, hb, hml, hr, hown, hts, hlk, hK, hA, hfr, hlo, hne⟩ := hX
  obtain ⟨hdg, rfl⟩ := hd
  intro H locs la cells slots hP hD hS hl h1 h2
  exact lv_bipush hx hb hdg hv (k H locs la cells slots hP hD hS hl h1 h2)
theorem v_sipush (hX : Cx d M X) {n : Int} (hd : Dc M pc (.sipush n) 3 nx) (hv : (Int16.ofInt n).toInt32 = Int32.ofInt n) (k : VW X nx ls (mI n :: st) h) : VW X pc ls (st) h := by
  obtain ⟨p, l, e, R, s, m, args, below, meth, c, al, tc, D, A, Z, rc, rs⟩ := X
  obtain ⟨hx, hb, hml, hr, hown, hts, hlk, hK, hA, hfr, hlo, hne⟩ := hX
  obtain ⟨hdg, rfl⟩ := hd
  intro H locs la cells slots hP hD hS hl h1 h2
  exact lv_sipush hx hb hdg hv (k H locs la cells slots hP hD hS hl h1 h2)
theorem v_lconst (hX : Cx d M X) {n : Fin 2} {z : Int} (hd : Dc M pc (.lconst n) 1 nx) (hv : Int64.ofNat (n : Nat) = Int64.ofInt z) (k : VW X nx ls (mL z :: st) h) : VW X pc ls (st) h := by
  obtain ⟨p, l, e, R, s, m, args, below, meth, c, al, tc, D, A, Z, rc, rs⟩ := X
  obtain ⟨hx, hb, hml, hr, hown, hts, hlk, hK, hA, hfr, hlo, hne⟩ := hX
  obtain ⟨hdg, rfl⟩ := hd
  intro H locs la cells slots hP hD hS hl h1 h2
  exact lv_lconst hx hb hdg hv (k H locs la cells slots hP hD hS hl h1 h2)
theorem v_ldc (hX : Cx d M X) {ix : Nat} {z : Int} {w : Int32} (hd : Dc M pc (.ldc ix) 2 nx) (hc : Cond.constant M.1.cls ix w ∈ TB) (hv : Int32.ofInt z = w) (k : VW X nx ls (mI z :: st) h) : VW X pc ls (st) h := by
  obtain ⟨p, l, e, R, s, m, args, below, meth, c, al, tc, D, A, Z, rc, rs⟩ := X
  obtain ⟨hx, hb, hml, hr, hown, hts, hlk, hK, hA, hfr, hlo, hne⟩ := hX
  obtain ⟨hdg, rfl⟩ := hd
  intro H locs la cells slots hP hD hS hl h1 h2
  exact lv_ldc hx hb hown (hts _ hc) hdg (vw_top (v := mI z) (by rw [← hv]; rfl) (k H locs la cells slots hP hD hS hl h1 h2))
theorem v_ldc2 (hX : Cx d M X) {ix : Nat} {z : Int} {w : Int64} (hd : Dc M pc (.ldc2_w ix) 3 nx) (hc : Cond.constantLong M.1.cls ix w ∈ TB) (hv : Int64.ofInt z = w) (k : VW X nx ls (mL z :: st) h) : VW X pc ls (st) h := by
  obtain ⟨p, l, e, R, s, m, args, below, meth, c, al, tc, D, A, Z, rc, rs⟩ := X
  obtain ⟨hx, hb, hml, hr, hown, hts, hlk, hK, hA, hfr, hlo, hne⟩ := hX
  obtain ⟨hdg, rfl⟩ := hd
  intro H locs la cells slots hP hD hS hl h1 h2
  exact lv_ldc2 hx hb hown (hts _ hc) hdg (vw_top (v := mL z) (by rw [← hv]; rfl) (k H locs la cells slots hP hD hS hl h1 h2))
theorem v_null (hX : Cx d M X)  (hd : Dc M pc (.aconst_null) 1 nx) (k : VW X nx ls (mN :: st) h) : VW X pc ls (st) h := by
  obtain ⟨p, l, e, R, s, m, args, below, meth, c, al, tc, D, A, Z, rc, rs⟩ := X
  obtain ⟨hx, hb, hml, hr, hown, hts, hlk, hK, hA, hfr, hlo, hne⟩ := hX
  obtain ⟨hdg, rfl⟩ := hd
  intro H locs la cells slots hP hD hS hl h1 h2
  exact lv_null hx hb hdg (k H locs la cells slots hP hD hS hl h1 h2)
theorem v_iload_n (hX : Cx d M X) {i : Fin 4} {a : Int} (hd : Dc M pc (.iload_n i) 1 nx) (hv : ls[(i : Nat)]? = some (some (mI a))) (k : VW X nx ls (mI a :: st) h) : VW X pc ls (st) h := by
  obtain ⟨p, l, e, R, s, m, args, below, meth, c, al, tc, D, A, Z, rc, rs⟩ := X
  obtain ⟨hx, hb, hml, hr, hown, hts, hlk, hK, hA, hfr, hlo, hne⟩ := hX
  obtain ⟨hdg, rfl⟩ := hd
  intro H locs la cells slots hP hD hS hl h1 h2
  exact lv_iload_n hx hb hdg rfl (hl.2.2 _ _ hv) (k H locs la cells slots hP hD hS hl h1 h2)
theorem v_iload (hX : Cx d M X) {i : Nat} {a : Int} (hd : Dc M pc (.iload i) 2 nx) (hv : ls[i]? = some (some (mI a))) (k : VW X nx ls (mI a :: st) h) : VW X pc ls (st) h := by
  obtain ⟨p, l, e, R, s, m, args, below, meth, c, al, tc, D, A, Z, rc, rs⟩ := X
  obtain ⟨hx, hb, hml, hr, hown, hts, hlk, hK, hA, hfr, hlo, hne⟩ := hX
  obtain ⟨hdg, rfl⟩ := hd
  intro H locs la cells slots hP hD hS hl h1 h2
  exact lv_iload hx hb hdg (hl.2.2 _ _ hv) (k H locs la cells slots hP hD hS hl h1 h2)
theorem v_lload_n (hX : Cx d M X) {i : Fin 4} {a : Int} (hd : Dc M pc (.lload_n i) 1 nx) (hv : ls[(i : Nat)]? = some (some (mL a))) (k : VW X nx ls (mL a :: st) h) : VW X pc ls (st) h := by
  obtain ⟨p, l, e, R, s, m, args, below, meth, c, al, tc, D, A, Z, rc, rs⟩ := X
  obtain ⟨hx, hb, hml, hr, hown, hts, hlk, hK, hA, hfr, hlo, hne⟩ := hX
  obtain ⟨hdg, rfl⟩ := hd
  intro H locs la cells slots hP hD hS hl h1 h2
  exact lv_lload_n hx hb hdg rfl (hl.2.2 _ _ hv) (k H locs la cells slots hP hD hS hl h1 h2)
theorem v_lload (hX : Cx d M X) {i : Nat} {a : Int} (hd : Dc M pc (.lload i) 2 nx) (hv : ls[i]? = some (some (mL a))) (k : VW X nx ls (mL a :: st) h) : VW X pc ls (st) h := by
  obtain ⟨p, l, e, R, s, m, args, below, meth, c, al, tc, D, A, Z, rc, rs⟩ := X
  obtain ⟨hx, hb, hml, hr, hown, hts, hlk, hK, hA, hfr, hlo, hne⟩ := hX
  obtain ⟨hdg, rfl⟩ := hd
  intro H locs la cells slots hP hD hS hl h1 h2
  exact lv_lload hx hb hdg (hl.2.2 _ _ hv) (k H locs la cells slots hP hD hS hl h1 h2)
theorem v_aload_n (hX : Cx d M X) {i : Fin 4} {a : Nat} (hd : Dc M pc (.aload_n i) 1 nx) (hv : ls[(i : Nat)]? = some (some (mA a))) (k : VW X nx ls (mA a :: st) h) : VW X pc ls (st) h := by
  obtain ⟨p, l, e, R, s, m, args, below, meth, c, al, tc, D, A, Z, rc, rs⟩ := X
  obtain ⟨hx, hb, hml, hr, hown, hts, hlk, hK, hA, hfr, hlo, hne⟩ := hX
  obtain ⟨hdg, rfl⟩ := hd
  intro H locs la cells slots hP hD hS hl h1 h2
  exact lv_aload_n hx hb hdg rfl (hl.2.2 _ _ hv) (k H locs la cells slots hP hD hS hl h1 h2)
theorem v_aload (hX : Cx d M X) {i : Nat} {a : Nat} (hd : Dc M pc (.aload i) 2 nx) (hv : ls[i]? = some (some (mA a))) (k : VW X nx ls (mA a :: st) h) : VW X pc ls (st) h := by
  obtain ⟨p, l, e, R, s, m, args, below, meth, c, al, tc, D, A, Z, rc, rs⟩ := X
  obtain ⟨hx, hb, hml, hr, hown, hts, hlk, hK, hA, hfr, hlo, hne⟩ := hX
  obtain ⟨hdg, rfl⟩ := hd
  intro H locs la cells slots hP hD hS hl h1 h2
  exact lv_aload hx hb hdg (hl.2.2 _ _ hv) (k H locs la cells slots hP hD hS hl h1 h2)
theorem v_aload_nN (hX : Cx d M X) {i : Fin 4} (hd : Dc M pc (.aload_n i) 1 nx) (hv : ls[(i : Nat)]? = some (some mN)) (k : VW X nx ls (mN :: st) h) : VW X pc ls (st) h := by
  obtain ⟨p, l, e, R, s, m, args, below, meth, c, al, tc, D, A, Z, rc, rs⟩ := X
  obtain ⟨hx, hb, hml, hr, hown, hts, hlk, hK, hA, hfr, hlo, hne⟩ := hX
  obtain ⟨hdg, rfl⟩ := hd
  intro H locs la cells slots hP hD hS hl h1 h2
  exact lv_aload_nN hx hb hdg rfl (hl.2.2 _ _ hv) (k H locs la cells slots hP hD hS hl h1 h2)
theorem v_aloadN (hX : Cx d M X) {i : Nat} (hd : Dc M pc (.aload i) 2 nx) (hv : ls[i]? = some (some mN)) (k : VW X nx ls (mN :: st) h) : VW X pc ls (st) h := by
  obtain ⟨p, l, e, R, s, m, args, below, meth, c, al, tc, D, A, Z, rc, rs⟩ := X
  obtain ⟨hx, hb, hml, hr, hown, hts, hlk, hK, hA, hfr, hlo, hne⟩ := hX
  obtain ⟨hdg, rfl⟩ := hd
  intro H locs la cells slots hP hD hS hl h1 h2
  exact lv_aloadN hx hb hdg (hl.2.2 _ _ hv) (k H locs la cells slots hP hD hS hl h1 h2)
theorem v_istore_n (hX : Cx d M X) {i : Fin 4} {a : Int} (hd : Dc M pc (.istore_n i) 1 nx) (hn : (Nat.ble ((i : Nat) + 1) M.2.2.1) = true) (hg : nlg ls (i : Nat) = true) (k : VW X nx (ls.set (i : Nat) (some (mI a))) st h) : VW X pc ls (mI a :: st) h := by
  obtain ⟨p, l, e, R, s, m, args, below, meth, c, al, tc, D, A, Z, rc, rs⟩ := X
  obtain ⟨hx, hb, hml, hr, hown, hts, hlk, hK, hA, hfr, hlo, hne⟩ := hX
  obtain ⟨hdg, rfl⟩ := hd
  intro H locs la cells slots hP hD hS hl h1 h2
  exact lv_istore_n hx hb hdg rfl hl.has (by rw [hml]; exact Nat.le_of_ble_eq_true hn) rfl (fun la2 hl2 => k H locs la2 cells slots hP hD hS (LH.store hg hl2) h1 h2)
theorem v_istore (hX : Cx d M X) {i : Nat} {a : Int} (hd : Dc M pc (.istore i) 2 nx) (hn : (Nat.ble (i + 1) M.2.2.1) = true) (hg : nlg ls i = true) (k : VW X nx (ls.set i (some (mI a))) st h) : VW X pc ls (mI a :: st) h := by
  obtain ⟨p, l, e, R, s, m, args, below, meth, c, al, tc, D, A, Z, rc, rs⟩ := X
  obtain ⟨hx, hb, hml, hr, hown, hts, hlk, hK, hA, hfr, hlo, hne⟩ := hX
  obtain ⟨hdg, rfl⟩ := hd
  intro H locs la cells slots hP hD hS hl h1 h2
  exact lv_istore hx hb hdg hl.has (by rw [hml]; exact Nat.le_of_ble_eq_true hn) rfl (fun la2 hl2 => k H locs la2 cells slots hP hD hS (LH.store hg hl2) h1 h2)
theorem v_astore_n (hX : Cx d M X) {i : Fin 4} {a : Nat} (hd : Dc M pc (.astore_n i) 1 nx) (hn : (Nat.ble ((i : Nat) + 1) M.2.2.1) = true) (hg : nlg ls (i : Nat) = true) (k : VW X nx (ls.set (i : Nat) (some (mA a))) st h) : VW X pc ls (mA a :: st) h := by
  obtain ⟨p, l, e, R, s, m, args, below, meth, c, al, tc, D, A, Z, rc, rs⟩ := X
  obtain ⟨hx, hb, hml, hr, hown, hts, hlk, hK, hA, hfr, hlo, hne⟩ := hX
  obtain ⟨hdg, rfl⟩ := hd
  intro H locs la cells slots hP hD hS hl h1 h2
  exact lv_astore_n hx hb hdg rfl hl.has (by rw [hml]; exact Nat.le_of_ble_eq_true hn) rfl (fun la2 hl2 => k H locs la2 cells slots hP hD hS (LH.store hg hl2) h1 h2)
theorem v_astore (hX : Cx d M X) {i : Nat} {a : Nat} (hd : Dc M pc (.astore i) 2 nx) (hn : (Nat.ble (i + 1) M.2.2.1) = true) (hg : nlg ls i = true) (k : VW X nx (ls.set i (some (mA a))) st h) : VW X pc ls (mA a :: st) h := by
  obtain ⟨p, l, e, R, s, m, args, below, meth, c, al, tc, D, A, Z, rc, rs⟩ := X
  obtain ⟨hx, hb, hml, hr, hown, hts, hlk, hK, hA, hfr, hlo, hne⟩ := hX
  obtain ⟨hdg, rfl⟩ := hd
  intro H locs la cells slots hP hD hS hl h1 h2
  exact lv_astore hx hb hdg hl.has (by rw [hml]; exact Nat.le_of_ble_eq_true hn) rfl (fun la2 hl2 => k H locs la2 cells slots hP hD hS (LH.store hg hl2) h1 h2)
theorem v_astore_nN (hX : Cx d M X) {i : Fin 4}  (hd : Dc M pc (.astore_n i) 1 nx) (hn : (Nat.ble ((i : Nat) + 1) M.2.2.1) = true) (hg : nlg ls (i : Nat) = true) (k : VW X nx (ls.set (i : Nat) (some (mN))) st h) : VW X pc ls (mN :: st) h := by
  obtain ⟨p, l, e, R, s, m, args, below, meth, c, al, tc, D, A, Z, rc, rs⟩ := X
  obtain ⟨hx, hb, hml, hr, hown, hts, hlk, hK, hA, hfr, hlo, hne⟩ := hX
  obtain ⟨hdg, rfl⟩ := hd
  intro H locs la cells slots hP hD hS hl h1 h2
  exact lv_astore_nN hx hb hdg rfl hl.has (by rw [hml]; exact Nat.le_of_ble_eq_true hn) rfl (fun la2 hl2 => k H locs la2 cells slots hP hD hS (LH.store hg hl2) h1 h2)
theorem v_astoreN (hX : Cx d M X) {i : Nat}  (hd : Dc M pc (.astore i) 2 nx) (hn : (Nat.ble (i + 1) M.2.2.1) = true) (hg : nlg ls i = true) (k : VW X nx (ls.set i (some (mN))) st h) : VW X pc ls (mN :: st) h := by
  obtain ⟨p, l, e, R, s, m, args, below, meth, c, al, tc, D, A, Z, rc, rs⟩ := X
  obtain ⟨hx, hb, hml, hr, hown, hts, hlk, hK, hA, hfr, hlo, hne⟩ := hX
  obtain ⟨hdg, rfl⟩ := hd
  intro H locs la cells slots hP hD hS hl h1 h2
  exact lv_astoreN hx hb hdg hl.has (by rw [hml]; exact Nat.le_of_ble_eq_true hn) rfl (fun la2 hl2 => k H locs la2 cells slots hP hD hS (LH.store hg hl2) h1 h2)
theorem v_lstore_n (hX : Cx d M X) {i : Fin 4} {a : Int} (hd : Dc M pc (.lstore_n i) 1 nx) (hn : (Nat.ble ((i : Nat) + 1 + 1) M.2.2.1) = true) (hg : nlg ls (i : Nat) = true) (k : VW X nx ((ls.set (i : Nat) (some (mL a))).set ((i : Nat) + 1) none) st h) : VW X pc ls (mL a :: st) h := by
  obtain ⟨p, l, e, R, s, m, args, below, meth, c, al, tc, D, A, Z, rc, rs⟩ := X
  obtain ⟨hx, hb, hml, hr, hown, hts, hlk, hK, hA, hfr, hlo, hne⟩ := hX
  obtain ⟨hdg, rfl⟩ := hd
  intro H locs la cells slots hP hD hS hl h1 h2
  exact lv_lstore_n hx hb hdg rfl hl.has (by rw [hml]; exact Nat.le_of_ble_eq_true hn) rfl (fun la2 hl2 => k H locs la2 cells slots hP hD hS (LH.store2 hg hl2) h1 h2)
theorem v_lstore (hX : Cx d M X) {i : Nat} {a : Int} (hd : Dc M pc (.lstore i) 2 nx) (hn : (Nat.ble (i + 1 + 1) M.2.2.1) = true) (hg : nlg ls i = true) (k : VW X nx ((ls.set i (some (mL a))).set (i + 1) none) st h) : VW X pc ls (mL a :: st) h := by
  obtain ⟨p, l, e, R, s, m, args, below, meth, c, al, tc, D, A, Z, rc, rs⟩ := X
  obtain ⟨hx, hb, hml, hr, hown, hts, hlk, hK, hA, hfr, hlo, hne⟩ := hX
  obtain ⟨hdg, rfl⟩ := hd
  intro H locs la cells slots hP hD hS hl h1 h2
  exact lv_lstore hx hb hdg hl.has (by rw [hml]; exact Nat.le_of_ble_eq_true hn) rfl (fun la2 hl2 => k H locs la2 cells slots hP hD hS (LH.store2 hg hl2) h1 h2)
theorem v_iinc (hX : Cx d M X) {i : Nat} {n a : Int} (hd : Dc M pc (.iinc i n) 3 nx) (hv : ls[i]? = some (some (mI a))) (hn : (Nat.ble (i + 1) M.2.2.1) = true) (hg : nlg ls i = true) (k : VW X nx (ls.set i (some (mI (a + n)))) st h) : VW X pc ls st h := by
  obtain ⟨p, l, e, R, s, m, args, below, meth, c, al, tc, D, A, Z, rc, rs⟩ := X
  obtain ⟨hx, hb, hml, hr, hown, hts, hlk, hK, hA, hfr, hlo, hne⟩ := hX
  obtain ⟨hdg, rfl⟩ := hd
  intro H locs la cells slots hP hD hS hl h1 h2
  have hh : lv_has la c.maxLocals ((i, Value.int (Int32.ofInt a)) :: LL al ls) := ⟨hl.1, hl.2.1, fun q hq => (List.mem_cons.mp hq).elim (fun e => by subst e; exact hl.2.2 i _ hv) (fun h => hl.has.2.2 q h)⟩
  refine lv_iinc (k := 0) (v := Int32.ofInt (a + n)) hx hb hdg hh rfl (Int32.ofInt_add a n).symm (by rw [hml]; exact Nat.le_of_ble_eq_true hn) rfl (fun la2 hl2 => k H locs la2 cells slots hP hD hS (LH.store hg ?_) h1 h2)
  exact ⟨hl2.1, hl2.2.1, fun q hq => hl2.2.2 q (by
    rcases List.mem_cons.mp hq with e | e
    · rw [e]; exact List.mem_cons_self
    · refine List.mem_cons_of_mem _ ?_
      rw [List.filter_cons]
      simp only [beq_self_eq_true, Bool.not_true, Bool.false_and]
      exact e)⟩
theorem v_iadd (hX : Cx d M X) {a b : Int} (hd : Dc M pc (.iadd) 1 nx) (k : VW X nx ls (mI (a + b) :: st) h) : VW X pc ls (mI b :: mI a :: st) h := by
  obtain ⟨p, l, e, R, s, m, args, below, meth, c, al, tc, D, A, Z, rc, rs⟩ := X
  obtain ⟨hx, hb, hml, hr, hown, hts, hlk, hK, hA, hfr, hlo, hne⟩ := hX
  obtain ⟨hdg, rfl⟩ := hd
  intro H locs la cells slots hP hD hS hl h1 h2
  exact lv_iadd hx hb hdg (vw_top (v := mI (a + b)) (congrArg Value.int (Int32.ofInt_add a b)) (k H locs la cells slots hP hD hS hl h1 h2))
theorem v_isub (hX : Cx d M X) {a b : Int} (hd : Dc M pc (.isub) 1 nx) (k : VW X nx ls (mI (a - b) :: st) h) : VW X pc ls (mI b :: mI a :: st) h := by
  obtain ⟨p, l, e, R, s, m, args, below, meth, c, al, tc, D, A, Z, rc, rs⟩ := X
  obtain ⟨hx, hb, hml, hr, hown, hts, hlk, hK, hA, hfr, hlo, hne⟩ := hX
  obtain ⟨hdg, rfl⟩ := hd
  intro H locs la cells slots hP hD hS hl h1 h2
  exact lv_isub hx hb hdg (vw_top (v := mI (a - b)) (congrArg Value.int (Int32.ofInt_sub a b)) (k H locs la cells slots hP hD hS hl h1 h2))
theorem v_imul (hX : Cx d M X) {a b : Int} (hd : Dc M pc (.imul) 1 nx) (k : VW X nx ls (mI (a * b) :: st) h) : VW X pc ls (mI b :: mI a :: st) h := by
  obtain ⟨p, l, e, R, s, m, args, below, meth, c, al, tc, D, A, Z, rc, rs⟩ := X
  obtain ⟨hx, hb, hml, hr, hown, hts, hlk, hK, hA, hfr, hlo, hne⟩ := hX
  obtain ⟨hdg, rfl⟩ := hd
  intro H locs la cells slots hP hD hS hl h1 h2
  exact lv_imul hx hb hdg (vw_top (v := mI (a * b)) (congrArg Value.int (Int32.ofInt_mul a b)) (k H locs la cells slots hP hD hS hl h1 h2))
theorem v_ladd (hX : Cx d M X) {a b : Int} (hd : Dc M pc (.ladd) 1 nx) (k : VW X nx ls (mL (a + b) :: st) h) : VW X pc ls (mL b :: mL a :: st) h := by
  obtain ⟨p, l, e, R, s, m, args, below, meth, c, al, tc, D, A, Z, rc, rs⟩ := X
  obtain ⟨hx, hb, hml, hr, hown, hts, hlk, hK, hA, hfr, hlo, hne⟩ := hX
  obtain ⟨hdg, rfl⟩ := hd
  intro H locs la cells slots hP hD hS hl h1 h2
  exact lv_ladd hx hb hdg (vw_top (v := mL (a + b)) (congrArg Value.long (Int64.ofInt_add a b)) (k H locs la cells slots hP hD hS hl h1 h2))
theorem v_lsub (hX : Cx d M X) {a b : Int} (hd : Dc M pc (.lsub) 1 nx) (k : VW X nx ls (mL (a - b) :: st) h) : VW X pc ls (mL b :: mL a :: st) h := by
  obtain ⟨p, l, e, R, s, m, args, below, meth, c, al, tc, D, A, Z, rc, rs⟩ := X
  obtain ⟨hx, hb, hml, hr, hown, hts, hlk, hK, hA, hfr, hlo, hne⟩ := hX
  obtain ⟨hdg, rfl⟩ := hd
  intro H locs la cells slots hP hD hS hl h1 h2
  exact lv_lsub hx hb hdg (vw_top (v := mL (a - b)) (congrArg Value.long (Int64.ofInt_sub a b)) (k H locs la cells slots hP hD hS hl h1 h2))
theorem v_lmul (hX : Cx d M X) {a b : Int} (hd : Dc M pc (.lmul) 1 nx) (k : VW X nx ls (mL (a * b) :: st) h) : VW X pc ls (mL b :: mL a :: st) h := by
  obtain ⟨p, l, e, R, s, m, args, below, meth, c, al, tc, D, A, Z, rc, rs⟩ := X
  obtain ⟨hx, hb, hml, hr, hown, hts, hlk, hK, hA, hfr, hlo, hne⟩ := hX
  obtain ⟨hdg, rfl⟩ := hd
  intro H locs la cells slots hP hD hS hl h1 h2
  exact lv_lmul hx hb hdg (vw_top (v := mL (a * b)) (congrArg Value.long (Int64.ofInt_mul a b)) (k H locs la cells slots hP hD hS hl h1 h2))
theorem v_iand (hX : Cx d M X) {a b : Int} (hd : Dc M pc (.iand) 1 nx) (k : VW X nx ls (mI (band a b) :: st) h) : VW X pc ls (mI b :: mI a :: st) h := by
  obtain ⟨p, l, e, R, s, m, args, below, meth, c, al, tc, D, A, Z, rc, rs⟩ := X
  obtain ⟨hx, hb, hml, hr, hown, hts, hlk, hK, hA, hfr, hlo, hne⟩ := hX
  obtain ⟨hdg, rfl⟩ := hd
  intro H locs la cells slots hP hD hS hl h1 h2
  exact lv_iand hx hb hdg (vw_top (v := mI (band a b)) (congrArg Value.int (oi_of _)) (k H locs la cells slots hP hD hS hl h1 h2))
theorem v_ior (hX : Cx d M X) {a b : Int} (hd : Dc M pc (.ior) 1 nx) (k : VW X nx ls (mI (bor a b) :: st) h) : VW X pc ls (mI b :: mI a :: st) h := by
  obtain ⟨p, l, e, R, s, m, args, below, meth, c, al, tc, D, A, Z, rc, rs⟩ := X
  obtain ⟨hx, hb, hml, hr, hown, hts, hlk, hK, hA, hfr, hlo, hne⟩ := hX
  obtain ⟨hdg, rfl⟩ := hd
  intro H locs la cells slots hP hD hS hl h1 h2
  exact lv_ior hx hb hdg (vw_top (v := mI (bor a b)) (congrArg Value.int (oi_of _)) (k H locs la cells slots hP hD hS hl h1 h2))
theorem v_ixor (hX : Cx d M X) {a b : Int} (hd : Dc M pc (.ixor) 1 nx) (k : VW X nx ls (mI (bxor a b) :: st) h) : VW X pc ls (mI b :: mI a :: st) h := by
  obtain ⟨p, l, e, R, s, m, args, below, meth, c, al, tc, D, A, Z, rc, rs⟩ := X
  obtain ⟨hx, hb, hml, hr, hown, hts, hlk, hK, hA, hfr, hlo, hne⟩ := hX
  obtain ⟨hdg, rfl⟩ := hd
  intro H locs la cells slots hP hD hS hl h1 h2
  exact lv_ixor hx hb hdg (vw_top (v := mI (bxor a b)) (congrArg Value.int (oi_of _)) (k H locs la cells slots hP hD hS hl h1 h2))
theorem v_ishl (hX : Cx d M X) {a b : Int} (hd : Dc M pc (.ishl) 1 nx) (k : VW X nx ls (mI (bshl a b) :: st) h) : VW X pc ls (mI b :: mI a :: st) h := by
  obtain ⟨p, l, e, R, s, m, args, below, meth, c, al, tc, D, A, Z, rc, rs⟩ := X
  obtain ⟨hx, hb, hml, hr, hown, hts, hlk, hK, hA, hfr, hlo, hne⟩ := hX
  obtain ⟨hdg, rfl⟩ := hd
  intro H locs la cells slots hP hD hS hl h1 h2
  exact lv_ishl hx hb hdg (vw_top (v := mI (bshl a b)) (congrArg Value.int (oi_of _)) (k H locs la cells slots hP hD hS hl h1 h2))
theorem v_ishr (hX : Cx d M X) {a b : Int} (hd : Dc M pc (.ishr) 1 nx) (k : VW X nx ls (mI (bshr a b) :: st) h) : VW X pc ls (mI b :: mI a :: st) h := by
  obtain ⟨p, l, e, R, s, m, args, below, meth, c, al, tc, D, A, Z, rc, rs⟩ := X
  obtain ⟨hx, hb, hml, hr, hown, hts, hlk, hK, hA, hfr, hlo, hne⟩ := hX
  obtain ⟨hdg, rfl⟩ := hd
  intro H locs la cells slots hP hD hS hl h1 h2
  exact lv_ishr hx hb hdg (vw_top (v := mI (bshr a b)) (congrArg Value.int (oi_of _)) (k H locs la cells slots hP hD hS hl h1 h2))
theorem v_iushr (hX : Cx d M X) {a b : Int} (hd : Dc M pc (.iushr) 1 nx) (k : VW X nx ls (mI (bushr a b) :: st) h) : VW X pc ls (mI b :: mI a :: st) h := by
  obtain ⟨p, l, e, R, s, m, args, below, meth, c, al, tc, D, A, Z, rc, rs⟩ := X
  obtain ⟨hx, hb, hml, hr, hown, hts, hlk, hK, hA, hfr, hlo, hne⟩ := hX
  obtain ⟨hdg, rfl⟩ := hd
  intro H locs la cells slots hP hD hS hl h1 h2
  exact lv_iushr hx hb hdg (oi_of _).symm (k H locs la cells slots hP hD hS hl h1 h2)
theorem v_irem (hX : Cx d M X) {a b : Int} (hd : Dc M pc (.irem) 1 nx) (hz : -2147483648 ≤ b ∧ b < 2147483648 ∧ b ≠ 0) (k : VW X nx ls (mI (irem a b) :: st) h) : VW X pc ls (mI b :: mI a :: st) h := by
  obtain ⟨p, l, e, R, s, m, args, below, meth, c, al, tc, D, A, Z, rc, rs⟩ := X
  obtain ⟨hx, hb, hml, hr, hown, hts, hlk, hK, hA, hfr, hlo, hne⟩ := hX
  obtain ⟨hdg, rfl⟩ := hd
  intro H locs la cells slots hP hD hS hl h1 h2
  exact lv_irem hx hb hdg (fun q => hz.2.2 ((oi_eq (b := 0) ⟨hz.1, hz.2.1⟩ ⟨by decide, by decide⟩).mp q)) (vw_top (v := mI (irem a b)) (congrArg Value.int (oi_of _)) (k H locs la cells slots hP hD hS hl h1 h2))
theorem v_i2l (hX : Cx d M X) {a : Int} (hd : Dc M pc (.i2l) 1 nx) (ha : rng a) (k : VW X nx ls (mL a :: st) h) : VW X pc ls (mI a :: st) h := by
  obtain ⟨p, l, e, R, s, m, args, below, meth, c, al, tc, D, A, Z, rc, rs⟩ := X
  obtain ⟨hx, hb, hml, hr, hown, hts, hlk, hK, hA, hfr, hlo, hne⟩ := hX
  obtain ⟨hdg, rfl⟩ := hd
  intro H locs la cells slots hP hD hS hl h1 h2
  exact lv_i2l hx hb hdg (by rw [← Int64.toInt_inj, Int32.toInt_toInt64, oi_toInt ha, ol_toInt ⟨by omega, by omega⟩]) (k H locs la cells slots hP hD hS hl h1 h2)
theorem v_i2b (hX : Cx d M X) {a : Int} (hd : Dc M pc (.i2b) 1 nx) (k : VW X nx ls (mI (i2b a) :: st) h) : VW X pc ls (mI a :: st) h := by
  obtain ⟨p, l, e, R, s, m, args, below, meth, c, al, tc, D, A, Z, rc, rs⟩ := X
  obtain ⟨hx, hb, hml, hr, hown, hts, hlk, hK, hA, hfr, hlo, hne⟩ := hX
  obtain ⟨hdg, rfl⟩ := hd
  intro H locs la cells slots hP hD hS hl h1 h2
  exact lv_i2b hx hb hdg (oi_of _).symm (k H locs la cells slots hP hD hS hl h1 h2)
theorem v_lshl (hX : Cx d M X) {a b : Int} (hd : Dc M pc (.lshl) 1 nx) (k : VW X nx ls (mL (lshl a b) :: st) h) : VW X pc ls (mI b :: mL a :: st) h := by
  obtain ⟨p, l, e, R, s, m, args, below, meth, c, al, tc, D, A, Z, rc, rs⟩ := X
  obtain ⟨hx, hb, hml, hr, hown, hts, hlk, hK, hA, hfr, hlo, hne⟩ := hX
  obtain ⟨hdg, rfl⟩ := hd
  intro H locs la cells slots hP hD hS hl h1 h2
  exact lv_lshl hx hb hdg (Int64.ofInt_toInt _).symm (k H locs la cells slots hP hD hS hl h1 h2)
theorem v_lshr (hX : Cx d M X) {a b : Int} (hd : Dc M pc (.lshr) 1 nx) (k : VW X nx ls (mL (lshr a b) :: st) h) : VW X pc ls (mI b :: mL a :: st) h := by
  obtain ⟨p, l, e, R, s, m, args, below, meth, c, al, tc, D, A, Z, rc, rs⟩ := X
  obtain ⟨hx, hb, hml, hr, hown, hts, hlk, hK, hA, hfr, hlo, hne⟩ := hX
  obtain ⟨hdg, rfl⟩ := hd
  intro H locs la cells slots hP hD hS hl h1 h2
  exact lv_lshr hx hb hdg (Int64.ofInt_toInt _).symm (k H locs la cells slots hP hD hS hl h1 h2)
theorem v_lcmp (hX : Cx d M X) {a b : Int} (hd : Dc M pc (.lcmp) 1 nx) (ha : lrng a) (hbr : lrng b) (k : VW X nx ls (mI (lcm a b) :: st) h) : VW X pc ls (mL b :: mL a :: st) h := by
  obtain ⟨p, l, e, R, s, m, args, below, meth, c, al, tc, D, A, Z, rc, rs⟩ := X
  obtain ⟨hx, hb, hml, hr, hown, hts, hlk, hK, hA, hfr, hlo, hne⟩ := hX
  obtain ⟨hdg, rfl⟩ := hd
  intro H locs la cells slots hP hD hS hl h1 h2
  refine W.lcmp hx hb hdg (vw_top (v := mI (lcm a b)) (congrArg Value.int ?_) (k H locs la cells slots hP hD hS hl h1 h2))
  show Int32.ofInt (lcm a b) = lg_cmp (Int64.ofInt a) (Int64.ofInt b)
  unfold lcm lg_cmp
  simp only [gt_iff_lt, ol_lt hbr ha, ol_eq ha hbr]
  split
  · rfl
  · split <;> rfl
theorem v_dup (hX : Cx d M X) {v : MV} (hd : Dc M pc (.dup) 1 nx) (hv : mcat v = 1) (k : VW X nx ls (v :: v :: st) h) : VW X pc ls (v :: st) h := by
  obtain ⟨p, l, e, R, s, m, args, below, meth, c, al, tc, D, A, Z, rc, rs⟩ := X
  obtain ⟨hx, hb, hml, hr, hown, hts, hlk, hK, hA, hfr, hlo, hne⟩ := hX
  obtain ⟨hdg, rfl⟩ := hd
  intro H locs la cells slots hP hD hS hl h1 h2
  exact lv_dup hx hb hdg (by rw [conc_cat, hv]) (k H locs la cells slots hP hD hS hl h1 h2)
theorem v_dup2 (hX : Cx d M X) {v w : MV} (hd : Dc M pc (.dup2) 1 nx) (hv : mcat v = 1) (hw : mcat w = 1) (k : VW X nx ls (v :: w :: v :: w :: st) h) : VW X pc ls (v :: w :: st) h := by
  obtain ⟨p, l, e, R, s, m, args, below, meth, c, al, tc, D, A, Z, rc, rs⟩ := X
  obtain ⟨hx, hb, hml, hr, hown, hts, hlk, hK, hA, hfr, hlo, hne⟩ := hX
  obtain ⟨hdg, rfl⟩ := hd
  intro H locs la cells slots hP hD hS hl h1 h2
  exact lv_dup2_11 hx hb hdg (by rw [conc_cat, hv]) (by rw [conc_cat, hw]) (k H locs la cells slots hP hD hS hl h1 h2)
theorem v_dup2L (hX : Cx d M X) {v : MV} (hd : Dc M pc (.dup2) 1 nx) (hv : mcat v = 2) (k : VW X nx ls (v :: v :: st) h) : VW X pc ls (v :: st) h := by
  obtain ⟨p, l, e, R, s, m, args, below, meth, c, al, tc, D, A, Z, rc, rs⟩ := X
  obtain ⟨hx, hb, hml, hr, hown, hts, hlk, hK, hA, hfr, hlo, hne⟩ := hX
  obtain ⟨hdg, rfl⟩ := hd
  intro H locs la cells slots hP hD hS hl h1 h2
  exact lv_dup2_2 hx hb hdg (by rw [conc_cat, hv]) (k H locs la cells slots hP hD hS hl h1 h2)
theorem v_icmp_eq (hX : Cx d M X) {a b off : Int} {tgt : Nat} (hd : Dc M pc (.if_icmp .eq off) 3 nx) (ht : (pc : Int) + off = (tgt : Int)) (ha : rng a) (hb2 : rng b) (kt : a = b → VW X tgt ls st h) (kf : ¬ (a = b) → VW X nx ls st h) : VW X pc ls (mI b :: mI a :: st) h := by
  obtain ⟨p, l, e, R, s, m, args, below, meth, c, al, tc, D, A, Z, rc, rs⟩ := X
  obtain ⟨hx, hb, hml, hr, hown, hts, hlk, hK, hA, hfr, hlo, hne⟩ := hX
  obtain ⟨hdg, rfl⟩ := hd
  intro H locs la cells slots hP hD hS hl h1 h2
  exact lv_icmp_eq hx hb hdg ht (fun q => kt ((oi_eq ha hb2).mp q) H locs la cells slots hP hD hS hl h1 h2) (fun q => kf (fun e => q ((oi_eq ha hb2).mpr e)) H locs la cells slots hP hD hS hl h1 h2)
theorem v_if_eq (hX : Cx d M X) {a off : Int} {tgt : Nat} (hd : Dc M pc (.ifCond .eq off) 3 nx) (ht : (pc : Int) + off = (tgt : Int)) (ha : rng a) (kt : a = 0 → VW X tgt ls st h) (kf : ¬ (a = 0) → VW X nx ls st h) : VW X pc ls (mI a :: st) h := by
  obtain ⟨p, l, e, R, s, m, args, below, meth, c, al, tc, D, A, Z, rc, rs⟩ := X
  obtain ⟨hx, hb, hml, hr, hown, hts, hlk, hK, hA, hfr, hlo, hne⟩ := hX
  obtain ⟨hdg, rfl⟩ := hd
  intro H locs la cells slots hP hD hS hl h1 h2
  have z0 : rng 0 := ⟨by decide, by decide⟩
  exact lv_if_eq hx hb hdg ht (fun q => kt ((oi_eq ha z0).mp q) H locs la cells slots hP hD hS hl h1 h2) (fun q => kf (fun e => q ((oi_eq ha z0).mpr e)) H locs la cells slots hP hD hS hl h1 h2)
theorem v_icmp_ne (hX : Cx d M X) {a b off : Int} {tgt : Nat} (hd : Dc M pc (.if_icmp .ne off) 3 nx) (ht : (pc : Int) + off = (tgt : Int)) (ha : rng a) (hb2 : rng b) (kt : ¬ a = b → VW X tgt ls st h) (kf : a = b → VW X nx ls st h) : VW X pc ls (mI b :: mI a :: st) h := by
  obtain ⟨p, l, e, R, s, m, args, below, meth, c, al, tc, D, A, Z, rc, rs⟩ := X
  obtain ⟨hx, hb, hml, hr, hown, hts, hlk, hK, hA, hfr, hlo, hne⟩ := hX
  obtain ⟨hdg, rfl⟩ := hd
  intro H locs la cells slots hP hD hS hl h1 h2
  exact lv_icmp_ne hx hb hdg ht (fun q => kt (fun e => q ((oi_eq ha hb2).mpr e)) H locs la cells slots hP hD hS hl h1 h2) (fun q => kf ((oi_eq ha hb2).mp q) H locs la cells slots hP hD hS hl h1 h2)
theorem v_if_ne (hX : Cx d M X) {a off : Int} {tgt : Nat} (hd : Dc M pc (.ifCond .ne off) 3 nx) (ht : (pc : Int) + off = (tgt : Int)) (ha : rng a) (kt : ¬ a = 0 → VW X tgt ls st h) (kf : a = 0 → VW X nx ls st h) : VW X pc ls (mI a :: st) h := by
  obtain ⟨p, l, e, R, s, m, args, below, meth, c, al, tc, D, A, Z, rc, rs⟩ := X
  obtain ⟨hx, hb, hml, hr, hown, hts, hlk, hK, hA, hfr, hlo, hne⟩ := hX
  obtain ⟨hdg, rfl⟩ := hd
  intro H locs la cells slots hP hD hS hl h1 h2
  have z0 : rng 0 := ⟨by decide, by decide⟩
  exact lv_if_ne hx hb hdg ht (fun q => kt (fun e => q ((oi_eq ha z0).mpr e)) H locs la cells slots hP hD hS hl h1 h2) (fun q => kf ((oi_eq ha z0).mp q) H locs la cells slots hP hD hS hl h1 h2)
theorem v_icmp_lt (hX : Cx d M X) {a b off : Int} {tgt : Nat} (hd : Dc M pc (.if_icmp .lt off) 3 nx) (ht : (pc : Int) + off = (tgt : Int)) (ha : rng a) (hb2 : rng b) (kt : a < b → VW X tgt ls st h) (kf : ¬ (a < b) → VW X nx ls st h) : VW X pc ls (mI b :: mI a :: st) h := by
  obtain ⟨p, l, e, R, s, m, args, below, meth, c, al, tc, D, A, Z, rc, rs⟩ := X
  obtain ⟨hx, hb, hml, hr, hown, hts, hlk, hK, hA, hfr, hlo, hne⟩ := hX
  obtain ⟨hdg, rfl⟩ := hd
  intro H locs la cells slots hP hD hS hl h1 h2
  exact lv_icmp_lt hx hb hdg ht (fun q => kt ((oi_lt ha hb2).mp q) H locs la cells slots hP hD hS hl h1 h2) (fun q => kf (fun e => q ((oi_lt ha hb2).mpr e)) H locs la cells slots hP hD hS hl h1 h2)
theorem v_if_lt (hX : Cx d M X) {a off : Int} {tgt : Nat} (hd : Dc M pc (.ifCond .lt off) 3 nx) (ht : (pc : Int) + off = (tgt : Int)) (ha : rng a) (kt : a < 0 → VW X tgt ls st h) (kf : ¬ (a < 0) → VW X nx ls st h) : VW X pc ls (mI a :: st) h := by
  obtain ⟨p, l, e, R, s, m, args, below, meth, c, al, tc, D, A, Z, rc, rs⟩ := X
  obtain ⟨hx, hb, hml, hr, hown, hts, hlk, hK, hA, hfr, hlo, hne⟩ := hX
  obtain ⟨hdg, rfl⟩ := hd
  intro H locs la cells slots hP hD hS hl h1 h2
  have z0 : rng 0 := ⟨by decide, by decide⟩
  exact lv_if_lt hx hb hdg ht (fun q => kt ((oi_lt ha z0).mp q) H locs la cells slots hP hD hS hl h1 h2) (fun q => kf (fun e => q ((oi_lt ha z0).mpr e)) H locs la cells slots hP hD hS hl h1 h2)
theorem v_icmp_le (hX : Cx d M X) {a b off : Int} {tgt : Nat} (hd : Dc M pc (.if_icmp .le off) 3 nx) (ht : (pc : Int) + off = (tgt : Int)) (ha : rng a) (hb2 : rng b) (kt : a ≤ b → VW X tgt ls st h) (kf : ¬ (a ≤ b) → VW X nx ls st h) : VW X pc ls (mI b :: mI a :: st) h := by
  obtain ⟨p, l, e, R, s, m, args, below, meth, c, al, tc, D, A, Z, rc, rs⟩ := X
  obtain ⟨hx, hb, hml, hr, hown, hts, hlk, hK, hA, hfr, hlo, hne⟩ := hX
  obtain ⟨hdg, rfl⟩ := hd
  intro H locs la cells slots hP hD hS hl h1 h2
  exact lv_icmp_le hx hb hdg ht (fun q => kt ((oi_le ha hb2).mp q) H locs la cells slots hP hD hS hl h1 h2) (fun q => kf (fun e => q ((oi_le ha hb2).mpr e)) H locs la cells slots hP hD hS hl h1 h2)
theorem v_if_le (hX : Cx d M X) {a off : Int} {tgt : Nat} (hd : Dc M pc (.ifCond .le off) 3 nx) (ht : (pc : Int) + off = (tgt : Int)) (ha : rng a) (kt : a ≤ 0 → VW X tgt ls st h) (kf : ¬ (a ≤ 0) → VW X nx ls st h) : VW X pc ls (mI a :: st) h := by
  obtain ⟨p, l, e, R, s, m, args, below, meth, c, al, tc, D, A, Z, rc, rs⟩ := X
  obtain ⟨hx, hb, hml, hr, hown, hts, hlk, hK, hA, hfr, hlo, hne⟩ := hX
  obtain ⟨hdg, rfl⟩ := hd
  intro H locs la cells slots hP hD hS hl h1 h2
  have z0 : rng 0 := ⟨by decide, by decide⟩
  exact lv_if_le hx hb hdg ht (fun q => kt ((oi_le ha z0).mp q) H locs la cells slots hP hD hS hl h1 h2) (fun q => kf (fun e => q ((oi_le ha z0).mpr e)) H locs la cells slots hP hD hS hl h1 h2)
theorem v_icmp_ge (hX : Cx d M X) {a b off : Int} {tgt : Nat} (hd : Dc M pc (.if_icmp .ge off) 3 nx) (ht : (pc : Int) + off = (tgt : Int)) (ha : rng a) (hb2 : rng b) (kt : b ≤ a → VW X tgt ls st h) (kf : ¬ (b ≤ a) → VW X nx ls st h) : VW X pc ls (mI b :: mI a :: st) h := by
  obtain ⟨p, l, e, R, s, m, args, below, meth, c, al, tc, D, A, Z, rc, rs⟩ := X
  obtain ⟨hx, hb, hml, hr, hown, hts, hlk, hK, hA, hfr, hlo, hne⟩ := hX
  obtain ⟨hdg, rfl⟩ := hd
  intro H locs la cells slots hP hD hS hl h1 h2
  exact lv_icmp_ge hx hb hdg ht (fun q => kt ((oi_le hb2 ha).mp q) H locs la cells slots hP hD hS hl h1 h2) (fun q => kf (fun e => q ((oi_le hb2 ha).mpr e)) H locs la cells slots hP hD hS hl h1 h2)
theorem v_if_ge (hX : Cx d M X) {a off : Int} {tgt : Nat} (hd : Dc M pc (.ifCond .ge off) 3 nx) (ht : (pc : Int) + off = (tgt : Int)) (ha : rng a) (kt : 0 ≤ a → VW X tgt ls st h) (kf : ¬ (0 ≤ a) → VW X nx ls st h) : VW X pc ls (mI a :: st) h := by
  obtain ⟨p, l, e, R, s, m, args, below, meth, c, al, tc, D, A, Z, rc, rs⟩ := X
  obtain ⟨hx, hb, hml, hr, hown, hts, hlk, hK, hA, hfr, hlo, hne⟩ := hX
  obtain ⟨hdg, rfl⟩ := hd
  intro H locs la cells slots hP hD hS hl h1 h2
  have z0 : rng 0 := ⟨by decide, by decide⟩
  exact lv_if_ge hx hb hdg ht (fun q => kt ((oi_le z0 ha).mp q) H locs la cells slots hP hD hS hl h1 h2) (fun q => kf (fun e => q ((oi_le z0 ha).mpr e)) H locs la cells slots hP hD hS hl h1 h2)
theorem v_icmp_gt (hX : Cx d M X) {a b off : Int} {tgt : Nat} (hd : Dc M pc (.if_icmp .gt off) 3 nx) (ht : (pc : Int) + off = (tgt : Int)) (ha : rng a) (hb2 : rng b) (kt : b < a → VW X tgt ls st h) (kf : ¬ (b < a) → VW X nx ls st h) : VW X pc ls (mI b :: mI a :: st) h := by
  obtain ⟨p, l, e, R, s, m, args, below, meth, c, al, tc, D, A, Z, rc, rs⟩ := X
  obtain ⟨hx, hb, hml, hr, hown, hts, hlk, hK, hA, hfr, hlo, hne⟩ := hX
  obtain ⟨hdg, rfl⟩ := hd
  intro H locs la cells slots hP hD hS hl h1 h2
  exact lv_icmp_gt hx hb hdg ht (fun q => kt ((oi_lt hb2 ha).mp q) H locs la cells slots hP hD hS hl h1 h2) (fun q => kf (fun e => q ((oi_lt hb2 ha).mpr e)) H locs la cells slots hP hD hS hl h1 h2)
theorem v_if_gt (hX : Cx d M X) {a off : Int} {tgt : Nat} (hd : Dc M pc (.ifCond .gt off) 3 nx) (ht : (pc : Int) + off = (tgt : Int)) (ha : rng a) (kt : 0 < a → VW X tgt ls st h) (kf : ¬ (0 < a) → VW X nx ls st h) : VW X pc ls (mI a :: st) h := by
  obtain ⟨p, l, e, R, s, m, args, below, meth, c, al, tc, D, A, Z, rc, rs⟩ := X
  obtain ⟨hx, hb, hml, hr, hown, hts, hlk, hK, hA, hfr, hlo, hne⟩ := hX
  obtain ⟨hdg, rfl⟩ := hd
  intro H locs la cells slots hP hD hS hl h1 h2
  have z0 : rng 0 := ⟨by decide, by decide⟩
  exact lv_if_gt hx hb hdg ht (fun q => kt ((oi_lt z0 ha).mp q) H locs la cells slots hP hD hS hl h1 h2) (fun q => kf (fun e => q ((oi_lt z0 ha).mpr e)) H locs la cells slots hP hD hS hl h1 h2)
theorem v_goto (hX : Cx d M X) {off : Int} {tgt : Nat} (hd : Dc M pc (.goto off) 3 nx) (ht : (pc : Int) + off = (tgt : Int)) (k : VW X tgt ls st h) : VW X pc ls (st) h := by
  obtain ⟨p, l, e, R, s, m, args, below, meth, c, al, tc, D, A, Z, rc, rs⟩ := X
  obtain ⟨hx, hb, hml, hr, hown, hts, hlk, hK, hA, hfr, hlo, hne⟩ := hX
  obtain ⟨hdg, rfl⟩ := hd
  intro H locs la cells slots hP hD hS hl h1 h2
  exact lv_goto hx hb hdg ht (k H locs la cells slots hP hD hS hl h1 h2)
theorem v_ifnull (hX : Cx d M X) {a : Nat} {off : Int} (hd : Dc M pc (.ifnull off) 3 nx) (k : VW X nx ls st h) : VW X pc ls (mA a :: st) h := by
  obtain ⟨p, l, e, R, s, m, args, below, meth, c, al, tc, D, A, Z, rc, rs⟩ := X
  obtain ⟨hx, hb, hml, hr, hown, hts, hlk, hK, hA, hfr, hlo, hne⟩ := hX
  obtain ⟨hdg, rfl⟩ := hd
  intro H locs la cells slots hP hD hS hl h1 h2
  exact lv_ifnull hx hb hdg (k H locs la cells slots hP hD hS hl h1 h2)
theorem v_ifnullN (hX : Cx d M X) {off : Int} {tgt : Nat} (hd : Dc M pc (.ifnull off) 3 nx) (ht : (pc : Int) + off = (tgt : Int)) (k : VW X tgt ls st h) : VW X pc ls (mN :: st) h := by
  obtain ⟨p, l, e, R, s, m, args, below, meth, c, al, tc, D, A, Z, rc, rs⟩ := X
  obtain ⟨hx, hb, hml, hr, hown, hts, hlk, hK, hA, hfr, hlo, hne⟩ := hX
  obtain ⟨hdg, rfl⟩ := hd
  intro H locs la cells slots hP hD hS hl h1 h2
  exact lv_ifnullN hx hb hdg ht (k H locs la cells slots hP hD hS hl h1 h2)
theorem v_ifnonnull (hX : Cx d M X) {a : Nat} {off : Int} {tgt : Nat} (hd : Dc M pc (.ifnonnull off) 3 nx) (ht : (pc : Int) + off = (tgt : Int)) (k : VW X tgt ls st h) : VW X pc ls (mA a :: st) h := by
  obtain ⟨p, l, e, R, s, m, args, below, meth, c, al, tc, D, A, Z, rc, rs⟩ := X
  obtain ⟨hx, hb, hml, hr, hown, hts, hlk, hK, hA, hfr, hlo, hne⟩ := hX
  obtain ⟨hdg, rfl⟩ := hd
  intro H locs la cells slots hP hD hS hl h1 h2
  exact lv_ifnonnull hx hb hdg ht (k H locs la cells slots hP hD hS hl h1 h2)
theorem v_ifnonnullN (hX : Cx d M X) {off : Int} (hd : Dc M pc (.ifnonnull off) 3 nx) (k : VW X nx ls st h) : VW X pc ls (mN :: st) h := by
  obtain ⟨p, l, e, R, s, m, args, below, meth, c, al, tc, D, A, Z, rc, rs⟩ := X
  obtain ⟨hx, hb, hml, hr, hown, hts, hlk, hK, hA, hfr, hlo, hne⟩ := hX
  obtain ⟨hdg, rfl⟩ := hd
  intro H locs la cells slots hP hD hS hl h1 h2
  exact lv_ifnonnullN hx hb hdg (k H locs la cells slots hP hD hS hl h1 h2)
end VRULES
end
section
section VHEAP
variable {d : Nat} {M : MT} {X : CT} {pc nx : Nat} {ls : List (Option MV)} {st : List MV} {h : Hp}
/-- object k is of class ci; array k is of kind t and length n -/
def OB (k ci : Nat) : Prop := k < KN ∧ SH k = .inl ci
def AR (k t n : Nat) : Prop := k < KN ∧ SH k = .inr (t, n)
theorem OB.cell {al : Nat → Nat} {tc : Nat → ClassId} {h : Hp} {k ci : Nat} (o : OB k ci) : (WS al tc h)[k]? = some (al k, .inr (ci, (List.range (NF ci)).map (fval al h k ci))) := by
  rw [WS_get o.1]
  simp only [cellE, o.2]
theorem fval_at {al : Nat → Nat} {h : Hp} {k ci j : Nat} (hj : j < NF ci) : ((List.range (NF ci)).map (fval al h k ci))[j]? = some (fval al h k ci j) := by
  simp [hj]
theorem fval_set {al : Nat → Nat} {h : Hp} {k ci j : Nat} {v : Int} {w : Value} (hj : j < NF ci) (hw : w = fval al (up h k j v) k ci j) : ((List.range (NF ci)).map (fval al h k ci)).set j w = (List.range (NF ci)).map (fval al (up h k j v) k ci) := by
  subst hw
  apply List.ext_getElem?
  intro i
  by_cases hi : i = j
  · subst hi
    rw [List.getElem?_set_self (by simpa using hj), fval_at hj]
  · rw [List.getElem?_set_ne (Ne.symm hi)]
    by_cases hn : i < NF ci
    · rw [fval_at hn, fval_at hn]
      simp only [fval, up, hi, and_false, if_false]
    · simp [hn]
theorem v_getI (hX : Cx d M X) {idx ci j q : Nat} (hd : Dc M pc (.getfield idx) 3 nx) (hf : FI M.1.cls idx ci j 0) (ho : OB q ci) (k : VW X nx ls (mI (h q j) :: st) h) : VW X pc ls (mA q :: st) h := by
  obtain ⟨p, l, e, R, s, m, args, below, meth, c, al, tc, D, A, Z, rc, rs⟩ := X
  obtain ⟨hx, hb, hml, hr, hown, hts, hlk, hK, hA, hfr, hlo, hne⟩ := hX
  obtain ⟨hdg, rfl⟩ := hd
  intro H locs la cells slots hP hD hS hl h1 h2
  obtain ⟨C, T, N, hc, hj, hN, hk, hlink, -⟩ := hf
  have hin := (cl_facts ci C T N hc).1
  refine va_get (D := D) (ci := ci) (v := fval al h q ci j) hx hb hts hin hown hK hP q ho.cell hc j hj (hts _ hlink) (fun _ h9 => h9) (fval_at (hN ▸ hj)) hdg (vw_top (v := mI (h q j)) ?_ (k H locs la cells slots hP hD hS hl h1 h2))
  simp only [fval, hk]
  rfl
theorem v_getZ (hX : Cx d M X) {idx ci j q : Nat} (hd : Dc M pc (.getfield idx) 3 nx) (hf : FI M.1.cls idx ci j 3) (ho : OB q ci) (k : VW X nx ls (mI (h q j) :: st) h) : VW X pc ls (mA q :: st) h := by
  obtain ⟨p, l, e, R, s, m, args, below, meth, c, al, tc, D, A, Z, rc, rs⟩ := X
  obtain ⟨hx, hb, hml, hr, hown, hts, hlk, hK, hA, hfr, hlo, hne⟩ := hX
  obtain ⟨hdg, rfl⟩ := hd
  intro H locs la cells slots hP hD hS hl h1 h2
  obtain ⟨C, T, N, hc, hj, hN, hk, hlink, -⟩ := hf
  have hin := (cl_facts ci C T N hc).1
  refine va_get (D := D) (ci := ci) (v := fval al h q ci j) hx hb hts hin hown hK hP q ho.cell hc j hj (hts _ hlink) (fun _ h9 => h9) (fval_at (hN ▸ hj)) hdg (vw_top (v := mI (h q j)) ?_ (k H locs la cells slots hP hD hS hl h1 h2))
  simp only [fval, hk]
  rfl
theorem v_getL (hX : Cx d M X) {idx ci j q : Nat} (hd : Dc M pc (.getfield idx) 3 nx) (hf : FI M.1.cls idx ci j 1) (ho : OB q ci) (k : VW X nx ls (mL (h q j) :: st) h) : VW X pc ls (mA q :: st) h := by
  obtain ⟨p, l, e, R, s, m, args, below, meth, c, al, tc, D, A, Z, rc, rs⟩ := X
  obtain ⟨hx, hb, hml, hr, hown, hts, hlk, hK, hA, hfr, hlo, hne⟩ := hX
  obtain ⟨hdg, rfl⟩ := hd
  intro H locs la cells slots hP hD hS hl h1 h2
  obtain ⟨C, T, N, hc, hj, hN, hk, hlink, -⟩ := hf
  have hin := (cl_facts ci C T N hc).1
  refine va_get (D := D) (ci := ci) (v := fval al h q ci j) hx hb hts hin hown hK hP q ho.cell hc j hj (hts _ hlink) (fun _ h9 => h9) (fval_at (hN ▸ hj)) hdg (vw_top (v := mL (h q j)) ?_ (k H locs la cells slots hP hD hS hl h1 h2))
  simp only [fval, hk]
  rfl
theorem v_getA (hX : Cx d M X) {idx ci j q : Nat} {r : Nat} (hd : Dc M pc (.getfield idx) 3 nx) (hf : FI M.1.cls idx ci j 2) (ho : OB q ci) (hr2 : RF q j = some r) (k : VW X nx ls (mA r :: st) h) : VW X pc ls (mA q :: st) h := by
  obtain ⟨p, l, e, R, s, m, args, below, meth, c, al, tc, D, A, Z, rc, rs⟩ := X
  obtain ⟨hx, hb, hml, hr, hown, hts, hlk, hK, hA, hfr, hlo, hne⟩ := hX
  obtain ⟨hdg, rfl⟩ := hd
  intro H locs la cells slots hP hD hS hl h1 h2
  obtain ⟨C, T, N, hc, hj, hN, hk, hlink, -⟩ := hf
  have hin := (cl_facts ci C T N hc).1
  refine va_get (D := D) (ci := ci) (v := fval al h q ci j) hx hb hts hin hown hK hP q ho.cell hc j hj (hts _ hlink) (fun _ h9 => h9) (fval_at (hN ▸ hj)) hdg (vw_top (v := mA r) ?_ (k H locs la cells slots hP hD hS hl h1 h2))
  simp only [fval, hk]
  rw [hr2]
  rfl
theorem v_putI (hX : Cx d M X) {idx ci j q : Nat} {v : Int} (hd : Dc M pc (.putfield idx) 3 nx) (hf : FI M.1.cls idx ci j 0) (ho : OB q ci) (k : VW X nx ls st (up h q j v)) : VW X pc ls (mI v :: mA q :: st) h := by
  obtain ⟨p, l, e, R, s, m, args, below, meth, c, al, tc, D, A, Z, rc, rs⟩ := X
  obtain ⟨hx, hb, hml, hr, hown, hts, hlk, hK, hA, hfr, hlo, hne⟩ := hX
  obtain ⟨hdg, rfl⟩ := hd
  intro H locs la cells slots hP hD hS hl h1 h2
  obtain ⟨C, T, N, hc, hj, hN, hk, hlink, hq⟩ := hf
  obtain ⟨hin, hnm, ty0, hty⟩ := cl_facts ci C T N hc
  obtain ⟨hfin, hpd⟩ := hq (by decide)
  have hj2 : j < NF ci := hN ▸ hj
  have e1 : (.int (Int32.ofInt v) : Value) = fval al (up h q j v) q ci j := by
    simp [fval, hk, up]
  have e2 : (al q, (Sum.inr (ci, ((List.range (NF ci)).map (fval al h q ci)).set j (.int (Int32.ofInt v))) : va_E)) = (al q, cellE al tc (up h q j v) q) := by
    rw [fval_set hj2 e1]
    simp only [cellE, ho.2]
  refine va_put (D := D) (ci := ci) (v := .int (Int32.ofInt v)) (ty := kty 0) hx hb hts hin ty0 hty hnm hown hK hP hD hS q ho.cell hc j hj (hts _ hlink) (fun _ h9 => h9) hfin hpd rfl rfl (by simpa using hj2) hdg (fun H1 locs1 hP1 hD1 hS1 => ?_)
  rw [e2, WS_set _ rfl] at hP1 hD1
  exact k H1 locs1 la cells slots hP1 hD1 hS1 hl h1 h2
theorem v_putL (hX : Cx d M X) {idx ci j q : Nat} {v : Int} (hd : Dc M pc (.putfield idx) 3 nx) (hf : FI M.1.cls idx ci j 1) (ho : OB q ci) (k : VW X nx ls st (up h q j v)) : VW X pc ls (mL v :: mA q :: st) h := by
  obtain ⟨p, l, e, R, s, m, args, below, meth, c, al, tc, D, A, Z, rc, rs⟩ := X
  obtain ⟨hx, hb, hml, hr, hown, hts, hlk, hK, hA, hfr, hlo, hne⟩ := hX
  obtain ⟨hdg, rfl⟩ := hd
  intro H locs la cells slots hP hD hS hl h1 h2
  obtain ⟨C, T, N, hc, hj, hN, hk, hlink, hq⟩ := hf
  obtain ⟨hin, hnm, ty0, hty⟩ := cl_facts ci C T N hc
  obtain ⟨hfin, hpd⟩ := hq (by decide)
  have hj2 : j < NF ci := hN ▸ hj
  have e1 : (.long (Int64.ofInt v) : Value) = fval al (up h q j v) q ci j := by
    simp [fval, hk, up]
  have e2 : (al q, (Sum.inr (ci, ((List.range (NF ci)).map (fval al h q ci)).set j (.long (Int64.ofInt v))) : va_E)) = (al q, cellE al tc (up h q j v) q) := by
    rw [fval_set hj2 e1]
    simp only [cellE, ho.2]
  refine va_put (D := D) (ci := ci) (v := .long (Int64.ofInt v)) (ty := kty 1) hx hb hts hin ty0 hty hnm hown hK hP hD hS q ho.cell hc j hj (hts _ hlink) (fun _ h9 => h9) hfin hpd rfl rfl (by simpa using hj2) hdg (fun H1 locs1 hP1 hD1 hS1 => ?_)
  rw [e2, WS_set _ rfl] at hP1 hD1
  exact k H1 locs1 la cells slots hP1 hD1 hS1 hl h1 h2
theorem v_putZ (hX : Cx d M X) {idx ci j q : Nat} {v : Int} (hd : Dc M pc (.putfield idx) 3 nx) (hf : FI M.1.cls idx ci j 3) (ho : OB q ci) (hv : v = 0 ∨ v = 1) (k : VW X nx ls st (up h q j v)) : VW X pc ls (mI v :: mA q :: st) h := by
  obtain ⟨p, l, e, R, s, m, args, below, meth, c, al, tc, D, A, Z, rc, rs⟩ := X
  obtain ⟨hx, hb, hml, hr, hown, hts, hlk, hK, hA, hfr, hlo, hne⟩ := hX
  obtain ⟨hdg, rfl⟩ := hd
  intro H locs la cells slots hP hD hS hl h1 h2
  obtain ⟨C, T, N, hc, hj, hN, hk, hlink, hq⟩ := hf
  obtain ⟨hin, hnm, ty0, hty⟩ := cl_facts ci C T N hc
  obtain ⟨hfin, hpd⟩ := hq (by decide)
  have hj2 : j < NF ci := hN ▸ hj
  have e1 : (.int (Int32.ofInt v) : Value) = fval al (up h q j v) q ci j := by
    simp [fval, hk, up]
  have e2 : (al q, (Sum.inr (ci, ((List.range (NF ci)).map (fval al h q ci)).set j (.int (Int32.ofInt v))) : va_E)) = (al q, cellE al tc (up h q j v) q) := by
    rw [fval_set hj2 e1]
    simp only [cellE, ho.2]
  refine va_put (D := D) (ci := ci) (v := .int (Int32.ofInt v)) (ty := kty 3) hx hb hts hin ty0 hty hnm hown hK hP hD hS q ho.cell hc j hj (hts _ hlink) (fun _ h9 => h9) hfin hpd (by rcases hv with rfl | rfl <;> decide) (by rcases hv with rfl | rfl <;> decide) (by simpa using hj2) hdg (fun H1 locs1 hP1 hD1 hS1 => ?_)
  rw [e2, WS_set _ rfl] at hP1 hD1
  exact k H1 locs1 la cells slots hP1 hD1 hS1 hl h1 h2
theorem AR.cell {al : Nat → Nat} {tc : Nat → ClassId} {h : Hp} {k t n : Nat} (a : AR k t n) : (WS al tc h)[k]? = some (al k, cellE al tc h k) := WS_get a.1
theorem TY_0 {tc : Nat → ClassId} : (TY tc)[0]? = some (tc 0, .int) := rfl
theorem TY_1 {tc : Nat → ClassId} : (TY tc)[1]? = some (tc 1, .boolean) := rfl
theorem TY_2 {tc : Nat → ClassId} : (TY tc)[2]? = some (tc 2, .long) := rfl
theorem cell_0 {al : Nat → Nat} {tc : Nat → ClassId} {h : Hp} {k n : Nat} (a : AR k 0 n) : cellE al tc h k = .inl (tc 0, n, .inl (fun j => Int32.ofInt (h k j))) := by simp only [cellE, a.2]
theorem cell_1 {al : Nat → Nat} {tc : Nat → ClassId} {h : Hp} {k n : Nat} (a : AR k 1 n) : cellE al tc h k = .inl (tc 1, n, .inl (fun j => Int32.ofInt (h k j))) := by simp only [cellE, a.2]
theorem cell_2 {al : Nat → Nat} {tc : Nat → ClassId} {h : Hp} {k n : Nat} (a : AR k 2 n) : cellE al tc h k = .inl (tc 2, n, .inr (.inl (fun j => Int64.ofInt (h k j)))) := by simp only [cellE, a.2]
theorem cell_3 {al : Nat → Nat} {tc : Nat → ClassId} {h : Hp} {k n : Nat} (a : AR k 3 n) : cellE al tc h k = .inl (tc 3, n, .inr (.inr (.inr (.inr (fun j => (RF k j).map al))))) := by simp only [cellE, a.2]
theorem cell_4 {al : Nat → Nat} {tc : Nat → ClassId} {h : Hp} {k n : Nat} (a : AR k 4 n) : cellE al tc h k = .inl (tc 4, n, .inr (.inr (.inr (.inr (fun j => (RF k j).map al))))) := by simp only [cellE, a.2]
theorem SH_len : ∀ k, k < KN → ∀ t n, SH k = .inr (t, n) → n < 2147483648 ∧ t < 5 := by
  intro k hk
  have : ∀ k, k < KN → (match SH k with | .inr (t, n) => Nat.blt n 2147483648 && Nat.blt t 5 | _ => true) = true := by decide +kernel
  intro t n e
  have h2 := this k hk
  rw [e] at h2
  simp only [Bool.and_eq_true, Nat.blt_eq] at h2
  exact h2
theorem AR.len {k t n : Nat} (a : AR k t n) : n < 2147483648 := (SH_len k a.1 t n a.2).1
theorem v_iald (hX : Cx d M X) {q n : Nat} {i : Int} (hd : Dc M pc (.iaload) 1 nx) (ha : AR q 0 n) (hi : 0 ≤ i ∧ i < n) (k : VW X nx ls (mI (h q i.toNat) :: st) h) : VW X pc ls (mI i :: mA q :: st) h := by
  obtain ⟨p, l, e, R, s, m, args, below, meth, c, al, tc, D, A, Z, rc, rs⟩ := X
  obtain ⟨hx, hb, hml, hr, hown, hts, hlk, hK, hA, hfr, hlo, hne⟩ := hX
  obtain ⟨hdg, rfl⟩ := hd
  intro H locs la cells slots hP hD hS hl h1 h2
  have hn := ha.len
  have e := oi_clamp hi.1 (by omega)
  have hc : (WS al tc h)[q]? = some (al q, _) := cell_0 (al := al) (tc := tc) (h := h) ha ▸ ha.cell
  refine va_iald hx hb hK hP q 0 hc TY_0 (oi_in hi.1 hi.2 hn) hdg ?_
  rw [e]
  exact k H locs la cells slots hP hD hS hl h1 h2
theorem v_zald (hX : Cx d M X) {q n : Nat} {i : Int} (hd : Dc M pc (.baload) 1 nx) (ha : AR q 1 n) (hi : 0 ≤ i ∧ i < n) (k : VW X nx ls (mI (h q i.toNat) :: st) h) : VW X pc ls (mI i :: mA q :: st) h := by
  obtain ⟨p, l, e, R, s, m, args, below, meth, c, al, tc, D, A, Z, rc, rs⟩ := X
  obtain ⟨hx, hb, hml, hr, hown, hts, hlk, hK, hA, hfr, hlo, hne⟩ := hX
  obtain ⟨hdg, rfl⟩ := hd
  intro H locs la cells slots hP hD hS hl h1 h2
  have hn := ha.len
  have e := oi_clamp hi.1 (by omega)
  have hc : (WS al tc h)[q]? = some (al q, _) := cell_1 (al := al) (tc := tc) (h := h) ha ▸ ha.cell
  refine va_zald hx hb hK hP q 1 hc TY_1 (oi_in hi.1 hi.2 hn) hdg ?_
  rw [e]
  exact k H locs la cells slots hP hD hS hl h1 h2
theorem v_lald (hX : Cx d M X) {q n : Nat} {i : Int} (hd : Dc M pc (.laload) 1 nx) (ha : AR q 2 n) (hi : 0 ≤ i ∧ i < n) (k : VW X nx ls (mL (h q i.toNat) :: st) h) : VW X pc ls (mI i :: mA q :: st) h := by
  obtain ⟨p, l, e, R, s, m, args, below, meth, c, al, tc, D, A, Z, rc, rs⟩ := X
  obtain ⟨hx, hb, hml, hr, hown, hts, hlk, hK, hA, hfr, hlo, hne⟩ := hX
  obtain ⟨hdg, rfl⟩ := hd
  intro H locs la cells slots hP hD hS hl h1 h2
  have hn := ha.len
  have e := oi_clamp hi.1 (by omega)
  have hc : (WS al tc h)[q]? = some (al q, _) := cell_2 (al := al) (tc := tc) (h := h) ha ▸ ha.cell
  refine va_lald hx hb hK hP q 2 hc TY_2 (oi_in hi.1 hi.2 hn) hdg ?_
  rw [e]
  exact k H locs la cells slots hP hD hS hl h1 h2
theorem v_iast (hX : Cx d M X) {q n : Nat} {i v : Int} (hd : Dc M pc (.iastore) 1 nx) (ha : AR q 0 n) (hi : 0 ≤ i ∧ i < n) (k : VW X nx ls st (up h q i.toNat v)) : VW X pc ls (mI v :: mI i :: mA q :: st) h := by
  obtain ⟨p, l, e, R, s, m, args, below, meth, c, al, tc, D, A, Z, rc, rs⟩ := X
  obtain ⟨hx, hb, hml, hr, hown, hts, hlk, hK, hA, hfr, hlo, hne⟩ := hX
  obtain ⟨hdg, rfl⟩ := hd
  intro H locs la cells slots hP hD hS hl h1 h2
  have hn := ha.len
  have e := oi_clamp hi.1 (by omega)
  have hc : (WS al tc h)[q]? = some (al q, _) := cell_0 (al := al) (tc := tc) (h := h) ha ▸ ha.cell
  refine va_iast hx hb hK hP hD hS q 0 hc TY_0 (oi_in hi.1 hi.2 hn) hdg (fun H1 locs1 hP1 hD1 hS1 => ?_)
  have e2 : (Sum.inl (tc 0, n, Sum.inl (upd (fun j => Int32.ofInt (h q j)) i.toNat (Int32.ofInt v))) : va_E) = cellE al tc (up h q i.toNat v) q := by
    rw [cell_0 ha]
    refine congrArg (fun f => (Sum.inl (tc 0, n, Sum.inl f) : va_E)) (funext fun j => ?_)
    simp only [upd, up]
    by_cases hj : j = i.toNat <;> simp [hj]
  rw [e, WS_set _ e2] at hP1 hD1
  exact k H1 locs1 la cells slots hP1 hD1 hS1 hl h1 h2
theorem v_zast (hX : Cx d M X) {q n : Nat} {i v : Int} (hd : Dc M pc (.bastore) 1 nx) (ha : AR q 1 n) (hi : 0 ≤ i ∧ i < n) (hv : v = 0 ∨ v = 1) (k : VW X nx ls st (up h q i.toNat v)) : VW X pc ls (mI v :: mI i :: mA q :: st) h := by
  obtain ⟨p, l, e, R, s, m, args, below, meth, c, al, tc, D, A, Z, rc, rs⟩ := X
  obtain ⟨hx, hb, hml, hr, hown, hts, hlk, hK, hA, hfr, hlo, hne⟩ := hX
  obtain ⟨hdg, rfl⟩ := hd
  intro H locs la cells slots hP hD hS hl h1 h2
  have hn := ha.len
  have e := oi_clamp hi.1 (by omega)
  have hc : (WS al tc h)[q]? = some (al q, _) := cell_1 (al := al) (tc := tc) (h := h) ha ▸ ha.cell
  refine va_zast hx hb hK hP hD hS q 1 hc TY_1 (oi_in hi.1 hi.2 hn) hdg (fun H1 locs1 hP1 hD1 hS1 => ?_)
  have e3 : vp_nar .boolean (Int32.ofInt v) = Int32.ofInt v := by rcases hv with rfl | rfl <;> decide
  rw [e3] at hP1 hD1
  have e2 : (Sum.inl (tc 1, n, Sum.inl (upd (fun j => Int32.ofInt (h q j)) i.toNat (Int32.ofInt v))) : va_E) = cellE al tc (up h q i.toNat v) q := by
    rw [cell_1 ha]
    refine congrArg (fun f => (Sum.inl (tc 1, n, Sum.inl f) : va_E)) (funext fun j => ?_)
    simp only [upd, up]
    by_cases hj : j = i.toNat <;> simp [hj]
  rw [e, WS_set _ e2] at hP1 hD1
  exact k H1 locs1 la cells slots hP1 hD1 hS1 hl h1 h2
theorem v_last (hX : Cx d M X) {q n : Nat} {i v : Int} (hd : Dc M pc (.lastore) 1 nx) (ha : AR q 2 n) (hi : 0 ≤ i ∧ i < n) (k : VW X nx ls st (up h q i.toNat v)) : VW X pc ls (mL v :: mI i :: mA q :: st) h := by
  obtain ⟨p, l, e, R, s, m, args, below, meth, c, al, tc, D, A, Z, rc, rs⟩ := X
  obtain ⟨hx, hb, hml, hr, hown, hts, hlk, hK, hA, hfr, hlo, hne⟩ := hX
  obtain ⟨hdg, rfl⟩ := hd
  intro H locs la cells slots hP hD hS hl h1 h2
  have hn := ha.len
  have e := oi_clamp hi.1 (by omega)
  have hc : (WS al tc h)[q]? = some (al q, _) := cell_2 (al := al) (tc := tc) (h := h) ha ▸ ha.cell
  refine va_last hx hb hK hP hD hS q 2 hc TY_2 (oi_in hi.1 hi.2 hn) hdg (fun H1 locs1 hP1 hD1 hS1 => ?_)
  have e2 : (Sum.inl (tc 2, n, Sum.inr (Sum.inl (vp_updL (fun j => Int64.ofInt (h q j)) i.toNat (Int64.ofInt v)))) : va_E) = cellE al tc (up h q i.toNat v) q := by
    rw [cell_2 ha]
    refine congrArg (fun f => (Sum.inl (tc 2, n, Sum.inr (Sum.inl f)) : va_E)) (funext fun j => ?_)
    simp only [vp_updL, up]
    by_cases hj : j = i.toNat <;> simp [hj]
  rw [e, WS_set _ e2] at hP1 hD1
  exact k H1 locs1 la cells slots hP1 hD1 hS1 hl h1 h2
theorem v_aaldP (hX : Cx d M X) {q n r : Nat} {i : Int} (hd : Dc M pc (.aaload) 1 nx) (ha : AR q 3 n) (hi : 0 ≤ i ∧ i < n) (hr2 : RF q i.toNat = some r) (k : VW X nx ls (mA r :: st) h) : VW X pc ls (mI i :: mA q :: st) h := by
  obtain ⟨p, l, e, R, s, m, args, below, meth, c, al, tc, D, A, Z, rc, rs⟩ := X
  obtain ⟨hx, hb, hml, hr, hown, hts, hlk, hK, hA, hfr, hlo, hne⟩ := hX
  obtain ⟨hdg, rfl⟩ := hd
  intro H locs la cells slots hP hD hS hl h1 h2
  have hn := ha.len
  have e := oi_clamp hi.1 (by omega)
  have hc : (WS al tc h)[q]? = some (al q, _) := cell_3 (al := al) (tc := tc) (h := h) ha ▸ ha.cell
  refine va_aldq (C := "WishSharer$Pupil") hx hb hK hP q 3 hc rfl (oi_in hi.1 hi.2 hn) hdg ?_
  rw [e, hr2]
  exact k H locs la cells slots hP hD hS hl h1 h2
theorem v_aaldQ (hX : Cx d M X) {q n r : Nat} {i : Int} (hd : Dc M pc (.aaload) 1 nx) (ha : AR q 4 n) (hi : 0 ≤ i ∧ i < n) (hr2 : RF q i.toNat = some r) (k : VW X nx ls (mA r :: st) h) : VW X pc ls (mI i :: mA q :: st) h := by
  obtain ⟨p, l, e, R, s, m, args, below, meth, c, al, tc, D, A, Z, rc, rs⟩ := X
  obtain ⟨hx, hb, hml, hr, hown, hts, hlk, hK, hA, hfr, hlo, hne⟩ := hX
  obtain ⟨hdg, rfl⟩ := hd
  intro H locs la cells slots hP hD hS hl h1 h2
  have hn := ha.len
  have e := oi_clamp hi.1 (by omega)
  have hc : (WS al tc h)[q]? = some (al q, _) := cell_4 (al := al) (tc := tc) (h := h) ha ▸ ha.cell
  refine va_aldq (C := "WishSharer$Project") hx hb hK hP q 4 hc rfl (oi_in hi.1 hi.2 hn) hdg ?_
  rw [e, hr2]
  exact k H locs la cells slots hP hD hS hl h1 h2
theorem v_alen (hX : Cx d M X) {q t n : Nat} (hd : Dc M pc (.arraylength) 1 nx) (ha : AR q t n) (k : VW X nx ls (mI n :: st) h) : VW X pc ls (mA q :: st) h := by
  obtain ⟨p, l, e, R, s, m, args, below, meth, c, al, tc, D, A, Z, rc, rs⟩ := X
  obtain ⟨hx, hb, hml, hr, hown, hts, hlk, hK, hA, hfr, hlo, hne⟩ := hX
  obtain ⟨hdg, rfl⟩ := hd
  intro H locs la cells slots hP hD hS hl h1 h2
  have ht := (SH_len q ha.1 t n ha.2).2
  have hc : ∃ (x : vp_A) (ty : FieldType), (WS al tc h)[q]? = some (al q, .inl (tc t, x)) ∧ (TY tc)[t]? = some (tc t, ty) ∧ x.1 = n := by
    rw [WS_get ha.1]
    simp only [cellE, ha.2]
    match t, ht with
    | 0, _ => exact ⟨_, _, rfl, rfl, rfl⟩
    | 1, _ => exact ⟨_, _, rfl, rfl, rfl⟩
    | 2, _ => exact ⟨_, _, rfl, rfl, rfl⟩
    | 3, _ => exact ⟨_, _, rfl, rfl, rfl⟩
    | 4, _ => exact ⟨_, _, rfl, rfl, rfl⟩
  obtain ⟨x, ty, hc, hty, hx1⟩ := hc
  refine va_alen hx hb hK hP q t hc hty (v := Int32.ofInt n) (by rw [hx1]; rfl) hdg (k H locs la cells slots hP hD hS hl h1 h2)
theorem v_ireturn (hX : Cx d M X) {Q : Option MV → Hp → Prop} {a : Int} (hR : Rt Q X) (hd : Dc M pc (.ireturn) 1 nx) (ht : M.2.2.2.1 = some .int) (hq : Q (some (mI a)) h) : VW X pc ls [mI a] h := by
  obtain ⟨p, l, e, R, s, m, args, below, meth, c, al, tc, D, A, Z, rc, rs⟩ := X
  obtain ⟨hx, hb, hml, hr, hown, hts, hlk, hK, hA, hfr, hlo, hne⟩ := hX
  obtain ⟨hdg, rfl⟩ := hd
  intro H locs la cells slots hP hD hS hl h1 h2
  subst hR
  refine W.widen (k := R.cells) (n := R.slots) (by omega) (by omega) ?_
  exact W.iret (v := Int32.ofInt a) hx hb (hr.trans ht) (fun t ht2 hW => ⟨⟨(some (mI a)), h, rfl, hq, by rw [ht2]; exact hP, va_K.moved hW.alike hK, hD⟩, hS.F ht2⟩) hS.2.2 hdg hlk
theorem v_zreturn (hX : Cx d M X) {Q : Option MV → Hp → Prop} {a : Int} (hR : Rt Q X) (hd : Dc M pc (.ireturn) 1 nx) (ht : M.2.2.2.1 = some .boolean) (hv : a = 0 ∨ a = 1) (hq : Q (some (mI a)) h) : VW X pc ls [mI a] h := by
  obtain ⟨p, l, e, R, s, m, args, below, meth, c, al, tc, D, A, Z, rc, rs⟩ := X
  obtain ⟨hx, hb, hml, hr, hown, hts, hlk, hK, hA, hfr, hlo, hne⟩ := hX
  obtain ⟨hdg, rfl⟩ := hd
  intro H locs la cells slots hP hD hS hl h1 h2
  subst hR
  refine W.widen (k := R.cells) (n := R.slots) (by omega) (by omega) ?_
  exact W.zret (v := Int32.ofInt a) (ty := .boolean) hx hb (hr.trans ht) (by rcases hv with rfl | rfl <;> decide) (fun t ht2 hW => ⟨⟨(some (mI a)), h, rfl, hq, by rw [ht2]; exact hP, va_K.moved hW.alike hK, hD⟩, hS.F ht2⟩) hS.2.2 hdg hlk
theorem v_lreturn (hX : Cx d M X) {Q : Option MV → Hp → Prop} {a : Int} (hR : Rt Q X) (hd : Dc M pc (.lreturn) 1 nx) (ht : M.2.2.2.1 = some .long) (hq : Q (some (mL a)) h) : VW X pc ls [mL a] h := by
  obtain ⟨p, l, e, R, s, m, args, below, meth, c, al, tc, D, A, Z, rc, rs⟩ := X
  obtain ⟨hx, hb, hml, hr, hown, hts, hlk, hK, hA, hfr, hlo, hne⟩ := hX
  obtain ⟨hdg, rfl⟩ := hd
  intro H locs la cells slots hP hD hS hl h1 h2
  subst hR
  refine W.widen (k := R.cells) (n := R.slots) (by omega) (by omega) ?_
  exact W.lret (v := Int64.ofInt a) hx hb (hr.trans ht) (fun t ht2 hW => ⟨⟨(some (mL a)), h, rfl, hq, by rw [ht2]; exact hP, va_K.moved hW.alike hK, hD⟩, hS.F ht2⟩) hS.2.2 hdg hlk
theorem v_return (hX : Cx d M X) {Q : Option MV → Hp → Prop} (hR : Rt Q X) (hd : Dc M pc (.return_) 1 nx) (ht : M.2.2.2.1 = none) (hq : Q none h) : VW X pc ls [] h := by
  obtain ⟨p, l, e, R, s, m, args, below, meth, c, al, tc, D, A, Z, rc, rs⟩ := X
  obtain ⟨hx, hb, hml, hr, hown, hts, hlk, hK, hA, hfr, hlo, hne⟩ := hX
  obtain ⟨hdg, rfl⟩ := hd
  intro H locs la cells slots hP hD hS hl h1 h2
  subst hR
  refine W.widen (k := R.cells) (n := R.slots) (by omega) (by omega) ?_
  exact W.vret hx hb (hr.trans ht) (fun t ht2 hW => ⟨⟨none, h, rfl, hq, by rw [ht2]; exact hP, va_K.moved hW.alike hK, hD⟩, hS.F ht2⟩) hS.2.2 hdg hlk
theorem v_areturn (hX : Cx d M X) {Q : Option MV → Hp → Prop} {a : Nat} {C : String} (hR : Rt Q X) (hd : Dc M pc (.areturn) 1 nx) (ht : M.2.2.2.1 = some (.object C)) (hq : Q (some (mA a)) h) : VW X pc ls [mA a] h := by
  obtain ⟨p, l, e, R, s, m, args, below, meth, c, al, tc, D, A, Z, rc, rs⟩ := X
  obtain ⟨hx, hb, hml, hr, hown, hts, hlk, hK, hA, hfr, hlo, hne⟩ := hX
  obtain ⟨hdg, rfl⟩ := hd
  intro H locs la cells slots hP hD hS hl h1 h2
  subst hR
  refine W.widen (k := R.cells) (n := R.slots) (by omega) (by omega) ?_
  exact W.aret (v := .ref (al a)) hx hb (hr.trans ht) (Or.inl ⟨C, rfl⟩) (Or.inr ⟨_, rfl⟩) (fun t ht2 hW => ⟨⟨(some (mA a)), h, rfl, hq, by rw [ht2]; exact hP, va_K.moved hW.alike hK, hD⟩, hS.F ht2⟩) hS.2.2 hdg hlk
theorem v_areturnN (hX : Cx d M X) {Q : Option MV → Hp → Prop} {C : String} (hR : Rt Q X) (hd : Dc M pc (.areturn) 1 nx) (ht : M.2.2.2.1 = some (.object C)) (hq : Q (some mN) h) : VW X pc ls [mN] h := by
  obtain ⟨p, l, e, R, s, m, args, below, meth, c, al, tc, D, A, Z, rc, rs⟩ := X
  obtain ⟨hx, hb, hml, hr, hown, hts, hlk, hK, hA, hfr, hlo, hne⟩ := hX
  obtain ⟨hdg, rfl⟩ := hd
  intro H locs la cells slots hP hD hS hl h1 h2
  subst hR
  refine W.widen (k := R.cells) (n := R.slots) (by omega) (by omega) ?_
  exact W.aret (v := .null) hx hb (hr.trans ht) (Or.inl ⟨C, rfl⟩) (Or.inl rfl) (fun t ht2 hW => ⟨⟨(some mN), h, rfl, hq, by rw [ht2]; exact hP, va_K.moved hW.alike hK, hD⟩, hS.F ht2⟩) hS.2.2 hdg hlk
end VHEAP
end
section
section VCALLS
/-! a method's words: its own code, and all of TB -/
def wsM (M : MT) : List Cond := Cond.code M.1 M.2.1 M.2.2.1 M.2.2.2.1 :: TB
def rmd (d : Nat) : Room := { frames := d, cells := 0, slots := 0, locals := 64 * d + 20 }
def PB (al : Nat → Nat) (tc : Nat → ClassId) (D : va_G) (h : Hp) (sz : Nat) : State → Prop := fun U => U.heap.size = sz ∧ va_P D vwCl (WS al tc h) U.heap ∧ va_K D vwCl (TY tc) U ∧ va_D (fun _ => True) (WS al tc h) ∧ NEST U
theorem wsM_in {M : MT} (hM : MOK M) : ∀ w ∈ wsM M, w ∈ TB := fun w hw => (List.mem_cons.mp hw).elim (fun e => e ▸ hM.2.1) id
theorem wsM_good {M : MT} (hM : MOK M) : GoodIn TB (wsM M) := fun w hw => ⟨wsM_in hM w hw, good_of_word (tb_good w (wsM_in hM w hw))⟩
theorem good_app {ws : List Cond} {M : MT} (hM : MOK M) (h : ∀ w ∈ ws, w ∈ TB) : GoodIn TB (ws ++ wsM M) := fun w hw => (List.mem_append.mp hw).elim (fun q => ⟨h w q, good_of_word (tb_good w (h w q))⟩) (wsM_good hM w)
theorem conc_map_cons {al : Nat → Nat} {v : MV} {st : List MV} : (v :: st).map (conc al) = conc al v :: st.map (conc al) := rfl
/-- the locals at the entry -/
theorem entL_ok (al : Nat → Nat) : ∀ (as : List MV) (n i : Nat) (o : Nat) (v : MV), (entL as n)[i]? = some (some v) → (i + o, conc al v) ∈ lv_args o (as.map (conc al))
  | [], n, i, o, v, h => by
    simp only [entL, List.getElem?_replicate] at h
    split at h <;> simp at h
  | .inl (.inr z) :: as, n + 2, i, o, v, h => by
    simp only [entL] at h
    rw [conc_map_cons, lv_args]
    match i with
    | 0 =>
      simp at h
      subst h
      rw [Nat.zero_add]
      exact List.mem_cons_self
    | 1 => simp at h
    | i + 2 =>
      simp only [List.getElem?_cons_succ] at h
      have := entL_ok al as n i (o + 2) v h
      rw [if_pos (by rfl), show i + 2 + o = i + (o + 2) by omega]
      exact List.mem_cons_of_mem _ this
  | .inl (.inl z) :: as, n + 1, i, o, v, h => by
    simp only [entL] at h
    rw [conc_map_cons, lv_args]
    match i with
    | 0 =>
      simp at h
      subst h
      rw [Nat.zero_add]
      exact List.mem_cons_self
    | i + 1 =>
      simp only [List.getElem?_cons_succ] at h
      have := entL_ok al as n i (o + 1) v h
      rw [if_neg (fun q => by cases q), show i + 1 + o = i + (o + 1) by omega]
      exact List.mem_cons_of_mem _ this
  | .inr r :: as, n + 1, i, o, v, h => by
    simp only [entL] at h
    rw [conc_map_cons, lv_args]
    have hc : ¬ (conc al (.inr r)).category = 2 := by cases r <;> exact (fun q => by cases q)
    match i with
    | 0 =>
      simp at h
      subst h
      rw [Nat.zero_add]
      exact List.mem_cons_self
    | i + 1 =>
      simp only [List.getElem?_cons_succ] at h
      have := entL_ok al as n i (o + 1) v h
      rw [if_neg hc, show i + 1 + o = i + (o + 1) by omega]
      exact List.mem_cons_of_mem _ this
  | .inl (.inr z) :: as, 0, i, o, v, h => by simp [entL] at h
  | .inl (.inr z) :: as, 1, i, o, v, h => by simp [entL] at h
  | .inl (.inl z) :: as, 0, i, o, v, h => by simp [entL] at h
  | .inr r :: as, 0, i, o, v, h => by simp [entL] at h
theorem sl_len (al : Nat → Nat) : ∀ (as : List MV), (lg_sl (as.map (conc al))).length = (as.map mcat).sum
  | [] => rfl
  | v :: as => by
    have ih := sl_len al as
    simp only [lg_sl, List.map_cons, List.flatMap_cons, List.length_append, List.sum_cons] at ih ⊢
    rw [ih, conc_cat]
    rcases v with (z | z) | r <;> rfl
theorem metOf {d : Nat} {M : MT} {as : List MV} {h : Hp} {Q : Option MV → Hp → Prop} (hc : Ct d M as h Q) (hM : MOK M) (hn : (as.map mcat).sum ≤ M.2.2.1) (l : Launch) (al : Nat → Nat) (tc : Nat → ClassId) (D : va_G) (sz : Nat) :
    Met l M.1 (wsM M) (rmd d) (va_Pc (as.map (conc al)) (PB al tc D h sz)) (QV al tc D (va_A (WS al tc h) sz) Q) 0 0 (va_A (WS al tc h) sz) := by
  refine Met.ofW (cc := M.2.1) (maxL := M.2.2.1) (ret := M.2.2.2.1) hM.1 rfl ?_
  intro p e s m args below meth c s₁ B hml hv
  obtain ⟨rfl, hsz, hP, hK, hD0, hne⟩ := hv
  have hts0 := atoms_spec (ws := wsM M) B.pre
  subst hsz
  have hD := hD0.self (sz := s.heap.size)
  rw [lg_entry_eq]
  have hl := lv_entry (as.map (conc al)) (n := M.2.2.1) (by rw [sl_len]; exact hn)
  have hcx : Cx d M (p, l, e, rmd d, s, m, (as.map (conc al)).toArray, below, meth, c, al, tc, D, va_A (WS al tc h) s.heap.size, MQ below (QV al tc D (va_A (WS al tc h) s.heap.size) Q) (as.map (conc al)).toArray s 0 0 (va_A (WS al tc h) s.heap.size), 0, 0) :=
    ⟨B.exec, B.bytes, hml, B.returns, findClass_of_methodNamed B.named, fun w hw => hts0 w (List.mem_cons_of_mem _ hw), B.notSynchronized, hK, fun q hq => Or.inr hq, Nat.le_refl _, Nat.le_refl _, hne⟩
  have hrt : Rt Q (p, l, e, rmd d, s, m, (as.map (conc al)).toArray, below, meth, c, al, tc, D, va_A (WS al tc h) s.heap.size, MQ below (QV al tc D (va_A (WS al tc h) s.heap.size) Q) (as.map (conc al)).toArray s 0 0 (va_A (WS al tc h) s.heap.size), 0, 0) := rfl
  exact hc _ hcx hrt s.heap [] _ 0 0 hP hD va_S.rf ⟨by rw [hml]; exact hl.1, hl.2.1, fun i v hi => by
    have := hl.2.2 _ (entL_ok al as M.2.2.1 i 0 v hi)
    simpa using this⟩ (Nat.le_refl _) (Nat.le_refl _)
theorem PB_blind {as : List Value} {al : Nat → Nat} {tc : Nat → ClassId} {D : va_G} {h : Hp} {sz : Nat} : FrameBlind (va_Pc as (PB al tc D h sz)) :=
  fun a U g mk q => by
    obtain ⟨q0, q1, qP, qK, qD, qN⟩ := q
    exact ⟨q0, q1, qP, va_K.moved (u := U) (U := U.calling g mk a) (Vm.Alike.refl U.vm) qK, qD, va_Nw.same (by rfl) rfl qN⟩
theorem va_callQ {p : Program} {l : Launch} {e : Env} {R : Room} {s : State} {m : MethodId} {args : Array Value} {below : List Frame} {meth : Method} {c : Code} {H : Heap} {locs : List Loc} {cells slots : Nat} {Z : State → Prop} {pc : Nat} {ls : Array Slot} {rest st0 : List Value} {a : Array Value} {A0 A1 : Nat → Prop} {H0 : Heap}
    {al : Nat → Nat} {tc : Nat → ClassId} {D : va_G} {Q : Option MV → Hp → Prop}
    (hr : va_Run p l e R s m args below meth c H locs cells slots 0 0 (F0 m pc ls st0) rest (QV al tc D A1 Q a) A1) (hS : va_S A0 H0 H locs) (hA : ∀ q, A1 q → A0 q)
    (kk : ∀ (r : Option MV) (h : Hp) (H1 : Heap) (locs1 : List Loc), Q r h → va_P D vwCl (WS al tc h) H1 → va_D A0 (WS al tc h) → va_S A0 H0 H1 locs1 → W p l e R s m args below meth c H1 locs1 cells slots Z (F0 m (pc + 3) ls ((r.map (conc al)).toList ++ rest))) : W p l e R s m args below meth c H locs cells slots Z (F0 m pc ls st0) := by
  intro T hT X
  obtain ⟨v, st₀, t, T', L, h0, X', hL, e1, e2, ⟨⟨r, h, hv, hq, hP, hK, hD⟩, hz, hk⟩, st⟩ := hr T hT X
  cases hv
  rw [h0] at hz hk
  obtain ⟨t2, a1, b1⟩ := kk r h T'.heap (locs ++ L) hq (by rw [e1]; exact hP) (hD.weaken (fun _ _ _ q => hA _ q))
    ⟨Nat.le_trans hS.1 (by rw [e1]; exact hz), fun q h1 h2 => by rw [e1, hk q (Nat.lt_of_lt_of_le h1 hS.1) (fun z => h2 (hA q z))]; exact hS.2.1 q h1 h2, fun q hq => by
      rcases List.mem_append.mp hq with h | h
      · exact hS.2.2 q h
      · exact hA _ (hL q h)⟩ T' rfl X'
  exact ⟨t2, st t2 a1, b1⟩
variable {d : Nat} {M M' : MT} {X : CT} {pc nx : Nat} {ls : List (Option MV)} {st as : List MV} {h : Hp} {Q : Option MV → Hp → Prop}
theorem st_room {al : Nat → Nat} {st : List MV} (h : (st.map mcat).sum ≤ 8) : ((st.map (conc al)).map fun v => v.category).sum ≤ 8 := by
  rw [List.map_map, show (Value.category ∘ conc al) = mcat from funext (conc_cat al)]
  exact h
theorem wfree {al : Nat → Nat} {tc : Nat → ClassId} {h : Hp} {A : Nat → Prop} {H0 H : Heap} {locs : List Loc} (hD : va_D A (WS al tc h)) (hS : va_S A H0 H locs) (hA : ∀ q, H0.size ≤ q → A q) : ∀ q, va_A (WS al tc h) H.size q → A q := by
  intro q hq
  rcases hq with ⟨k, e, hk⟩ | hq
  · exact hD.2 k _ hk
  · exact hA q (Nat.le_trans hS.1 hq)
theorem v_callV (hX : Cx (d + 1) M X) {idx q ci : Nat} (hd : Dc M pc (.invokevirtual idx) 3 nx) (hl : LVk M.1.cls idx M') (hM : MOK M') (ho : OB q ci) (hC : (vwCl[ci]?).map (fun x => x.1) = some M'.1.cls) (hn : as.length = M'.2.2.2.2 ∧ ((mA q :: as).map mcat).sum ≤ M'.2.2.1) (hst : (st.map mcat).sum ≤ 8)
    (hc : Ct d M' (mA q :: as) h Q) {stk : List MV} (hs : stk = as.reverse ++ mA q :: st) (kk : ∀ r g, Q r g → VW X nx ls (r.toList ++ st) g) : VW X pc ls stk h := by
  subst hs
  obtain ⟨p, l, e, R, s, m, args, below, meth, c, al, tc, D, A, Z, rc, rs⟩ := X
  obtain ⟨hx, hb, hml, hr, hown, hts, hlk, hK, hA, hfr, hlo, hne⟩ := hX
  obtain ⟨hdg, rfl⟩ := hd
  intro H locs la cells slots hP hD hS hlh h1 h2
  obtain ⟨hl1, hl2, hl3, hl4⟩ := hl
  obtain ⟨hM1, hM2, hM3, hM4, hM5, hM6⟩ := id hM
  obtain ⟨C, hC1, hC2⟩ := Option.map_eq_some_iff.mp hC
  have hF := wfree hD hS hA
  refine va_callQ (A1 := va_A (WS al tc h) H.size) (va_runV (As := as.map (conc al)) (rest := st.map (conc al)) (b := al q) (C := M'.1.cls) (ws := wsM M') (rm := rmd d) (n := M'.2.2.2.2) ⟨hx, hb, hml, hown, hts⟩ (metOf hc hM hn.2 l al tc D H.size)
    (cwV M'.2.2.2.2 hts (good_app hM (fun w hw => by
      simp only [List.mem_cons, List.not_mem_nil, or_false] at hw
      rcases hw with rfl | rfl | rfl | rfl
      · exact hl1
      · exact hl2
      · exact hl3
      · exact hl4)) rfl rfl rfl ⟨rfl, hM4, hM5, hM6⟩ ⟨hfr, by show 8 + (M'.2.2.1 + 11) + (64 * d + 20) ≤ R.locals; omega⟩)
    ⟨PB_blind, by rw [← hC2]; exact va_recv hK hP hC1 ho.cell, fun U hU hW => ⟨rfl, by rw [hU], by rw [hU]; exact hP, va_K.moved hW.alike hK, hD.weaken (fun _ _ _ _ => trivial), va_Nw.warmM hW hne⟩⟩ rfl (by simp [hn.1]) (hlh.1.trans hml) (by simp [F0, List.map_append, List.map_reverse, conc]) (lv_room (st_room hst)) hdg ⟨by omega, by omega⟩) hS hF
    (fun r g H1 locs1 hq hP1 hD1 hS1 => ?_)
  have := kk r g hq H1 locs1 la cells slots hP1 hD1 hS1 hlh h1 h2
  rw [List.map_append] at this
  cases r <;> exact this
theorem v_callS (hX : Cx (d + 1) M X) {idx : Nat} (hd : Dc M pc (.invokestatic idx) 3 nx) (hl : LSk M.1.cls idx M') (hM : MOK M') (hn : as.length = M'.2.2.2.2 ∧ (as.map mcat).sum ≤ M'.2.2.1) (hst : (st.map mcat).sum ≤ 8)
    (hc : Ct d M' as h Q) {stk : List MV} (hs : stk = as.reverse ++ st) (kk : ∀ r g, Q r g → VW X nx ls (r.toList ++ st) g) : VW X pc ls stk h := by
  subst hs
  obtain ⟨p, l, e, R, s, m, args, below, meth, c, al, tc, D, A, Z, rc, rs⟩ := X
  obtain ⟨hx, hb, hml, hr, hown, hts, hlk, hK, hA, hfr, hlo, hne⟩ := hX
  obtain ⟨hdg, rfl⟩ := hd
  intro H locs la cells slots hP hD hS hlh h1 h2
  obtain ⟨hl1, hl2, hl3⟩ := hl
  obtain ⟨hM1, hM2, hM3, hM4, hM5, hM6⟩ := id hM
  have hF := wfree hD hS hA
  refine va_callQ (A1 := va_A (WS al tc h) H.size) (va_runS (As := as.map (conc al)) (rest := st.map (conc al)) (ws := wsM M') (rm := rmd d) (n := M'.2.2.2.2) ⟨hx, hb, hml, hown, hts⟩ (metOf hc hM hn.2 l al tc D H.size)
    (va_cwS M'.2.2.2.2 hts (good_app hM (fun w hw => by
      simp only [List.mem_cons, List.not_mem_nil, or_false] at hw
      rcases hw with rfl | rfl | rfl
      · exact hl1
      · exact hl2
      · exact hl3)) rfl rfl rfl ⟨hM4, hM5, hM6⟩ ⟨hfr, by show 8 + (M'.2.2.1 + 11) + (64 * d + 20) ≤ R.locals; omega⟩)
    ⟨PB_blind, fun U hU hW => ⟨rfl, by rw [hU], by rw [hU]; exact hP, va_K.moved hW.alike hK, hD.weaken (fun _ _ _ _ => trivial), va_Nw.warmM hW hne⟩⟩ rfl (by simp [hn.1]) (hlh.1.trans hml) (by simp [F0, List.map_append, List.map_reverse]) (lv_room (st_room hst)) hdg ⟨by omega, by omega⟩) hS hF
    (fun r g H1 locs1 hq hP1 hD1 hS1 => ?_)
  have := kk r g hq H1 locs1 la cells slots hP1 hD1 hS1 hlh h1 h2
  rw [List.map_append] at this
  cases r <;> exact this
/-- the nest mate's static method exchangePlaces, called by Roll -/
theorem v_callN (hX : Cx (d + 1) M X) (hown4 : M.1.cls = RX4) (hd : Dc M pc (.invokestatic 77) 3 nx) (hst9 : Cond.static yX7_exchangePlaces ∈ TB) (hin9 : Cond.initialized RX7 ∈ TB) (hM : MOK MX7_exchangePlaces) (hn : as.length = 3 ∧ (as.map mcat).sum ≤ 4) (hst : (st.map mcat).sum ≤ 8)
    (hc : Ct d MX7_exchangePlaces as h Q) {stk : List MV} (hs : stk = as.reverse ++ st) (kk : ∀ r g, Q r g → VW X nx ls (r.toList ++ st) g) : VW X pc ls stk h := by
  subst hs
  obtain ⟨p, l, e, R, s, m, args, below, meth, c, al, tc, D, A, Z, rc, rs⟩ := X
  obtain ⟨hx, hb, hml, hr, hown, hts, hlk, hK, hA, hfr, hlo, hne⟩ := hX
  obtain ⟨hdg, rfl⟩ := hd
  intro H locs la cells slots hP hD hS hlh h1 h2
  obtain ⟨hM1, hM2, hM3, hM4, hM5, hM6⟩ := id hM
  rw [hown4] at hown
  have hF := wfree hD hS hA
  refine va_callQ (A1 := va_A (WS al tc h) H.size) (va_runSN (As := as.map (conc al)) (rest := st.map (conc al)) (ws := wsM MX7_exchangePlaces) (rm := rmd d) (n := 3) (host := RX7) ⟨hx, hb, hml, hown, hts⟩ (metOf hc hM hn.2 l al tc D H.size)
    ⟨va_cnB 3 hts (wsM_good hM) rfl rfl rfl hne (hts _ hin9) ⟨hM4, hM5, hM6⟩ ⟨hfr, by show 8 + (4 + 11) + (64 * d + 20) ≤ R.locals; omega⟩, hts _ hst9, trivial⟩
    ⟨PB_blind, fun U hU hW => ⟨rfl, by rw [hU], by rw [hU]; exact hP, va_K.moved hW.alike hK, hD.weaken (fun _ _ _ _ => trivial), va_Nw.warmM hW hne⟩⟩ rfl (by simp [hn.1]) (hlh.1.trans hml) (by simp [F0, List.map_append, List.map_reverse]) (lv_room (st_room hst)) hdg ⟨by omega, by omega⟩) hS hF
    (fun r g H1 locs1 hq hP1 hD1 hS1 => ?_)
  have := kk r g hq H1 locs1 la cells slots hP1 hD1 hS1 hlh h1 h2
  rw [List.map_append] at this
  cases r <;> exact this
end VCALLS
end
