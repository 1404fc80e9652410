-- ===== PART A: goes FIRST, ahead of the names: the tables' words, and 'selects' of the private methods out of them =====
/-- a private method of a class that the tables say can be made, by its rows of tables_1 -/
def lw_okq (q : MethodName × Nat) : Prop := (q.1.cls ≠ "java/lang/invoke/MethodHandle" ∧ q.1.cls ≠ "java/lang/invoke/VarHandle") ∧ Cond.instantiable q.1.cls q.2 ∈ tables_1 ∧ Cond.privateMethod q.1 ∈ tables_1 ∧ Cond.instanceMethod q.1 ∈ tables_1
theorem lw_p0 : lw_okq (⟨"DreamShares$Pools", "enter", "(IIII)V"⟩, 2) := ⟨⟨by decide +kernel, by decide +kernel⟩, List.mem_of_getElem? (i := 61) (by decide +kernel), List.mem_of_getElem? (i := 69) (by decide +kernel), List.mem_of_getElem? (i := 70) (by decide +kernel)⟩
theorem lw_p1 : lw_okq (⟨"DreamShares", "textOf", "(I)LDreamShares$Text;"⟩, 18) := ⟨⟨by decide +kernel, by decide +kernel⟩, List.mem_of_getElem? (i := 15) (by decide +kernel), List.mem_of_getElem? (i := 256) (by decide +kernel), List.mem_of_getElem? (i := 257) (by decide +kernel)⟩
theorem lw_p2 : lw_okq (⟨"DreamShares", "parse", "(I)V"⟩, 18) := ⟨⟨by decide +kernel, by decide +kernel⟩, List.mem_of_getElem? (i := 15) (by decide +kernel), List.mem_of_getElem? (i := 264) (by decide +kernel), List.mem_of_getElem? (i := 265) (by decide +kernel)⟩
theorem lw_p3 : lw_okq (⟨"DreamShares$Kitchen", "goesOn", "(I)Z"⟩, 8) := ⟨⟨by decide +kernel, by decide +kernel⟩, List.mem_of_getElem? (i := 86) (by decide +kernel), List.mem_of_getElem? (i := 282) (by decide +kernel), List.mem_of_getElem? (i := 283) (by decide +kernel)⟩
theorem lw_p4 : lw_okq (⟨"DreamShares$Kitchen", "takeLetter", "(I)Z"⟩, 8) := ⟨⟨by decide +kernel, by decide +kernel⟩, List.mem_of_getElem? (i := 86) (by decide +kernel), List.mem_of_getElem? (i := 289) (by decide +kernel), List.mem_of_getElem? (i := 290) (by decide +kernel)⟩
theorem lw_p5 : lw_okq (⟨"DreamShares$Kitchen", "takePrice", "(I)Z"⟩, 8) := ⟨⟨by decide +kernel, by decide +kernel⟩, List.mem_of_getElem? (i := 86) (by decide +kernel), List.mem_of_getElem? (i := 294) (by decide +kernel), List.mem_of_getElem? (i := 295) (by decide +kernel)⟩
theorem lw_p6 : lw_okq (⟨"DreamShares$Kitchen", "fillMost", "()V"⟩, 8) := ⟨⟨by decide +kernel, by decide +kernel⟩, List.mem_of_getElem? (i := 86) (by decide +kernel), List.mem_of_getElem? (i := 298) (by decide +kernel), List.mem_of_getElem? (i := 299) (by decide +kernel)⟩
theorem lw_p7 : lw_okq (⟨"DreamShares$Kitchen", "withRecipe", "(II)I"⟩, 8) := ⟨⟨by decide +kernel, by decide +kernel⟩, List.mem_of_getElem? (i := 86) (by decide +kernel), List.mem_of_getElem? (i := 302) (by decide +kernel), List.mem_of_getElem? (i := 303) (by decide +kernel)⟩
theorem lw_p8 : lw_okq (⟨"DreamShares$Kitchen", "raise", "(II)V"⟩, 8) := ⟨⟨by decide +kernel, by decide +kernel⟩, List.mem_of_getElem? (i := 86) (by decide +kernel), List.mem_of_getElem? (i := 310) (by decide +kernel), List.mem_of_getElem? (i := 311) (by decide +kernel)⟩
theorem lw_p9 : lw_okq (⟨"DreamShares", "isThere", "(I)Z"⟩, 18) := ⟨⟨by decide +kernel, by decide +kernel⟩, List.mem_of_getElem? (i := 15) (by decide +kernel), List.mem_of_getElem? (i := 330) (by decide +kernel), List.mem_of_getElem? (i := 331) (by decide +kernel)⟩
theorem lw_p10 : lw_okq (⟨"DreamShares", "found", "(I)I"⟩, 18) := ⟨⟨by decide +kernel, by decide +kernel⟩, List.mem_of_getElem? (i := 15) (by decide +kernel), List.mem_of_getElem? (i := 377) (by decide +kernel), List.mem_of_getElem? (i := 378) (by decide +kernel)⟩
theorem lw_p11 : lw_okq (⟨"DreamShares", "findChance", "(II)V"⟩, 18) := ⟨⟨by decide +kernel, by decide +kernel⟩, List.mem_of_getElem? (i := 15) (by decide +kernel), List.mem_of_getElem? (i := 389) (by decide +kernel), List.mem_of_getElem? (i := 390) (by decide +kernel)⟩
theorem lw_p12 : lw_okq (⟨"DreamShares", "weight", "(III)I"⟩, 18) := ⟨⟨by decide +kernel, by decide +kernel⟩, List.mem_of_getElem? (i := 15) (by decide +kernel), List.mem_of_getElem? (i := 393) (by decide +kernel), List.mem_of_getElem? (i := 394) (by decide +kernel)⟩
theorem lw_p13 : lw_okq (⟨"DreamShares", "weights", "(II)I"⟩, 18) := ⟨⟨by decide +kernel, by decide +kernel⟩, List.mem_of_getElem? (i := 15) (by decide +kernel), List.mem_of_getElem? (i := 397) (by decide +kernel), List.mem_of_getElem? (i := 398) (by decide +kernel)⟩
theorem lw_p14 : lw_okq (⟨"DreamShares", "worthOf", "(I)I"⟩, 18) := ⟨⟨by decide +kernel, by decide +kernel⟩, List.mem_of_getElem? (i := 15) (by decide +kernel), List.mem_of_getElem? (i := 429) (by decide +kernel), List.mem_of_getElem? (i := 430) (by decide +kernel)⟩
theorem lw_p15 : lw_okq (⟨"DreamShares", "layDreams", "(IIII)V"⟩, 18) := ⟨⟨by decide +kernel, by decide +kernel⟩, List.mem_of_getElem? (i := 15) (by decide +kernel), List.mem_of_getElem? (i := 437) (by decide +kernel), List.mem_of_getElem? (i := 438) (by decide +kernel)⟩
def lw_privs_1 : List (MethodName × Nat) := [(⟨"DreamShares$Pools", "enter", "(IIII)V"⟩, 2), (⟨"DreamShares", "textOf", "(I)LDreamShares$Text;"⟩, 18), (⟨"DreamShares", "parse", "(I)V"⟩, 18), (⟨"DreamShares$Kitchen", "goesOn", "(I)Z"⟩, 8), (⟨"DreamShares$Kitchen", "takeLetter", "(I)Z"⟩, 8), (⟨"DreamShares$Kitchen", "takePrice", "(I)Z"⟩, 8), (⟨"DreamShares$Kitchen", "fillMost", "()V"⟩, 8), (⟨"DreamShares$Kitchen", "withRecipe", "(II)I"⟩, 8), (⟨"DreamShares$Kitchen", "raise", "(II)V"⟩, 8), (⟨"DreamShares", "isThere", "(I)Z"⟩, 18), (⟨"DreamShares", "found", "(I)I"⟩, 18), (⟨"DreamShares", "findChance", "(II)V"⟩, 18), (⟨"DreamShares", "weight", "(III)I"⟩, 18), (⟨"DreamShares", "weights", "(II)I"⟩, 18), (⟨"DreamShares", "worthOf", "(I)I"⟩, 18), (⟨"DreamShares", "layDreams", "(IIII)V"⟩, 18)]
theorem lw_r1 : ∀ q ∈ lw_privs_1, lw_okq q := List.forall_mem_cons.mpr ⟨lw_p0, List.forall_mem_cons.mpr ⟨lw_p1, List.forall_mem_cons.mpr ⟨lw_p2, List.forall_mem_cons.mpr ⟨lw_p3, List.forall_mem_cons.mpr ⟨lw_p4, List.forall_mem_cons.mpr ⟨lw_p5, List.forall_mem_cons.mpr ⟨lw_p6, List.forall_mem_cons.mpr ⟨lw_p7, List.forall_mem_cons.mpr ⟨lw_p8, List.forall_mem_cons.mpr ⟨lw_p9, List.forall_mem_cons.mpr ⟨lw_p10, List.forall_mem_cons.mpr ⟨lw_p11, List.forall_mem_cons.mpr ⟨lw_p12, List.forall_mem_cons.mpr ⟨lw_p13, List.forall_mem_cons.mpr ⟨lw_p14, List.forall_mem_cons.mpr ⟨lw_p15, fun _ h => absurd h List.not_mem_nil⟩⟩⟩⟩⟩⟩⟩⟩⟩⟩⟩⟩⟩⟩⟩⟩
theorem lw_p16 : lw_okq (⟨"DreamShares$Kitchen", "isMadeOnce", "([II)Z"⟩, 8) := ⟨⟨by decide +kernel, by decide +kernel⟩, List.mem_of_getElem? (i := 86) (by decide +kernel), List.mem_of_getElem? (i := 445) (by decide +kernel), List.mem_of_getElem? (i := 446) (by decide +kernel)⟩
theorem lw_p17 : lw_okq (⟨"DreamShares$Kitchen", "mostOf", "([I)I"⟩, 8) := ⟨⟨by decide +kernel, by decide +kernel⟩, List.mem_of_getElem? (i := 86) (by decide +kernel), List.mem_of_getElem? (i := 449) (by decide +kernel), List.mem_of_getElem? (i := 450) (by decide +kernel)⟩
theorem lw_p18 : lw_okq (⟨"DreamShares$Kitchen", "addRecipe", "([III)V"⟩, 8) := ⟨⟨by decide +kernel, by decide +kernel⟩, List.mem_of_getElem? (i := 86) (by decide +kernel), List.mem_of_getElem? (i := 454) (by decide +kernel), List.mem_of_getElem? (i := 455) (by decide +kernel)⟩
theorem lw_p19 : lw_okq (⟨"DreamShares", "findMean", "(I)V"⟩, 18) := ⟨⟨by decide +kernel, by decide +kernel⟩, List.mem_of_getElem? (i := 15) (by decide +kernel), List.mem_of_getElem? (i := 465) (by decide +kernel), List.mem_of_getElem? (i := 466) (by decide +kernel)⟩
theorem lw_p20 : lw_okq (⟨"DreamShares", "everybody", "()I"⟩, 18) := ⟨⟨by decide +kernel, by decide +kernel⟩, List.mem_of_getElem? (i := 15) (by decide +kernel), List.mem_of_getElem? (i := 469) (by decide +kernel), List.mem_of_getElem? (i := 470) (by decide +kernel)⟩
theorem lw_p21 : lw_okq (⟨"DreamShares", "meanTimesAllWeights", "(I)J"⟩, 18) := ⟨⟨by decide +kernel, by decide +kernel⟩, List.mem_of_getElem? (i := 15) (by decide +kernel), List.mem_of_getElem? (i := 473) (by decide +kernel), List.mem_of_getElem? (i := 474) (by decide +kernel)⟩
theorem lw_p22 : lw_okq (⟨"DreamShares", "foldWorth", "(II)V"⟩, 18) := ⟨⟨by decide +kernel, by decide +kernel⟩, List.mem_of_getElem? (i := 15) (by decide +kernel), List.mem_of_getElem? (i := 483) (by decide +kernel), List.mem_of_getElem? (i := 484) (by decide +kernel)⟩
theorem lw_p23 : lw_okq (⟨"DreamShares", "foldMembers", "(II[I)V"⟩, 18) := ⟨⟨by decide +kernel, by decide +kernel⟩, List.mem_of_getElem? (i := 15) (by decide +kernel), List.mem_of_getElem? (i := 488) (by decide +kernel), List.mem_of_getElem? (i := 489) (by decide +kernel)⟩
theorem lw_p24 : lw_okq (⟨"DreamShares", "productOfWeights", "(I[I)J"⟩, 18) := ⟨⟨by decide +kernel, by decide +kernel⟩, List.mem_of_getElem? (i := 15) (by decide +kernel), List.mem_of_getElem? (i := 496) (by decide +kernel), List.mem_of_getElem? (i := 497) (by decide +kernel)⟩
theorem lw_p25 : lw_okq (⟨"DreamShares", "fillMeans", "()V"⟩, 18) := ⟨⟨by decide +kernel, by decide +kernel⟩, List.mem_of_getElem? (i := 15) (by decide +kernel), List.mem_of_getElem? (i := 504) (by decide +kernel), List.mem_of_getElem? (i := 505) (by decide +kernel)⟩
theorem lw_p26 : lw_okq (⟨"DreamShares", "findShare", "(I)V"⟩, 18) := ⟨⟨by decide +kernel, by decide +kernel⟩, List.mem_of_getElem? (i := 15) (by decide +kernel), List.mem_of_getElem? (i := 508) (by decide +kernel), List.mem_of_getElem? (i := 509) (by decide +kernel)⟩
theorem lw_p27 : lw_okq (⟨"DreamShares", "leaversByMeans", "()I"⟩, 18) := ⟨⟨by decide +kernel, by decide +kernel⟩, List.mem_of_getElem? (i := 15) (by decide +kernel), List.mem_of_getElem? (i := 518) (by decide +kernel), List.mem_of_getElem? (i := 519) (by decide +kernel)⟩
theorem lw_p28 : lw_okq (⟨"DreamShares", "payOf", "(I)I"⟩, 18) := ⟨⟨by decide +kernel, by decide +kernel⟩, List.mem_of_getElem? (i := 15) (by decide +kernel), List.mem_of_getElem? (i := 522) (by decide +kernel), List.mem_of_getElem? (i := 523) (by decide +kernel)⟩
theorem lw_p29 : lw_okq (⟨"DreamShares", "findStrike", "(I)V"⟩, 18) := ⟨⟨by decide +kernel, by decide +kernel⟩, List.mem_of_getElem? (i := 15) (by decide +kernel), List.mem_of_getElem? (i := 530) (by decide +kernel), List.mem_of_getElem? (i := 531) (by decide +kernel)⟩
theorem lw_p30 : lw_okq (⟨"DreamShares", "aboveWithDish", "(II)J"⟩, 18) := ⟨⟨by decide +kernel, by decide +kernel⟩, List.mem_of_getElem? (i := 15) (by decide +kernel), List.mem_of_getElem? (i := 538) (by decide +kernel), List.mem_of_getElem? (i := 539) (by decide +kernel)⟩
theorem lw_p31 : lw_okq (⟨"DreamShares", "isMenuSize", "(I)Z"⟩, 18) := ⟨⟨by decide +kernel, by decide +kernel⟩, List.mem_of_getElem? (i := 15) (by decide +kernel), List.mem_of_getElem? (i := 547) (by decide +kernel), List.mem_of_getElem? (i := 548) (by decide +kernel)⟩
def lw_privs_2 : List (MethodName × Nat) := [(⟨"DreamShares$Kitchen", "isMadeOnce", "([II)Z"⟩, 8), (⟨"DreamShares$Kitchen", "mostOf", "([I)I"⟩, 8), (⟨"DreamShares$Kitchen", "addRecipe", "([III)V"⟩, 8), (⟨"DreamShares", "findMean", "(I)V"⟩, 18), (⟨"DreamShares", "everybody", "()I"⟩, 18), (⟨"DreamShares", "meanTimesAllWeights", "(I)J"⟩, 18), (⟨"DreamShares", "foldWorth", "(II)V"⟩, 18), (⟨"DreamShares", "foldMembers", "(II[I)V"⟩, 18), (⟨"DreamShares", "productOfWeights", "(I[I)J"⟩, 18), (⟨"DreamShares", "fillMeans", "()V"⟩, 18), (⟨"DreamShares", "findShare", "(I)V"⟩, 18), (⟨"DreamShares", "leaversByMeans", "()I"⟩, 18), (⟨"DreamShares", "payOf", "(I)I"⟩, 18), (⟨"DreamShares", "findStrike", "(I)V"⟩, 18), (⟨"DreamShares", "aboveWithDish", "(II)J"⟩, 18), (⟨"DreamShares", "isMenuSize", "(I)Z"⟩, 18)]
theorem lw_r2 : ∀ q ∈ lw_privs_2, lw_okq q := List.forall_mem_cons.mpr ⟨lw_p16, List.forall_mem_cons.mpr ⟨lw_p17, List.forall_mem_cons.mpr ⟨lw_p18, List.forall_mem_cons.mpr ⟨lw_p19, List.forall_mem_cons.mpr ⟨lw_p20, List.forall_mem_cons.mpr ⟨lw_p21, List.forall_mem_cons.mpr ⟨lw_p22, List.forall_mem_cons.mpr ⟨lw_p23, List.forall_mem_cons.mpr ⟨lw_p24, List.forall_mem_cons.mpr ⟨lw_p25, List.forall_mem_cons.mpr ⟨lw_p26, List.forall_mem_cons.mpr ⟨lw_p27, List.forall_mem_cons.mpr ⟨lw_p28, List.forall_mem_cons.mpr ⟨lw_p29, List.forall_mem_cons.mpr ⟨lw_p30, List.forall_mem_cons.mpr ⟨lw_p31, fun _ h => absurd h List.not_mem_nil⟩⟩⟩⟩⟩⟩⟩⟩⟩⟩⟩⟩⟩⟩⟩⟩
theorem lw_p32 : lw_okq (⟨"DreamShares", "bestMenu", "(I)I"⟩, 18) := ⟨⟨by decide +kernel, by decide +kernel⟩, List.mem_of_getElem? (i := 15) (by decide +kernel), List.mem_of_getElem? (i := 551) (by decide +kernel), List.mem_of_getElem? (i := 552) (by decide +kernel)⟩
theorem lw_p33 : lw_okq (⟨"DreamShares", "aboveWithMenu", "(II)J"⟩, 18) := ⟨⟨by decide +kernel, by decide +kernel⟩, List.mem_of_getElem? (i := 15) (by decide +kernel), List.mem_of_getElem? (i := 555) (by decide +kernel), List.mem_of_getElem? (i := 556) (by decide +kernel)⟩
theorem lw_p34 : lw_okq (⟨"DreamShares", "layTrial", "(II)V"⟩, 18) := ⟨⟨by decide +kernel, by decide +kernel⟩, List.mem_of_getElem? (i := 15) (by decide +kernel), List.mem_of_getElem? (i := 559) (by decide +kernel), List.mem_of_getElem? (i := 560) (by decide +kernel)⟩
theorem lw_p35 : lw_okq (⟨"DreamShares", "findMenuMean", "(I)V"⟩, 18) := ⟨⟨by decide +kernel, by decide +kernel⟩, List.mem_of_getElem? (i := 15) (by decide +kernel), List.mem_of_getElem? (i := 570) (by decide +kernel), List.mem_of_getElem? (i := 571) (by decide +kernel)⟩
theorem lw_p36 : lw_okq (⟨"DreamShares", "findDread", "(I)V"⟩, 18) := ⟨⟨by decide +kernel, by decide +kernel⟩, List.mem_of_getElem? (i := 15) (by decide +kernel), List.mem_of_getElem? (i := 578) (by decide +kernel), List.mem_of_getElem? (i := 579) (by decide +kernel)⟩
theorem lw_p37 : lw_okq (⟨"DreamShares", "foldWays", "(II)V"⟩, 18) := ⟨⟨by decide +kernel, by decide +kernel⟩, List.mem_of_getElem? (i := 15) (by decide +kernel), List.mem_of_getElem? (i := 590) (by decide +kernel), List.mem_of_getElem? (i := 591) (by decide +kernel)⟩
theorem lw_p38 : lw_okq (⟨"DreamShares", "foldGreatest", "()V"⟩, 18) := ⟨⟨by decide +kernel, by decide +kernel⟩, List.mem_of_getElem? (i := 15) (by decide +kernel), List.mem_of_getElem? (i := 602) (by decide +kernel), List.mem_of_getElem? (i := 603) (by decide +kernel)⟩
theorem lw_p39 : lw_okq (⟨"DreamShares", "kindOnGreatestRow", "(I)I"⟩, 18) := ⟨⟨by decide +kernel, by decide +kernel⟩, List.mem_of_getElem? (i := 15) (by decide +kernel), List.mem_of_getElem? (i := 613) (by decide +kernel), List.mem_of_getElem? (i := 614) (by decide +kernel)⟩
theorem lw_p40 : lw_okq (⟨"DreamShares", "isJustOneTooMany", "(I)Z"⟩, 18) := ⟨⟨by decide +kernel, by decide +kernel⟩, List.mem_of_getElem? (i := 15) (by decide +kernel), List.mem_of_getElem? (i := 621) (by decide +kernel), List.mem_of_getElem? (i := 622) (by decide +kernel)⟩
theorem lw_p41 : lw_okq (⟨"DreamShares", "worthOfNight", "()I"⟩, 18) := ⟨⟨by decide +kernel, by decide +kernel⟩, List.mem_of_getElem? (i := 15) (by decide +kernel), List.mem_of_getElem? (i := 629) (by decide +kernel), List.mem_of_getElem? (i := 630) (by decide +kernel)⟩
theorem lw_p42 : lw_okq (⟨"DreamShares", "kindByLot", "(I)I"⟩, 18) := ⟨⟨by decide +kernel, by decide +kernel⟩, List.mem_of_getElem? (i := 15) (by decide +kernel), List.mem_of_getElem? (i := 633) (by decide +kernel), List.mem_of_getElem? (i := 634) (by decide +kernel)⟩
theorem lw_p43 : lw_okq (⟨"DreamShares", "membersWithSupper", "()I"⟩, 18) := ⟨⟨by decide +kernel, by decide +kernel⟩, List.mem_of_getElem? (i := 15) (by decide +kernel), List.mem_of_getElem? (i := 693) (by decide +kernel), List.mem_of_getElem? (i := 694) (by decide +kernel)⟩
theorem lw_p44 : lw_okq (⟨"DreamShares", "mixMember", "(JI)J"⟩, 18) := ⟨⟨by decide +kernel, by decide +kernel⟩, List.mem_of_getElem? (i := 15) (by decide +kernel), List.mem_of_getElem? (i := 708) (by decide +kernel), List.mem_of_getElem? (i := 709) (by decide +kernel)⟩
theorem lw_p45 : lw_okq (⟨"DreamShares", "mixFraction", "(J)J"⟩, 18) := ⟨⟨by decide +kernel, by decide +kernel⟩, List.mem_of_getElem? (i := 15) (by decide +kernel), List.mem_of_getElem? (i := 713) (by decide +kernel), List.mem_of_getElem? (i := 714) (by decide +kernel)⟩
theorem lw_p46 : lw_okq (⟨"DreamShares", "mixRecipe", "(JI)J"⟩, 18) := ⟨⟨by decide +kernel, by decide +kernel⟩, List.mem_of_getElem? (i := 15) (by decide +kernel), List.mem_of_getElem? (i := 719) (by decide +kernel), List.mem_of_getElem? (i := 720) (by decide +kernel)⟩
theorem lw_p47 : lw_okq (⟨"DreamSharesModel", "faultOf", "(I)I"⟩, 31) := ⟨⟨by decide +kernel, by decide +kernel⟩, List.mem_of_getElem? (i := 731) (by decide +kernel), List.mem_of_getElem? (i := 854) (by decide +kernel), List.mem_of_getElem? (i := 855) (by decide +kernel)⟩
def lw_privs_3 : List (MethodName × Nat) := [(⟨"DreamShares", "bestMenu", "(I)I"⟩, 18), (⟨"DreamShares", "aboveWithMenu", "(II)J"⟩, 18), (⟨"DreamShares", "layTrial", "(II)V"⟩, 18), (⟨"DreamShares", "findMenuMean", "(I)V"⟩, 18), (⟨"DreamShares", "findDread", "(I)V"⟩, 18), (⟨"DreamShares", "foldWays", "(II)V"⟩, 18), (⟨"DreamShares", "foldGreatest", "()V"⟩, 18), (⟨"DreamShares", "kindOnGreatestRow", "(I)I"⟩, 18), (⟨"DreamShares", "isJustOneTooMany", "(I)Z"⟩, 18), (⟨"DreamShares", "worthOfNight", "()I"⟩, 18), (⟨"DreamShares", "kindByLot", "(I)I"⟩, 18), (⟨"DreamShares", "membersWithSupper", "()I"⟩, 18), (⟨"DreamShares", "mixMember", "(JI)J"⟩, 18), (⟨"DreamShares", "mixFraction", "(J)J"⟩, 18), (⟨"DreamShares", "mixRecipe", "(JI)J"⟩, 18), (⟨"DreamSharesModel", "faultOf", "(I)I"⟩, 31)]
theorem lw_r3 : ∀ q ∈ lw_privs_3, lw_okq q := List.forall_mem_cons.mpr ⟨lw_p32, List.forall_mem_cons.mpr ⟨lw_p33, List.forall_mem_cons.mpr ⟨lw_p34, List.forall_mem_cons.mpr ⟨lw_p35, List.forall_mem_cons.mpr ⟨lw_p36, List.forall_mem_cons.mpr ⟨lw_p37, List.forall_mem_cons.mpr ⟨lw_p38, List.forall_mem_cons.mpr ⟨lw_p39, List.forall_mem_cons.mpr ⟨lw_p40, List.forall_mem_cons.mpr ⟨lw_p41, List.forall_mem_cons.mpr ⟨lw_p42, List.forall_mem_cons.mpr ⟨lw_p43, List.forall_mem_cons.mpr ⟨lw_p44, List.forall_mem_cons.mpr ⟨lw_p45, List.forall_mem_cons.mpr ⟨lw_p46, List.forall_mem_cons.mpr ⟨lw_p47, fun _ h => absurd h List.not_mem_nil⟩⟩⟩⟩⟩⟩⟩⟩⟩⟩⟩⟩⟩⟩⟩⟩
theorem lw_p48 : lw_okq (⟨"DreamSharesModel", "readsText", "(I)I"⟩, 31) := ⟨⟨by decide +kernel, by decide +kernel⟩, List.mem_of_getElem? (i := 731) (by decide +kernel), List.mem_of_getElem? (i := 858) (by decide +kernel), List.mem_of_getElem? (i := 859) (by decide +kernel)⟩
theorem lw_p49 : lw_okq (⟨"DreamSharesModel", "readsMember", "(II)I"⟩, 31) := ⟨⟨by decide +kernel, by decide +kernel⟩, List.mem_of_getElem? (i := 731) (by decide +kernel), List.mem_of_getElem? (i := 862) (by decide +kernel), List.mem_of_getElem? (i := 863) (by decide +kernel)⟩
theorem lw_p50 : lw_okq (⟨"DreamSharesModel", "figureAt", "(II)I"⟩, 31) := ⟨⟨by decide +kernel, by decide +kernel⟩, List.mem_of_getElem? (i := 731) (by decide +kernel), List.mem_of_getElem? (i := 866) (by decide +kernel), List.mem_of_getElem? (i := 867) (by decide +kernel)⟩
theorem lw_p51 : lw_okq (⟨"DreamSharesModel", "byteAt", "(II)I"⟩, 31) := ⟨⟨by decide +kernel, by decide +kernel⟩, List.mem_of_getElem? (i := 731) (by decide +kernel), List.mem_of_getElem? (i := 870) (by decide +kernel), List.mem_of_getElem? (i := 871) (by decide +kernel)⟩
theorem lw_p52 : lw_okq (⟨"DreamSharesModel", "readsRecipe", "(II)I"⟩, 31) := ⟨⟨by decide +kernel, by decide +kernel⟩, List.mem_of_getElem? (i := 731) (by decide +kernel), List.mem_of_getElem? (i := 874) (by decide +kernel), List.mem_of_getElem? (i := 875) (by decide +kernel)⟩
theorem lw_p53 : lw_okq (⟨"DreamSharesModel", "kindAt", "(I)I"⟩, 31) := ⟨⟨by decide +kernel, by decide +kernel⟩, List.mem_of_getElem? (i := 731) (by decide +kernel), List.mem_of_getElem? (i := 878) (by decide +kernel), List.mem_of_getElem? (i := 879) (by decide +kernel)⟩
theorem lw_p54 : lw_okq (⟨"DreamSharesModel", "isMember", "(I)Z"⟩, 31) := ⟨⟨by decide +kernel, by decide +kernel⟩, List.mem_of_getElem? (i := 731) (by decide +kernel), List.mem_of_getElem? (i := 886) (by decide +kernel), List.mem_of_getElem? (i := 887) (by decide +kernel)⟩
theorem lw_p55 : lw_okq (⟨"DreamSharesModel", "reads", "()V"⟩, 31) := ⟨⟨by decide +kernel, by decide +kernel⟩, List.mem_of_getElem? (i := 731) (by decide +kernel), List.mem_of_getElem? (i := 890) (by decide +kernel), List.mem_of_getElem? (i := 891) (by decide +kernel)⟩
theorem lw_p56 : lw_okq (⟨"DreamSharesModel", "isRecipe", "(I)Z"⟩, 31) := ⟨⟨by decide +kernel, by decide +kernel⟩, List.mem_of_getElem? (i := 731) (by decide +kernel), List.mem_of_getElem? (i := 898) (by decide +kernel), List.mem_of_getElem? (i := 899) (by decide +kernel)⟩
theorem lw_p57 : lw_okq (⟨"DreamSharesModel", "recipeOf", "(II)I"⟩, 31) := ⟨⟨by decide +kernel, by decide +kernel⟩, List.mem_of_getElem? (i := 731) (by decide +kernel), List.mem_of_getElem? (i := 902) (by decide +kernel), List.mem_of_getElem? (i := 903) (by decide +kernel)⟩
theorem lw_p58 : lw_okq (⟨"DreamSharesModel", "meets", "(I)I"⟩, 31) := ⟨⟨by decide +kernel, by decide +kernel⟩, List.mem_of_getElem? (i := 731) (by decide +kernel), List.mem_of_getElem? (i := 932) (by decide +kernel), List.mem_of_getElem? (i := 933) (by decide +kernel)⟩
theorem lw_p59 : lw_okq (⟨"DreamSharesModel", "worthOf", "(I)I"⟩, 31) := ⟨⟨by decide +kernel, by decide +kernel⟩, List.mem_of_getElem? (i := 731) (by decide +kernel), List.mem_of_getElem? (i := 946) (by decide +kernel), List.mem_of_getElem? (i := 947) (by decide +kernel)⟩
theorem lw_p60 : lw_okq (⟨"DreamSharesModel", "laysBests", "()V"⟩, 31) := ⟨⟨by decide +kernel, by decide +kernel⟩, List.mem_of_getElem? (i := 731) (by decide +kernel), List.mem_of_getElem? (i := 950) (by decide +kernel), List.mem_of_getElem? (i := 951) (by decide +kernel)⟩
theorem lw_p61 : lw_okq (⟨"DreamSharesModel", "leaves", "(II)I"⟩, 31) := ⟨⟨by decide +kernel, by decide +kernel⟩, List.mem_of_getElem? (i := 731) (by decide +kernel), List.mem_of_getElem? (i := 954) (by decide +kernel), List.mem_of_getElem? (i := 955) (by decide +kernel)⟩
theorem lw_p62 : lw_okq (⟨"DreamSharesModel", "worthBy", "(I)I"⟩, 31) := ⟨⟨by decide +kernel, by decide +kernel⟩, List.mem_of_getElem? (i := 731) (by decide +kernel), List.mem_of_getElem? (i := 964) (by decide +kernel), List.mem_of_getElem? (i := 965) (by decide +kernel)⟩
theorem lw_p63 : lw_okq (⟨"DreamSharesModel", "madeOf", "(II)I"⟩, 31) := ⟨⟨by decide +kernel, by decide +kernel⟩, List.mem_of_getElem? (i := 731) (by decide +kernel), List.mem_of_getElem? (i := 972) (by decide +kernel), List.mem_of_getElem? (i := 973) (by decide +kernel)⟩
def lw_privs_4 : List (MethodName × Nat) := [(⟨"DreamSharesModel", "readsText", "(I)I"⟩, 31), (⟨"DreamSharesModel", "readsMember", "(II)I"⟩, 31), (⟨"DreamSharesModel", "figureAt", "(II)I"⟩, 31), (⟨"DreamSharesModel", "byteAt", "(II)I"⟩, 31), (⟨"DreamSharesModel", "readsRecipe", "(II)I"⟩, 31), (⟨"DreamSharesModel", "kindAt", "(I)I"⟩, 31), (⟨"DreamSharesModel", "isMember", "(I)Z"⟩, 31), (⟨"DreamSharesModel", "reads", "()V"⟩, 31), (⟨"DreamSharesModel", "isRecipe", "(I)Z"⟩, 31), (⟨"DreamSharesModel", "recipeOf", "(II)I"⟩, 31), (⟨"DreamSharesModel", "meets", "(I)I"⟩, 31), (⟨"DreamSharesModel", "worthOf", "(I)I"⟩, 31), (⟨"DreamSharesModel", "laysBests", "()V"⟩, 31), (⟨"DreamSharesModel", "leaves", "(II)I"⟩, 31), (⟨"DreamSharesModel", "worthBy", "(I)I"⟩, 31), (⟨"DreamSharesModel", "madeOf", "(II)I"⟩, 31)]
theorem lw_r4 : ∀ q ∈ lw_privs_4, lw_okq q := List.forall_mem_cons.mpr ⟨lw_p48, List.forall_mem_cons.mpr ⟨lw_p49, List.forall_mem_cons.mpr ⟨lw_p50, List.forall_mem_cons.mpr ⟨lw_p51, List.forall_mem_cons.mpr ⟨lw_p52, List.forall_mem_cons.mpr ⟨lw_p53, List.forall_mem_cons.mpr ⟨lw_p54, List.forall_mem_cons.mpr ⟨lw_p55, List.forall_mem_cons.mpr ⟨lw_p56, List.forall_mem_cons.mpr ⟨lw_p57, List.forall_mem_cons.mpr ⟨lw_p58, List.forall_mem_cons.mpr ⟨lw_p59, List.forall_mem_cons.mpr ⟨lw_p60, List.forall_mem_cons.mpr ⟨lw_p61, List.forall_mem_cons.mpr ⟨lw_p62, List.forall_mem_cons.mpr ⟨lw_p63, fun _ h => absurd h List.not_mem_nil⟩⟩⟩⟩⟩⟩⟩⟩⟩⟩⟩⟩⟩⟩⟩⟩
theorem lw_p64 : lw_okq (⟨"DreamSharesModel", "weight", "(II)I"⟩, 31) := ⟨⟨by decide +kernel, by decide +kernel⟩, List.mem_of_getElem? (i := 731) (by decide +kernel), List.mem_of_getElem? (i := 980) (by decide +kernel), List.mem_of_getElem? (i := 981) (by decide +kernel)⟩
theorem lw_p65 : lw_okq (⟨"DreamSharesModel", "weightAll", "(I)I"⟩, 31) := ⟨⟨by decide +kernel, by decide +kernel⟩, List.mem_of_getElem? (i := 731) (by decide +kernel), List.mem_of_getElem? (i := 984) (by decide +kernel), List.mem_of_getElem? (i := 985) (by decide +kernel)⟩
theorem lw_p66 : lw_okq (⟨"DreamSharesModel", "meanOf", "(II)J"⟩, 31) := ⟨⟨by decide +kernel, by decide +kernel⟩, List.mem_of_getElem? (i := 731) (by decide +kernel), List.mem_of_getElem? (i := 999) (by decide +kernel), List.mem_of_getElem? (i := 1000) (by decide +kernel)⟩
theorem lw_p67 : lw_okq (⟨"DreamSharesModel", "meanBy", "(I)J"⟩, 31) := ⟨⟨by decide +kernel, by decide +kernel⟩, List.mem_of_getElem? (i := 731) (by decide +kernel), List.mem_of_getElem? (i := 1003) (by decide +kernel), List.mem_of_getElem? (i := 1004) (by decide +kernel)⟩
theorem lw_p68 : lw_okq (⟨"DreamSharesModel", "dreams", "(I)V"⟩, 31) := ⟨⟨by decide +kernel, by decide +kernel⟩, List.mem_of_getElem? (i := 731) (by decide +kernel), List.mem_of_getElem? (i := 1010) (by decide +kernel), List.mem_of_getElem? (i := 1011) (by decide +kernel)⟩
theorem lw_p69 : lw_okq (⟨"DreamSharesModel", "belowOf", "(I)J"⟩, 31) := ⟨⟨by decide +kernel, by decide +kernel⟩, List.mem_of_getElem? (i := 731) (by decide +kernel), List.mem_of_getElem? (i := 1014) (by decide +kernel), List.mem_of_getElem? (i := 1015) (by decide +kernel)⟩
theorem lw_p70 : lw_okq (⟨"DreamSharesModel", "shareOf", "(II)J"⟩, 31) := ⟨⟨by decide +kernel, by decide +kernel⟩, List.mem_of_getElem? (i := 731) (by decide +kernel), List.mem_of_getElem? (i := 1022) (by decide +kernel), List.mem_of_getElem? (i := 1023) (by decide +kernel)⟩
theorem lw_p71 : lw_okq (⟨"DreamSharesModel", "laysMeans", "()V"⟩, 31) := ⟨⟨by decide +kernel, by decide +kernel⟩, List.mem_of_getElem? (i := 731) (by decide +kernel), List.mem_of_getElem? (i := 1026) (by decide +kernel), List.mem_of_getElem? (i := 1027) (by decide +kernel)⟩
theorem lw_p72 : lw_okq (⟨"DreamSharesModel", "leaveNow", "()I"⟩, 31) := ⟨⟨by decide +kernel, by decide +kernel⟩, List.mem_of_getElem? (i := 731) (by decide +kernel), List.mem_of_getElem? (i := 1040) (by decide +kernel), List.mem_of_getElem? (i := 1041) (by decide +kernel)⟩
theorem lw_p73 : lw_okq (⟨"DreamSharesModel", "strikeOf", "(II)J"⟩, 31) := ⟨⟨by decide +kernel, by decide +kernel⟩, List.mem_of_getElem? (i := 731) (by decide +kernel), List.mem_of_getElem? (i := 1048) (by decide +kernel), List.mem_of_getElem? (i := 1049) (by decide +kernel)⟩
theorem lw_p74 : lw_okq (⟨"DreamSharesModel", "bestOf", "(I)I"⟩, 31) := ⟨⟨by decide +kernel, by decide +kernel⟩, List.mem_of_getElem? (i := 731) (by decide +kernel), List.mem_of_getElem? (i := 1056) (by decide +kernel), List.mem_of_getElem? (i := 1057) (by decide +kernel)⟩
theorem lw_p75 : lw_okq (⟨"DreamSharesModel", "isMenu", "(I)Z"⟩, 31) := ⟨⟨by decide +kernel, by decide +kernel⟩, List.mem_of_getElem? (i := 731) (by decide +kernel), List.mem_of_getElem? (i := 1064) (by decide +kernel), List.mem_of_getElem? (i := 1065) (by decide +kernel)⟩
theorem lw_p76 : lw_okq (⟨"DreamSharesModel", "menuOf", "(II)I"⟩, 31) := ⟨⟨by decide +kernel, by decide +kernel⟩, List.mem_of_getElem? (i := 731) (by decide +kernel), List.mem_of_getElem? (i := 1068) (by decide +kernel), List.mem_of_getElem? (i := 1069) (by decide +kernel)⟩
theorem lw_p77 : lw_okq (⟨"DreamSharesModel", "menus", "(I)V"⟩, 31) := ⟨⟨by decide +kernel, by decide +kernel⟩, List.mem_of_getElem? (i := 731) (by decide +kernel), List.mem_of_getElem? (i := 1072) (by decide +kernel), List.mem_of_getElem? (i := 1073) (by decide +kernel)⟩
theorem lw_p78 : lw_okq (⟨"DreamSharesModel", "menuMeanOf", "(II)J"⟩, 31) := ⟨⟨by decide +kernel, by decide +kernel⟩, List.mem_of_getElem? (i := 731) (by decide +kernel), List.mem_of_getElem? (i := 1080) (by decide +kernel), List.mem_of_getElem? (i := 1081) (by decide +kernel)⟩
theorem lw_p79 : lw_okq (⟨"DreamSharesModel", "dreadOf", "(II)J"⟩, 31) := ⟨⟨by decide +kernel, by decide +kernel⟩, List.mem_of_getElem? (i := 731) (by decide +kernel), List.mem_of_getElem? (i := 1088) (by decide +kernel), List.mem_of_getElem? (i := 1089) (by decide +kernel)⟩
def lw_privs_5 : List (MethodName × Nat) := [(⟨"DreamSharesModel", "weight", "(II)I"⟩, 31), (⟨"DreamSharesModel", "weightAll", "(I)I"⟩, 31), (⟨"DreamSharesModel", "meanOf", "(II)J"⟩, 31), (⟨"DreamSharesModel", "meanBy", "(I)J"⟩, 31), (⟨"DreamSharesModel", "dreams", "(I)V"⟩, 31), (⟨"DreamSharesModel", "belowOf", "(I)J"⟩, 31), (⟨"DreamSharesModel", "shareOf", "(II)J"⟩, 31), (⟨"DreamSharesModel", "laysMeans", "()V"⟩, 31), (⟨"DreamSharesModel", "leaveNow", "()I"⟩, 31), (⟨"DreamSharesModel", "strikeOf", "(II)J"⟩, 31), (⟨"DreamSharesModel", "bestOf", "(I)I"⟩, 31), (⟨"DreamSharesModel", "isMenu", "(I)Z"⟩, 31), (⟨"DreamSharesModel", "menuOf", "(II)I"⟩, 31), (⟨"DreamSharesModel", "menus", "(I)V"⟩, 31), (⟨"DreamSharesModel", "menuMeanOf", "(II)J"⟩, 31), (⟨"DreamSharesModel", "dreadOf", "(II)J"⟩, 31)]
theorem lw_r5 : ∀ q ∈ lw_privs_5, lw_okq q := List.forall_mem_cons.mpr ⟨lw_p64, List.forall_mem_cons.mpr ⟨lw_p65, List.forall_mem_cons.mpr ⟨lw_p66, List.forall_mem_cons.mpr ⟨lw_p67, List.forall_mem_cons.mpr ⟨lw_p68, List.forall_mem_cons.mpr ⟨lw_p69, List.forall_mem_cons.mpr ⟨lw_p70, List.forall_mem_cons.mpr ⟨lw_p71, List.forall_mem_cons.mpr ⟨lw_p72, List.forall_mem_cons.mpr ⟨lw_p73, List.forall_mem_cons.mpr ⟨lw_p74, List.forall_mem_cons.mpr ⟨lw_p75, List.forall_mem_cons.mpr ⟨lw_p76, List.forall_mem_cons.mpr ⟨lw_p77, List.forall_mem_cons.mpr ⟨lw_p78, List.forall_mem_cons.mpr ⟨lw_p79, fun _ h => absurd h List.not_mem_nil⟩⟩⟩⟩⟩⟩⟩⟩⟩⟩⟩⟩⟩⟩⟩⟩
theorem lw_p80 : lw_okq (⟨"DreamSharesModel", "rowsOf", "(I)I"⟩, 31) := ⟨⟨by decide +kernel, by decide +kernel⟩, List.mem_of_getElem? (i := 731) (by decide +kernel), List.mem_of_getElem? (i := 1096) (by decide +kernel), List.mem_of_getElem? (i := 1097) (by decide +kernel)⟩
theorem lw_p81 : lw_okq (⟨"DreamSharesModel", "findsRows", "(II)V"⟩, 31) := ⟨⟨by decide +kernel, by decide +kernel⟩, List.mem_of_getElem? (i := 731) (by decide +kernel), List.mem_of_getElem? (i := 1100) (by decide +kernel), List.mem_of_getElem? (i := 1101) (by decide +kernel)⟩
theorem lw_p82 : lw_okq (⟨"DreamSharesModel", "mayOf", "(II)I"⟩, 31) := ⟨⟨by decide +kernel, by decide +kernel⟩, List.mem_of_getElem? (i := 731) (by decide +kernel), List.mem_of_getElem? (i := 1108) (by decide +kernel), List.mem_of_getElem? (i := 1109) (by decide +kernel)⟩
theorem lw_p83 : lw_okq (⟨"DreamSharesModel", "likeliestOf", "(II)I"⟩, 31) := ⟨⟨by decide +kernel, by decide +kernel⟩, List.mem_of_getElem? (i := 731) (by decide +kernel), List.mem_of_getElem? (i := 1116) (by decide +kernel), List.mem_of_getElem? (i := 1117) (by decide +kernel)⟩
theorem lw_p84 : lw_okq (⟨"DreamSharesModel", "keptOf", "(I)I"⟩, 31) := ⟨⟨by decide +kernel, by decide +kernel⟩, List.mem_of_getElem? (i := 731) (by decide +kernel), List.mem_of_getElem? (i := 1124) (by decide +kernel), List.mem_of_getElem? (i := 1125) (by decide +kernel)⟩
theorem lw_p85 : lw_okq (⟨"DreamSharesModel", "weekOf", "(III)I"⟩, 31) := ⟨⟨by decide +kernel, by decide +kernel⟩, List.mem_of_getElem? (i := 731) (by decide +kernel), List.mem_of_getElem? (i := 1132) (by decide +kernel), List.mem_of_getElem? (i := 1133) (by decide +kernel)⟩
theorem lw_p86 : lw_okq (⟨"DreamSharesModel", "nightWorth", "()I"⟩, 31) := ⟨⟨by decide +kernel, by decide +kernel⟩, List.mem_of_getElem? (i := 731) (by decide +kernel), List.mem_of_getElem? (i := 1136) (by decide +kernel), List.mem_of_getElem? (i := 1137) (by decide +kernel)⟩
theorem lw_p87 : lw_okq (⟨"DreamSharesModel", "lacks", "(III)I"⟩, 31) := ⟨⟨by decide +kernel, by decide +kernel⟩, List.mem_of_getElem? (i := 731) (by decide +kernel), List.mem_of_getElem? (i := 1153) (by decide +kernel), List.mem_of_getElem? (i := 1154) (by decide +kernel)⟩
theorem lw_p88 : lw_okq (⟨"DreamSharesModel", "keep", "(III)V"⟩, 31) := ⟨⟨by decide +kernel, by decide +kernel⟩, List.mem_of_getElem? (i := 731) (by decide +kernel), List.mem_of_getElem? (i := 1157) (by decide +kernel), List.mem_of_getElem? (i := 1158) (by decide +kernel)⟩
theorem lw_p89 : lw_okq (⟨"DreamSharesModel", "sumOf", "(I)I"⟩, 31) := ⟨⟨by decide +kernel, by decide +kernel⟩, List.mem_of_getElem? (i := 731) (by decide +kernel), List.mem_of_getElem? (i := 1178) (by decide +kernel), List.mem_of_getElem? (i := 1179) (by decide +kernel)⟩
theorem lw_p90 : lw_okq (⟨"DreamSharesModel", "memberDigest", "(JI)J"⟩, 31) := ⟨⟨by decide +kernel, by decide +kernel⟩, List.mem_of_getElem? (i := 731) (by decide +kernel), List.mem_of_getElem? (i := 1189) (by decide +kernel), List.mem_of_getElem? (i := 1190) (by decide +kernel)⟩
def lw_privs_6 : List (MethodName × Nat) := [(⟨"DreamSharesModel", "rowsOf", "(I)I"⟩, 31), (⟨"DreamSharesModel", "findsRows", "(II)V"⟩, 31), (⟨"DreamSharesModel", "mayOf", "(II)I"⟩, 31), (⟨"DreamSharesModel", "likeliestOf", "(II)I"⟩, 31), (⟨"DreamSharesModel", "keptOf", "(I)I"⟩, 31), (⟨"DreamSharesModel", "weekOf", "(III)I"⟩, 31), (⟨"DreamSharesModel", "nightWorth", "()I"⟩, 31), (⟨"DreamSharesModel", "lacks", "(III)I"⟩, 31), (⟨"DreamSharesModel", "keep", "(III)V"⟩, 31), (⟨"DreamSharesModel", "sumOf", "(I)I"⟩, 31), (⟨"DreamSharesModel", "memberDigest", "(JI)J"⟩, 31)]
theorem lw_r6 : ∀ q ∈ lw_privs_6, lw_okq q := List.forall_mem_cons.mpr ⟨lw_p80, List.forall_mem_cons.mpr ⟨lw_p81, List.forall_mem_cons.mpr ⟨lw_p82, List.forall_mem_cons.mpr ⟨lw_p83, List.forall_mem_cons.mpr ⟨lw_p84, List.forall_mem_cons.mpr ⟨lw_p85, List.forall_mem_cons.mpr ⟨lw_p86, List.forall_mem_cons.mpr ⟨lw_p87, List.forall_mem_cons.mpr ⟨lw_p88, List.forall_mem_cons.mpr ⟨lw_p89, List.forall_mem_cons.mpr ⟨lw_p90, fun _ h => absurd h List.not_mem_nil⟩⟩⟩⟩⟩⟩⟩⟩⟩⟩⟩
def lw_privs : List (MethodName × Nat) := lw_privs_1 ++ (lw_privs_2 ++ (lw_privs_3 ++ (lw_privs_4 ++ (lw_privs_5 ++ (lw_privs_6)))))
def lw_tbl : List Cond := k2_sels lw_privs ++ tables_1
theorem lw_privs_ok : ∀ q ∈ lw_privs, lw_okq q := by
  show ∀ q ∈ lw_privs_1 ++ (lw_privs_2 ++ (lw_privs_3 ++ (lw_privs_4 ++ (lw_privs_5 ++ (lw_privs_6))))), lw_okq q
  exact List.forall_mem_append.mpr ⟨lw_r1, List.forall_mem_append.mpr ⟨lw_r2, List.forall_mem_append.mpr ⟨lw_r3, List.forall_mem_append.mpr ⟨lw_r4, List.forall_mem_append.mpr ⟨lw_r5, lw_r6⟩⟩⟩⟩⟩
/-! ===== BEGIN words of one list among another's, by their places ===== -/
theorem goodIn_r {big : List Cond} (ws : List Cond) (ps : List Nat) (hp : ws = ps.filterMap (fun i => big[i]?)) (h : ws.all goodWord = true) : GoodIn big ws := by
  intro w hw
  have h1 := List.all_eq_true.mp h w hw
  rw [hp] at hw
  obtain ⟨i, -, hi⟩ := List.mem_filterMap.mp hw
  have hm : w ∈ big := by first | exact List.mem_of_getElem? hi | exact List.getElem?_mem hi
  exact ⟨hm, good_of_word h1⟩
theorem goodIn_app {big a b : List Cond} (ha : GoodIn big a) (hb : GoodIn big b) : GoodIn big (a ++ b) := fun w h => (List.mem_append.mp h).elim (ha w) (hb w)
theorem goodIn_ca {big a b : List Cond} {c : Cond} (ha : GoodIn big (c :: a)) (hb : GoodIn big b) : GoodIn big (c :: (a ++ b)) := fun w h => (List.mem_cons.mp h).elim (fun e => ha w (List.mem_cons.mpr (Or.inl e))) (fun h => (List.mem_append.mp h).elim (fun h => ha w (List.mem_cons.mpr (Or.inr h))) (hb w))
theorem goodIn_sub {big ws : List Cond} (hm : ∀ w ∈ ws, w ∈ big) (h : ws.all goodWord = true) : GoodIn big ws := fun w hw => ⟨hm w hw, good_of_word (List.all_eq_true.mp h w hw)⟩
/-! ===== END ===== -/

/-! ===== BEGIN printed: names, fields, word lists, decode rows ===== -/
def RX0 : String := "DreamShares$Fold"
def TX0 : u_T := fun k => match k with
  | 0 => ("DreamShares$Fold", "values", "[J", true)
  | 1 => ("DreamShares$Fold", "odds", "[I", true)
  | _ => ("DreamShares$Fold", "pools", "LDreamShares$Pools;", true)
def tyX0 : Nat → FieldType := fun k => match k with
  | 0 => .array .long
  | 1 => .array .int
  | _ => .object "DreamShares$Pools"
abbrev wsX00 : List Cond := u_ws RX0 TX0 3
theorem nmX0 : ∀ a, a < 3 → ∀ b, b < 3 → a ≠ b → (TX0 a).2.1 ≠ (TX0 b).2.1 := by decide +kernel
theorem tyX0_ok : ∀ k, k < 3 → parseFieldDescriptor (TX0 k).2.2.1 = some (tyX0 k) := by decide +kernel
abbrev cX0_init : ByteArray := prog_2_method_1_code
def yX0_init : MethodName := ⟨RX0, "<init>", "(LDreamShares$Pools;)V"⟩
abbrev cX0_layOne : ByteArray := prog_2_method_2_code
def yX0_layOne : MethodName := ⟨RX0, "layOne", "(II)V"⟩
abbrev cX0_sumAt : ByteArray := prog_2_method_3_code
def yX0_sumAt : MethodName := ⟨RX0, "sumAt", "(I)V"⟩
abbrev cX0_greatestAt : ByteArray := prog_2_method_4_code
def yX0_greatestAt : MethodName := ⟨RX0, "greatestAt", "(I)V"⟩
def RX1 : String := "DreamShares$Fraction"
def TX1 : u_T := fun k => match k with
  | 0 => ("DreamShares$Fraction", "above", "J", false)
  | _ => ("DreamShares$Fraction", "below", "J", false)
def tyX1 : Nat → FieldType := fun k => match k with
  | 0 => .long
  | _ => .long
abbrev wsX10 : List Cond := u_ws RX1 TX1 2
theorem nmX1 : ∀ a, a < 2 → ∀ b, b < 2 → a ≠ b → (TX1 a).2.1 ≠ (TX1 b).2.1 := by decide +kernel
theorem tyX1_ok : ∀ k, k < 2 → parseFieldDescriptor (TX1 k).2.2.1 = some (tyX1 k) := by decide +kernel
abbrev cX1_init : ByteArray := prog_3_method_1_code
def yX1_init : MethodName := ⟨RX1, "<init>", "()V"⟩
abbrev cX1_become : ByteArray := prog_3_method_2_code
def yX1_become : MethodName := ⟨RX1, "become", "(JJ)V"⟩
abbrev cX1_commonDivisor : ByteArray := prog_3_method_3_code
def yX1_commonDivisor : MethodName := ⟨RX1, "commonDivisor", "(JJ)J"⟩
abbrev cX1_part : ByteArray := prog_3_method_4_code
def yX1_part : MethodName := ⟨RX1, "part", "(I)J"⟩
def RX2 : String := "DreamShares$Kitchen"
def TX2 : u_T := fun k => match k with
  | 0 => ("DreamShares$Kitchen", "first", "[I", true)
  | 1 => ("DreamShares$Kitchen", "second", "[I", true)
  | 2 => ("DreamShares$Kitchen", "price", "[I", true)
  | 3 => ("DreamShares$Kitchen", "number", "I", false)
  | 4 => ("DreamShares$Kitchen", "faultPlace", "I", false)
  | 5 => ("DreamShares$Kitchen", "most", "[I", true)
  | 6 => ("DreamShares$Kitchen", "pools", "LDreamShares$Pools;", true)
  | _ => ("DreamShares$Kitchen", "state", "I", false)
def tyX2 : Nat → FieldType := fun k => match k with
  | 0 => .array .int
  | 1 => .array .int
  | 2 => .array .int
  | 3 => .int
  | 4 => .int
  | 5 => .array .int
  | 6 => .object "DreamShares$Pools"
  | _ => .int
abbrev wsX20 : List Cond := u_ws RX2 TX2 8
theorem nmX2 : ∀ a, a < 8 → ∀ b, b < 8 → a ≠ b → (TX2 a).2.1 ≠ (TX2 b).2.1 := by decide +kernel
theorem tyX2_ok : ∀ k, k < 8 → parseFieldDescriptor (TX2 k).2.2.1 = some (tyX2 k) := by decide +kernel
abbrev cX2_init : ByteArray := prog_4_method_1_code
def yX2_init : MethodName := ⟨RX2, "<init>", "(LDreamShares$Pools;)V"⟩
abbrev cX2_has : ByteArray := prog_4_method_2_code
def yX2_has : MethodName := ⟨RX2, "has", "(I)Z"⟩
abbrev cX2_parse : ByteArray := prog_4_method_3_code
def yX2_parse : MethodName := ⟨RX2, "parse", "(LDreamShares$Text;)V"⟩
abbrev cX2_goesOn : ByteArray := prog_4_method_4_code
def yX2_goesOn : MethodName := ⟨RX2, "goesOn", "(I)Z"⟩
abbrev cX2_takeLetter : ByteArray := prog_4_method_5_code
def yX2_takeLetter : MethodName := ⟨RX2, "takeLetter", "(I)Z"⟩
abbrev cX2_takePrice : ByteArray := prog_4_method_6_code
def yX2_takePrice : MethodName := ⟨RX2, "takePrice", "(I)Z"⟩
abbrev cX2_fillMost : ByteArray := prog_4_method_7_code
def yX2_fillMost : MethodName := ⟨RX2, "fillMost", "()V"⟩
abbrev cX2_raise : ByteArray := prog_4_method_8_code
def yX2_raise : MethodName := ⟨RX2, "raise", "(II)V"⟩
abbrev cX2_withRecipe : ByteArray := prog_4_method_9_code
def yX2_withRecipe : MethodName := ⟨RX2, "withRecipe", "(II)I"⟩
abbrev cX2_oftenMade : ByteArray := prog_4_method_10_code
def yX2_oftenMade : MethodName := ⟨RX2, "oftenMade", "([II)I"⟩
abbrev cX2_isMadeOnce : ByteArray := prog_4_method_11_code
def yX2_isMadeOnce : MethodName := ⟨RX2, "isMadeOnce", "([II)Z"⟩
abbrev cX2_mostOf : ByteArray := prog_4_method_12_code
def yX2_mostOf : MethodName := ⟨RX2, "mostOf", "([I)I"⟩
abbrev cX2_addRecipe : ByteArray := prog_4_method_13_code
def yX2_addRecipe : MethodName := ⟨RX2, "addRecipe", "([III)V"⟩
def RX3 : String := "DreamShares$Lots"
def TX3 : u_T := fun k => match k with
  | _ => ("DreamShares$Lots", "seed", "I", false)
def tyX3 : Nat → FieldType := fun k => match k with
  | _ => .int
abbrev wsX30 : List Cond := u_ws RX3 TX3 1
theorem nmX3 : ∀ a, a < 1 → ∀ b, b < 1 → a ≠ b → (TX3 a).2.1 ≠ (TX3 b).2.1 := by decide +kernel
theorem tyX3_ok : ∀ k, k < 1 → parseFieldDescriptor (TX3 k).2.2.1 = some (tyX3 k) := by decide +kernel
abbrev cX3_init : ByteArray := prog_5_method_1_code
def yX3_init : MethodName := ⟨RX3, "<init>", "()V"⟩
abbrev cX3_draw : ByteArray := prog_5_method_2_code
def yX3_draw : MethodName := ⟨RX3, "draw", "(I)I"⟩
def RX4 : String := "DreamShares$Pools"
def TX4 : u_T := fun k => match k with
  | 0 => ("DreamShares$Pools", "nightmares", "[I", true)
  | _ => ("DreamShares$Pools", "next", "[I", true)
def tyX4 : Nat → FieldType := fun k => match k with
  | 0 => .array .int
  | _ => .array .int
abbrev wsX40 : List Cond := u_ws RX4 TX4 2
theorem nmX4 : ∀ a, a < 2 → ∀ b, b < 2 → a ≠ b → (TX4 a).2.1 ≠ (TX4 b).2.1 := by decide +kernel
theorem tyX4_ok : ∀ k, k < 2 → parseFieldDescriptor (TX4 k).2.2.1 = some (tyX4 k) := by decide +kernel
abbrev cX4_init : ByteArray := prog_6_method_1_code
def yX4_init : MethodName := ⟨RX4, "<init>", "()V"⟩
abbrev cX4_enter : ByteArray := prog_6_method_2_code
def yX4_enter : MethodName := ⟨RX4, "enter", "(IIII)V"⟩
abbrev cX4_place : ByteArray := prog_6_method_3_code
def yX4_place : MethodName := ⟨RX4, "place", "(IIII)I"⟩
abbrev cX4_with : ByteArray := prog_6_method_4_code
def yX4_with : MethodName := ⟨RX4, "with", "(II)I"⟩
def RX5 : String := "DreamShares$Roster"
def TX5 : u_T := fun k => match k with
  | 0 => ("DreamShares$Roster", "told", "[I", true)
  | 1 => ("DreamShares$Roster", "number", "I", false)
  | _ => ("DreamShares$Roster", "faultPlace", "I", false)
def tyX5 : Nat → FieldType := fun k => match k with
  | 0 => .array .int
  | 1 => .int
  | _ => .int
abbrev wsX50 : List Cond := u_ws RX5 TX5 3
theorem nmX5 : ∀ a, a < 3 → ∀ b, b < 3 → a ≠ b → (TX5 a).2.1 ≠ (TX5 b).2.1 := by decide +kernel
theorem tyX5_ok : ∀ k, k < 3 → parseFieldDescriptor (TX5 k).2.2.1 = some (tyX5 k) := by decide +kernel
abbrev cX5_init : ByteArray := prog_7_method_1_code
def yX5_init : MethodName := ⟨RX5, "<init>", "()V"⟩
abbrev cX5_parse : ByteArray := prog_7_method_2_code
def yX5_parse : MethodName := ⟨RX5, "parse", "(LDreamShares$Text;)V"⟩
abbrev cX5_fits : ByteArray := prog_7_method_3_code
def yX5_fits : MethodName := ⟨RX5, "fits", "(II)Z"⟩
def RX6 : String := "DreamShares$Sheet"
def TX6 : u_T := fun k => match k with
  | 0 => ("DreamShares$Sheet", "items", "[I", true)
  | 1 => ("DreamShares$Sheet", "form", "I", false)
  | 2 => ("DreamShares$Sheet", "size", "I", false)
  | _ => ("DreamShares$Sheet", "lost", "Z", false)
def tyX6 : Nat → FieldType := fun k => match k with
  | 0 => .array .int
  | 1 => .int
  | 2 => .int
  | _ => .boolean
abbrev wsX60 : List Cond := u_ws RX6 TX6 4
theorem nmX6 : ∀ a, a < 4 → ∀ b, b < 4 → a ≠ b → (TX6 a).2.1 ≠ (TX6 b).2.1 := by decide +kernel
theorem tyX6_ok : ∀ k, k < 4 → parseFieldDescriptor (TX6 k).2.2.1 = some (tyX6 k) := by decide +kernel
abbrev cX6_init : ByteArray := prog_8_method_1_code
def yX6_init : MethodName := ⟨RX6, "<init>", "()V"⟩
abbrev cX6_renew : ByteArray := prog_8_method_2_code
def yX6_renew : MethodName := ⟨RX6, "renew", "(II)V"⟩
abbrev cX6_findingAt : ByteArray := prog_8_method_3_code
def yX6_findingAt : MethodName := ⟨RX6, "findingAt", "(II)I"⟩
abbrev cX6_holds : ByteArray := prog_8_method_4_code
def yX6_holds : MethodName := ⟨RX6, "holds", "(II)Z"⟩
abbrev cX6_store : ByteArray := prog_8_method_5_code
def yX6_store : MethodName := ⟨RX6, "store", "(II)V"⟩
def RX7 : String := "DreamShares$Text"
def TX7 : u_T := fun k => match k with
  | 0 => ("DreamShares$Text", "bytes", "[I", true)
  | _ => ("DreamShares$Text", "length", "I", false)
def tyX7 : Nat → FieldType := fun k => match k with
  | 0 => .array .int
  | _ => .int
abbrev wsX70 : List Cond := u_ws RX7 TX7 2
theorem nmX7 : ∀ a, a < 2 → ∀ b, b < 2 → a ≠ b → (TX7 a).2.1 ≠ (TX7 b).2.1 := by decide +kernel
theorem tyX7_ok : ∀ k, k < 2 → parseFieldDescriptor (TX7 k).2.2.1 = some (tyX7 k) := by decide +kernel
abbrev cX7_init : ByteArray := prog_9_method_1_code
def yX7_init : MethodName := ⟨RX7, "<init>", "()V"⟩
abbrev cX7_append : ByteArray := prog_9_method_2_code
def yX7_append : MethodName := ⟨RX7, "append", "(I)Z"⟩
def RX8 : String := "DreamShares"
def TX8 : u_T := fun k => match k with
  | 0 => ("DreamShares", "memberText", "LDreamShares$Text;", true)
  | 1 => ("DreamShares", "recipeText", "LDreamShares$Text;", true)
  | 2 => ("DreamShares", "roster", "LDreamShares$Roster;", true)
  | 3 => ("DreamShares", "pools", "LDreamShares$Pools;", true)
  | 4 => ("DreamShares", "kitchen", "LDreamShares$Kitchen;", true)
  | 5 => ("DreamShares", "fold", "LDreamShares$Fold;", true)
  | 6 => ("DreamShares", "fraction", "LDreamShares$Fraction;", true)
  | 7 => ("DreamShares", "lots", "LDreamShares$Lots;", true)
  | 8 => ("DreamShares", "sheets", "[LDreamShares$Sheet;", true)
  | 9 => ("DreamShares", "suppers", "[I", true)
  | 10 => ("DreamShares", "trial", "[I", true)
  | 11 => ("DreamShares", "pays", "[I", true)
  | 12 => ("DreamShares", "noted", "[I", true)
  | 13 => ("DreamShares", "dreams", "[I", true)
  | 14 => ("DreamShares", "means", "[J", true)
  | 15 => ("DreamShares", "spice", "I", false)
  | 16 => ("DreamShares", "loss", "I", false)
  | _ => ("DreamShares", "finding", "I", false)
def tyX8 : Nat → FieldType := fun k => match k with
  | 0 => .object "DreamShares$Text"
  | 1 => .object "DreamShares$Text"
  | 2 => .object "DreamShares$Roster"
  | 3 => .object "DreamShares$Pools"
  | 4 => .object "DreamShares$Kitchen"
  | 5 => .object "DreamShares$Fold"
  | 6 => .object "DreamShares$Fraction"
  | 7 => .object "DreamShares$Lots"
  | 8 => .array (.object "DreamShares$Sheet")
  | 9 => .array .int
  | 10 => .array .int
  | 11 => .array .int
  | 12 => .array .int
  | 13 => .array .int
  | 14 => .array .long
  | 15 => .int
  | 16 => .int
  | _ => .int
abbrev wsX80 : List Cond := u_ws RX8 TX8 18
theorem nmX8 : ∀ a, a < 18 → ∀ b, b < 18 → a ≠ b → (TX8 a).2.1 ≠ (TX8 b).2.1 := by decide +kernel
theorem tyX8_ok : ∀ k, k < 18 → parseFieldDescriptor (TX8 k).2.2.1 = some (tyX8 k) := by decide +kernel
abbrev cX8_init : ByteArray := prog_1_method_1_code
def yX8_init : MethodName := ⟨RX8, "<init>", "()V"⟩
abbrev cX8_type : ByteArray := prog_1_method_2_code
def yX8_type : MethodName := ⟨RX8, "type", "(II)I"⟩
abbrev cX8_wipe : ByteArray := prog_1_method_3_code
def yX8_wipe : MethodName := ⟨RX8, "wipe", "(I)I"⟩
abbrev cX8_undo : ByteArray := prog_1_method_4_code
def yX8_undo : MethodName := ⟨RX8, "undo", "(I)I"⟩
abbrev cX8_fault : ByteArray := prog_1_method_5_code
def yX8_fault : MethodName := ⟨RX8, "fault", "(I)I"⟩
abbrev cX8_member : ByteArray := prog_1_method_6_code
def yX8_member : MethodName := ⟨RX8, "member", "(II)I"⟩
abbrev cX8_recipe : ByteArray := prog_1_method_7_code
def yX8_recipe : MethodName := ⟨RX8, "recipe", "(II)I"⟩
abbrev cX8_supper : ByteArray := prog_1_method_8_code
def yX8_supper : MethodName := ⟨RX8, "supper", "(II)I"⟩
abbrev cX8_set : ByteArray := prog_1_method_9_code
def yX8_set : MethodName := ⟨RX8, "set", "(II)I"⟩
abbrev cX8_pay : ByteArray := prog_1_method_10_code
def yX8_pay : MethodName := ⟨RX8, "pay", "(II)I"⟩
abbrev cX8_dreamt : ByteArray := prog_1_method_11_code
def yX8_dreamt : MethodName := ⟨RX8, "dreamt", "(II)I"⟩
abbrev cX8_read : ByteArray := prog_1_method_12_code
def yX8_read : MethodName := ⟨RX8, "read", "(I)I"⟩
abbrev cX8_chance : ByteArray := prog_1_method_13_code
def yX8_chance : MethodName := ⟨RX8, "chance", "(III)J"⟩
abbrev cX8_worth : ByteArray := prog_1_method_14_code
def yX8_worth : MethodName := ⟨RX8, "worth", "(IIII)I"⟩
abbrev cX8_made : ByteArray := prog_1_method_15_code
def yX8_made : MethodName := ⟨RX8, "made", "(IIIII)I"⟩
abbrev cX8_mean : ByteArray := prog_1_method_16_code
def yX8_mean : MethodName := ⟨RX8, "mean", "(II)J"⟩
abbrev cX8_share : ByteArray := prog_1_method_17_code
def yX8_share : MethodName := ⟨RX8, "share", "(II)J"⟩
abbrev cX8_leave : ByteArray := prog_1_method_18_code
def yX8_leave : MethodName := ⟨RX8, "leave", "()I"⟩
abbrev cX8_strike : ByteArray := prog_1_method_19_code
def yX8_strike : MethodName := ⟨RX8, "strike", "(II)J"⟩
abbrev cX8_best : ByteArray := prog_1_method_20_code
def yX8_best : MethodName := ⟨RX8, "best", "(I)I"⟩
abbrev cX8_menu : ByteArray := prog_1_method_21_code
def yX8_menu : MethodName := ⟨RX8, "menu", "(II)I"⟩
abbrev cX8_menuMean : ByteArray := prog_1_method_22_code
def yX8_menuMean : MethodName := ⟨RX8, "menuMean", "(II)J"⟩
abbrev cX8_dread : ByteArray := prog_1_method_23_code
def yX8_dread : MethodName := ⟨RX8, "dread", "(II)J"⟩
abbrev cX8_rows : ByteArray := prog_1_method_24_code
def yX8_rows : MethodName := ⟨RX8, "rows", "(IIII)I"⟩
abbrev cX8_may : ByteArray := prog_1_method_25_code
def yX8_may : MethodName := ⟨RX8, "may", "(IIIII)I"⟩
abbrev cX8_likeliest : ByteArray := prog_1_method_26_code
def yX8_likeliest : MethodName := ⟨RX8, "likeliest", "(IIIII)I"⟩
abbrev cX8_kept : ByteArray := prog_1_method_27_code
def yX8_kept : MethodName := ⟨RX8, "kept", "(IIII)I"⟩
abbrev cX8_week : ByteArray := prog_1_method_28_code
def yX8_week : MethodName := ⟨RX8, "week", "(III)I"⟩
abbrev cX8_sheet : ByteArray := prog_1_method_29_code
def yX8_sheet : MethodName := ⟨RX8, "sheet", "(III)I"⟩
abbrev cX8_lose : ByteArray := prog_1_method_30_code
def yX8_lose : MethodName := ⟨RX8, "lose", "(I)I"⟩
abbrev cX8_put : ByteArray := prog_1_method_31_code
def yX8_put : MethodName := ⟨RX8, "put", "(IIII)I"⟩
abbrev cX8_get : ByteArray := prog_1_method_32_code
def yX8_get : MethodName := ⟨RX8, "get", "(III)I"⟩
abbrev cX8_copy : ByteArray := prog_1_method_33_code
def yX8_copy : MethodName := ⟨RX8, "copy", "(IIIII)I"⟩
abbrev cX8_write : ByteArray := prog_1_method_34_code
def yX8_write : MethodName := ⟨RX8, "write", "(II)I"⟩
abbrev cX8_count : ByteArray := prog_1_method_35_code
def yX8_count : MethodName := ⟨RX8, "count", "(I)I"⟩
abbrev cX8_digest : ByteArray := prog_1_method_36_code
def yX8_digest : MethodName := ⟨RX8, "digest", "()J"⟩
abbrev cX8_mixMember : ByteArray := prog_1_method_37_code
def yX8_mixMember : MethodName := ⟨RX8, "mixMember", "(JI)J"⟩
abbrev cX8_mixRecipe : ByteArray := prog_1_method_38_code
def yX8_mixRecipe : MethodName := ⟨RX8, "mixRecipe", "(JI)J"⟩
abbrev cX8_mixFraction : ByteArray := prog_1_method_39_code
def yX8_mixFraction : MethodName := ⟨RX8, "mixFraction", "(J)J"⟩
abbrev cX8_mix : ByteArray := prog_1_method_40_code
def yX8_mix : MethodName := ⟨RX8, "mix", "(JJ)J"⟩
abbrev cX8_isText : ByteArray := prog_1_method_41_code
def yX8_isText : MethodName := ⟨RX8, "isText", "(I)Z"⟩
abbrev cX8_isSeat : ByteArray := prog_1_method_42_code
def yX8_isSeat : MethodName := ⟨RX8, "isSeat", "(I)Z"⟩
abbrev cX8_isThere : ByteArray := prog_1_method_43_code
def yX8_isThere : MethodName := ⟨RX8, "isThere", "(I)Z"⟩
abbrev cX8_isKind : ByteArray := prog_1_method_44_code
def yX8_isKind : MethodName := ⟨RX8, "isKind", "(I)Z"⟩
abbrev cX8_isKindOrNone : ByteArray := prog_1_method_45_code
def yX8_isKindOrNone : MethodName := ⟨RX8, "isKindOrNone", "(I)Z"⟩
abbrev cX8_isPay : ByteArray := prog_1_method_46_code
def yX8_isPay : MethodName := ⟨RX8, "isPay", "(I)Z"⟩
abbrev cX8_isBits : ByteArray := prog_1_method_47_code
def yX8_isBits : MethodName := ⟨RX8, "isBits", "(I)Z"⟩
abbrev cX8_isFractionPart : ByteArray := prog_1_method_48_code
def yX8_isFractionPart : MethodName := ⟨RX8, "isFractionPart", "(I)Z"⟩
abbrev cX8_isDreams : ByteArray := prog_1_method_49_code
def yX8_isDreams : MethodName := ⟨RX8, "isDreams", "(I)Z"⟩
abbrev cX8_isPool : ByteArray := prog_1_method_50_code
def yX8_isPool : MethodName := ⟨RX8, "isPool", "(IIII)Z"⟩
abbrev cX8_isSmallPool : ByteArray := prog_1_method_51_code
def yX8_isSmallPool : MethodName := ⟨RX8, "isSmallPool", "(IIII)Z"⟩
abbrev cX8_isMenuSize : ByteArray := prog_1_method_52_code
def yX8_isMenuSize : MethodName := ⟨RX8, "isMenuSize", "(I)Z"⟩
abbrev cX8_isSheet : ByteArray := prog_1_method_53_code
def yX8_isSheet : MethodName := ⟨RX8, "isSheet", "(I)Z"⟩
abbrev cX8_isForm : ByteArray := prog_1_method_54_code
def yX8_isForm : MethodName := ⟨RX8, "isForm", "(I)Z"⟩
abbrev cX8_found : ByteArray := prog_1_method_55_code
def yX8_found : MethodName := ⟨RX8, "found", "(I)I"⟩
abbrev cX8_textOf : ByteArray := prog_1_method_56_code
def yX8_textOf : MethodName := ⟨RX8, "textOf", "(I)LDreamShares$Text;"⟩
abbrev cX8_parse : ByteArray := prog_1_method_57_code
def yX8_parse : MethodName := ⟨RX8, "parse", "(I)V"⟩
abbrev cX8_everybody : ByteArray := prog_1_method_58_code
def yX8_everybody : MethodName := ⟨RX8, "everybody", "()I"⟩
abbrev cX8_weight : ByteArray := prog_1_method_59_code
def yX8_weight : MethodName := ⟨RX8, "weight", "(III)I"⟩
abbrev cX8_weights : ByteArray := prog_1_method_60_code
def yX8_weights : MethodName := ⟨RX8, "weights", "(II)I"⟩
abbrev cX8_productOfWeights : ByteArray := prog_1_method_61_code
def yX8_productOfWeights : MethodName := ⟨RX8, "productOfWeights", "(I[I)J"⟩
abbrev cX8_membersWithSupper : ByteArray := prog_1_method_62_code
def yX8_membersWithSupper : MethodName := ⟨RX8, "membersWithSupper", "()I"⟩
abbrev cX8_payOf : ByteArray := prog_1_method_63_code
def yX8_payOf : MethodName := ⟨RX8, "payOf", "(I)I"⟩
abbrev cX8_layDreams : ByteArray := prog_1_method_64_code
def yX8_layDreams : MethodName := ⟨RX8, "layDreams", "(IIII)V"⟩
abbrev cX8_worthOf : ByteArray := prog_1_method_65_code
def yX8_worthOf : MethodName := ⟨RX8, "worthOf", "(I)I"⟩
abbrev cX8_foldWorth : ByteArray := prog_1_method_66_code
def yX8_foldWorth : MethodName := ⟨RX8, "foldWorth", "(II)V"⟩
abbrev cX8_foldMembers : ByteArray := prog_1_method_67_code
def yX8_foldMembers : MethodName := ⟨RX8, "foldMembers", "(II[I)V"⟩
abbrev cX8_foldWays : ByteArray := prog_1_method_68_code
def yX8_foldWays : MethodName := ⟨RX8, "foldWays", "(II)V"⟩
abbrev cX8_foldGreatest : ByteArray := prog_1_method_69_code
def yX8_foldGreatest : MethodName := ⟨RX8, "foldGreatest", "()V"⟩
abbrev cX8_kindOnGreatestRow : ByteArray := prog_1_method_70_code
def yX8_kindOnGreatestRow : MethodName := ⟨RX8, "kindOnGreatestRow", "(I)I"⟩
abbrev cX8_findChance : ByteArray := prog_1_method_71_code
def yX8_findChance : MethodName := ⟨RX8, "findChance", "(II)V"⟩
abbrev cX8_meanTimesAllWeights : ByteArray := prog_1_method_72_code
def yX8_meanTimesAllWeights : MethodName := ⟨RX8, "meanTimesAllWeights", "(I)J"⟩
abbrev cX8_findMean : ByteArray := prog_1_method_73_code
def yX8_findMean : MethodName := ⟨RX8, "findMean", "(I)V"⟩
abbrev cX8_fillMeans : ByteArray := prog_1_method_74_code
def yX8_fillMeans : MethodName := ⟨RX8, "fillMeans", "()V"⟩
abbrev cX8_findShare : ByteArray := prog_1_method_75_code
def yX8_findShare : MethodName := ⟨RX8, "findShare", "(I)V"⟩
abbrev cX8_leaversByMeans : ByteArray := prog_1_method_76_code
def yX8_leaversByMeans : MethodName := ⟨RX8, "leaversByMeans", "()I"⟩
abbrev cX8_findStrike : ByteArray := prog_1_method_77_code
def yX8_findStrike : MethodName := ⟨RX8, "findStrike", "(I)V"⟩
abbrev cX8_findDread : ByteArray := prog_1_method_78_code
def yX8_findDread : MethodName := ⟨RX8, "findDread", "(I)V"⟩
abbrev cX8_aboveWithDish : ByteArray := prog_1_method_79_code
def yX8_aboveWithDish : MethodName := ⟨RX8, "aboveWithDish", "(II)J"⟩
abbrev cX8_dishOf : ByteArray := prog_1_method_80_code
def yX8_dishOf : MethodName := ⟨RX8, "dishOf", "(III)I"⟩
abbrev cX8_bestMenu : ByteArray := prog_1_method_81_code
def yX8_bestMenu : MethodName := ⟨RX8, "bestMenu", "(I)I"⟩
abbrev cX8_aboveWithMenu : ByteArray := prog_1_method_82_code
def yX8_aboveWithMenu : MethodName := ⟨RX8, "aboveWithMenu", "(II)J"⟩
abbrev cX8_layTrial : ByteArray := prog_1_method_83_code
def yX8_layTrial : MethodName := ⟨RX8, "layTrial", "(II)V"⟩
abbrev cX8_findMenuMean : ByteArray := prog_1_method_84_code
def yX8_findMenuMean : MethodName := ⟨RX8, "findMenuMean", "(I)V"⟩
abbrev cX8_isJustOneTooMany : ByteArray := prog_1_method_85_code
def yX8_isJustOneTooMany : MethodName := ⟨RX8, "isJustOneTooMany", "(I)Z"⟩
abbrev cX8_worthOfNight : ByteArray := prog_1_method_86_code
def yX8_worthOfNight : MethodName := ⟨RX8, "worthOfNight", "()I"⟩
abbrev cX8_kindByLot : ByteArray := prog_1_method_87_code
def yX8_kindByLot : MethodName := ⟨RX8, "kindByLot", "(I)I"⟩
abbrev cX8_isFigure : ByteArray := prog_1_method_88_code
def yX8_isFigure : MethodName := ⟨RX8, "isFigure", "(II)Z"⟩
abbrev cX8_kindOfLetter : ByteArray := prog_1_method_89_code
def yX8_kindOfLetter : MethodName := ⟨RX8, "kindOfLetter", "(I)I"⟩
def RX9 : String := "DreamSharesModel"
def TX9 : u_T := fun k => match k with
  | 0 => ("DreamSharesModel", "typed", "[I", true)
  | 1 => ("DreamSharesModel", "texts", "[I", true)
  | 2 => ("DreamSharesModel", "members", "I", false)
  | 3 => ("DreamSharesModel", "weights", "[I", true)
  | 4 => ("DreamSharesModel", "recipes", "I", false)
  | 5 => ("DreamSharesModel", "firsts", "[I", true)
  | 6 => ("DreamSharesModel", "seconds", "[I", true)
  | 7 => ("DreamSharesModel", "prices", "[I", true)
  | 8 => ("DreamSharesModel", "suppers", "[I", true)
  | 9 => ("DreamSharesModel", "spice", "I", false)
  | 10 => ("DreamSharesModel", "loss", "I", false)
  | 11 => ("DreamSharesModel", "pays", "[I", true)
  | 12 => ("DreamSharesModel", "noted", "[I", true)
  | 13 => ("DreamSharesModel", "bests", "[I", true)
  | 14 => ("DreamSharesModel", "odds", "[J", true)
  | 15 => ("DreamSharesModel", "oddsNext", "[J", true)
  | 16 => ("DreamSharesModel", "means", "[J", true)
  | 17 => ("DreamSharesModel", "allBelow", "J", false)
  | 18 => ("DreamSharesModel", "toldSuppers", "[I", true)
  | 19 => ("DreamSharesModel", "menuRow", "I", false)
  | 20 => ("DreamSharesModel", "menuTop", "J", false)
  | 21 => ("DreamSharesModel", "menuBottom", "J", false)
  | 22 => ("DreamSharesModel", "found", "[I", true)
  | 23 => ("DreamSharesModel", "foundWeight", "J", false)
  | 24 => ("DreamSharesModel", "lotNow", "I", false)
  | 25 => ("DreamSharesModel", "isThere", "[Z", true)
  | 26 => ("DreamSharesModel", "forms", "[I", true)
  | 27 => ("DreamSharesModel", "sizes", "[I", true)
  | 28 => ("DreamSharesModel", "items", "[I", true)
  | 29 => ("DreamSharesModel", "moved", "[I", true)
  | _ => ("DreamSharesModel", "finding", "I", false)
def tyX9 : Nat → FieldType := fun k => match k with
  | 0 => .array .int
  | 1 => .array .int
  | 2 => .int
  | 3 => .array .int
  | 4 => .int
  | 5 => .array .int
  | 6 => .array .int
  | 7 => .array .int
  | 8 => .array .int
  | 9 => .int
  | 10 => .int
  | 11 => .array .int
  | 12 => .array .int
  | 13 => .array .int
  | 14 => .array .long
  | 15 => .array .long
  | 16 => .array .long
  | 17 => .long
  | 18 => .array .int
  | 19 => .int
  | 20 => .long
  | 21 => .long
  | 22 => .array .int
  | 23 => .long
  | 24 => .int
  | 25 => .array .boolean
  | 26 => .array .int
  | 27 => .array .int
  | 28 => .array .int
  | 29 => .array .int
  | _ => .int
abbrev wsX90 : List Cond := u_ws RX9 TX9 31
theorem nmX9 : ∀ a, a < 31 → ∀ b, b < 31 → a ≠ b → (TX9 a).2.1 ≠ (TX9 b).2.1 := by decide +kernel
theorem tyX9_ok : ∀ k, k < 31 → parseFieldDescriptor (TX9 k).2.2.1 = some (tyX9 k) := by decide +kernel
abbrev cX9_init : ByteArray := prog_11_method_1_code
def yX9_init : MethodName := ⟨RX9, "<init>", "()V"⟩
abbrev cX9_in : ByteArray := prog_11_method_3_code
def yX9_in : MethodName := ⟨RX9, "in", "(III)Z"⟩
abbrev cX9_isIn : ByteArray := prog_11_method_4_code
def yX9_isIn : MethodName := ⟨RX9, "isIn", "(II)Z"⟩
abbrev cX9_ones : ByteArray := prog_11_method_5_code
def yX9_ones : MethodName := ⟨RX9, "ones", "(I)I"⟩
abbrev cX9_no : ByteArray := prog_11_method_6_code
def yX9_no : MethodName := ⟨RX9, "no", "(I)J"⟩
abbrev cX9_lowest : ByteArray := prog_11_method_7_code
def yX9_lowest : MethodName := ⟨RX9, "lowest", "(JJI)J"⟩
abbrev cX9_isText : ByteArray := prog_11_method_8_code
def yX9_isText : MethodName := ⟨RX9, "isText", "(I)Z"⟩
abbrev cX9_isSix : ByteArray := prog_11_method_9_code
def yX9_isSix : MethodName := ⟨RX9, "isSix", "(I)Z"⟩
abbrev cX9_type : ByteArray := prog_11_method_10_code
def yX9_type : MethodName := ⟨RX9, "type", "(II)I"⟩
abbrev cX9_wipe : ByteArray := prog_11_method_11_code
def yX9_wipe : MethodName := ⟨RX9, "wipe", "(I)I"⟩
abbrev cX9_undo : ByteArray := prog_11_method_12_code
def yX9_undo : MethodName := ⟨RX9, "undo", "(I)I"⟩
abbrev cX9_byteAt : ByteArray := prog_11_method_13_code
def yX9_byteAt : MethodName := ⟨RX9, "byteAt", "(II)I"⟩
abbrev cX9_figureAt : ByteArray := prog_11_method_14_code
def yX9_figureAt : MethodName := ⟨RX9, "figureAt", "(II)I"⟩
abbrev cX9_kindAt : ByteArray := prog_11_method_15_code
def yX9_kindAt : MethodName := ⟨RX9, "kindAt", "(I)I"⟩
abbrev cX9_readsMember : ByteArray := prog_11_method_16_code
def yX9_readsMember : MethodName := ⟨RX9, "readsMember", "(II)I"⟩
abbrev cX9_readsRecipe : ByteArray := prog_11_method_17_code
def yX9_readsRecipe : MethodName := ⟨RX9, "readsRecipe", "(II)I"⟩
abbrev cX9_readsText : ByteArray := prog_11_method_18_code
def yX9_readsText : MethodName := ⟨RX9, "readsText", "(I)I"⟩
abbrev cX9_faultOf : ByteArray := prog_11_method_19_code
def yX9_faultOf : MethodName := ⟨RX9, "faultOf", "(I)I"⟩
abbrev cX9_reads : ByteArray := prog_11_method_20_code
def yX9_reads : MethodName := ⟨RX9, "reads", "()V"⟩
abbrev cX9_fault : ByteArray := prog_11_method_21_code
def yX9_fault : MethodName := ⟨RX9, "fault", "(I)I"⟩
abbrev cX9_isMember : ByteArray := prog_11_method_22_code
def yX9_isMember : MethodName := ⟨RX9, "isMember", "(I)Z"⟩
abbrev cX9_member : ByteArray := prog_11_method_23_code
def yX9_member : MethodName := ⟨RX9, "member", "(II)I"⟩
abbrev cX9_recipeOf : ByteArray := prog_11_method_24_code
def yX9_recipeOf : MethodName := ⟨RX9, "recipeOf", "(II)I"⟩
abbrev cX9_isRecipe : ByteArray := prog_11_method_25_code
def yX9_isRecipe : MethodName := ⟨RX9, "isRecipe", "(I)Z"⟩
abbrev cX9_recipe : ByteArray := prog_11_method_26_code
def yX9_recipe : MethodName := ⟨RX9, "recipe", "(II)I"⟩
abbrev cX9_supper : ByteArray := prog_11_method_27_code
def yX9_supper : MethodName := ⟨RX9, "supper", "(II)I"⟩
abbrev cX9_set : ByteArray := prog_11_method_28_code
def yX9_set : MethodName := ⟨RX9, "set", "(II)I"⟩
abbrev cX9_pay : ByteArray := prog_11_method_29_code
def yX9_pay : MethodName := ⟨RX9, "pay", "(II)I"⟩
abbrev cX9_dreamt : ByteArray := prog_11_method_30_code
def yX9_dreamt : MethodName := ⟨RX9, "dreamt", "(II)I"⟩
abbrev cX9_read : ByteArray := prog_11_method_31_code
def yX9_read : MethodName := ⟨RX9, "read", "(I)I"⟩
abbrev cX9_power : ByteArray := prog_11_method_32_code
def yX9_power : MethodName := ⟨RX9, "power", "(I)I"⟩
abbrev cX9_digit : ByteArray := prog_11_method_33_code
def yX9_digit : MethodName := ⟨RX9, "digit", "(II)I"⟩
abbrev cX9_leaves : ByteArray := prog_11_method_34_code
def yX9_leaves : MethodName := ⟨RX9, "leaves", "(II)I"⟩
abbrev cX9_laysBests : ByteArray := prog_11_method_35_code
def yX9_laysBests : MethodName := ⟨RX9, "laysBests", "()V"⟩
abbrev cX9_worthBy : ByteArray := prog_11_method_36_code
def yX9_worthBy : MethodName := ⟨RX9, "worthBy", "(I)I"⟩
abbrev cX9_isPool : ByteArray := prog_11_method_37_code
def yX9_isPool : MethodName := ⟨RX9, "isPool", "(IIII)Z"⟩
abbrev cX9_poolOf : ByteArray := prog_11_method_38_code
def yX9_poolOf : MethodName := ⟨RX9, "poolOf", "(IIII)I"⟩
abbrev cX9_worthOf : ByteArray := prog_11_method_39_code
def yX9_worthOf : MethodName := ⟨RX9, "worthOf", "(I)I"⟩
abbrev cX9_worth : ByteArray := prog_11_method_40_code
def yX9_worth : MethodName := ⟨RX9, "worth", "(IIII)I"⟩
abbrev cX9_madeOf : ByteArray := prog_11_method_41_code
def yX9_madeOf : MethodName := ⟨RX9, "madeOf", "(II)I"⟩
abbrev cX9_made : ByteArray := prog_11_method_42_code
def yX9_made : MethodName := ⟨RX9, "made", "(IIIII)I"⟩
abbrev cX9_weight : ByteArray := prog_11_method_43_code
def yX9_weight : MethodName := ⟨RX9, "weight", "(II)I"⟩
abbrev cX9_weightAll : ByteArray := prog_11_method_44_code
def yX9_weightAll : MethodName := ⟨RX9, "weightAll", "(I)I"⟩
abbrev cX9_chance : ByteArray := prog_11_method_45_code
def yX9_chance : MethodName := ⟨RX9, "chance", "(III)J"⟩
abbrev cX9_meanBy : ByteArray := prog_11_method_46_code
def yX9_meanBy : MethodName := ⟨RX9, "meanBy", "(I)J"⟩
abbrev cX9_dreams : ByteArray := prog_11_method_47_code
def yX9_dreams : MethodName := ⟨RX9, "dreams", "(I)V"⟩
abbrev cX9_belowOf : ByteArray := prog_11_method_48_code
def yX9_belowOf : MethodName := ⟨RX9, "belowOf", "(I)J"⟩
abbrev cX9_meanOf : ByteArray := prog_11_method_49_code
def yX9_meanOf : MethodName := ⟨RX9, "meanOf", "(II)J"⟩
abbrev cX9_mean : ByteArray := prog_11_method_50_code
def yX9_mean : MethodName := ⟨RX9, "mean", "(II)J"⟩
abbrev cX9_laysMeans : ByteArray := prog_11_method_51_code
def yX9_laysMeans : MethodName := ⟨RX9, "laysMeans", "()V"⟩
abbrev cX9_factorial : ByteArray := prog_11_method_52_code
def yX9_factorial : MethodName := ⟨RX9, "factorial", "(I)J"⟩
abbrev cX9_shareOf : ByteArray := prog_11_method_53_code
def yX9_shareOf : MethodName := ⟨RX9, "shareOf", "(II)J"⟩
abbrev cX9_share : ByteArray := prog_11_method_54_code
def yX9_share : MethodName := ⟨RX9, "share", "(II)J"⟩
abbrev cX9_leaveNow : ByteArray := prog_11_method_55_code
def yX9_leaveNow : MethodName := ⟨RX9, "leaveNow", "()I"⟩
abbrev cX9_leave : ByteArray := prog_11_method_56_code
def yX9_leave : MethodName := ⟨RX9, "leave", "()I"⟩
abbrev cX9_strikeOf : ByteArray := prog_11_method_57_code
def yX9_strikeOf : MethodName := ⟨RX9, "strikeOf", "(II)J"⟩
abbrev cX9_strike : ByteArray := prog_11_method_58_code
def yX9_strike : MethodName := ⟨RX9, "strike", "(II)J"⟩
abbrev cX9_bestOf : ByteArray := prog_11_method_59_code
def yX9_bestOf : MethodName := ⟨RX9, "bestOf", "(I)I"⟩
abbrev cX9_best : ByteArray := prog_11_method_60_code
def yX9_best : MethodName := ⟨RX9, "best", "(I)I"⟩
abbrev cX9_menus : ByteArray := prog_11_method_61_code
def yX9_menus : MethodName := ⟨RX9, "menus", "(I)V"⟩
abbrev cX9_menuOf : ByteArray := prog_11_method_62_code
def yX9_menuOf : MethodName := ⟨RX9, "menuOf", "(II)I"⟩
abbrev cX9_isMenu : ByteArray := prog_11_method_63_code
def yX9_isMenu : MethodName := ⟨RX9, "isMenu", "(I)Z"⟩
abbrev cX9_menu : ByteArray := prog_11_method_64_code
def yX9_menu : MethodName := ⟨RX9, "menu", "(II)I"⟩
abbrev cX9_menuMeanOf : ByteArray := prog_11_method_65_code
def yX9_menuMeanOf : MethodName := ⟨RX9, "menuMeanOf", "(II)J"⟩
abbrev cX9_menuMean : ByteArray := prog_11_method_66_code
def yX9_menuMean : MethodName := ⟨RX9, "menuMean", "(II)J"⟩
abbrev cX9_dreadOf : ByteArray := prog_11_method_67_code
def yX9_dreadOf : MethodName := ⟨RX9, "dreadOf", "(II)J"⟩
abbrev cX9_dread : ByteArray := prog_11_method_68_code
def yX9_dread : MethodName := ⟨RX9, "dread", "(II)J"⟩
abbrev cX9_findsRows : ByteArray := prog_11_method_69_code
def yX9_findsRows : MethodName := ⟨RX9, "findsRows", "(II)V"⟩
abbrev cX9_rowsOf : ByteArray := prog_11_method_70_code
def yX9_rowsOf : MethodName := ⟨RX9, "rowsOf", "(I)I"⟩
abbrev cX9_rows : ByteArray := prog_11_method_71_code
def yX9_rows : MethodName := ⟨RX9, "rows", "(IIII)I"⟩
abbrev cX9_mayOf : ByteArray := prog_11_method_72_code
def yX9_mayOf : MethodName := ⟨RX9, "mayOf", "(II)I"⟩
abbrev cX9_may : ByteArray := prog_11_method_73_code
def yX9_may : MethodName := ⟨RX9, "may", "(IIIII)I"⟩
abbrev cX9_likeliestOf : ByteArray := prog_11_method_74_code
def yX9_likeliestOf : MethodName := ⟨RX9, "likeliestOf", "(II)I"⟩
abbrev cX9_likeliest : ByteArray := prog_11_method_75_code
def yX9_likeliest : MethodName := ⟨RX9, "likeliest", "(IIIII)I"⟩
abbrev cX9_keptOf : ByteArray := prog_11_method_76_code
def yX9_keptOf : MethodName := ⟨RX9, "keptOf", "(I)I"⟩
abbrev cX9_kept : ByteArray := prog_11_method_77_code
def yX9_kept : MethodName := ⟨RX9, "kept", "(IIII)I"⟩
abbrev cX9_nightWorth : ByteArray := prog_11_method_78_code
def yX9_nightWorth : MethodName := ⟨RX9, "nightWorth", "()I"⟩
abbrev cX9_weekOf : ByteArray := prog_11_method_79_code
def yX9_weekOf : MethodName := ⟨RX9, "weekOf", "(III)I"⟩
abbrev cX9_week : ByteArray := prog_11_method_80_code
def yX9_week : MethodName := ⟨RX9, "week", "(III)I"⟩
abbrev cX9_meets : ByteArray := prog_11_method_81_code
def yX9_meets : MethodName := ⟨RX9, "meets", "(I)I"⟩
abbrev cX9_isSheet : ByteArray := prog_11_method_82_code
def yX9_isSheet : MethodName := ⟨RX9, "isSheet", "(I)Z"⟩
abbrev cX9_sheet : ByteArray := prog_11_method_83_code
def yX9_sheet : MethodName := ⟨RX9, "sheet", "(III)I"⟩
abbrev cX9_lose : ByteArray := prog_11_method_84_code
def yX9_lose : MethodName := ⟨RX9, "lose", "(I)I"⟩
abbrev cX9_lacks : ByteArray := prog_11_method_85_code
def yX9_lacks : MethodName := ⟨RX9, "lacks", "(III)I"⟩
abbrev cX9_keep : ByteArray := prog_11_method_86_code
def yX9_keep : MethodName := ⟨RX9, "keep", "(III)V"⟩
abbrev cX9_put : ByteArray := prog_11_method_87_code
def yX9_put : MethodName := ⟨RX9, "put", "(IIII)I"⟩
abbrev cX9_get : ByteArray := prog_11_method_88_code
def yX9_get : MethodName := ⟨RX9, "get", "(III)I"⟩
abbrev cX9_copy : ByteArray := prog_11_method_89_code
def yX9_copy : MethodName := ⟨RX9, "copy", "(IIIII)I"⟩
abbrev cX9_write : ByteArray := prog_11_method_90_code
def yX9_write : MethodName := ⟨RX9, "write", "(II)I"⟩
abbrev cX9_sumOf : ByteArray := prog_11_method_91_code
def yX9_sumOf : MethodName := ⟨RX9, "sumOf", "(I)I"⟩
abbrev cX9_count : ByteArray := prog_11_method_92_code
def yX9_count : MethodName := ⟨RX9, "count", "(I)I"⟩
abbrev cX9_memberDigest : ByteArray := prog_11_method_93_code
def yX9_memberDigest : MethodName := ⟨RX9, "memberDigest", "(JI)J"⟩
abbrev cX9_digest : ByteArray := prog_11_method_94_code
def yX9_digest : MethodName := ⟨RX9, "digest", "()J"⟩
def RJ6 : String := "java/lang/Integer"
def TJ6 : u_T := fun k => match k with
  | _ => ("", "", "", false)
def tyJ6 : Nat → FieldType := fun k => match k with
  | _ => .int
abbrev wsJ60 : List Cond := u_ws RJ6 TJ6 0
theorem nmJ6 : ∀ a, a < 0 → ∀ b, b < 0 → a ≠ b → (TJ6 a).2.1 ≠ (TJ6 b).2.1 := by decide +kernel
theorem tyJ6_ok : ∀ k, k < 0 → parseFieldDescriptor (TJ6 k).2.2.1 = some (tyJ6 k) := by decide +kernel
abbrev cJ6_bitCount_0f7a4 : ByteArray := prog_12_method_49_code
def yJ6_bitCount_0f7a4 : MethodName := ⟨RJ6, "bitCount", "(I)I"⟩
def RJ9 : String := "java/lang/Math"
def TJ9 : u_T := fun k => match k with
  | _ => ("", "", "", false)
def tyJ9 : Nat → FieldType := fun k => match k with
  | _ => .int
abbrev wsJ90 : List Cond := u_ws RJ9 TJ9 0
theorem nmJ9 : ∀ a, a < 0 → ∀ b, b < 0 → a ≠ b → (TJ9 a).2.1 ≠ (TJ9 b).2.1 := by decide +kernel
theorem tyJ9_ok : ∀ k, k < 0 → parseFieldDescriptor (TJ9 k).2.2.1 = some (tyJ9 k) := by decide +kernel
abbrev cJ9_abs_067f4 : ByteArray := prog_13_method_61_code
def yJ9_abs_067f4 : MethodName := ⟨RJ9, "abs", "(J)J"⟩
abbrev cJ9_max_f86c9 : ByteArray := prog_13_method_66_code
def yJ9_max_f86c9 : MethodName := ⟨RJ9, "max", "(JJ)J"⟩
def RJ10 : String := "java/lang/System"
def TJ10 : u_T := fun k => match k with
  | _ => ("", "", "", false)
def tyJ10 : Nat → FieldType := fun k => match k with
  | _ => .int
abbrev wsJ100 : List Cond := u_ws RJ10 TJ10 0
theorem nmJ10 : ∀ a, a < 0 → ∀ b, b < 0 → a ≠ b → (TJ10 a).2.1 ≠ (TJ10 b).2.1 := by decide +kernel
theorem tyJ10_ok : ∀ k, k < 0 → parseFieldDescriptor (TJ10 k).2.2.1 = some (tyJ10 k) := by decide +kernel
def RL : String := "DreamSharesLaw"
abbrev cL_law : ByteArray := code
def yL_law : MethodName := ⟨RL, "law", "([I)Z"⟩
abbrev vwCl : List vw_C := [(RX0, TX0, 3), (RX1, TX1, 2), (RX2, TX2, 8), (RX3, TX3, 1), (RX4, TX4, 2), (RX5, TX5, 3), (RX6, TX6, 4), (RX7, TX7, 2), (RX8, TX8, 18), (RX9, TX9, 31)]
