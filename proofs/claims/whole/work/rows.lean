section
-- ===== PART A: goes FIRST, ahead of the names: the tables' words, and 'selects' of the private methods out of them =====
/-- a private method of a class that the tables say can be made, by its rows of tables_1 -/
def lw_okq (q : MethodName × Nat) : Prop := (q.1.cls ≠ "java/lang/invoke/MethodHandle" ∧ q.1.cls ≠ "java/lang/invoke/VarHandle") ∧ Cond.instantiable q.1.cls q.2 ∈ tables_1 ∧ Cond.privateMethod q.1 ∈ tables_1 ∧ Cond.instanceMethod q.1 ∈ tables_1
theorem lw_p0 : lw_okq (⟨"OrderLevels", "recorded", "(I)I"⟩, 5) := ⟨⟨by decide +kernel, by decide +kernel⟩, List.mem_of_getElem? (i := 14) (by decide +kernel), List.mem_of_getElem? (i := 200) (by decide +kernel), List.mem_of_getElem? (i := 201) (by decide +kernel)⟩
theorem lw_p1 : lw_okq (⟨"OrderLevels$Shop", "keepSale", "(II)V"⟩, 14) := ⟨⟨by decide +kernel, by decide +kernel⟩, List.mem_of_getElem? (i := 22) (by decide +kernel), List.mem_of_getElem? (i := 287) (by decide +kernel), List.mem_of_getElem? (i := 288) (by decide +kernel)⟩
theorem lw_p2 : lw_okq (⟨"OrderLevels$Means", "prepare", "(LOrderLevels$Shop;)V"⟩, 9) := ⟨⟨by decide +kernel, by decide +kernel⟩, List.mem_of_getElem? (i := 91) (by decide +kernel), List.mem_of_getElem? (i := 337) (by decide +kernel), List.mem_of_getElem? (i := 338) (by decide +kernel)⟩
theorem lw_p3 : lw_okq (⟨"OrderLevels$Means", "fillValues", "(LOrderLevels$Shop;I)V"⟩, 9) := ⟨⟨by decide +kernel, by decide +kernel⟩, List.mem_of_getElem? (i := 91) (by decide +kernel), List.mem_of_getElem? (i := 350) (by decide +kernel), List.mem_of_getElem? (i := 351) (by decide +kernel)⟩
theorem lw_p4 : lw_okq (⟨"OrderLevels$Means", "costBehind", "(LOrderLevels$Shop;II[J)J"⟩, 9) := ⟨⟨by decide +kernel, by decide +kernel⟩, List.mem_of_getElem? (i := 91) (by decide +kernel), List.mem_of_getElem? (i := 358) (by decide +kernel), List.mem_of_getElem? (i := 359) (by decide +kernel)⟩
theorem lw_p5 : lw_okq (⟨"OrderLevels$Means", "fillBests", "(LOrderLevels$Shop;I)V"⟩, 9) := ⟨⟨by decide +kernel, by decide +kernel⟩, List.mem_of_getElem? (i := 91) (by decide +kernel), List.mem_of_getElem? (i := 366) (by decide +kernel), List.mem_of_getElem? (i := 367) (by decide +kernel)⟩
theorem lw_p6 : lw_okq (⟨"OrderLevels$Means", "fillPlan", "(LOrderLevels$Shop;IIIII)V"⟩, 9) := ⟨⟨by decide +kernel, by decide +kernel⟩, List.mem_of_getElem? (i := 91) (by decide +kernel), List.mem_of_getElem? (i := 410) (by decide +kernel), List.mem_of_getElem? (i := 411) (by decide +kernel)⟩
theorem lw_p7 : lw_okq (⟨"OrderLevels$Means", "orders", "(II)Z"⟩, 9) := ⟨⟨by decide +kernel, by decide +kernel⟩, List.mem_of_getElem? (i := 91) (by decide +kernel), List.mem_of_getElem? (i := 444) (by decide +kernel), List.mem_of_getElem? (i := 445) (by decide +kernel)⟩
theorem lw_p8 : lw_okq (⟨"OrderLevels$Means", "isConvexityGap", "(II)Z"⟩, 9) := ⟨⟨by decide +kernel, by decide +kernel⟩, List.mem_of_getElem? (i := 91) (by decide +kernel), List.mem_of_getElem? (i := 453) (by decide +kernel), List.mem_of_getElem? (i := 454) (by decide +kernel)⟩
theorem lw_p9 : lw_okq (⟨"OrderLevels$Means", "isOrderGap", "(II)Z"⟩, 9) := ⟨⟨by decide +kernel, by decide +kernel⟩, List.mem_of_getElem? (i := 91) (by decide +kernel), List.mem_of_getElem? (i := 466) (by decide +kernel), List.mem_of_getElem? (i := 467) (by decide +kernel)⟩
theorem lw_p10 : lw_okq (⟨"OrderLevels$Means", "isNewLevel", "(II)Z"⟩, 9) := ⟨⟨by decide +kernel, by decide +kernel⟩, List.mem_of_getElem? (i := 91) (by decide +kernel), List.mem_of_getElem? (i := 478) (by decide +kernel), List.mem_of_getElem? (i := 479) (by decide +kernel)⟩
theorem lw_p11 : lw_okq (⟨"OrderLevels$Means", "keepPair", "(IIJ)V"⟩, 9) := ⟨⟨by decide +kernel, by decide +kernel⟩, List.mem_of_getElem? (i := 91) (by decide +kernel), List.mem_of_getElem? (i := 491) (by decide +kernel), List.mem_of_getElem? (i := 492) (by decide +kernel)⟩
theorem lw_p12 : lw_okq (⟨"OrderLevels$Script", "runCommand", "(LOrderLevels$Shop;)I"⟩, 7) := ⟨⟨by decide +kernel, by decide +kernel⟩, List.mem_of_getElem? (i := 130) (by decide +kernel), List.mem_of_getElem? (i := 543) (by decide +kernel), List.mem_of_getElem? (i := 544) (by decide +kernel)⟩
theorem lw_p13 : lw_okq (⟨"OrderLevels$Script", "readKind", "()I"⟩, 7) := ⟨⟨by decide +kernel, by decide +kernel⟩, List.mem_of_getElem? (i := 130) (by decide +kernel), List.mem_of_getElem? (i := 547) (by decide +kernel), List.mem_of_getElem? (i := 548) (by decide +kernel)⟩
theorem lw_p14 : lw_okq (⟨"OrderLevels$Script", "skipWord", "(Ljava/lang/String;)Z"⟩, 7) := ⟨⟨by decide +kernel, by decide +kernel⟩, List.mem_of_getElem? (i := 130) (by decide +kernel), List.mem_of_getElem? (i := 561) (by decide +kernel), List.mem_of_getElem? (i := 562) (by decide +kernel)⟩
theorem lw_p15 : lw_okq (⟨"OrderLevels$Script", "readNumbers", "(I)Z"⟩, 7) := ⟨⟨by decide +kernel, by decide +kernel⟩, List.mem_of_getElem? (i := 130) (by decide +kernel), List.mem_of_getElem? (i := 616) (by decide +kernel), List.mem_of_getElem? (i := 617) (by decide +kernel)⟩
def lw_privs_1 : List (MethodName × Nat) := [(⟨"OrderLevels", "recorded", "(I)I"⟩, 5), (⟨"OrderLevels$Shop", "keepSale", "(II)V"⟩, 14), (⟨"OrderLevels$Means", "prepare", "(LOrderLevels$Shop;)V"⟩, 9), (⟨"OrderLevels$Means", "fillValues", "(LOrderLevels$Shop;I)V"⟩, 9), (⟨"OrderLevels$Means", "costBehind", "(LOrderLevels$Shop;II[J)J"⟩, 9), (⟨"OrderLevels$Means", "fillBests", "(LOrderLevels$Shop;I)V"⟩, 9), (⟨"OrderLevels$Means", "fillPlan", "(LOrderLevels$Shop;IIIII)V"⟩, 9), (⟨"OrderLevels$Means", "orders", "(II)Z"⟩, 9), (⟨"OrderLevels$Means", "isConvexityGap", "(II)Z"⟩, 9), (⟨"OrderLevels$Means", "isOrderGap", "(II)Z"⟩, 9), (⟨"OrderLevels$Means", "isNewLevel", "(II)Z"⟩, 9), (⟨"OrderLevels$Means", "keepPair", "(IIJ)V"⟩, 9), (⟨"OrderLevels$Script", "runCommand", "(LOrderLevels$Shop;)I"⟩, 7), (⟨"OrderLevels$Script", "readKind", "()I"⟩, 7), (⟨"OrderLevels$Script", "skipWord", "(Ljava/lang/String;)Z"⟩, 7), (⟨"OrderLevels$Script", "readNumbers", "(I)Z"⟩, 7)]
theorem lw_r1 : ∀ q ∈ lw_privs_1, lw_okq q := List.forall_mem_cons.mpr ⟨lw_p0, List.forall_mem_cons.mpr ⟨lw_p1, List.forall_mem_cons.mpr ⟨lw_p2, List.forall_mem_cons.mpr ⟨lw_p3, List.forall_mem_cons.mpr ⟨lw_p4, List.forall_mem_cons.mpr ⟨lw_p5, List.forall_mem_cons.mpr ⟨lw_p6, List.forall_mem_cons.mpr ⟨lw_p7, List.forall_mem_cons.mpr ⟨lw_p8, List.forall_mem_cons.mpr ⟨lw_p9, List.forall_mem_cons.mpr ⟨lw_p10, List.forall_mem_cons.mpr ⟨lw_p11, List.forall_mem_cons.mpr ⟨lw_p12, List.forall_mem_cons.mpr ⟨lw_p13, List.forall_mem_cons.mpr ⟨lw_p14, List.forall_mem_cons.mpr ⟨lw_p15, fun _ h => absurd h List.not_mem_nil⟩⟩⟩⟩⟩⟩⟩⟩⟩⟩⟩⟩⟩⟩⟩⟩
theorem lw_p16 : lw_okq (⟨"OrderLevels$Script", "skipSign", "(C)Z"⟩, 7) := ⟨⟨by decide +kernel, by decide +kernel⟩, List.mem_of_getElem? (i := 130) (by decide +kernel), List.mem_of_getElem? (i := 620) (by decide +kernel), List.mem_of_getElem? (i := 621) (by decide +kernel)⟩
theorem lw_p17 : lw_okq (⟨"OrderLevels$Script", "readNumber", "()I"⟩, 7) := ⟨⟨by decide +kernel, by decide +kernel⟩, List.mem_of_getElem? (i := 130) (by decide +kernel), List.mem_of_getElem? (i := 624) (by decide +kernel), List.mem_of_getElem? (i := 625) (by decide +kernel)⟩
theorem lw_p18 : lw_okq (⟨"OrderLevels$Script", "perform", "(LOrderLevels$Shop;I)I"⟩, 7) := ⟨⟨by decide +kernel, by decide +kernel⟩, List.mem_of_getElem? (i := 130) (by decide +kernel), List.mem_of_getElem? (i := 629) (by decide +kernel), List.mem_of_getElem? (i := 630) (by decide +kernel)⟩
theorem lw_p19 : lw_okq (⟨"OrderLevelsModel", "begins", "()V"⟩, 15) := ⟨⟨by decide +kernel, by decide +kernel⟩, List.mem_of_getElem? (i := 662) (by decide +kernel), List.mem_of_getElem? (i := 718) (by decide +kernel), List.mem_of_getElem? (i := 719) (by decide +kernel)⟩
theorem lw_p20 : lw_okq (⟨"OrderLevelsModel", "weighs", "(II)I"⟩, 15) := ⟨⟨by decide +kernel, by decide +kernel⟩, List.mem_of_getElem? (i := 662) (by decide +kernel), List.mem_of_getElem? (i := 722) (by decide +kernel), List.mem_of_getElem? (i := 723) (by decide +kernel)⟩
theorem lw_p21 : lw_okq (⟨"OrderLevelsModel", "weights", "()I"⟩, 15) := ⟨⟨by decide +kernel, by decide +kernel⟩, List.mem_of_getElem? (i := 662) (by decide +kernel), List.mem_of_getElem? (i := 730) (by decide +kernel), List.mem_of_getElem? (i := 731) (by decide +kernel)⟩
theorem lw_p22 : lw_okq (⟨"OrderLevelsModel", "acted", "(I)I"⟩, 15) := ⟨⟨by decide +kernel, by decide +kernel⟩, List.mem_of_getElem? (i := 662) (by decide +kernel), List.mem_of_getElem? (i := 736) (by decide +kernel), List.mem_of_getElem? (i := 737) (by decide +kernel)⟩
theorem lw_p23 : lw_okq (⟨"OrderLevelsModel", "costs", "(II)I"⟩, 15) := ⟨⟨by decide +kernel, by decide +kernel⟩, List.mem_of_getElem? (i := 662) (by decide +kernel), List.mem_of_getElem? (i := 744) (by decide +kernel), List.mem_of_getElem? (i := 745) (by decide +kernel)⟩
theorem lw_p24 : lw_okq (⟨"OrderLevelsModel", "plans", "(III)I"⟩, 15) := ⟨⟨by decide +kernel, by decide +kernel⟩, List.mem_of_getElem? (i := 662) (by decide +kernel), List.mem_of_getElem? (i := 755) (by decide +kernel), List.mem_of_getElem? (i := 756) (by decide +kernel)⟩
theorem lw_p25 : lw_okq (⟨"OrderLevelsModel", "seasons", "(II)I"⟩, 15) := ⟨⟨by decide +kernel, by decide +kernel⟩, List.mem_of_getElem? (i := 662) (by decide +kernel), List.mem_of_getElem? (i := 763) (by decide +kernel), List.mem_of_getElem? (i := 764) (by decide +kernel)⟩
theorem lw_p26 : lw_okq (⟨"OrderLevelsModel", "orders", "(I)I"⟩, 15) := ⟨⟨by decide +kernel, by decide +kernel⟩, List.mem_of_getElem? (i := 662) (by decide +kernel), List.mem_of_getElem? (i := 771) (by decide +kernel), List.mem_of_getElem? (i := 772) (by decide +kernel)⟩
theorem lw_p27 : lw_okq (⟨"OrderLevelsModel", "followed", "()I"⟩, 15) := ⟨⟨by decide +kernel, by decide +kernel⟩, List.mem_of_getElem? (i := 662) (by decide +kernel), List.mem_of_getElem? (i := 779) (by decide +kernel), List.mem_of_getElem? (i := 780) (by decide +kernel)⟩
theorem lw_p28 : lw_okq (⟨"OrderLevelsModel", "sells", "(I)I"⟩, 15) := ⟨⟨by decide +kernel, by decide +kernel⟩, List.mem_of_getElem? (i := 662) (by decide +kernel), List.mem_of_getElem? (i := 787) (by decide +kernel), List.mem_of_getElem? (i := 788) (by decide +kernel)⟩
theorem lw_p29 : lw_okq (⟨"OrderLevelsModel", "layBest", "(I)V"⟩, 15) := ⟨⟨by decide +kernel, by decide +kernel⟩, List.mem_of_getElem? (i := 662) (by decide +kernel), List.mem_of_getElem? (i := 812) (by decide +kernel), List.mem_of_getElem? (i := 813) (by decide +kernel)⟩
theorem lw_p30 : lw_okq (⟨"OrderLevelsModel", "layPowers", "()V"⟩, 15) := ⟨⟨by decide +kernel, by decide +kernel⟩, List.mem_of_getElem? (i := 662) (by decide +kernel), List.mem_of_getElem? (i := 816) (by decide +kernel), List.mem_of_getElem? (i := 817) (by decide +kernel)⟩
theorem lw_p31 : lw_okq (⟨"OrderLevelsModel", "levelBy", "([JII)J"⟩, 15) := ⟨⟨by decide +kernel, by decide +kernel⟩, List.mem_of_getElem? (i := 662) (by decide +kernel), List.mem_of_getElem? (i := 820) (by decide +kernel), List.mem_of_getElem? (i := 821) (by decide +kernel)⟩
def lw_privs_2 : List (MethodName × Nat) := [(⟨"OrderLevels$Script", "skipSign", "(C)Z"⟩, 7), (⟨"OrderLevels$Script", "readNumber", "()I"⟩, 7), (⟨"OrderLevels$Script", "perform", "(LOrderLevels$Shop;I)I"⟩, 7), (⟨"OrderLevelsModel", "begins", "()V"⟩, 15), (⟨"OrderLevelsModel", "weighs", "(II)I"⟩, 15), (⟨"OrderLevelsModel", "weights", "()I"⟩, 15), (⟨"OrderLevelsModel", "acted", "(I)I"⟩, 15), (⟨"OrderLevelsModel", "costs", "(II)I"⟩, 15), (⟨"OrderLevelsModel", "plans", "(III)I"⟩, 15), (⟨"OrderLevelsModel", "seasons", "(II)I"⟩, 15), (⟨"OrderLevelsModel", "orders", "(I)I"⟩, 15), (⟨"OrderLevelsModel", "followed", "()I"⟩, 15), (⟨"OrderLevelsModel", "sells", "(I)I"⟩, 15), (⟨"OrderLevelsModel", "layBest", "(I)V"⟩, 15), (⟨"OrderLevelsModel", "layPowers", "()V"⟩, 15), (⟨"OrderLevelsModel", "levelBy", "([JII)J"⟩, 15)]
theorem lw_r2 : ∀ q ∈ lw_privs_2, lw_okq q := List.forall_mem_cons.mpr ⟨lw_p16, List.forall_mem_cons.mpr ⟨lw_p17, List.forall_mem_cons.mpr ⟨lw_p18, List.forall_mem_cons.mpr ⟨lw_p19, List.forall_mem_cons.mpr ⟨lw_p20, List.forall_mem_cons.mpr ⟨lw_p21, List.forall_mem_cons.mpr ⟨lw_p22, List.forall_mem_cons.mpr ⟨lw_p23, List.forall_mem_cons.mpr ⟨lw_p24, List.forall_mem_cons.mpr ⟨lw_p25, List.forall_mem_cons.mpr ⟨lw_p26, List.forall_mem_cons.mpr ⟨lw_p27, List.forall_mem_cons.mpr ⟨lw_p28, List.forall_mem_cons.mpr ⟨lw_p29, List.forall_mem_cons.mpr ⟨lw_p30, List.forall_mem_cons.mpr ⟨lw_p31, fun _ h => absurd h List.not_mem_nil⟩⟩⟩⟩⟩⟩⟩⟩⟩⟩⟩⟩⟩⟩⟩⟩
theorem lw_p32 : lw_okq (⟨"OrderLevelsModel", "layPlanned", "(I)V"⟩, 15) := ⟨⟨by decide +kernel, by decide +kernel⟩, List.mem_of_getElem? (i := 662) (by decide +kernel), List.mem_of_getElem? (i := 835) (by decide +kernel), List.mem_of_getElem? (i := 836) (by decide +kernel)⟩
theorem lw_p33 : lw_okq (⟨"OrderLevelsModel", "planBy", "(IIII)J"⟩, 15) := ⟨⟨by decide +kernel, by decide +kernel⟩, List.mem_of_getElem? (i := 662) (by decide +kernel), List.mem_of_getElem? (i := 839) (by decide +kernel), List.mem_of_getElem? (i := 840) (by decide +kernel)⟩
theorem lw_p34 : lw_okq (⟨"OrderLevelsModel", "leastLevel", "(I)I"⟩, 15) := ⟨⟨by decide +kernel, by decide +kernel⟩, List.mem_of_getElem? (i := 662) (by decide +kernel), List.mem_of_getElem? (i := 855) (by decide +kernel), List.mem_of_getElem? (i := 856) (by decide +kernel)⟩
theorem lw_p35 : lw_okq (⟨"OrderLevelsModel", "lastOrder", "(I)I"⟩, 15) := ⟨⟨by decide +kernel, by decide +kernel⟩, List.mem_of_getElem? (i := 662) (by decide +kernel), List.mem_of_getElem? (i := 859) (by decide +kernel), List.mem_of_getElem? (i := 860) (by decide +kernel)⟩
theorem lw_p36 : lw_okq (⟨"OrderLevelsModel", "isOrdering", "(II)Z"⟩, 15) := ⟨⟨by decide +kernel, by decide +kernel⟩, List.mem_of_getElem? (i := 662) (by decide +kernel), List.mem_of_getElem? (i := 863) (by decide +kernel), List.mem_of_getElem? (i := 864) (by decide +kernel)⟩
theorem lw_p37 : lw_okq (⟨"OrderLevelsModel", "unlike", "(I)I"⟩, 15) := ⟨⟨by decide +kernel, by decide +kernel⟩, List.mem_of_getElem? (i := 662) (by decide +kernel), List.mem_of_getElem? (i := 867) (by decide +kernel), List.mem_of_getElem? (i := 868) (by decide +kernel)⟩
theorem lw_p38 : lw_okq (⟨"OrderLevelsModel", "gaps", "(IZZ)I"⟩, 15) := ⟨⟨by decide +kernel, by decide +kernel⟩, List.mem_of_getElem? (i := 662) (by decide +kernel), List.mem_of_getElem? (i := 871) (by decide +kernel), List.mem_of_getElem? (i := 872) (by decide +kernel)⟩
theorem lw_p39 : lw_okq (⟨"OrderLevelsModel", "isGap", "(II)Z"⟩, 15) := ⟨⟨by decide +kernel, by decide +kernel⟩, List.mem_of_getElem? (i := 662) (by decide +kernel), List.mem_of_getElem? (i := 875) (by decide +kernel), List.mem_of_getElem? (i := 876) (by decide +kernel)⟩
theorem lw_p40 : lw_okq (⟨"OrderLevelsModel", "samePlan", "(IIII)J"⟩, 15) := ⟨⟨by decide +kernel, by decide +kernel⟩, List.mem_of_getElem? (i := 662) (by decide +kernel), List.mem_of_getElem? (i := 884) (by decide +kernel), List.mem_of_getElem? (i := 885) (by decide +kernel)⟩
theorem lw_p41 : lw_okq (⟨"OrderLevelsModel", "does", "()I"⟩, 15) := ⟨⟨by decide +kernel, by decide +kernel⟩, List.mem_of_getElem? (i := 662) (by decide +kernel), List.mem_of_getElem? (i := 904) (by decide +kernel), List.mem_of_getElem? (i := 905) (by decide +kernel)⟩
theorem lw_p42 : lw_okq (⟨"OrderLevelsModel", "command", "()I"⟩, 15) := ⟨⟨by decide +kernel, by decide +kernel⟩, List.mem_of_getElem? (i := 662) (by decide +kernel), List.mem_of_getElem? (i := 908) (by decide +kernel), List.mem_of_getElem? (i := 909) (by decide +kernel)⟩
theorem lw_p43 : lw_okq (⟨"OrderLevelsModel", "readWord", "()I"⟩, 15) := ⟨⟨by decide +kernel, by decide +kernel⟩, List.mem_of_getElem? (i := 662) (by decide +kernel), List.mem_of_getElem? (i := 912) (by decide +kernel), List.mem_of_getElem? (i := 913) (by decide +kernel)⟩
theorem lw_p44 : lw_okq (⟨"OrderLevelsModel", "here", "()I"⟩, 15) := ⟨⟨by decide +kernel, by decide +kernel⟩, List.mem_of_getElem? (i := 662) (by decide +kernel), List.mem_of_getElem? (i := 916) (by decide +kernel), List.mem_of_getElem? (i := 917) (by decide +kernel)⟩
theorem lw_p45 : lw_okq (⟨"OrderLevelsModel", "readNumber", "()I"⟩, 15) := ⟨⟨by decide +kernel, by decide +kernel⟩, List.mem_of_getElem? (i := 662) (by decide +kernel), List.mem_of_getElem? (i := 930) (by decide +kernel), List.mem_of_getElem? (i := 931) (by decide +kernel)⟩
theorem lw_p46 : lw_okq (⟨"OrderLevelsModel", "must", "(I)V"⟩, 15) := ⟨⟨by decide +kernel, by decide +kernel⟩, List.mem_of_getElem? (i := 662) (by decide +kernel), List.mem_of_getElem? (i := 934) (by decide +kernel), List.mem_of_getElem? (i := 935) (by decide +kernel)⟩
theorem lw_p47 : lw_okq (⟨"OrderLevelsModel", "returns", "()V"⟩, 15) := ⟨⟨by decide +kernel, by decide +kernel⟩, List.mem_of_getElem? (i := 662) (by decide +kernel), List.mem_of_getElem? (i := 938) (by decide +kernel), List.mem_of_getElem? (i := 939) (by decide +kernel)⟩
def lw_privs_3 : List (MethodName × Nat) := [(⟨"OrderLevelsModel", "layPlanned", "(I)V"⟩, 15), (⟨"OrderLevelsModel", "planBy", "(IIII)J"⟩, 15), (⟨"OrderLevelsModel", "leastLevel", "(I)I"⟩, 15), (⟨"OrderLevelsModel", "lastOrder", "(I)I"⟩, 15), (⟨"OrderLevelsModel", "isOrdering", "(II)Z"⟩, 15), (⟨"OrderLevelsModel", "unlike", "(I)I"⟩, 15), (⟨"OrderLevelsModel", "gaps", "(IZZ)I"⟩, 15), (⟨"OrderLevelsModel", "isGap", "(II)Z"⟩, 15), (⟨"OrderLevelsModel", "samePlan", "(IIII)J"⟩, 15), (⟨"OrderLevelsModel", "does", "()I"⟩, 15), (⟨"OrderLevelsModel", "command", "()I"⟩, 15), (⟨"OrderLevelsModel", "readWord", "()I"⟩, 15), (⟨"OrderLevelsModel", "here", "()I"⟩, 15), (⟨"OrderLevelsModel", "readNumber", "()I"⟩, 15), (⟨"OrderLevelsModel", "must", "(I)V"⟩, 15), (⟨"OrderLevelsModel", "returns", "()V"⟩, 15)]
theorem lw_r3 : ∀ q ∈ lw_privs_3, lw_okq q := List.forall_mem_cons.mpr ⟨lw_p32, List.forall_mem_cons.mpr ⟨lw_p33, List.forall_mem_cons.mpr ⟨lw_p34, List.forall_mem_cons.mpr ⟨lw_p35, List.forall_mem_cons.mpr ⟨lw_p36, List.forall_mem_cons.mpr ⟨lw_p37, List.forall_mem_cons.mpr ⟨lw_p38, List.forall_mem_cons.mpr ⟨lw_p39, List.forall_mem_cons.mpr ⟨lw_p40, List.forall_mem_cons.mpr ⟨lw_p41, List.forall_mem_cons.mpr ⟨lw_p42, List.forall_mem_cons.mpr ⟨lw_p43, List.forall_mem_cons.mpr ⟨lw_p44, List.forall_mem_cons.mpr ⟨lw_p45, List.forall_mem_cons.mpr ⟨lw_p46, List.forall_mem_cons.mpr ⟨lw_p47, fun _ h => absurd h List.not_mem_nil⟩⟩⟩⟩⟩⟩⟩⟩⟩⟩⟩⟩⟩⟩⟩⟩
def lw_privs : List (MethodName × Nat) := lw_privs_1 ++ (lw_privs_2 ++ (lw_privs_3))
def lw_tbl : List Cond := k2_sels lw_privs ++ tables_1
theorem lw_privs_ok : ∀ q ∈ lw_privs, lw_okq q := by
  show ∀ q ∈ lw_privs_1 ++ (lw_privs_2 ++ (lw_privs_3)), lw_okq q
  exact List.forall_mem_append.mpr ⟨lw_r1, List.forall_mem_append.mpr ⟨lw_r2, lw_r3⟩⟩
end
section
-- PART 02 (by wip/whole/gen_tab.py): the classes, methods and links as tables
def pt_T0 : u_T := fun k => match k with
  | 0 => ("OrderLevels$History", "ring", "[LOrderLevels$Shop;", true)
  | 1 => ("OrderLevels$History", "newest", "I", false)
  | _ => ("OrderLevels$History", "size", "I", false)
def pt_T1 : u_T := fun k => match k with
  | 0 => ("OrderLevels$Means", "powers", "[J", true)
  | 1 => ("OrderLevels$Means", "periodPrices", "[J", true)
  | 2 => ("OrderLevels$Means", "leasts", "[[J", true)
  | 3 => ("OrderLevels$Means", "values", "[[J", true)
  | 4 => ("OrderLevels$Means", "bests", "[[I", true)
  | 5 => ("OrderLevels$Means", "plans", "[[J", true)
  | 6 => ("OrderLevels$Means", "foundLow", "I", false)
  | 7 => ("OrderLevels$Means", "foundHigh", "I", false)
  | _ => ("OrderLevels$Means", "foundCost", "J", false)
def pt_T2 : u_T := fun k => match k with
  | 0 => ("OrderLevels$Script", "signs", "[C", true)
  | 1 => ("OrderLevels$Script", "numbers", "[I", true)
  | 2 => ("OrderLevels$Script", "size", "I", false)
  | 3 => ("OrderLevels$Script", "at", "I", false)
  | 4 => ("OrderLevels$Script", "done", "I", false)
  | 5 => ("OrderLevels$Script", "faultAt", "I", false)
  | _ => ("OrderLevels$Script", "reason", "I", false)
def pt_T3 : u_T := fun k => match k with
  | 0 => ("OrderLevels$Shop", "weights", "[I", true)
  | 1 => ("OrderLevels$Shop", "costs", "[I", true)
  | 2 => ("OrderLevels$Shop", "lows", "[I", true)
  | 3 => ("OrderLevels$Shop", "highs", "[I", true)
  | 4 => ("OrderLevels$Shop", "saleRows", "[I", true)
  | 5 => ("OrderLevels$Shop", "stock", "I", false)
  | 6 => ("OrderLevels$Shop", "periods", "I", false)
  | 7 => ("OrderLevels$Shop", "ordered", "Z", false)
  | 8 => ("OrderLevels$Shop", "orders", "I", false)
  | 9 => ("OrderLevels$Shop", "piecesOrdered", "I", false)
  | 10 => ("OrderLevels$Shop", "piecesSold", "I", false)
  | 11 => ("OrderLevels$Shop", "piecesLost", "I", false)
  | 12 => ("OrderLevels$Shop", "money", "I", false)
  | _ => ("OrderLevels$Shop", "sales", "I", false)
def pt_T4 : u_T := fun k => match k with
  | 0 => ("OrderLevels", "shop", "LOrderLevels$Shop;", true)
  | 1 => ("OrderLevels", "spare", "LOrderLevels$Shop;", true)
  | 2 => ("OrderLevels", "history", "LOrderLevels$History;", true)
  | 3 => ("OrderLevels", "means", "LOrderLevels$Means;", true)
  | _ => ("OrderLevels", "script", "LOrderLevels$Script;", true)
def pt_T5 : u_T := fun k => match k with
  | 0 => ("OrderLevelsModel", "s", "[I", true)
  | 1 => ("OrderLevelsModel", "begun", "[I", true)
  | 2 => ("OrderLevelsModel", "past", "[I", true)
  | 3 => ("OrderLevelsModel", "states", "I", false)
  | 4 => ("OrderLevelsModel", "text", "[I", true)
  | 5 => ("OrderLevelsModel", "length", "I", false)
  | 6 => ("OrderLevelsModel", "means", "[J", true)
  | 7 => ("OrderLevelsModel", "levels", "[J", true)
  | 8 => ("OrderLevelsModel", "ups", "[I", true)
  | 9 => ("OrderLevelsModel", "powers", "[J", true)
  | 10 => ("OrderLevelsModel", "plannedMeans", "[J", true)
  | 11 => ("OrderLevelsModel", "at", "I", false)
  | 12 => ("OrderLevelsModel", "isForm", "Z", false)
  | 13 => ("OrderLevelsModel", "reason", "I", false)
  | _ => ("OrderLevelsModel", "numbers", "[I", true)
abbrev pi_cl : List vw_C := [("OrderLevels$History", pt_T0, 3), ("OrderLevels$Means", pt_T1, 9), ("OrderLevels$Script", pt_T2, 7), ("OrderLevels$Shop", pt_T3, 14), ("OrderLevels", pt_T4, 5), ("OrderLevelsModel", pt_T5, 15)]
def pi_dft : List (List Value) := [[.null, .int 0, .int 0], [.null, .null, .null, .null, .null, .null, .int 0, .int 0, .long 0], [.null, .null, .int 0, .int 0, .int 0, .int 0, .int 0], [.null, .null, .null, .null, .null, .int 0, .int 0, .int 0, .int 0, .int 0, .int 0, .int 0, .int 0, .int 0], [.null, .null, .null, .null, .null], [.null, .null, .null, .int 0, .null, .int 0, .null, .null, .null, .null, .null, .int 0, .int 0, .int 0, .null]]
def pi_own : List String := ["OrderLevels$History", "OrderLevels$Means", "OrderLevels$Script", "OrderLevels$Shop", "OrderLevels", "OrderLevelsModel", "OrderLevelsLaw", "java/lang/String", "java/lang/StringLatin1", "jdk/internal/util/Preconditions", "java/lang/Math"]
def pi_tys : List FieldType := [.int, .char, .long, .object "OrderLevels$Shop", .array .int, .array .long]
-- a method: name, bytes, locals, what it returns, its class, its rank, is it <init>
abbrev pi_M : Type := MethodName × ByteArray × Nat × Option FieldType × Nat × Nat × Bool
def pm_Ol_init : pi_M := (⟨"OrderLevels", "<init>", "()V"⟩, prog_1_method_1_code, 1, none, 4, 3, true)
def pm_Sh_init : pi_M := (⟨"OrderLevels$Shop", "<init>", "()V"⟩, prog_5_method_1_code, 1, none, 3, 1, true)
def pm_Hi_init : pi_M := (⟨"OrderLevels$History", "<init>", "()V"⟩, prog_2_method_1_code, 2, none, 0, 2, true)
def pm_Me_init : pi_M := (⟨"OrderLevels$Means", "<init>", "()V"⟩, prog_3_method_1_code, 1, none, 1, 1, true)
def pm_Sc_init : pi_M := (⟨"OrderLevels$Script", "<init>", "()V"⟩, prog_4_method_1_code, 1, none, 2, 1, true)
def pm_Ol_weigh : pi_M := (⟨"OrderLevels", "weigh", "(II)I"⟩, prog_1_method_2_code, 3, (some .int), 4, 4, false)
def pm_Sh_copyFrom : pi_M := (⟨"OrderLevels$Shop", "copyFrom", "(LOrderLevels$Shop;)V"⟩, prog_5_method_2_code, 2, none, 3, 1, false)
def pm_Sh_setWeight : pi_M := (⟨"OrderLevels$Shop", "setWeight", "(II)I"⟩, prog_5_method_4_code, 4, (some .int), 3, 2, false)
def pm_Ol_outside : pi_M := (⟨"OrderLevels", "outside", "(III)Z"⟩, prog_1_method_25_code, 3, (some .boolean), 4, 1, false)
def pm_Sh_weightSum : pi_M := (⟨"OrderLevels$Shop", "weightSum", "()I"⟩, prog_5_method_3_code, 6, (some .int), 3, 1, false)
def pm_Ol_recorded : pi_M := (⟨"OrderLevels", "recorded", "(I)I"⟩, prog_1_method_24_code, 2, (some .int), 4, 3, false)
def pm_Hi_record : pi_M := (⟨"OrderLevels$History", "record", "(LOrderLevels$Shop;)V"⟩, prog_2_method_3_code, 2, none, 0, 2, false)
def pm_Ma_min : pi_M := (⟨"java/lang/Math", "min", "(II)I"⟩, prog_8_method_69_code, 2, (some .int), 10, 1, false)
def pm_Ol_cost : pi_M := (⟨"OrderLevels", "cost", "(II)I"⟩, prog_1_method_3_code, 3, (some .int), 4, 4, false)
def pm_Sh_setCost : pi_M := (⟨"OrderLevels$Shop", "setCost", "(II)I"⟩, prog_5_method_5_code, 4, (some .int), 3, 2, false)
def pm_Ol_plan : pi_M := (⟨"OrderLevels", "plan", "(III)I"⟩, prog_1_method_4_code, 4, (some .int), 4, 4, false)
def pm_Sh_setPlan : pi_M := (⟨"OrderLevels$Shop", "setPlan", "(III)I"⟩, prog_5_method_6_code, 5, (some .int), 3, 2, false)
def pm_Ol_setting : pi_M := (⟨"OrderLevels", "setting", "(II)I"⟩, prog_1_method_5_code, 3, (some .int), 4, 3, false)
def pm_Sh_settingOf : pi_M := (⟨"OrderLevels$Shop", "settingOf", "(II)I"⟩, prog_5_method_7_code, 3, (some .int), 3, 2, false)
def pm_Ol_season : pi_M := (⟨"OrderLevels", "season", "(II)I"⟩, prog_1_method_6_code, 3, (some .int), 4, 4, false)
def pm_Sh_begin : pi_M := (⟨"OrderLevels$Shop", "begin", "(II)I"⟩, prog_5_method_8_code, 4, (some .int), 3, 2, false)
def pm_Ol_order : pi_M := (⟨"OrderLevels", "order", "(I)I"⟩, prog_1_method_7_code, 2, (some .int), 4, 4, false)
def pm_Sh_orderUpTo : pi_M := (⟨"OrderLevels$Shop", "orderUpTo", "(I)I"⟩, prog_5_method_9_code, 3, (some .int), 3, 2, false)
def pm_Sh_orderPrice : pi_M := (⟨"OrderLevels$Shop", "orderPrice", "(II)I"⟩, prog_5_method_18_code, 3, (some .int), 3, 1, false)
def pm_Ol_follow : pi_M := (⟨"OrderLevels", "follow", "()I"⟩, prog_1_method_8_code, 1, (some .int), 4, 4, false)
def pm_Sh_followPlan : pi_M := (⟨"OrderLevels$Shop", "followPlan", "()I"⟩, prog_5_method_10_code, 1, (some .int), 3, 3, false)
def pm_Sh_lowLevel : pi_M := (⟨"OrderLevels$Shop", "lowLevel", "(I)I"⟩, prog_5_method_16_code, 2, (some .int), 3, 1, false)
def pm_Sh_highLevel : pi_M := (⟨"OrderLevels$Shop", "highLevel", "(I)I"⟩, prog_5_method_17_code, 2, (some .int), 3, 1, false)
def pm_Sh_levelAfter : pi_M := (⟨"OrderLevels$Shop", "levelAfter", "(III)I"⟩, prog_5_method_15_code, 3, (some .int), 3, 1, false)
def pm_Ol_sell : pi_M := (⟨"OrderLevels", "sell", "(I)I"⟩, prog_1_method_9_code, 2, (some .int), 4, 4, false)
def pm_Sh_serve : pi_M := (⟨"OrderLevels$Shop", "serve", "(I)I"⟩, prog_5_method_11_code, 3, (some .int), 3, 3, false)
def pm_Sh_keepSale : pi_M := (⟨"OrderLevels$Shop", "keepSale", "(II)V"⟩, prog_5_method_12_code, 4, none, 3, 1, false)
def pm_Sh_periodPrice : pi_M := (⟨"OrderLevels$Shop", "periodPrice", "(II)I"⟩, prog_5_method_19_code, 5, (some .int), 3, 2, false)
def pm_Ma_max : pi_M := (⟨"java/lang/Math", "max", "(II)I"⟩, prog_8_method_65_code, 2, (some .int), 10, 1, false)
def pm_Sh_endPrice : pi_M := (⟨"OrderLevels$Shop", "endPrice", "(I)I"⟩, prog_5_method_20_code, 2, (some .int), 3, 1, false)
def pm_Ol_saleAt : pi_M := (⟨"OrderLevels", "saleAt", "(II)I"⟩, prog_1_method_10_code, 3, (some .int), 4, 3, false)
def pm_Sh_saleNumber : pi_M := (⟨"OrderLevels$Shop", "saleNumber", "(II)I"⟩, prog_5_method_13_code, 3, (some .int), 3, 2, false)
def pm_Ol_count : pi_M := (⟨"OrderLevels", "count", "(I)I"⟩, prog_1_method_11_code, 2, (some .int), 4, 3, false)
def pm_Hi_size : pi_M := (⟨"OrderLevels$History", "size", "()I"⟩, prog_2_method_2_code, 1, (some .int), 0, 1, false)
def pm_Sc_size : pi_M := (⟨"OrderLevels$Script", "size", "()I"⟩, prog_4_method_2_code, 1, (some .int), 2, 1, false)
def pm_Sh_numberOf : pi_M := (⟨"OrderLevels$Shop", "numberOf", "(I)I"⟩, prog_5_method_14_code, 2, (some .int), 3, 2, false)
def pm_Ol_least : pi_M := (⟨"OrderLevels", "least", "(III)J"⟩, prog_1_method_12_code, 4, (some .long), 4, 6, false)
def pm_Me_findBest : pi_M := (⟨"OrderLevels$Means", "findBest", "(LOrderLevels$Shop;I)V"⟩, prog_3_method_10_code, 4, none, 1, 5, false)
def pm_Me_prepare : pi_M := (⟨"OrderLevels$Means", "prepare", "(LOrderLevels$Shop;)V"⟩, prog_3_method_14_code, 4, none, 1, 4, false)
def pm_Sh_weighedPeriodPrice : pi_M := (⟨"OrderLevels$Shop", "weighedPeriodPrice", "(I)J"⟩, prog_5_method_23_code, 5, (some .long), 3, 3, false)
def pm_Me_fillEnd : pi_M := (⟨"OrderLevels$Means", "fillEnd", "(LOrderLevels$Shop;[J)V"⟩, prog_3_method_15_code, 3, none, 1, 2, false)
def pm_Me_fillValues : pi_M := (⟨"OrderLevels$Means", "fillValues", "(LOrderLevels$Shop;I)V"⟩, prog_3_method_17_code, 4, none, 1, 4, false)
def pm_Sh_piecePrice : pi_M := (⟨"OrderLevels$Shop", "piecePrice", "(I)I"⟩, prog_5_method_21_code, 2, (some .int), 3, 1, false)
def pm_Me_costBehind : pi_M := (⟨"OrderLevels$Means", "costBehind", "(LOrderLevels$Shop;II[J)J"⟩, prog_3_method_16_code, 5, (some .long), 1, 3, false)
def pm_Sh_weighedRest : pi_M := (⟨"OrderLevels$Shop", "weighedRest", "(I[J)J"⟩, prog_5_method_24_code, 7, (some .long), 3, 2, false)
def pm_Me_fillBests : pi_M := (⟨"OrderLevels$Means", "fillBests", "(LOrderLevels$Shop;I)V"⟩, prog_3_method_18_code, 11, none, 1, 2, false)
def pm_Sh_firstOrderPrice : pi_M := (⟨"OrderLevels$Shop", "firstOrderPrice", "()I"⟩, prog_5_method_22_code, 1, (some .int), 3, 1, false)
def pm_Me_leastCost : pi_M := (⟨"OrderLevels$Means", "leastCost", "(II)J"⟩, prog_3_method_3_code, 3, (some .long), 1, 1, false)
def pm_Me_below : pi_M := (⟨"OrderLevels$Means", "below", "(I)J"⟩, prog_3_method_2_code, 2, (some .long), 1, 1, false)
def pm_Ol_partOf : pi_M := (⟨"OrderLevels", "partOf", "(JJI)J"⟩, prog_1_method_26_code, 7, (some .long), 4, 3, false)
def pm_Ol_commonDivisor : pi_M := (⟨"OrderLevels", "commonDivisor", "(JJ)J"⟩, prog_1_method_27_code, 11, (some .long), 4, 2, false)
def pm_Ma_abs : pi_M := (⟨"java/lang/Math", "abs", "(J)J"⟩, prog_8_method_61_code, 2, (some .long), 10, 1, false)
def pm_Ol_best : pi_M := (⟨"OrderLevels", "best", "(II)I"⟩, prog_1_method_13_code, 3, (some .int), 4, 6, false)
def pm_Me_bestLevel : pi_M := (⟨"OrderLevels$Means", "bestLevel", "(II)I"⟩, prog_3_method_5_code, 3, (some .int), 1, 1, false)
def pm_Ol_planned : pi_M := (⟨"OrderLevels", "planned", "(III)J"⟩, prog_1_method_14_code, 4, (some .long), 4, 6, false)
def pm_Me_followPlan : pi_M := (⟨"OrderLevels$Means", "followPlan", "(LOrderLevels$Shop;I)V"⟩, prog_3_method_11_code, 4, none, 1, 5, false)
def pm_Me_fillPlan : pi_M := (⟨"OrderLevels$Means", "fillPlan", "(LOrderLevels$Shop;IIIII)V"⟩, prog_3_method_19_code, 12, none, 1, 4, false)
def pm_Me_planCost : pi_M := (⟨"OrderLevels$Means", "planCost", "(II)J"⟩, prog_3_method_6_code, 3, (some .long), 1, 1, false)
def pm_Ol_regret : pi_M := (⟨"OrderLevels", "regret", "(III)J"⟩, prog_1_method_15_code, 6, (some .long), 4, 6, false)
def pm_Ol_levelValue : pi_M := (⟨"OrderLevels", "levelValue", "(III)J"⟩, prog_1_method_16_code, 4, (some .long), 4, 6, false)
def pm_Me_valueOf : pi_M := (⟨"OrderLevels$Means", "valueOf", "(II)J"⟩, prog_3_method_4_code, 3, (some .long), 1, 1, false)
def pm_Ol_shape : pi_M := (⟨"OrderLevels", "shape", "(II)I"⟩, prog_1_method_17_code, 3, (some .int), 4, 6, false)
def pm_Me_leastLevel : pi_M := (⟨"OrderLevels$Means", "leastLevel", "(I)I"⟩, prog_3_method_20_code, 5, (some .int), 1, 1, false)
def pm_Me_greatestOrdering : pi_M := (⟨"OrderLevels$Means", "greatestOrdering", "(I)I"⟩, prog_3_method_22_code, 3, (some .int), 1, 2, false)
def pm_Me_orders : pi_M := (⟨"OrderLevels$Means", "orders", "(II)Z"⟩, prog_3_method_21_code, 3, (some .boolean), 1, 1, false)
def pm_Me_convexityGaps : pi_M := (⟨"OrderLevels$Means", "convexityGaps", "(I)I"⟩, prog_3_method_24_code, 4, (some .int), 1, 2, false)
def pm_Me_isConvexityGap : pi_M := (⟨"OrderLevels$Means", "isConvexityGap", "(II)Z"⟩, prog_3_method_23_code, 4, (some .boolean), 1, 1, false)
def pm_Me_firstConvexityGap : pi_M := (⟨"OrderLevels$Means", "firstConvexityGap", "(I)I"⟩, prog_3_method_25_code, 3, (some .int), 1, 2, false)
def pm_Me_orderGaps : pi_M := (⟨"OrderLevels$Means", "orderGaps", "(I)I"⟩, prog_3_method_27_code, 4, (some .int), 1, 3, false)
def pm_Me_isOrderGap : pi_M := (⟨"OrderLevels$Means", "isOrderGap", "(II)Z"⟩, prog_3_method_26_code, 3, (some .boolean), 1, 2, false)
def pm_Me_firstOrderGap : pi_M := (⟨"OrderLevels$Means", "firstOrderGap", "(I)I"⟩, prog_3_method_28_code, 3, (some .int), 1, 3, false)
def pm_Me_unlikeLevels : pi_M := (⟨"OrderLevels$Means", "unlikeLevels", "(I)I"⟩, prog_3_method_29_code, 4, (some .int), 1, 3, false)
def pm_Me_isNewLevel : pi_M := (⟨"OrderLevels$Means", "isNewLevel", "(II)Z"⟩, prog_3_method_30_code, 4, (some .boolean), 1, 2, false)
def pm_Ol_bestPlan : pi_M := (⟨"OrderLevels", "bestPlan", "(III)J"⟩, prog_1_method_18_code, 4, (some .long), 4, 6, false)
def pm_Me_findPair : pi_M := (⟨"OrderLevels$Means", "findPair", "(LOrderLevels$Shop;II)V"⟩, prog_3_method_12_code, 8, none, 1, 5, false)
def pm_Me_keepPair : pi_M := (⟨"OrderLevels$Means", "keepPair", "(IIJ)V"⟩, prog_3_method_13_code, 5, none, 1, 1, false)
def pm_Me_pairLow : pi_M := (⟨"OrderLevels$Means", "pairLow", "()I"⟩, prog_3_method_7_code, 1, (some .int), 1, 1, false)
def pm_Me_pairHigh : pi_M := (⟨"OrderLevels$Means", "pairHigh", "()I"⟩, prog_3_method_8_code, 1, (some .int), 1, 1, false)
def pm_Me_pairCost : pi_M := (⟨"OrderLevels$Means", "pairCost", "()J"⟩, prog_3_method_9_code, 1, (some .long), 1, 1, false)
def pm_Ol_undo : pi_M := (⟨"OrderLevels", "undo", "()I"⟩, prog_1_method_19_code, 1, (some .int), 4, 3, false)
def pm_Hi_restore : pi_M := (⟨"OrderLevels$History", "restore", "(LOrderLevels$Shop;)I"⟩, prog_2_method_4_code, 2, (some .int), 0, 2, false)
def pm_Ol_type : pi_M := (⟨"OrderLevels", "type", "(I)I"⟩, prog_1_method_20_code, 2, (some .int), 4, 3, false)
def pm_Sc_append : pi_M := (⟨"OrderLevels$Script", "append", "(I)I"⟩, prog_4_method_3_code, 2, (some .int), 2, 2, false)
def pm_Ol_clearText : pi_M := (⟨"OrderLevels", "clearText", "()I"⟩, prog_1_method_21_code, 1, (some .int), 4, 2, false)
def pm_Sc_empty : pi_M := (⟨"OrderLevels$Script", "empty", "()I"⟩, prog_4_method_4_code, 2, (some .int), 2, 1, false)
def pm_Ol_fault : pi_M := (⟨"OrderLevels", "fault", "(I)I"⟩, prog_1_method_22_code, 2, (some .int), 4, 9, false)
def pm_Sc_run : pi_M := (⟨"OrderLevels$Script", "run", "(LOrderLevels$Shop;)V"⟩, prog_4_method_9_code, 3, none, 2, 8, false)
def pm_Sc_runCommand : pi_M := (⟨"OrderLevels$Script", "runCommand", "(LOrderLevels$Shop;)I"⟩, prog_4_method_10_code, 4, (some .int), 2, 7, false)
def pm_Sc_readKind : pi_M := (⟨"OrderLevels$Script", "readKind", "()I"⟩, prog_4_method_14_code, 2, (some .int), 2, 6, false)
def pm_Sc_wordOf : pi_M := (⟨"OrderLevels$Script", "wordOf", "(I)Ljava/lang/String;"⟩, prog_4_method_12_code, 1, (some (.object "java/lang/String")), 2, 1, false)
def pm_Sc_skipWord : pi_M := (⟨"OrderLevels$Script", "skipWord", "(Ljava/lang/String;)Z"⟩, prog_4_method_15_code, 3, (some .boolean), 2, 5, false)
def pm_St_length : pi_M := (⟨"java/lang/String", "length", "()I"⟩, prog_9_method_54_code, 1, (some .int), 7, 2, false)
def pm_St_coder : pi_M := (⟨"java/lang/String", "coder", "()B"⟩, prog_9_method_152_code, 1, (some .byte), 7, 1, false)
def pm_St_charAt : pi_M := (⟨"java/lang/String", "charAt", "(I)C"⟩, prog_9_method_56_code, 2, (some .char), 7, 4, false)
def pm_St_isLatin1 : pi_M := (⟨"java/lang/String", "isLatin1", "()Z"⟩, prog_9_method_154_code, 1, (some .boolean), 7, 1, false)
def pm_Sl_charAt : pi_M := (⟨"java/lang/StringLatin1", "charAt", "([BI)C"⟩, prog_10_method_2_code, 2, (some .char), 8, 3, false)
def pm_St_checkIndex : pi_M := (⟨"java/lang/String", "checkIndex", "(II)V"⟩, prog_9_method_155_code, 2, none, 7, 2, false)
def pm_Pr_checkIndex : pi_M := (⟨"jdk/internal/util/Preconditions", "checkIndex", "(IILjava/util/function/BiFunction;)I"⟩, prog_13_method_11_code, 3, (some .int), 9, 1, false)
def pm_Sc_numbersOf : pi_M := (⟨"OrderLevels$Script", "numbersOf", "(I)I"⟩, prog_4_method_13_code, 1, (some .int), 2, 1, false)
def pm_Sc_readNumbers : pi_M := (⟨"OrderLevels$Script", "readNumbers", "(I)Z"⟩, prog_4_method_17_code, 4, (some .boolean), 2, 3, false)
def pm_Sc_skipSign : pi_M := (⟨"OrderLevels$Script", "skipSign", "(C)Z"⟩, prog_4_method_16_code, 2, (some .boolean), 2, 1, false)
def pm_Sc_readNumber : pi_M := (⟨"OrderLevels$Script", "readNumber", "()I"⟩, prog_4_method_18_code, 4, (some .int), 2, 2, false)
def pm_Sc_perform : pi_M := (⟨"OrderLevels$Script", "perform", "(LOrderLevels$Shop;I)I"⟩, prog_4_method_11_code, 3, (some .int), 2, 4, false)
def pm_Sc_hasFault : pi_M := (⟨"OrderLevels$Script", "hasFault", "()Z"⟩, prog_4_method_5_code, 1, (some .boolean), 2, 1, false)
def pm_Sc_faultPosition : pi_M := (⟨"OrderLevels$Script", "faultPosition", "()I"⟩, prog_4_method_6_code, 1, (some .int), 2, 1, false)
def pm_Sc_faultReason : pi_M := (⟨"OrderLevels$Script", "faultReason", "()I"⟩, prog_4_method_7_code, 1, (some .int), 2, 1, false)
def pm_Ol_play : pi_M := (⟨"OrderLevels", "play", "()I"⟩, prog_1_method_23_code, 1, (some .int), 4, 9, false)
def pm_Sc_commandsDone : pi_M := (⟨"OrderLevels$Script", "commandsDone", "()I"⟩, prog_4_method_8_code, 1, (some .int), 2, 1, false)
def pm_Mo_init : pi_M := (⟨"OrderLevelsModel", "<init>", "()V"⟩, prog_7_method_1_code, 1, none, 5, 1, true)
def pm_Mo_weigh : pi_M := (⟨"OrderLevelsModel", "weigh", "(II)I"⟩, prog_7_method_16_code, 3, (some .int), 5, 3, false)
def pm_Mo_begins : pi_M := (⟨"OrderLevelsModel", "begins", "()V"⟩, prog_7_method_4_code, 2, none, 5, 1, false)
def pm_Mo_weighs : pi_M := (⟨"OrderLevelsModel", "weighs", "(II)I"⟩, prog_7_method_9_code, 4, (some .int), 5, 2, false)
def pm_Mo_in : pi_M := (⟨"OrderLevelsModel", "in", "(III)Z"⟩, prog_7_method_3_code, 3, (some .boolean), 5, 1, false)
def pm_Mo_weights : pi_M := (⟨"OrderLevelsModel", "weights", "()I"⟩, prog_7_method_7_code, 3, (some .int), 5, 1, false)
def pm_Mo_acted : pi_M := (⟨"OrderLevelsModel", "acted", "(I)I"⟩, prog_7_method_6_code, 3, (some .int), 5, 1, false)
def pm_Mo_cost : pi_M := (⟨"OrderLevelsModel", "cost", "(II)I"⟩, prog_7_method_17_code, 3, (some .int), 5, 3, false)
def pm_Mo_costs : pi_M := (⟨"OrderLevelsModel", "costs", "(II)I"⟩, prog_7_method_10_code, 4, (some .int), 5, 2, false)
def pm_Mo_mostCost : pi_M := (⟨"OrderLevelsModel", "mostCost", "(I)I"⟩, prog_7_method_8_code, 1, (some .int), 5, 1, false)
def pm_Mo_plan : pi_M := (⟨"OrderLevelsModel", "plan", "(III)I"⟩, prog_7_method_18_code, 4, (some .int), 5, 3, false)
def pm_Mo_plans : pi_M := (⟨"OrderLevelsModel", "plans", "(III)I"⟩, prog_7_method_11_code, 5, (some .int), 5, 2, false)
def pm_Mo_season : pi_M := (⟨"OrderLevelsModel", "season", "(II)I"⟩, prog_7_method_19_code, 3, (some .int), 5, 3, false)
def pm_Mo_seasons : pi_M := (⟨"OrderLevelsModel", "seasons", "(II)I"⟩, prog_7_method_12_code, 4, (some .int), 5, 2, false)
def pm_Mo_order : pi_M := (⟨"OrderLevelsModel", "order", "(I)I"⟩, prog_7_method_20_code, 2, (some .int), 5, 3, false)
def pm_Mo_orders : pi_M := (⟨"OrderLevelsModel", "orders", "(I)I"⟩, prog_7_method_13_code, 4, (some .int), 5, 2, false)
def pm_Mo_follow : pi_M := (⟨"OrderLevelsModel", "follow", "()I"⟩, prog_7_method_21_code, 1, (some .int), 5, 4, false)
def pm_Mo_followed : pi_M := (⟨"OrderLevelsModel", "followed", "()I"⟩, prog_7_method_14_code, 2, (some .int), 5, 3, false)
def pm_Mo_sell : pi_M := (⟨"OrderLevelsModel", "sell", "(I)I"⟩, prog_7_method_22_code, 2, (some .int), 5, 3, false)
def pm_Mo_sells : pi_M := (⟨"OrderLevelsModel", "sells", "(I)I"⟩, prog_7_method_15_code, 4, (some .int), 5, 2, false)
def pm_Mo_setting : pi_M := (⟨"OrderLevelsModel", "setting", "(II)I"⟩, prog_7_method_23_code, 5, (some .int), 5, 2, false)
def pm_Mo_saleAt : pi_M := (⟨"OrderLevelsModel", "saleAt", "(II)I"⟩, prog_7_method_24_code, 3, (some .int), 5, 2, false)
def pm_Mo_count : pi_M := (⟨"OrderLevelsModel", "count", "(I)I"⟩, prog_7_method_25_code, 2, (some .int), 5, 2, false)
def pm_Mo_least : pi_M := (⟨"OrderLevelsModel", "least", "(III)J"⟩, prog_7_method_33_code, 4, (some .long), 5, 4, false)
def pm_Mo_isAsked : pi_M := (⟨"OrderLevelsModel", "isAsked", "(IIII)Z"⟩, prog_7_method_32_code, 4, (some .boolean), 5, 2, false)
def pm_Mo_layBest : pi_M := (⟨"OrderLevelsModel", "layBest", "(I)V"⟩, prog_7_method_28_code, 10, none, 5, 3, false)
def pm_Mo_layPowers : pi_M := (⟨"OrderLevelsModel", "layPowers", "()V"⟩, prog_7_method_26_code, 2, none, 5, 2, false)
def pm_Mo_levelBy : pi_M := (⟨"OrderLevelsModel", "levelBy", "([JII)J"⟩, prog_7_method_27_code, 11, (some .long), 5, 1, false)
def pm_Mo_part : pi_M := (⟨"OrderLevelsModel", "part", "(JJI)J"⟩, prog_7_method_31_code, 11, (some .long), 5, 1, false)
def pm_Mo_best : pi_M := (⟨"OrderLevelsModel", "best", "(II)I"⟩, prog_7_method_34_code, 3, (some .int), 5, 4, false)
def pm_Mo_planned : pi_M := (⟨"OrderLevelsModel", "planned", "(III)J"⟩, prog_7_method_35_code, 4, (some .long), 5, 4, false)
def pm_Mo_layPlanned : pi_M := (⟨"OrderLevelsModel", "layPlanned", "(I)V"⟩, prog_7_method_30_code, 4, none, 5, 3, false)
def pm_Mo_planBy : pi_M := (⟨"OrderLevelsModel", "planBy", "(IIII)J"⟩, prog_7_method_29_code, 6, (some .long), 5, 2, false)
def pm_Mo_regret : pi_M := (⟨"OrderLevelsModel", "regret", "(III)J"⟩, prog_7_method_36_code, 6, (some .long), 5, 4, false)
def pm_Mo_levelValue : pi_M := (⟨"OrderLevelsModel", "levelValue", "(III)J"⟩, prog_7_method_37_code, 4, (some .long), 5, 4, false)
def pm_Mo_shape : pi_M := (⟨"OrderLevelsModel", "shape", "(II)I"⟩, prog_7_method_44_code, 4, (some .int), 5, 4, false)
def pm_Mo_leastLevel : pi_M := (⟨"OrderLevelsModel", "leastLevel", "(I)I"⟩, prog_7_method_38_code, 4, (some .int), 5, 1, false)
def pm_Mo_lastOrder : pi_M := (⟨"OrderLevelsModel", "lastOrder", "(I)I"⟩, prog_7_method_42_code, 4, (some .int), 5, 2, false)
def pm_Mo_isOrdering : pi_M := (⟨"OrderLevelsModel", "isOrdering", "(II)Z"⟩, prog_7_method_39_code, 3, (some .boolean), 5, 1, false)
def pm_Mo_unlike : pi_M := (⟨"OrderLevelsModel", "unlike", "(I)I"⟩, prog_7_method_43_code, 6, (some .int), 5, 2, false)
def pm_Mo_gaps : pi_M := (⟨"OrderLevelsModel", "gaps", "(IZZ)I"⟩, prog_7_method_41_code, 8, (some .int), 5, 2, false)
def pm_Mo_isGap : pi_M := (⟨"OrderLevelsModel", "isGap", "(II)Z"⟩, prog_7_method_40_code, 4, (some .boolean), 5, 1, false)
def pm_Mo_bestPlan : pi_M := (⟨"OrderLevelsModel", "bestPlan", "(III)J"⟩, prog_7_method_46_code, 12, (some .long), 5, 4, false)
def pm_Mo_samePlan : pi_M := (⟨"OrderLevelsModel", "samePlan", "(IIII)J"⟩, prog_7_method_45_code, 7, (some .long), 5, 3, false)
def pm_Mo_undo : pi_M := (⟨"OrderLevelsModel", "undo", "()I"⟩, prog_7_method_47_code, 2, (some .int), 5, 1, false)
def pm_Mo_type : pi_M := (⟨"OrderLevelsModel", "type", "(I)I"⟩, prog_7_method_48_code, 2, (some .int), 5, 2, false)
def pm_Mo_clearText : pi_M := (⟨"OrderLevelsModel", "clearText", "()I"⟩, prog_7_method_49_code, 2, (some .int), 5, 1, false)
def pm_Mo_fault : pi_M := (⟨"OrderLevelsModel", "fault", "(I)I"⟩, prog_7_method_57_code, 3, (some .int), 5, 6, false)
def pm_Mo_does : pi_M := (⟨"OrderLevelsModel", "does", "()I"⟩, prog_7_method_56_code, 4, (some .int), 5, 5, false)
def pm_Mo_command : pi_M := (⟨"OrderLevelsModel", "command", "()I"⟩, prog_7_method_55_code, 4, (some .int), 5, 4, false)
def pm_Mo_readWord : pi_M := (⟨"OrderLevelsModel", "readWord", "()I"⟩, prog_7_method_54_code, 5, (some .int), 5, 2, false)
def pm_Mo_here : pi_M := (⟨"OrderLevelsModel", "here", "()I"⟩, prog_7_method_50_code, 1, (some .int), 5, 1, false)
def pm_Mo_wordOf : pi_M := (⟨"OrderLevelsModel", "wordOf", "(I)J"⟩, prog_7_method_53_code, 1, (some .long), 5, 1, false)
def pm_Mo_readNumber : pi_M := (⟨"OrderLevelsModel", "readNumber", "()I"⟩, prog_7_method_52_code, 3, (some .int), 5, 3, false)
def pm_Mo_must : pi_M := (⟨"OrderLevelsModel", "must", "(I)V"⟩, prog_7_method_51_code, 2, none, 5, 2, false)
def pm_Mo_returns : pi_M := (⟨"OrderLevelsModel", "returns", "()V"⟩, prog_7_method_5_code, 2, none, 5, 1, false)
def pm_Mo_play : pi_M := (⟨"OrderLevelsModel", "play", "()I"⟩, prog_7_method_58_code, 2, (some .int), 5, 6, false)
def pm_La_law : pi_M := (⟨"OrderLevelsLaw", "law", "([I)Z"⟩, code, 4, (some .boolean), 6, 10, false)
def pi_tab : List pi_M := [pm_Ol_init, pm_Sh_init, pm_Hi_init, pm_Me_init, pm_Sc_init, pm_Ol_weigh, pm_Sh_copyFrom, pm_Sh_setWeight, pm_Ol_outside, pm_Sh_weightSum, pm_Ol_recorded, pm_Hi_record, pm_Ma_min, pm_Ol_cost, pm_Sh_setCost, pm_Ol_plan, pm_Sh_setPlan, pm_Ol_setting, pm_Sh_settingOf, pm_Ol_season, pm_Sh_begin, pm_Ol_order, pm_Sh_orderUpTo, pm_Sh_orderPrice, pm_Ol_follow, pm_Sh_followPlan, pm_Sh_lowLevel, pm_Sh_highLevel, pm_Sh_levelAfter, pm_Ol_sell, pm_Sh_serve, pm_Sh_keepSale, pm_Sh_periodPrice, pm_Ma_max, pm_Sh_endPrice, pm_Ol_saleAt, pm_Sh_saleNumber, pm_Ol_count, pm_Hi_size, pm_Sc_size, pm_Sh_numberOf, pm_Ol_least, pm_Me_findBest, pm_Me_prepare, pm_Sh_weighedPeriodPrice, pm_Me_fillEnd, pm_Me_fillValues, pm_Sh_piecePrice, pm_Me_costBehind, pm_Sh_weighedRest, pm_Me_fillBests, pm_Sh_firstOrderPrice, pm_Me_leastCost, pm_Me_below, pm_Ol_partOf, pm_Ol_commonDivisor, pm_Ma_abs, pm_Ol_best, pm_Me_bestLevel, pm_Ol_planned, pm_Me_followPlan, pm_Me_fillPlan, pm_Me_planCost, pm_Ol_regret, pm_Ol_levelValue, pm_Me_valueOf, pm_Ol_shape, pm_Me_leastLevel, pm_Me_greatestOrdering, pm_Me_orders, pm_Me_convexityGaps, pm_Me_isConvexityGap, pm_Me_firstConvexityGap, pm_Me_orderGaps, pm_Me_isOrderGap, pm_Me_firstOrderGap, pm_Me_unlikeLevels, pm_Me_isNewLevel, pm_Ol_bestPlan, pm_Me_findPair, pm_Me_keepPair, pm_Me_pairLow, pm_Me_pairHigh, pm_Me_pairCost, pm_Ol_undo, pm_Hi_restore, pm_Ol_type, pm_Sc_append, pm_Ol_clearText, pm_Sc_empty, pm_Ol_fault, pm_Sc_run, pm_Sc_runCommand, pm_Sc_readKind, pm_Sc_wordOf, pm_Sc_skipWord, pm_St_length, pm_St_coder, pm_St_charAt, pm_St_isLatin1, pm_Sl_charAt, pm_St_checkIndex, pm_Pr_checkIndex, pm_Sc_numbersOf, pm_Sc_readNumbers, pm_Sc_skipSign, pm_Sc_readNumber, pm_Sc_perform, pm_Sc_hasFault, pm_Sc_faultPosition, pm_Sc_faultReason, pm_Ol_play, pm_Sc_commandsDone, pm_Mo_init, pm_Mo_weigh, pm_Mo_begins, pm_Mo_weighs, pm_Mo_in, pm_Mo_weights, pm_Mo_acted, pm_Mo_cost, pm_Mo_costs, pm_Mo_mostCost, pm_Mo_plan, pm_Mo_plans, pm_Mo_season, pm_Mo_seasons, pm_Mo_order, pm_Mo_orders, pm_Mo_follow, pm_Mo_followed, pm_Mo_sell, pm_Mo_sells, pm_Mo_setting, pm_Mo_saleAt, pm_Mo_count, pm_Mo_least, pm_Mo_isAsked, pm_Mo_layBest, pm_Mo_layPowers, pm_Mo_levelBy, pm_Mo_part, pm_Mo_best, pm_Mo_planned, pm_Mo_layPlanned, pm_Mo_planBy, pm_Mo_regret, pm_Mo_levelValue, pm_Mo_shape, pm_Mo_leastLevel, pm_Mo_lastOrder, pm_Mo_isOrdering, pm_Mo_unlike, pm_Mo_gaps, pm_Mo_isGap, pm_Mo_bestPlan, pm_Mo_samePlan, pm_Mo_undo, pm_Mo_type, pm_Mo_clearText, pm_Mo_fault, pm_Mo_does, pm_Mo_command, pm_Mo_readWord, pm_Mo_here, pm_Mo_wordOf, pm_Mo_readNumber, pm_Mo_must, pm_Mo_returns, pm_Mo_play, pm_La_law]
-- fields: (class, pool index) to (class of the object, its place, final, type code)
def pi_flk : List ((Nat × Nat) × (Nat × Nat × Bool × Nat)) := [((4, 10), (4, 0, true, 3)), ((4, 16), (4, 1, true, 3)), ((4, 22), (4, 2, true, 3)), ((4, 29), (4, 3, true, 3)), ((4, 36), (4, 4, true, 3)), ((0, 11), (0, 0, true, 3)), ((0, 18), (0, 2, false, 0)), ((0, 22), (0, 1, false, 0)), ((1, 9), (1, 0, true, 3)), ((1, 15), (1, 1, true, 3)), ((1, 20), (1, 2, true, 3)), ((1, 23), (1, 3, true, 3)), ((1, 28), (1, 4, true, 3)), ((1, 31), (1, 5, true, 3)), ((1, 34), (1, 6, false, 0)), ((1, 38), (1, 7, false, 0)), ((1, 41), (1, 8, false, 1)), ((2, 9), (2, 0, true, 3)), ((2, 15), (2, 1, true, 3)), ((2, 19), (2, 2, false, 0)), ((2, 29), (2, 6, false, 0)), ((2, 32), (2, 5, false, 0)), ((2, 35), (2, 4, false, 0)), ((2, 38), (2, 3, false, 0)), ((3, 9), (3, 0, true, 3)), ((3, 15), (3, 1, true, 3)), ((3, 18), (3, 2, true, 3)), ((3, 21), (3, 3, true, 3)), ((3, 24), (3, 4, true, 3)), ((3, 33), (3, 5, false, 0)), ((3, 37), (3, 6, false, 0)), ((3, 40), (3, 7, false, 2)), ((3, 44), (3, 8, false, 0)), ((3, 47), (3, 9, false, 0)), ((3, 50), (3, 10, false, 0)), ((3, 53), (3, 11, false, 0)), ((3, 56), (3, 12, false, 0)), ((3, 59), (3, 13, false, 0)), ((5, 7), (5, 0, true, 3)), ((5, 13), (5, 1, true, 3)), ((5, 16), (5, 2, true, 3)), ((5, 19), (5, 4, true, 3)), ((5, 22), (5, 6, true, 3)), ((5, 26), (5, 7, true, 3)), ((5, 29), (5, 8, true, 3)), ((5, 32), (5, 9, true, 3)), ((5, 35), (5, 10, true, 3)), ((5, 38), (5, 14, true, 3)), ((5, 41), (5, 3, false, 0)), ((5, 90), (5, 5, false, 0)), ((5, 146), (5, 11, false, 0)), ((5, 149), (5, 12, false, 2)), ((5, 186), (5, 13, false, 0)), ((7, 9), (7, 0, false, 9)), ((7, 15), (7, 1, false, 9))]
def pi_slk : List ((Nat × Nat) × Nat) := [((3, 73), 0), ((7, 38), 1), ((7, 1053), 2)]
-- methods: (class, pool index) to (method, parameters, kind: 0 virtual, 1 static, 2 special, 3 static of a nest mate, 4 special of a nest mate, 5 Object, 6 arraycopy)
def pi_mlk0 : List ((Nat × Nat) × (Nat × Nat × Nat)) := [((4, 1), (0, 0, 5)), ((4, 9), (1, 0, 4)), ((4, 21), (2, 0, 2)), ((4, 28), (3, 0, 4)), ((4, 35), (4, 0, 4)), ((4, 40), (6, 1, 0)), ((4, 44), (7, 2, 0)), ((4, 48), (10, 1, 0)), ((4, 52), (14, 2, 0)), ((4, 55), (16, 3, 0)), ((4, 59), (18, 2, 0)), ((4, 62), (20, 2, 0)), ((4, 65), (22, 1, 0)), ((4, 68), (25, 0, 0)), ((4, 72), (30, 1, 0)), ((4, 75), (36, 2, 0)), ((4, 78), (38, 0, 0)), ((4, 81), (39, 0, 0)), ((4, 82), (40, 1, 0)), ((4, 85), (8, 3, 1)), ((4, 91), (42, 2, 0)), ((4, 95), (52, 2, 0)), ((4, 99), (53, 1, 0)), ((4, 103), (54, 3, 1)), ((4, 108), (58, 2, 0)), ((4, 111), (60, 2, 0)), ((4, 113), (62, 2, 0)), ((4, 116), (65, 2, 0)), ((4, 119), (67, 1, 0)), ((4, 122), (68, 1, 0)), ((4, 125), (70, 1, 0)), ((4, 128), (72, 1, 0)), ((4, 131), (73, 1, 0)), ((4, 134), (75, 1, 0)), ((4, 137), (76, 1, 0)), ((4, 140), (79, 3, 0)), ((4, 144), (81, 0, 0)), ((4, 147), (82, 0, 0)), ((4, 150), (83, 0, 0)), ((4, 155), (85, 1, 0)), ((4, 159), (87, 1, 0)), ((4, 162), (89, 0, 0)), ((4, 165), (91, 1, 0)), ((4, 168), (108, 0, 0)), ((4, 173), (109, 0, 0)), ((4, 176), (110, 0, 0)), ((4, 179), (11, 1, 0)), ((4, 182), (112, 0, 0)), ((4, 185), (55, 2, 1)), ((4, 189), (56, 1, 1)), ((0, 3), (0, 0, 5)), ((0, 17), (1, 0, 4)), ((0, 25), (6, 1, 0)), ((0, 29), (12, 2, 1)), ((1, 3), (0, 0, 5)), ((1, 45), (43, 1, 0)), ((1, 49), (45, 2, 1)), ((1, 53), (46, 2, 0)), ((1, 57), (50, 2, 0)), ((1, 60), (26, 1, 0))]
def pi_mlk1 : List ((Nat × Nat) × (Nat × Nat × Nat)) := [((1, 66), (27, 1, 0)), ((1, 69), (61, 6, 0)), ((1, 73), (33, 2, 1)), ((1, 79), (80, 3, 0)), ((1, 83), (9, 0, 0)), ((1, 87), (44, 1, 0)), ((1, 91), (34, 1, 0)), ((1, 94), (49, 2, 0)), ((1, 98), (47, 1, 0)), ((1, 101), (48, 4, 0)), ((1, 105), (51, 0, 0)), ((1, 108), (28, 3, 1)), ((1, 112), (23, 2, 0)), ((1, 115), (69, 2, 0)), ((1, 122), (71, 2, 0)), ((1, 125), (74, 2, 0)), ((1, 128), (77, 2, 0)), ((2, 3), (0, 0, 5)), ((2, 23), (8, 3, 3)), ((2, 41), (92, 1, 0)), ((2, 45), (93, 0, 0)), ((2, 49), (103, 1, 1)), ((2, 53), (104, 1, 0)), ((2, 57), (105, 1, 0)), ((2, 61), (107, 2, 0)), ((2, 65), (7, 2, 0)), ((2, 71), (14, 2, 0)), ((2, 74), (20, 2, 0)), ((2, 77), (16, 3, 0)), ((2, 81), (22, 1, 0)), ((2, 84), (25, 0, 0)), ((2, 87), (30, 1, 0)), ((2, 104), (94, 1, 1)), ((2, 108), (95, 1, 0)), ((2, 112), (96, 0, 0)), ((2, 117), (98, 1, 0)), ((2, 121), (106, 0, 0)), ((2, 124), (33, 2, 1)), ((3, 3), (0, 0, 5)), ((3, 27), (0, 5, 6)), ((3, 62), (8, 3, 3)), ((3, 67), (9, 0, 0)), ((3, 76), (23, 2, 0)), ((3, 80), (26, 1, 0)), ((3, 84), (27, 1, 0)), ((3, 87), (28, 3, 1)), ((3, 91), (22, 1, 0)), ((3, 94), (12, 2, 1)), ((3, 99), (31, 2, 0)), ((3, 103), (32, 2, 0)), ((3, 106), (34, 1, 0)), ((3, 110), (33, 2, 1)), ((6, 9), (0, 0, 2)), ((6, 12), (113, 0, 2)), ((6, 13), (5, 2, 0)), ((6, 17), (114, 2, 0)), ((6, 18), (13, 2, 0)), ((6, 21), (120, 2, 0)), ((6, 22), (15, 3, 0)), ((6, 26), (123, 3, 0))]
def pi_mlk2 : List ((Nat × Nat) × (Nat × Nat × Nat)) := [((6, 27), (17, 2, 0)), ((6, 30), (133, 2, 0)), ((6, 31), (19, 2, 0)), ((6, 34), (125, 2, 0)), ((6, 35), (21, 1, 0)), ((6, 39), (127, 1, 0)), ((6, 40), (24, 0, 0)), ((6, 44), (129, 0, 0)), ((6, 45), (29, 1, 0)), ((6, 48), (131, 1, 0)), ((6, 49), (35, 2, 0)), ((6, 52), (134, 2, 0)), ((6, 53), (37, 1, 0)), ((6, 56), (135, 1, 0)), ((6, 57), (41, 3, 0)), ((6, 61), (136, 3, 0)), ((6, 62), (57, 2, 0)), ((6, 65), (142, 2, 0)), ((6, 66), (59, 3, 0)), ((6, 69), (143, 3, 0)), ((6, 70), (63, 3, 0)), ((6, 73), (146, 3, 0)), ((6, 74), (64, 3, 0)), ((6, 77), (147, 3, 0)), ((6, 78), (66, 2, 0)), ((6, 81), (148, 2, 0)), ((6, 82), (78, 3, 0)), ((6, 85), (155, 3, 0)), ((6, 86), (84, 0, 0)), ((6, 89), (157, 0, 0)), ((6, 90), (86, 1, 0)), ((6, 93), (158, 1, 0)), ((6, 94), (88, 0, 0)), ((6, 97), (159, 0, 0)), ((6, 98), (90, 1, 0)), ((6, 101), (160, 1, 0)), ((6, 102), (111, 0, 0)), ((6, 105), (169, 0, 0)), ((5, 1), (0, 0, 5)), ((5, 45), (117, 3, 1)), ((5, 50), (118, 0, 0)), ((5, 56), (122, 1, 1)), ((5, 60), (128, 1, 0)), ((5, 63), (115, 0, 0)), ((5, 66), (116, 2, 0)), ((5, 70), (119, 1, 0)), ((5, 73), (121, 2, 0)), ((5, 76), (124, 3, 0)), ((5, 80), (126, 2, 0)), ((5, 83), (130, 0, 0)), ((5, 86), (132, 1, 0)), ((5, 93), (139, 0, 0)), ((5, 96), (140, 3, 0)), ((5, 100), (145, 4, 0)), ((5, 104), (137, 4, 1)), ((5, 110), (138, 1, 0)), ((5, 114), (141, 3, 1)), ((5, 118), (144, 1, 0)), ((5, 123), (151, 2, 0)), ((5, 127), (154, 2, 0))]
def pi_mlk3 : List ((Nat × Nat) × (Nat × Nat × Nat)) := [((5, 130), (149, 1, 0)), ((5, 133), (150, 1, 0)), ((5, 136), (152, 1, 0)), ((5, 139), (153, 3, 0)), ((5, 143), (156, 4, 0)), ((5, 153), (164, 0, 0)), ((5, 156), (167, 1, 0)), ((5, 173), (165, 1, 1)), ((5, 177), (163, 0, 0)), ((5, 180), (166, 0, 0)), ((5, 183), (162, 0, 0)), ((5, 189), (161, 0, 0)), ((5, 192), (168, 0, 0)), ((7, 335), (97, 0, 0)), ((7, 492), (99, 0, 0)), ((7, 495), (100, 2, 1)), ((7, 1059), (102, 3, 1)), ((8, 9), (101, 2, 1))]
def pi_mlk : List ((Nat × Nat) × (Nat × Nat × Nat)) := pi_mlk0 ++ pi_mlk1 ++ pi_mlk2 ++ pi_mlk3
def pi_klk : List ((Nat × Nat) × (Nat × Int)) := [((4, 89), (1, -1000001)), ((4, 107), (0, -1000001)), ((4, 154), (0, -1000002)), ((4, 172), (0, -1000004)), ((1, 119), (0, -1000004)), ((1, 120), (1, 2)), ((2, 27), (0, -1000001)), ((2, 28), (0, -1000003)), ((2, 90), (2, 0)), ((2, 92), (2, 1)), ((2, 94), (2, 2)), ((2, 96), (2, 3)), ((2, 98), (2, 4)), ((2, 100), (2, 5)), ((2, 102), (2, 6)), ((3, 66), (0, -1000001)), ((3, 71), (0, -1000002)), ((3, 72), (0, -1000003)), ((3, 109), (0, -1000004)), ((5, 49), (0, -1000001)), ((5, 54), (0, -1000002)), ((5, 55), (0, -1000003)), ((5, 89), (0, -1000004)), ((5, 108), (1, -1000001)), ((5, 121), (1, 2)), ((5, 159), (1, 131277443786868)), ((5, 161), (1, 1668248436)), ((5, 163), (1, 126879263846254)), ((5, 165), (1, 1886151022)), ((5, 167), (1, 478660552050)), ((5, 169), (1, 112628746448759)), ((5, 171), (1, 1936026732))]
def pi_str : List (Nat × String) := [(90, "weight"), (92, "cost"), (94, "season"), (96, "plan"), (98, "order"), (100, "follow"), (102, "sell")]
def pi_nlk : List ((Nat × Nat) × Nat) := [((4, 7), 3), ((4, 19), 0), ((4, 26), 1), ((4, 33), 2), ((0, 9), 3), ((6, 7), 4), ((6, 10), 5)]
def pi_alk : List ((Nat × Nat) × Nat) := [((0, 9), 3), ((1, 18), 5), ((1, 26), 4)]
end
section
-- PART 03: the pure interpreter of the bytecode
abbrev pi_E : Type := (Nat × vp_A) ⊕ (Nat × List Value)
abbrev pi_H : Type := (Nat → Option pi_E) × Nat × Nat
abbrev pi_L : Type := List (Option Value)
abbrev pi_F : Type := Nat × pi_L × List Value × pi_H
abbrev pi_O : Type := Option (pi_F ⊕ ((Option Value × pi_H) ⊕ (Nat × List Value × pi_F)))
def pm_nm (M : pi_M) : MethodName := M.1
def pm_by (M : pi_M) : ByteArray := M.2.1
def pm_ml (M : pi_M) : Nat := M.2.2.1
def pm_rt (M : pi_M) : Option FieldType := M.2.2.2.1
def pm_ow (M : pi_M) : Nat := M.2.2.2.2.1
def pm_rk (M : pi_M) : Nat := M.2.2.2.2.2.1
def pm_in (M : pi_M) : Bool := M.2.2.2.2.2.2
def pi_get (H : pi_H) (a : Nat) : Option pi_E := H.1 a
def pi_set (H : pi_H) (a : Nat) (e : pi_E) : pi_H := (fun k => if k = a then some e else H.1 k, H.2)
def pi_add (H : pi_H) (e : pi_E) (z : Nat) : pi_H := (fun k => if k = H.2.1 then some e else H.1 k, H.2.1 + 1, H.2.2 + z)
def pi_ld (L : pi_L) (k : Nat) : Option Value := match L[k]? with
  | some (some v) => some v
  | _ => none
def pi_c2 (o : Option Value) : Bool := match o with
  | some v => v.category == 2
  | none => false
def pi_cut (L : pi_L) (k : Nat) : pi_L := match k with
  | 0 => L
  | j + 1 => if pi_c2 (pi_ld L j) then L.set j none else L
def pi_s1 (L : pi_L) (k : Nat) (v : Value) : pi_L := (pi_cut L k).set k (some v)
def pi_s2 (L : pi_L) (k : Nat) (v : Value) : pi_L := ((pi_cut L k).set k (some v)).set (k + 1) none
def pi_g (b : Bool) (o : pi_O) : pi_O := if b then o else none
def pi_go (pc : Nat) (L : pi_L) (S : List Value) (H : pi_H) : pi_O := some (.inl (pc, L, S, H))
def pi_gi (pc : Nat) (off : Int) (L : pi_L) (S : List Value) (H : pi_H) : pi_O := if 0 ≤ (pc : Int) + off then pi_go ((pc : Int) + off).toNat L S H else none
def pi_br (b : Bool) (pc : Nat) (off : Int) (L : pi_L) (S : List Value) (H : pi_H) : pi_O := if 0 ≤ (pc : Int) + off then (if b then pi_go ((pc : Int) + off).toNat L S H else pi_go (pc + 3) L S H) else none
def pi_cmp (c : Jvm.ClassFile.Cond) (x y : Int32) : Bool := match c with
  | .eq => decide (x = y)
  | .ne => decide (¬ x = y)
  | .lt => decide (x < y)
  | .ge => decide (y ≤ x)
  | .gt => decide (y < x)
  | .le => decide (x ≤ y)
def pi_cats (S : List Value) : Nat := (S.map fun v => v.category).sum
def pi_in (i : Int32) (n : Nat) : Bool := !(decide (i < 0)) && decide (i.toNatClampNeg < n)
def pi_okv (tc : Nat) (v : Value) : Bool := match tc, v with
  | 0, .int _ => true
  | 1, .long _ => true
  | 2, .int x => decide (x = 0) || decide (x = 1)
  | 3, .ref _ => true
  | _, _ => false
/-- locals at the entry -/
def pi_l0 : List Value → pi_L
  | [] => []
  | v :: vs => if v.category == 2 then some v :: none :: pi_l0 vs else some v :: pi_l0 vs
/-- a call's start: method, arguments, and what comes behind it -/
def pi_cl1 (M : pi_M) (m' k : Nat) (pc : Nat) (L : pi_L) (S : List Value) (H : pi_H) : pi_O := match pi_tab[m']? with
  | none => none
  | some M' => pi_g (decide (pm_rk M' < pm_rk M) && decide (k ≤ S.length) && decide (pi_cats (S.drop k) ≤ 8) && decide ((pi_l0 (S.take k).reverse).length ≤ pm_ml M')) (some (.inr (.inr (m', (S.take k).reverse, (pc + 3, L, S.drop k, H)))))
/-- an object of the class number ci stands there -/
def pi_isO (o : Option pi_E) (ci : Nat) : Bool := match o with
  | some (.inr (c, _)) => c == ci
  | _ => false
def pi_fv (o : Option pi_E) (ci k : Nat) : Option Value := match o with
  | some (.inr (c, fs)) => if c == ci then fs[k]? else none
  | _ => none
def pi_rcv (m' : Nat) (H : pi_H) (v : Option Value) : Bool := match v, pi_tab[m']? with
  | some (.ref a), some M' => pi_isO (pi_get H a) (pm_ow M')
  | _, _ => false
def pi_rcd (v : Option Value) : Bool := match v with
  | some (.ref a) => decide (a < 1000000)
  | _ => false
def pi_arr (f g : Nat → Int32) (n0 n1 : Nat) (sp dp n : Int32) : Bool := !(decide (sp < 0)) && !(decide (dp < 0)) && !(decide (n < 0)) && decide (sp.toNatClampNeg + n.toNatClampNeg ≤ n0) && decide (dp.toNatClampNeg + n.toNatClampNeg ≤ n1)
def pi_mul (H : pi_H) (t ti N : Nat) (z : vp_A) : pi_H := (fun k => if k = H.2.1 then some (.inl (t, N, .inr (.inr (.inr (.inr (fun i => if i < N then some (H.2.1 + 1 + i) else none)))))) else if H.2.1 < k ∧ k ≤ H.2.1 + N then some (.inl (ti, z)) else H.1 k, H.2.1 + 1 + N, H.2.2 + N + N * z.1)
def pi_zer (t : Nat) (n : Nat) : Option vp_A := match t with
  | 0 => some (n, .inl (fun _ => 0))
  | 1 => some (n, .inl (fun _ => 0))
  | 2 => some (n, .inr (.inl (fun _ => 0)))
  | _ => none
def pi_aty (a : ArrayType) : Nat := match a with
  | .int => 0
  | .char => 1
  | .long => 2
  | _ => 9
def pi_rt (M : pi_M) (v : Int32) : Bool := match pm_rt M with
  | some ty => decide (narrow ty (.int v) = .int v)
  | none => false
def pi_isr (M : pi_M) : Bool := match pm_rt M with
  | some (.object _) => true
  | _ => false
/-- loads and constants -/
def pi_ld1 (v : Option Value) (pc : Nat) (L : pi_L) (S : List Value) (H : pi_H) : pi_O := match v with
  | some v => pi_go pc L (v :: S) H
  | none => none
def pi_isI (v : Option Value) : Bool := match v with
  | some (.int _) => true
  | _ => false
def pi_isJ (v : Option Value) : Bool := match v with
  | some (.long _) => true
  | _ => false
def pi_isA (v : Option Value) : Bool := match v with
  | some (.ref k) => !(k == 1000030)
  | _ => false
def pi_iop (S : List Value) (f : Int32 → Int32 → Int32) : Option (List Value) := match S with
  | .int y :: .int x :: r => some (.int (f x y) :: r)
  | _ => none
def pi_lop (S : List Value) (f : Int64 → Int64 → Int64) : Option (List Value) := match S with
  | .long y :: .long x :: r => some (.long (f x y) :: r)
  | _ => none
def pi_nx (S' : Option (List Value)) (pc : Nat) (L : pi_L) (H : pi_H) : pi_O := match S' with
  | some S => pi_go pc L S H
  | none => none
def pi_sti (M : pi_M) (k pc : Nat) (L : pi_L) (S : List Value) (H : pi_H) : pi_O := match S with
  | .int x :: r => pi_g (decide (k < pm_ml M)) (pi_go pc (pi_s1 L k (.int x)) r H)
  | _ => none
def pi_stl (M : pi_M) (k pc : Nat) (L : pi_L) (S : List Value) (H : pi_H) : pi_O := match S with
  | .long x :: r => pi_g (decide (k + 1 < pm_ml M)) (pi_go pc (pi_s2 L k (.long x)) r H)
  | _ => none
def pi_sta (M : pi_M) (k pc : Nat) (L : pi_L) (S : List Value) (H : pi_H) : pi_O := match S with
  | .ref x :: r => pi_g (decide (k < pm_ml M) && !(x == 1000030)) (pi_go pc (pi_s1 L k (.ref x)) r H)
  | _ => none
/-- reading a place of an array -/
def pi_al (o : Option pi_E) (i : Int32) (kd : Nat) : Option Value := match o with
  | some (.inl (t, n, .inl f)) => if pi_in i n then (match kd with
    | 0 => if t == 0 || t == 10 then some (.int (f i.toNatClampNeg)) else none
    | 1 => if t == 1 then some (.int (f i.toNatClampNeg)) else none
    | 2 => if t == 11 then some (.int (f i.toNatClampNeg)) else none
    | _ => none) else none
  | some (.inl (t, n, .inr (.inl f))) => if pi_in i n && t == 2 && kd == 3 then some (.long (f i.toNatClampNeg)) else none
  | some (.inl (t, n, .inr (.inr (.inr (.inr f))))) => if pi_in i n && (t == 3 || t == 4 || t == 5) && kd == 4 then (match f i.toNatClampNeg with
    | some k => if k < 1000000 then some (.ref k) else none
    | none => none) else none
  | _ => none
/-- writing one -/
def pi_as (H : pi_H) (a : Nat) (i : Int32) (v : Value) (kd : Nat) : Option pi_H := match pi_get H a, v with
  | some (.inl (t, n, .inl f)), .int x => if pi_in i n then (match kd with
    | 0 => if t == 0 then some (pi_set H a (.inl (t, n, .inl (upd f i.toNatClampNeg x)))) else none
    | 1 => if t == 1 then some (pi_set H a (.inl (t, n, .inl (upd f i.toNatClampNeg (vp_nar .char x))))) else none
    | _ => none) else none
  | some (.inl (t, n, .inr (.inl f))), .long x => if pi_in i n && t == 2 && kd == 3 then some (pi_set H a (.inl (t, n, .inr (.inl (vp_updL f i.toNatClampNeg x))))) else none
  | some (.inl (t, n, .inr (.inr (.inr (.inr f))))), .ref v => if pi_in i n && t == 3 && kd == 4 && pi_isO (pi_get H v) 3 then some (pi_set H a (.inl (t, n, .inr (.inr (.inr (.inr (va_up f i.toNatClampNeg (some v)))))))) else none
  | _, _ => none
def pi_alx (S : List Value) (H : pi_H) (kd : Nat) : Option (List Value) := match S with
  | .int i :: .ref a :: r => (match pi_al (pi_get H a) i kd with
    | some v => some (v :: r)
    | none => none)
  | _ => none
def pi_asx (S : List Value) (H : pi_H) (kd pc : Nat) (L : pi_L) : pi_O := match S with
  | v :: .int i :: .ref a :: r => (match pi_as H a i v kd with
    | some H' => pi_go pc L r H'
    | none => none)
  | _ => none
def pi_len (o : Option pi_E) : Option Nat := match o with
  | some (.inl (_, n, _)) => some n
  | _ => none
def pi_pf (H : pi_H) (a ci k : Nat) (v : Value) : Option pi_H := match pi_get H a with
  | some (.inr (c, fs)) => if c == ci && decide (k < fs.length) && decide (ci < 6) then some (pi_set H a (.inr (c, fs.set k v))) else none
  | _ => none
def pi_mfit (t : Nat) : Option (Nat × Nat) := match t with
  | 4 => some (4, 0)
  | 5 => some (5, 2)
  | _ => none
def pi_inv (M : pi_M) (vir : Bool) (ix pc : Nat) (L : pi_L) (S : List Value) (H : pi_H) : pi_O := match pi_mlk.lookup (pm_ow M, ix) with
  | some (m', n, kd) => if vir then pi_g (kd == 0 && pi_rcv m' H S[n]?) (pi_cl1 M m' (n + 1) pc L S H)
    else (match kd with
      | 2 => pi_g (pi_rcd S[n]?) (pi_cl1 M m' (n + 1) pc L S H)
      | 4 => pi_g (pi_rcd S[n]?) (pi_cl1 M m' (n + 1) pc L S H)
      | 5 => (match S with
        | .ref a :: r => pi_g (decide (a < 1000000) && decide (1 ≤ pm_rk M) && decide (pi_cats r ≤ 8)) (pi_go (pc + 3) L r H)
        | _ => none)
      | _ => none)
  | none => none
def pi_ivs (M : pi_M) (ix pc : Nat) (L : pi_L) (S : List Value) (H : pi_H) : pi_O := match pi_mlk.lookup (pm_ow M, ix) with
  | some (m', n, kd) => (match kd with
      | 1 => pi_cl1 M m' n pc L S H
      | 3 => pi_cl1 M m' n pc L S H
      | 6 => (match S with
        | .int n :: .int dp :: .ref b :: .int sp :: .ref a :: r => (match pi_get H a, pi_get H b with
          | some (.inl (t0, n0, .inl f)), some (.inl (t1, n1, .inl g)) => pi_g (t0 == 0 && t1 == 0 && pi_arr f g n0 n1 sp dp n && decide (1 ≤ pm_rk M) && decide (pi_cats r ≤ 8)) (pi_go (pc + 3) L r (pi_set H b (.inl (t1, n1, .inl (va_cpy f g sp.toNatClampNeg dp.toNatClampNeg n.toNatClampNeg)))))
          | _, _ => none)
        | _ => none)
      | _ => none)
  | none => none
def pi_ins (M : pi_M) (i : Instr) (len pc : Nat) (L : pi_L) (S : List Value) (H : pi_H) : pi_O := match i with
  | .iconst n => pi_g (len == 1) (pi_go (pc + 1) L (.int (Int32.ofInt n) :: S) H)
  | .bipush n => pi_g (len == 2) (pi_go (pc + 2) L (.int (Int8.ofInt n).toInt32 :: S) H)
  | .sipush n => pi_g (len == 3) (pi_go (pc + 3) L (.int (Int16.ofInt n).toInt32 :: S) H)
  | .lconst n => pi_g (len == 1) (pi_go (pc + 1) L (.long (Int64.ofNat (n : Nat)) :: S) H)
  | .ldc ix => pi_g (len == 2) (match pi_klk.lookup (pm_ow M, ix) with
    | some (0, v) => pi_go (pc + 2) L (.int (Int32.ofInt v) :: S) H
    | some (2, v) => pi_go (pc + 2) L (.ref (1000001 + v.toNat) :: S) H
    | _ => none)
  | .ldc2_w ix => pi_g (len == 3) (match pi_klk.lookup (pm_ow M, ix) with
    | some (1, v) => pi_go (pc + 3) L (.long (Int64.ofInt v) :: S) H
    | _ => none)
  | .iload k => pi_g (len == 2 && pi_isI (pi_ld L k)) (pi_ld1 (pi_ld L k) (pc + 2) L S H)
  | .iload_n k => pi_g (len == 1 && pi_isI (pi_ld L k.val)) (pi_ld1 (pi_ld L k.val) (pc + 1) L S H)
  | .lload k => pi_g (len == 2 && pi_isJ (pi_ld L k)) (pi_ld1 (pi_ld L k) (pc + 2) L S H)
  | .lload_n k => pi_g (len == 1 && pi_isJ (pi_ld L k.val)) (pi_ld1 (pi_ld L k.val) (pc + 1) L S H)
  | .aload k => pi_g (len == 2 && pi_isA (pi_ld L k)) (pi_ld1 (pi_ld L k) (pc + 2) L S H)
  | .aload_n k => pi_g (len == 1 && pi_isA (pi_ld L k.val)) (pi_ld1 (pi_ld L k.val) (pc + 1) L S H)
  | .istore k => pi_g (len == 2) (pi_sti M k (pc + 2) L S H)
  | .istore_n k => pi_g (len == 1) (pi_sti M k.val (pc + 1) L S H)
  | .lstore k => pi_g (len == 2) (pi_stl M k (pc + 2) L S H)
  | .lstore_n k => pi_g (len == 1) (pi_stl M k.val (pc + 1) L S H)
  | .astore k => pi_g (len == 2) (pi_sta M k (pc + 2) L S H)
  | .astore_n k => pi_g (len == 1) (pi_sta M k.val (pc + 1) L S H)
  | .iinc k n => pi_g (len == 3 && decide (k < pm_ml M)) (match pi_ld L k with
    | some (.int x) => pi_go (pc + 3) (pi_s1 L k (.int (x + Int32.ofInt n))) S H
    | _ => none)
  | .iadd => pi_g (len == 1) (pi_nx (pi_iop S (fun x y => x + y)) (pc + 1) L H)
  | .isub => pi_g (len == 1) (pi_nx (pi_iop S (fun x y => x - y)) (pc + 1) L H)
  | .imul => pi_g (len == 1) (pi_nx (pi_iop S (fun x y => x * y)) (pc + 1) L H)
  | .iand => pi_g (len == 1) (pi_nx (pi_iop S (fun x y => x &&& y)) (pc + 1) L H)
  | .ior => pi_g (len == 1) (pi_nx (pi_iop S (fun x y => x ||| y)) (pc + 1) L H)
  | .ishl => pi_g (len == 1) (pi_nx (pi_iop S (fun x y => x <<< (y &&& 31))) (pc + 1) L H)
  | .ishr => pi_g (len == 1) (pi_nx (pi_iop S (fun x y => x >>> (y &&& 31))) (pc + 1) L H)
  | .irem => pi_g (len == 1) (match S with
    | .int y :: .int x :: r => pi_g (!(decide (y = 0))) (pi_go (pc + 1) L (.int (x - x / y * y) :: r) H)
    | _ => none)
  | .ladd => pi_g (len == 1) (pi_nx (pi_lop S (fun x y => x + y)) (pc + 1) L H)
  | .lsub => pi_g (len == 1) (pi_nx (pi_lop S (fun x y => x - y)) (pc + 1) L H)
  | .lmul => pi_g (len == 1) (pi_nx (pi_lop S (fun x y => x * y)) (pc + 1) L H)
  | .lor => pi_g (len == 1) (pi_nx (pi_lop S (fun x y => x ||| y)) (pc + 1) L H)
  | .ldiv => pi_g (len == 1) (match S with
    | .long y :: .long x :: r => pi_g (!(decide (y = 0))) (pi_go (pc + 1) L (.long (x / y) :: r) H)
    | _ => none)
  | .lrem => pi_g (len == 1) (match S with
    | .long y :: .long x :: r => pi_g (!(decide (y = 0))) (pi_go (pc + 1) L (.long (x - x / y * y) :: r) H)
    | _ => none)
  | .lneg => pi_g (len == 1) (match S with
    | .long x :: r => pi_go (pc + 1) L (.long (-x) :: r) H
    | _ => none)
  | .lshl => pi_g (len == 1) (match S with
    | .int y :: .long x :: r => pi_go (pc + 1) L (.long (x <<< (y.toInt64 &&& 63)) :: r) H
    | _ => none)
  | .i2l => pi_g (len == 1) (match S with
    | .int x :: r => pi_go (pc + 1) L (.long x.toInt64 :: r) H
    | _ => none)
  | .i2c => pi_g (len == 1) (match S with
    | .int x :: r => pi_go (pc + 1) L (.int (x.toUInt32 % 65536).toInt32 :: r) H
    | _ => none)
  | .lcmp => pi_g (len == 1) (match S with
    | .long y :: .long x :: r => pi_go (pc + 1) L (.int (lg_cmp x y) :: r) H
    | _ => none)
  | .dup => pi_g (len == 1) (match S with
    | v :: r => pi_g (v.category == 1) (pi_go (pc + 1) L (v :: v :: r) H)
    | _ => none)
  | .pop => pi_g (len == 1) (match S with
    | v :: r => pi_g (v.category == 1) (pi_go (pc + 1) L r H)
    | _ => none)
  | .dup2 => pi_g (len == 1) (match S with
    | v :: w :: r => pi_g (v.category == 1 && w.category == 1) (pi_go (pc + 1) L (v :: w :: v :: w :: r) H)
    | _ => none)
  | .ifCond c off => pi_g (len == 3) (match S with
    | .int x :: r => pi_br (pi_cmp c x 0) pc off L r H
    | _ => none)
  | .if_icmp c off => pi_g (len == 3) (match S with
    | .int y :: .int x :: r => pi_br (pi_cmp c x y) pc off L r H
    | _ => none)
  | .goto off => pi_g (len == 3) (pi_gi pc off L S H)
  | .tableswitch d lo hi offs => (match S with
    | .int x :: r => if x.toInt < lo ∨ hi < x.toInt then pi_gi pc d L r H else (match offs[(x.toInt - lo).toNat]? with
      | some off => pi_gi pc off L r H
      | none => none)
    | _ => none)
  | .lookupswitch d ps => pi_g ((ps.toList.zip (ps.toList.drop 1)).all (fun (a, next) => a.1 < next.1)) (match S with
    | .int x :: r => pi_gi pc (Op.lookupswitch.offset ps.toList d x.toInt) L r H
    | _ => none)
  | .ireturn => pi_g (len == 1) (match S with
    | [.int v] => pi_g (pi_rt M v) (some (.inr (.inl (some (.int v), H))))
    | _ => none)
  | .lreturn => pi_g (len == 1 && decide (pm_rt M = some .long)) (match S with
    | [.long v] => some (.inr (.inl (some (.long v), H)))
    | _ => none)
  | .areturn => pi_g (len == 1 && pi_isr M) (match S with
    | [.ref v] => some (.inr (.inl (some (.ref v), H)))
    | _ => none)
  | .return_ => pi_g (len == 1 && decide (pm_rt M = none)) (match S with
    | [] => some (.inr (.inl (none, H)))
    | _ => none)
  | .getfield ix => pi_g (len == 3) (match S, pi_flk.lookup (pm_ow M, ix) with
    | .ref a :: r, some (ci, k, _, _) => pi_ld1 (pi_fv (pi_get H a) ci k) (pc + 3) L r H
    | _, _ => none)
  | .putfield ix => pi_g (len == 3) (match S, pi_flk.lookup (pm_ow M, ix) with
    | v :: .ref a :: r, some (ci, k, fin, tc) => pi_g (pi_okv tc v && (!fin || pm_in M)) (match pi_pf H a ci k v with
      | some H' => pi_go (pc + 3) L r H'
      | none => none)
    | _, _ => none)
  | .getstatic ix => pi_g (len == 3) (match pi_slk.lookup (pm_ow M, ix) with
    | some 0 => pi_go (pc + 3) L (.ref 1000000 :: S) H
    | some 1 => pi_go (pc + 3) L (.int 1 :: S) H
    | some 2 => pi_go (pc + 3) L (.ref 1000030 :: S) H
    | _ => none)
  | .iaload => pi_g (len == 1) (pi_nx (pi_alx S H 0) (pc + 1) L H)
  | .caload => pi_g (len == 1) (pi_nx (pi_alx S H 1) (pc + 1) L H)
  | .baload => pi_g (len == 1) (pi_nx (pi_alx S H 2) (pc + 1) L H)
  | .laload => pi_g (len == 1) (pi_nx (pi_alx S H 3) (pc + 1) L H)
  | .aaload => pi_g (len == 1) (pi_nx (pi_alx S H 4) (pc + 1) L H)
  | .iastore => pi_g (len == 1) (pi_asx S H 0 (pc + 1) L)
  | .castore => pi_g (len == 1) (pi_asx S H 1 (pc + 1) L)
  | .lastore => pi_g (len == 1) (pi_asx S H 3 (pc + 1) L)
  | .aastore => pi_g (len == 1) (pi_asx S H 4 (pc + 1) L)
  | .arraylength => pi_g (len == 1) (match S with
    | .ref a :: r => (match pi_len (pi_get H a) with
      | some n => pi_go (pc + 1) L (.int (Int32.ofNat n) :: r) H
      | none => none)
    | _ => none)
  | .new ix => pi_g (len == 3) (match pi_nlk.lookup (pm_ow M, ix) with
    | some ci => (match pi_dft[ci]? with
      | some fs => pi_g (decide (H.2.1 < 1000000)) (pi_go (pc + 3) L (.ref H.2.1 :: S) (pi_add H (.inr (ci, fs)) fs.length))
      | none => none)
    | none => none)
  | .newarray at_ => pi_g (len == 2) (match S with
    | .int n :: r => (match pi_zer (pi_aty at_) n.toNatClampNeg with
      | some z => pi_g (!(decide (n < 0)) && decide (n.toNatClampNeg ≤ 1000) && decide (H.2.1 < 1000000)) (pi_go (pc + 2) L (.ref H.2.1 :: r) (pi_add H (.inl (pi_aty at_, z)) n.toNatClampNeg))
      | none => none)
    | _ => none)
  | .anewarray ix => pi_g (len == 3) (match S, pi_alk.lookup (pm_ow M, ix) with
    | .int n :: r, some 3 => pi_g (!(decide (n < 0)) && decide (n.toNatClampNeg ≤ 1000) && decide (H.2.1 < 1000000)) (pi_go (pc + 3) L (.ref H.2.1 :: r) (pi_add H (.inl (3, n.toNatClampNeg, .inr (.inr (.inr (.inr (fun _ => none)))))) n.toNatClampNeg))
    | _, _ => none)
  | .multianewarray ix dm => pi_g (len == 4 && dm == 2) (match S, pi_alk.lookup (pm_ow M, ix) with
    | .int k :: .int n :: r, some t => (match pi_mfit t with
      | some (t, ti) => (match pi_zer ti k.toNatClampNeg with
        | some z => pi_g (!(decide (n < 0)) && !(decide (k < 0)) && decide (n.toNatClampNeg ≤ 1000) && decide (k.toNatClampNeg ≤ 1000) && decide (H.2.1 + 1 + n.toNatClampNeg < 1000000)) (pi_go (pc + 4) L (.ref H.2.1 :: r) (pi_mul H t ti n.toNatClampNeg z))
        | none => none)
      | none => none)
    | _, _ => none)
  | .invokevirtual ix => pi_g (len == 3) (pi_inv M true ix pc L S H)
  | .invokespecial ix => pi_g (len == 3) (pi_inv M false ix pc L S H)
  | .invokestatic ix => pi_g (len == 3) (pi_ivs M ix pc L S H)
  | _ => none
def pi_step (m : Nat) (F : pi_F) : pi_O := match pi_tab[m]? with
  | none => none
  | some M => (match decode (pm_by M) F.1 with
    | .ok (i, len) => pi_ins M i len F.1 F.2.1 F.2.2.1 F.2.2.2
    | .error _ => none)
def pi_ent (n : Nat) (args : List Value) : pi_L := pi_l0 args ++ List.replicate (n - (pi_l0 args).length) none
def pi_nl (m : Nat) : Nat := match pi_tab[m]? with
  | some M => pm_ml M
  | none => 0
def pi_run : Nat → Nat → pi_F → Option (Option Value × pi_H)
  | 0, _, _ => none
  | n + 1, m, F => match pi_step m F with
    | none => none
    | some (.inl F') => pi_run n m F'
    | some (.inr (.inl r)) => some r
    | some (.inr (.inr (m', args, F'))) => match pi_run n m' (0, pi_ent (pi_nl m') args, [], F'.2.2.2) with
      | none => none
      | some (r, H') => pi_run n m (F'.1, F'.2.1, r.toList ++ F'.2.2.1, H')
theorem pi_run_mono : ∀ (n m : Nat) (F : pi_F) (r : Option Value × pi_H), pi_run n m F = some r → pi_run (n + 1) m F = some r := by
  intro n
  induction n with
  | zero => intro m F r h; cases h
  | succ n ih =>
    intro m F r h
    rw [pi_run] at h ⊢
    cases hs : pi_step m F with
    | none => rw [hs] at h; cases h
    | some o =>
      rw [hs] at h
      match o, h with
      | .inl F', h => exact ih m F' r h
      | .inr (.inl r'), h => exact h
      | .inr (.inr (m', args, F')), h =>
        dsimp only at h ⊢
        cases hc : pi_run n m' (0, pi_ent (pi_nl m') args, [], F'.2.2.2) with
        | none => rw [hc] at h; cases h
        | some q =>
          rw [hc] at h
          rw [ih m' _ q hc]
          exact ih m _ r h
theorem pi_run_le {n k m : Nat} {F : pi_F} {r : Option Value × pi_H} (hk : n ≤ k) (h : pi_run n m F = some r) : pi_run k m F = some r := by
  induction hk with
  | refl => exact h
  | step _ ih => exact pi_run_mono _ _ _ _ ih
/-- what a run comes to, whatever its fuel -/
noncomputable def pi_lim {α : Type} (f : Nat → Option α) : Option α := @dite (Option α) (∃ n r, f n = some r) (Classical.propDecidable _) (fun h => f (Classical.choose h)) (fun _ => none)
theorem pi_lim_iff {α : Type} {f : Nat → Option α} (hm : ∀ n k r, n ≤ k → f n = some r → f k = some r) (r : α) : pi_lim f = some r ↔ ∃ n, f n = some r := by
  unfold pi_lim
  by_cases h : ∃ n r, f n = some r
  · rw [dif_pos h]
    obtain ⟨r0, h0⟩ := Classical.choose_spec h
    constructor
    · intro q; exact ⟨_, q⟩
    · rintro ⟨n, hn⟩
      have e1 := hm _ (max (Classical.choose h) n) _ (Nat.le_max_left _ _) h0
      have e2 := hm _ (max (Classical.choose h) n) _ (Nat.le_max_right _ _) hn
      rw [h0, ← e1, e2]
  · rw [dif_neg h]
    constructor
    · intro q; cases q
    · rintro ⟨n, hn⟩; exact absurd ⟨n, r, hn⟩ h
noncomputable def ev (m pc : Nat) (L : pi_L) (S : List Value) (H : pi_H) : Option (Option Value × pi_H) := pi_lim (fun n => pi_run n m (pc, L, S, H))
noncomputable def ex (m : Nat) (args : List Value) (H : pi_H) : Option (Option Value × pi_H) := ev m 0 (pi_ent (pi_nl m) args) [] H
theorem ev_iff (m pc : Nat) (L : pi_L) (S : List Value) (H : pi_H) (r : Option Value × pi_H) : ev m pc L S H = some r ↔ ∃ n, pi_run n m (pc, L, S, H) = some r := pi_lim_iff (fun _ _ _ hk h => pi_run_le hk h) r
theorem pi_ext {α : Type} {a b : Option α} (h : ∀ r, a = some r ↔ b = some r) : a = b := by
  cases a with
  | none => cases b with
    | none => rfl
    | some y => exact absurd ((h y).mpr rfl) (by simp)
  | some x => exact ((h x).mp rfl).symm
theorem ev_next {m pc : Nat} {L : pi_L} {S : List Value} {H : pi_H} {pc' : Nat} {L' : pi_L} {S' : List Value} {H' : pi_H} (h : pi_step m (pc, L, S, H) = some (.inl (pc', L', S', H'))) : ev m pc L S H = ev m pc' L' S' H' := by
  refine pi_ext fun r => ?_
  rw [ev_iff, ev_iff]
  constructor
  · rintro ⟨n, hn⟩
    cases n with
    | zero => cases hn
    | succ n =>
      rw [pi_run, h] at hn
      exact ⟨n, hn⟩
  · rintro ⟨n, hn⟩
    refine ⟨n + 1, ?_⟩
    rw [pi_run, h]
    exact hn
theorem ev_ret {m pc : Nat} {L : pi_L} {S : List Value} {H : pi_H} {r : Option Value × pi_H} (h : pi_step m (pc, L, S, H) = some (.inr (.inl r))) : ev m pc L S H = some r := by
  rw [ev_iff]
  refine ⟨1, ?_⟩
  rw [pi_run, h]
theorem ev_call {m pc m' : Nat} {L L' : pi_L} {S S' args : List Value} {H H' H1 : pi_H} {pc' : Nat} {r : Option Value} (h : pi_step m (pc, L, S, H) = some (.inr (.inr (m', args, (pc', L', S', H'))))) (hc : ex m' args H' = some (r, H1)) : ev m pc L S H = ev m pc' L' (r.toList ++ S') H1 := by
  obtain ⟨n0, h0⟩ := (ev_iff _ _ _ _ _ _).mp hc
  refine pi_ext fun q => ?_
  rw [ev_iff, ev_iff]
  constructor
  · rintro ⟨n, hn⟩
    cases n with
    | zero => cases hn
    | succ n =>
      rw [pi_run, h] at hn
      dsimp only at hn
      cases hr : pi_run n m' (0, pi_ent (pi_nl m') args, [], H') with
      | none => rw [hr] at hn; cases hn
      | some w =>
        rw [hr] at hn
        have e1 := pi_run_le (Nat.le_max_left n n0) hr
        have e2 := pi_run_le (Nat.le_max_right n n0) h0
        rw [e1] at e2
        cases e2
        exact ⟨n, hn⟩
  · rintro ⟨n, hn⟩
    refine ⟨max n n0 + 1, ?_⟩
    rw [pi_run, h]
    dsimp only
    rw [pi_run_le (Nat.le_max_right n n0) h0]
    exact pi_run_le (Nat.le_max_left n n0) hn
end
section
-- PART 04: the tables hold what the tables' words say
def pi_t (w : Cond) : Bool := decide (w ∈ lw_tbl) && goodWord w
theorem pi_t_in {w : Cond} (h : pi_t w = true) : w ∈ lw_tbl ∧ goodWord w = true := by
  unfold pi_t at h
  rw [Bool.and_eq_true, decide_eq_true_eq] at h
  exact h
def pi_tck (tc : Nat) (d : String) : Bool := match parseFieldDescriptor d with
  | some .int => tc == 0
  | some .long => tc == 1
  | some .boolean => tc == 2
  | some (.object _) => tc == 3
  | some (.array _) => tc == 3
  | _ => false
def pi_flc (q : (Nat × Nat) × (Nat × Nat × Bool × Nat)) : Bool := match pi_own[q.1.1]? with
  | none => false
  | some own => match pi_cl[q.2.1]? with
    | some (_, T, N) => decide (q.2.2.1 < N) && (pi_t (.fieldLink own q.1.2 (T q.2.2.1).1 (T q.2.2.1).2.1 (T q.2.2.1).2.2.1) && ((q.2.2.2.1 == (T q.2.2.1).2.2.2) && ((!(T q.2.2.1).2.2.2 || decide ((T q.2.2.1).1 = own)) && pi_tck q.2.2.2.2 (T q.2.2.1).2.2.1)))
    | none => (q.2.1 == 7) && ((q.2.2.1 == 0 && pi_t (.fieldLink own q.1.2 "java/lang/String" "value" "[B")) || (q.2.2.1 == 1 && pi_t (.fieldLink own q.1.2 "java/lang/String" "coder" "B")))
theorem pi_flk_ok : pi_flk.all pi_flc = true := by decide +kernel
def pi_klc (q : (Nat × Nat) × (Nat × Int)) : Bool := match pi_own[q.1.1]? with
  | none => false
  | some own => match q.2.1 with
    | 0 => pi_t (.constant own q.1.2 (Int32.ofInt q.2.2))
    | 1 => pi_t (.constantLong own q.1.2 (Int64.ofInt q.2.2))
    | 2 => decide (own = "OrderLevels$Script") && (match pi_str[q.2.2.toNat]? with
      | some (ix, _) => ix == q.1.2
      | none => false)
    | _ => false
theorem pi_klk_ok : pi_klk.all pi_klc = true := by decide +kernel
def pi_nlc (q : (Nat × Nat) × Nat) : Bool := match pi_own[q.1.1]?, pi_cl[q.2]?, pi_dft[q.2]? with
  | some own, some (C, T, N), some fs => pi_t (.classLink own q.1.2 C) && (pi_t (.instantiable C N) && (pi_t (.initialized C) && (decide (fs.length = N) && (List.range N).all (fun j => decide ((parseFieldDescriptor (T j).2.2.1).map defaultValue = some (vp_V fs j))))))
  | _, _, _ => false
theorem pi_nlk_ok : pi_nlk.all pi_nlc = true := by decide +kernel
def pi_alc (q : (Nat × Nat) × Nat) : Bool := match pi_own[q.1.1]? with
  | none => false
  | some own => match q.2 with
    | 3 => pi_t (.classLink own q.1.2 "OrderLevels$Shop")
    | 4 => pi_t (.classLink own q.1.2 "[[I")
    | 5 => pi_t (.classLink own q.1.2 "[[J")
    | _ => false
theorem pi_alk_ok : pi_alk.all pi_alc = true := by decide +kernel
def pi_slc (q : (Nat × Nat) × Nat) : Bool := match pi_own[q.1.1]? with
  | none => false
  | some own => match q.2 with
    | 0 => decide (Cond.fieldLinkNest own q.1.2 "OrderLevels" "MOST_COST" "[I" "OrderLevels" ∈ lw_tbl)
    | 1 => pi_t (.fieldLink own q.1.2 "java/lang/String" "COMPACT_STRINGS" "Z")
    | 2 => pi_t (.fieldLink own q.1.2 "jdk/internal/util/Preconditions" "SIOOBE_FORMATTER" "Ljava/util/function/BiFunction;")
    | _ => false
theorem pi_slk_ok : pi_slk.all pi_slc = true := by decide +kernel
def pi_clc (q : vw_C) : Bool := (u_ws q.1 q.2.1 q.2.2).all (fun w => pi_t w) && ((List.range q.2.2).all (fun j => (parseFieldDescriptor (q.2.1 j).2.2.1).isSome) && (List.range q.2.2).all (fun a => (List.range q.2.2).all (fun b => (a == b) || decide ((q.2.1 a).2.1 ≠ (q.2.1 b).2.1))))
theorem pi_cl_ok : pi_cl.all pi_clc = true := by decide +kernel
theorem pi_arr_ok : (pi_t (.arrayClass .int) && (pi_t (.arrayClass .char) && pi_t (.arrayClass .long))) = true := by decide +kernel
def pi_mc (M : pi_M) : Bool := (!pm_in M || decide ((pm_nm M).name = "<init>")) && decide (pi_own[pm_ow M]? = some (pm_nm M).cls)
theorem pi_tab_ok : pi_tab.all pi_mc = true := by decide +kernel
theorem pi_tab_pf : pi_tab.all (fun M => plainFor (pm_nm M)) = true := by decide +kernel
end
section
-- PART 04b: the methods' links, first half
def pi_at (p : Nat × Nat) : Option Cond := match p.1 with
  | 0 => (k2_sels lw_privs)[p.2]?
  | 1 => tables_1_1[p.2]?
  | 2 => tables_1_2[p.2]?
  | 3 => tables_1_3[p.2]?
  | 4 => tables_1_4[p.2]?
  | _ => none
theorem pi_at_in {p : Nat × Nat} {w : Cond} (h : pi_at p = some w) : w ∈ lw_tbl := by
  obtain ⟨c, i⟩ := p
  unfold lw_tbl tables_1
  unfold pi_at at h
  dsimp only at h
  split at h
  · exact List.mem_append_left _ (List.mem_of_getElem? h)
  · exact List.mem_append_right _ (List.mem_append_left _ (List.mem_of_getElem? h))
  · exact List.mem_append_right _ (List.mem_append_right _ (List.mem_append_left _ (List.mem_of_getElem? h)))
  · exact List.mem_append_right _ (List.mem_append_right _ (List.mem_append_right _ (List.mem_append_left _ (List.mem_of_getElem? h))))
  · exact List.mem_append_right _ (List.mem_append_right _ (List.mem_append_right _ (List.mem_append_right _ (List.mem_of_getElem? h))))
  · cases h
def pi_p (p : Option (Nat × Nat)) (w : Cond) : Bool := match p with
  | none => false
  | some p => decide (pi_at p = some w) && goodWord w
theorem pi_p_in {p : Option (Nat × Nat)} {w : Cond} (h : pi_p p w = true) : w ∈ lw_tbl ∧ goodWord w = true := by
  cases p with
  | none => cases h
  | some p =>
    unfold pi_p at h
    rw [Bool.and_eq_true, decide_eq_true_eq] at h
    exact ⟨pi_at_in h.1, h.2⟩
def pi_pn (p : Option (Nat × Nat)) (w : Cond) : Bool := match p with
  | none => false
  | some p => decide (pi_at p = some w)
theorem pi_pn_in {p : Option (Nat × Nat)} {w : Cond} (h : pi_pn p w = true) : w ∈ lw_tbl := by
  cases p with
  | none => cases h
  | some p => exact pi_at_in (of_decide_eq_true h)
def pi_mlc (r : ((Nat × Nat) × (Nat × Nat × Nat)) × List (Nat × Nat)) : Bool := match r with
  | (q, ps) => match pi_own[q.1.1]? with
    | none => false
    | some own => match q.2.2.2 with
      | 5 => pi_p ps[0]? (.methodLink own q.1.2 Lib.objectInit) && (pi_p ps[1]? (.instanceMethod Lib.objectInit) && pi_p ps[2]? (.code Lib.objectInit ⟨#[0xb1]⟩ 1 none))
      | 6 => pi_p ps[0]? (.methodLink own q.1.2 arraycopyName) && (pi_p ps[1]? (.native arraycopyName) && (pi_p ps[2]? (.static arraycopyName) && pi_p ps[3]? (.initialized "java/lang/System")))
      | kd => match pi_tab[q.2.1]? with
        | none => false
        | some M => pi_p ps[0]? (.code (pm_nm M) (pm_by M) (pm_ml M) (pm_rt M)) && (pi_p ps[1]? (.initialized (pm_nm M).cls) && (decide (pm_ml M ≤ 12) && (decide ((pm_nm M).cls ≠ "java/lang/invoke/MethodHandle" ∧ (pm_nm M).cls ≠ "java/lang/invoke/VarHandle" ∧ (parseMethodDescriptor (pm_nm M).desc).map (fun d => d.parameters.length) = some q.2.2.1) && (match kd with
          | 0 => pi_p ps[2]? (.methodLink own q.1.2 (pm_nm M)) && (pi_p ps[3]? (.instanceMethod (pm_nm M)) && (pi_p ps[4]? (.selects (pm_nm M).cls (pm_nm M) (pm_nm M)) && decide (pi_own[pm_ow M]? = some (pm_nm M).cls)))
          | 1 => pi_p ps[2]? (.methodLink own q.1.2 (pm_nm M)) && pi_p ps[3]? (.static (pm_nm M))
          | 2 => pi_p ps[2]? (.methodLink own q.1.2 (pm_nm M)) && (pi_p ps[3]? (.instanceMethod (pm_nm M)) && decide ((pm_nm M).name = "<init>" ∧ pm_rt M = none))
          | 3 => pi_pn ps[2]? (.methodLinkNest own q.1.2 (pm_nm M) "OrderLevels") && pi_p ps[3]? (.static (pm_nm M))
          | 4 => pi_pn ps[2]? (.methodLinkNest own q.1.2 (pm_nm M) "OrderLevels") && (pi_p ps[3]? (.instanceMethod (pm_nm M)) && decide ((pm_nm M).name = "<init>" ∧ pm_rt M = none))
          | _ => false))))
def pi_mpl0 : List (((Nat × Nat) × (Nat × Nat × Nat)) × List (Nat × Nat)) := [(((4, 1), (0, 0, 5)), [(1, 18), (1, 19), (1, 20)]), (((4, 9), (1, 0, 4)), [(1, 25), (1, 2), (1, 23), (1, 24)]), (((4, 21), (2, 0, 2)), [(1, 75), (1, 3), (1, 73), (1, 74)]), (((4, 28), (3, 0, 4)), [(1, 94), (1, 4), (1, 92), (1, 93)]), (((4, 35), (4, 0, 4)), [(1, 133), (1, 5), (1, 131), (1, 132)]), (((4, 40), (6, 1, 0)), [(1, 181), (1, 2), (1, 178), (1, 179), (1, 180)]), (((4, 44), (7, 2, 0)), [(1, 188), (1, 2), (1, 185), (1, 186), (1, 187)]), (((4, 48), (10, 1, 0)), [(1, 202), (1, 1), (1, 199), (1, 201), (0, 0)]), (((4, 52), (14, 2, 0)), [(1, 218), (1, 2), (1, 215), (1, 216), (1, 217)]), (((4, 55), (16, 3, 0)), [(1, 228), (1, 2), (1, 225), (1, 226), (1, 227)])]
theorem pi_mpl0_ok : pi_mpl0.all pi_mlc = true := by decide +kernel
def pi_mpl1 : List (((Nat × Nat) × (Nat × Nat × Nat)) × List (Nat × Nat)) := [(((4, 59), (18, 2, 0)), [(1, 236), (1, 2), (1, 233), (1, 234), (1, 235)]), (((4, 62), (20, 2, 0)), [(2, 4), (1, 2), (2, 1), (2, 2), (2, 3)]), (((4, 65), (22, 1, 0)), [(2, 12), (1, 2), (2, 9), (2, 10), (2, 11)]), (((4, 68), (25, 0, 0)), [(2, 24), (1, 2), (2, 21), (2, 22), (2, 23)]), (((4, 72), (30, 1, 0)), [(2, 44), (1, 2), (2, 41), (2, 42), (2, 43)]), (((4, 75), (36, 2, 0)), [(2, 68), (1, 2), (2, 65), (2, 66), (2, 67)]), (((4, 78), (38, 0, 0)), [(2, 77), (1, 3), (2, 74), (2, 75), (2, 76)]), (((4, 81), (39, 0, 0)), [(2, 81), (1, 5), (2, 78), (2, 79), (2, 80)]), (((4, 82), (40, 1, 0)), [(2, 85), (1, 2), (2, 82), (2, 83), (2, 84)]), (((4, 85), (8, 3, 1)), [(1, 191), (1, 1), (2, 90), (1, 190)])]
theorem pi_mpl1_ok : pi_mpl1.all pi_mlc = true := by decide +kernel
def pi_mpl2 : List (((Nat × Nat) × (Nat × Nat × Nat)) × List (Nat × Nat)) := [(((4, 91), (42, 2, 0)), [(2, 95), (1, 4), (2, 92), (2, 93), (2, 94)]), (((4, 95), (52, 2, 0)), [(2, 136), (1, 4), (2, 133), (2, 134), (2, 135)]), (((4, 99), (53, 1, 0)), [(2, 140), (1, 4), (2, 137), (2, 138), (2, 139)]), (((4, 103), (54, 3, 1)), [(2, 143), (1, 1), (2, 141), (2, 142)]), (((4, 108), (58, 2, 0)), [(2, 158), (1, 4), (2, 155), (2, 156), (2, 157)]), (((4, 111), (60, 2, 0)), [(2, 166), (1, 4), (2, 163), (2, 164), (2, 165)]), (((4, 113), (62, 2, 0)), [(2, 178), (1, 4), (2, 175), (2, 176), (2, 177)]), (((4, 116), (65, 2, 0)), [(2, 190), (1, 4), (2, 187), (2, 188), (2, 189)]), (((4, 119), (67, 1, 0)), [(2, 198), (1, 4), (2, 195), (2, 196), (2, 197)]), (((4, 122), (68, 1, 0)), [(2, 202), (1, 4), (2, 199), (2, 200), (2, 201)])]
theorem pi_mpl2_ok : pi_mpl2.all pi_mlc = true := by decide +kernel
def pi_mpl3 : List (((Nat × Nat) × (Nat × Nat × Nat)) × List (Nat × Nat)) := [(((4, 125), (70, 1, 0)), [(2, 211), (1, 4), (2, 208), (2, 209), (2, 210)]), (((4, 128), (72, 1, 0)), [(2, 220), (1, 4), (2, 217), (2, 218), (2, 219)]), (((4, 131), (73, 1, 0)), [(2, 224), (1, 4), (2, 221), (2, 222), (2, 223)]), (((4, 134), (75, 1, 0)), [(2, 232), (1, 4), (2, 229), (2, 230), (2, 231)]), (((4, 137), (76, 1, 0)), [(2, 236), (1, 4), (2, 233), (2, 234), (2, 235)]), (((4, 140), (79, 3, 0)), [(3, 8), (1, 4), (3, 5), (3, 6), (3, 7)]), (((4, 144), (81, 0, 0)), [(3, 17), (1, 4), (3, 14), (3, 15), (3, 16)]), (((4, 147), (82, 0, 0)), [(3, 21), (1, 4), (3, 18), (3, 19), (3, 20)]), (((4, 150), (83, 0, 0)), [(3, 25), (1, 4), (3, 22), (3, 23), (3, 24)]), (((4, 155), (85, 1, 0)), [(3, 34), (1, 3), (3, 31), (3, 32), (3, 33)])]
theorem pi_mpl3_ok : pi_mpl3.all pi_mlc = true := by decide +kernel
def pi_mpl4 : List (((Nat × Nat) × (Nat × Nat × Nat)) × List (Nat × Nat)) := [(((4, 159), (87, 1, 0)), [(3, 42), (1, 5), (3, 39), (3, 40), (3, 41)]), (((4, 162), (89, 0, 0)), [(3, 53), (1, 5), (3, 50), (3, 51), (3, 52)]), (((4, 165), (91, 1, 0)), [(3, 61), (1, 5), (3, 58), (3, 59), (3, 60)]), (((4, 168), (108, 0, 0)), [(3, 162), (1, 5), (3, 159), (3, 160), (3, 161)]), (((4, 173), (109, 0, 0)), [(3, 167), (1, 5), (3, 164), (3, 165), (3, 166)]), (((4, 176), (110, 0, 0)), [(3, 171), (1, 5), (3, 168), (3, 169), (3, 170)]), (((4, 179), (11, 1, 0)), [(1, 206), (1, 3), (1, 203), (1, 204), (1, 205)]), (((4, 182), (112, 0, 0)), [(3, 180), (1, 5), (3, 177), (3, 178), (3, 179)]), (((4, 185), (55, 2, 1)), [(2, 146), (1, 1), (2, 144), (2, 145)]), (((4, 189), (56, 1, 1)), [(2, 149), (1, 8), (2, 147), (2, 148)])]
theorem pi_mpl4_ok : pi_mpl4.all pi_mlc = true := by decide +kernel
def pi_mpl5 : List (((Nat × Nat) × (Nat × Nat × Nat)) × List (Nat × Nat)) := [(((0, 3), (0, 0, 5)), [(1, 76), (1, 19), (1, 20)]), (((0, 17), (1, 0, 4)), [(1, 25), (1, 2), (1, 79), (1, 24)]), (((0, 25), (6, 1, 0)), [(1, 181), (1, 2), (1, 207), (1, 179), (1, 180)]), (((0, 29), (12, 2, 1)), [(1, 210), (1, 8), (1, 208), (1, 209)]), (((1, 3), (0, 0, 5)), [(1, 95), (1, 19), (1, 20)]), (((1, 45), (43, 1, 0)), [(2, 99), (1, 4), (2, 96), (2, 98), (0, 2)]), (((1, 49), (45, 2, 1)), [(2, 107), (1, 4), (2, 105), (2, 106)]), (((1, 53), (46, 2, 0)), [(2, 112), (1, 4), (2, 109), (2, 111), (0, 3)]), (((1, 57), (50, 2, 0)), [(2, 128), (1, 4), (2, 125), (2, 127), (0, 5)]), (((1, 60), (26, 1, 0)), [(2, 28), (1, 2), (2, 167), (2, 26), (2, 27)])]
theorem pi_mpl5_ok : pi_mpl5.all pi_mlc = true := by decide +kernel
def pi_mpl6 : List (((Nat × Nat) × (Nat × Nat × Nat)) × List (Nat × Nat)) := [(((1, 66), (27, 1, 0)), [(2, 32), (1, 2), (2, 168), (2, 30), (2, 31)]), (((1, 69), (61, 6, 0)), [(2, 172), (1, 4), (2, 169), (2, 171), (0, 6)]), (((1, 73), (33, 2, 1)), [(2, 56), (1, 8), (3, 9), (2, 55)]), (((1, 79), (80, 3, 0)), [(3, 13), (1, 4), (3, 10), (3, 12), (0, 11)]), (((1, 83), (9, 0, 0)), [(1, 196), (1, 2), (2, 100), (1, 194), (1, 195)]), (((1, 87), (44, 1, 0)), [(2, 104), (1, 2), (2, 101), (2, 102), (2, 103)]), (((1, 91), (34, 1, 0)), [(2, 60), (1, 2), (2, 108), (2, 58), (2, 59)]), (((1, 94), (49, 2, 0)), [(2, 124), (1, 2), (2, 121), (2, 122), (2, 123)]), (((1, 98), (47, 1, 0)), [(2, 116), (1, 2), (2, 113), (2, 114), (2, 115)]), (((1, 101), (48, 4, 0)), [(2, 120), (1, 4), (2, 117), (2, 119), (0, 4)])]
theorem pi_mpl6_ok : pi_mpl6.all pi_mlc = true := by decide +kernel
def pi_mpl7 : List (((Nat × Nat) × (Nat × Nat × Nat)) × List (Nat × Nat)) := [(((1, 105), (51, 0, 0)), [(2, 132), (1, 2), (2, 129), (2, 130), (2, 131)]), (((1, 108), (28, 3, 1)), [(2, 35), (1, 2), (2, 173), (2, 34)]), (((1, 112), (23, 2, 0)), [(2, 16), (1, 2), (2, 174), (2, 14), (2, 15)]), (((1, 115), (69, 2, 0)), [(2, 206), (1, 4), (2, 203), (2, 205), (0, 7)]), (((1, 122), (71, 2, 0)), [(2, 215), (1, 4), (2, 212), (2, 214), (0, 8)]), (((1, 125), (74, 2, 0)), [(2, 228), (1, 4), (2, 225), (2, 227), (0, 9)]), (((1, 128), (77, 2, 0)), [(3, 0), (1, 4), (2, 237), (2, 239), (0, 10)]), (((2, 3), (0, 0, 5)), [(1, 134), (1, 19), (1, 20)]), (((2, 23), (8, 3, 3)), [(1, 191), (1, 1), (3, 43), (1, 190)]), (((2, 41), (92, 1, 0)), [(3, 65), (1, 5), (3, 62), (3, 64), (0, 12)])]
theorem pi_mpl7_ok : pi_mpl7.all pi_mlc = true := by decide +kernel
def pi_mpl8 : List (((Nat × Nat) × (Nat × Nat × Nat)) × List (Nat × Nat)) := [(((2, 45), (93, 0, 0)), [(3, 69), (1, 5), (3, 66), (3, 68), (0, 13)]), (((2, 49), (103, 1, 1)), [(3, 134), (1, 5), (3, 132), (3, 133)]), (((2, 53), (104, 1, 0)), [(3, 138), (1, 5), (3, 135), (3, 137), (0, 15)]), (((2, 57), (105, 1, 0)), [(3, 142), (1, 5), (3, 139), (3, 141), (0, 16)]), (((2, 61), (107, 2, 0)), [(3, 151), (1, 5), (3, 148), (3, 150), (0, 18)]), (((2, 65), (7, 2, 0)), [(1, 188), (1, 2), (3, 152), (1, 186), (1, 187)]), (((2, 71), (14, 2, 0)), [(1, 218), (1, 2), (3, 153), (1, 216), (1, 217)]), (((2, 74), (20, 2, 0)), [(2, 4), (1, 2), (3, 154), (2, 2), (2, 3)]), (((2, 77), (16, 3, 0)), [(1, 228), (1, 2), (3, 155), (1, 226), (1, 227)]), (((2, 81), (22, 1, 0)), [(2, 12), (1, 2), (3, 156), (2, 10), (2, 11)])]
theorem pi_mpl8_ok : pi_mpl8.all pi_mlc = true := by decide +kernel
def pi_mpl9 : List (((Nat × Nat) × (Nat × Nat × Nat)) × List (Nat × Nat)) := [(((2, 84), (25, 0, 0)), [(2, 24), (1, 2), (3, 157), (2, 22), (2, 23)]), (((2, 87), (30, 1, 0)), [(2, 44), (1, 2), (3, 158), (2, 42), (2, 43)]), (((2, 104), (94, 1, 1)), [(3, 72), (1, 5), (3, 70), (3, 71)]), (((2, 108), (95, 1, 0)), [(3, 83), (1, 5), (3, 80), (3, 82), (0, 14)]), (((2, 112), (96, 0, 0)), [(3, 87), (1, 9), (3, 84), (3, 85), (3, 86)]), (((2, 117), (98, 1, 0)), [(3, 97), (1, 9), (3, 94), (3, 95), (3, 96)]), (((2, 121), (106, 0, 0)), [(3, 146), (1, 5), (3, 143), (3, 145), (0, 17)]), (((2, 124), (33, 2, 1)), [(2, 56), (1, 8), (3, 147), (2, 55)]), (((3, 3), (0, 0, 5)), [(1, 26), (1, 19), (1, 20)]), (((3, 27), (0, 5, 6)), [(1, 182), (1, 184), (1, 183), (1, 7)])]
theorem pi_mpl9_ok : pi_mpl9.all pi_mlc = true := by decide +kernel
end
section
-- PART 04c: the second half
def pi_mpl10 : List (((Nat × Nat) × (Nat × Nat × Nat)) × List (Nat × Nat)) := [(((3, 62), (8, 3, 3)), [(1, 191), (1, 1), (1, 189), (1, 190)]), (((3, 67), (9, 0, 0)), [(1, 196), (1, 2), (1, 193), (1, 194), (1, 195)]), (((3, 76), (23, 2, 0)), [(2, 16), (1, 2), (2, 13), (2, 14), (2, 15)]), (((3, 80), (26, 1, 0)), [(2, 28), (1, 2), (2, 25), (2, 26), (2, 27)]), (((3, 84), (27, 1, 0)), [(2, 32), (1, 2), (2, 29), (2, 30), (2, 31)]), (((3, 87), (28, 3, 1)), [(2, 35), (1, 2), (2, 33), (2, 34)]), (((3, 91), (22, 1, 0)), [(2, 12), (1, 2), (2, 36), (2, 10), (2, 11)]), (((3, 94), (12, 2, 1)), [(1, 210), (1, 8), (2, 45), (1, 209)]), (((3, 99), (31, 2, 0)), [(2, 49), (1, 2), (2, 46), (2, 48), (0, 1)]), (((3, 103), (32, 2, 0)), [(2, 53), (1, 2), (2, 50), (2, 51), (2, 52)])]
theorem pi_mpl10_ok : pi_mpl10.all pi_mlc = true := by decide +kernel
def pi_mpl11 : List (((Nat × Nat) × (Nat × Nat × Nat)) × List (Nat × Nat)) := [(((3, 106), (34, 1, 0)), [(2, 60), (1, 2), (2, 57), (2, 58), (2, 59)]), (((3, 110), (33, 2, 1)), [(2, 56), (1, 8), (2, 54), (2, 55)]), (((6, 9), (0, 0, 2)), [(1, 17), (1, 1), (1, 15), (1, 16)]), (((6, 12), (113, 0, 2)), [(3, 185), (1, 6), (3, 183), (3, 184)]), (((6, 13), (5, 2, 0)), [(1, 177), (1, 1), (1, 174), (1, 175), (1, 176)]), (((6, 17), (114, 2, 0)), [(3, 236), (1, 6), (3, 233), (3, 234), (3, 235)]), (((6, 18), (13, 2, 0)), [(1, 214), (1, 1), (1, 211), (1, 212), (1, 213)]), (((6, 21), (120, 2, 0)), [(4, 22), (1, 6), (4, 19), (4, 20), (4, 21)]), (((6, 22), (15, 3, 0)), [(1, 224), (1, 1), (1, 221), (1, 222), (1, 223)]), (((6, 26), (123, 3, 0)), [(4, 33), (1, 6), (4, 30), (4, 31), (4, 32)])]
theorem pi_mpl11_ok : pi_mpl11.all pi_mlc = true := by decide +kernel
def pi_mpl12 : List (((Nat × Nat) × (Nat × Nat × Nat)) × List (Nat × Nat)) := [(((6, 27), (17, 2, 0)), [(1, 232), (1, 1), (1, 229), (1, 230), (1, 231)]), (((6, 30), (133, 2, 0)), [(4, 73), (1, 6), (4, 70), (4, 71), (4, 72)]), (((6, 31), (19, 2, 0)), [(2, 0), (1, 1), (1, 237), (1, 238), (1, 239)]), (((6, 34), (125, 2, 0)), [(4, 41), (1, 6), (4, 38), (4, 39), (4, 40)]), (((6, 35), (21, 1, 0)), [(2, 8), (1, 1), (2, 5), (2, 6), (2, 7)]), (((6, 39), (127, 1, 0)), [(4, 49), (1, 6), (4, 46), (4, 47), (4, 48)]), (((6, 40), (24, 0, 0)), [(2, 20), (1, 1), (2, 17), (2, 18), (2, 19)]), (((6, 44), (129, 0, 0)), [(4, 57), (1, 6), (4, 54), (4, 55), (4, 56)]), (((6, 45), (29, 1, 0)), [(2, 40), (1, 1), (2, 37), (2, 38), (2, 39)]), (((6, 48), (131, 1, 0)), [(4, 65), (1, 6), (4, 62), (4, 63), (4, 64)])]
theorem pi_mpl12_ok : pi_mpl12.all pi_mlc = true := by decide +kernel
def pi_mpl13 : List (((Nat × Nat) × (Nat × Nat × Nat)) × List (Nat × Nat)) := [(((6, 49), (35, 2, 0)), [(2, 64), (1, 1), (2, 61), (2, 62), (2, 63)]), (((6, 52), (134, 2, 0)), [(4, 77), (1, 6), (4, 74), (4, 75), (4, 76)]), (((6, 53), (37, 1, 0)), [(2, 73), (1, 1), (2, 70), (2, 71), (2, 72)]), (((6, 56), (135, 1, 0)), [(4, 82), (1, 6), (4, 79), (4, 80), (4, 81)]), (((6, 57), (41, 3, 0)), [(2, 89), (1, 1), (2, 86), (2, 87), (2, 88)]), (((6, 61), (136, 3, 0)), [(4, 86), (1, 6), (4, 83), (4, 84), (4, 85)]), (((6, 62), (57, 2, 0)), [(2, 153), (1, 1), (2, 150), (2, 151), (2, 152)]), (((6, 65), (142, 2, 0)), [(4, 109), (1, 6), (4, 106), (4, 107), (4, 108)]), (((6, 66), (59, 3, 0)), [(2, 162), (1, 1), (2, 159), (2, 160), (2, 161)]), (((6, 69), (143, 3, 0)), [(4, 113), (1, 6), (4, 110), (4, 111), (4, 112)])]
theorem pi_mpl13_ok : pi_mpl13.all pi_mlc = true := by decide +kernel
def pi_mpl14 : List (((Nat × Nat) × (Nat × Nat × Nat)) × List (Nat × Nat)) := [(((6, 70), (63, 3, 0)), [(2, 182), (1, 1), (2, 179), (2, 180), (2, 181)]), (((6, 73), (146, 3, 0)), [(4, 125), (1, 6), (4, 122), (4, 123), (4, 124)]), (((6, 74), (64, 3, 0)), [(2, 186), (1, 1), (2, 183), (2, 184), (2, 185)]), (((6, 77), (147, 3, 0)), [(4, 129), (1, 6), (4, 126), (4, 127), (4, 128)]), (((6, 78), (66, 2, 0)), [(2, 194), (1, 1), (2, 191), (2, 192), (2, 193)]), (((6, 81), (148, 2, 0)), [(4, 133), (1, 6), (4, 130), (4, 131), (4, 132)]), (((6, 82), (78, 3, 0)), [(3, 4), (1, 1), (3, 1), (3, 2), (3, 3)]), (((6, 85), (155, 3, 0)), [(4, 162), (1, 6), (4, 159), (4, 160), (4, 161)]), (((6, 86), (84, 0, 0)), [(3, 29), (1, 1), (3, 26), (3, 27), (3, 28)]), (((6, 89), (157, 0, 0)), [(4, 170), (1, 6), (4, 167), (4, 168), (4, 169)])]
theorem pi_mpl14_ok : pi_mpl14.all pi_mlc = true := by decide +kernel
def pi_mpl15 : List (((Nat × Nat) × (Nat × Nat × Nat)) × List (Nat × Nat)) := [(((6, 90), (86, 1, 0)), [(3, 38), (1, 1), (3, 35), (3, 36), (3, 37)]), (((6, 93), (158, 1, 0)), [(4, 174), (1, 6), (4, 171), (4, 172), (4, 173)]), (((6, 94), (88, 0, 0)), [(3, 49), (1, 1), (3, 46), (3, 47), (3, 48)]), (((6, 97), (159, 0, 0)), [(4, 178), (1, 6), (4, 175), (4, 176), (4, 177)]), (((6, 98), (90, 1, 0)), [(3, 57), (1, 1), (3, 54), (3, 55), (3, 56)]), (((6, 101), (160, 1, 0)), [(4, 182), (1, 6), (4, 179), (4, 180), (4, 181)]), (((6, 102), (111, 0, 0)), [(3, 176), (1, 1), (3, 173), (3, 174), (3, 175)]), (((6, 105), (169, 0, 0)), [(4, 224), (1, 6), (4, 221), (4, 222), (4, 223)]), (((5, 1), (0, 0, 5)), [(3, 186), (1, 19), (1, 20)]), (((5, 45), (117, 3, 1)), [(4, 7), (1, 6), (4, 5), (4, 6)])]
theorem pi_mpl15_ok : pi_mpl15.all pi_mlc = true := by decide +kernel
def pi_mpl16 : List (((Nat × Nat) × (Nat × Nat × Nat)) × List (Nat × Nat)) := [(((5, 50), (118, 0, 0)), [(4, 12), (1, 6), (4, 9), (4, 11), (0, 21)]), (((5, 56), (122, 1, 1)), [(4, 29), (1, 6), (4, 27), (4, 28)]), (((5, 60), (128, 1, 0)), [(4, 53), (1, 6), (4, 50), (4, 52), (0, 26)]), (((5, 63), (115, 0, 0)), [(4, 0), (1, 6), (3, 237), (3, 239), (0, 19)]), (((5, 66), (116, 2, 0)), [(4, 4), (1, 6), (4, 1), (4, 3), (0, 20)]), (((5, 70), (119, 1, 0)), [(4, 18), (1, 6), (4, 15), (4, 17), (0, 22)]), (((5, 73), (121, 2, 0)), [(4, 26), (1, 6), (4, 23), (4, 25), (0, 23)]), (((5, 76), (124, 3, 0)), [(4, 37), (1, 6), (4, 34), (4, 36), (0, 24)]), (((5, 80), (126, 2, 0)), [(4, 45), (1, 6), (4, 42), (4, 44), (0, 25)]), (((5, 83), (130, 0, 0)), [(4, 61), (1, 6), (4, 58), (4, 60), (0, 27)])]
theorem pi_mpl16_ok : pi_mpl16.all pi_mlc = true := by decide +kernel
def pi_mpl17 : List (((Nat × Nat) × (Nat × Nat × Nat)) × List (Nat × Nat)) := [(((5, 86), (132, 1, 0)), [(4, 69), (1, 6), (4, 66), (4, 68), (0, 28)]), (((5, 93), (139, 0, 0)), [(4, 98), (1, 6), (4, 95), (4, 97), (0, 30)]), (((5, 96), (140, 3, 0)), [(4, 102), (1, 6), (4, 99), (4, 101), (0, 31)]), (((5, 100), (145, 4, 0)), [(4, 121), (1, 6), (4, 118), (4, 120), (0, 33)]), (((5, 104), (137, 4, 1)), [(4, 89), (1, 6), (4, 87), (4, 88)]), (((5, 110), (138, 1, 0)), [(4, 94), (1, 6), (4, 91), (4, 93), (0, 29)]), (((5, 114), (141, 3, 1)), [(4, 105), (1, 6), (4, 103), (4, 104)]), (((5, 118), (144, 1, 0)), [(4, 117), (1, 6), (4, 114), (4, 116), (0, 32)]), (((5, 123), (151, 2, 0)), [(4, 145), (1, 6), (4, 142), (4, 144), (0, 36)]), (((5, 127), (154, 2, 0)), [(4, 157), (1, 6), (4, 154), (4, 156), (0, 39)])]
theorem pi_mpl17_ok : pi_mpl17.all pi_mlc = true := by decide +kernel
def pi_mpl18 : List (((Nat × Nat) × (Nat × Nat × Nat)) × List (Nat × Nat)) := [(((5, 130), (149, 1, 0)), [(4, 137), (1, 6), (4, 134), (4, 136), (0, 34)]), (((5, 133), (150, 1, 0)), [(4, 141), (1, 6), (4, 138), (4, 140), (0, 35)]), (((5, 136), (152, 1, 0)), [(4, 149), (1, 6), (4, 146), (4, 148), (0, 37)]), (((5, 139), (153, 3, 0)), [(4, 153), (1, 6), (4, 150), (4, 152), (0, 38)]), (((5, 143), (156, 4, 0)), [(4, 166), (1, 6), (4, 163), (4, 165), (0, 40)]), (((5, 153), (164, 0, 0)), [(4, 198), (1, 6), (4, 195), (4, 197), (0, 44)]), (((5, 156), (167, 1, 0)), [(4, 216), (1, 6), (4, 213), (4, 215), (0, 46)]), (((5, 173), (165, 1, 1)), [(4, 201), (1, 6), (4, 199), (4, 200)]), (((5, 177), (163, 0, 0)), [(4, 194), (1, 6), (4, 191), (4, 193), (0, 43)]), (((5, 180), (166, 0, 0)), [(4, 212), (1, 6), (4, 209), (4, 211), (0, 45)])]
theorem pi_mpl18_ok : pi_mpl18.all pi_mlc = true := by decide +kernel
def pi_mpl19 : List (((Nat × Nat) × (Nat × Nat × Nat)) × List (Nat × Nat)) := [(((5, 183), (162, 0, 0)), [(4, 190), (1, 6), (4, 187), (4, 189), (0, 42)]), (((5, 189), (161, 0, 0)), [(4, 186), (1, 6), (4, 183), (4, 185), (0, 41)]), (((5, 192), (168, 0, 0)), [(4, 220), (1, 6), (4, 217), (4, 219), (0, 47)]), (((7, 335), (97, 0, 0)), [(3, 91), (1, 9), (3, 88), (3, 89), (3, 90)]), (((7, 492), (99, 0, 0)), [(3, 101), (1, 9), (3, 98), (3, 99), (3, 100)]), (((7, 495), (100, 2, 1)), [(3, 104), (1, 10), (3, 102), (3, 103)]), (((7, 1059), (102, 3, 1)), [(3, 112), (1, 11), (3, 110), (3, 111)]), (((8, 9), (101, 2, 1)), [(3, 107), (1, 9), (3, 105), (3, 106)])]
theorem pi_mpl19_ok : pi_mpl19.all pi_mlc = true := by decide +kernel
def pi_mpl : List (((Nat × Nat) × (Nat × Nat × Nat)) × List (Nat × Nat)) := pi_mpl0 ++ (pi_mpl1 ++ (pi_mpl2 ++ (pi_mpl3 ++ (pi_mpl4 ++ (pi_mpl5 ++ (pi_mpl6 ++ (pi_mpl7 ++ (pi_mpl8 ++ (pi_mpl9 ++ (pi_mpl10 ++ (pi_mpl11 ++ (pi_mpl12 ++ (pi_mpl13 ++ (pi_mpl14 ++ (pi_mpl15 ++ (pi_mpl16 ++ (pi_mpl17 ++ (pi_mpl18 ++ (pi_mpl19)))))))))))))))))))
theorem pi_mpl_all : pi_mpl.all pi_mlc = true := by
  unfold pi_mpl
  simp only [List.all_append, pi_mpl0_ok, pi_mpl1_ok, pi_mpl2_ok, pi_mpl3_ok, pi_mpl4_ok, pi_mpl5_ok, pi_mpl6_ok, pi_mpl7_ok, pi_mpl8_ok, pi_mpl9_ok, pi_mpl10_ok, pi_mpl11_ok, pi_mpl12_ok, pi_mpl13_ok, pi_mpl14_ok, pi_mpl15_ok, pi_mpl16_ok, pi_mpl17_ok, pi_mpl18_ok, pi_mpl19_ok, Bool.and_self]
theorem pi_mpl_map : pi_mpl.map (fun q => q.1) = pi_mlk := by decide +kernel
theorem pi_mlk_ok : ∀ q ∈ pi_mlk, ∃ ps, pi_mlc (q, ps) = true := by
  intro q hq
  rw [← pi_mpl_map] at hq
  obtain ⟨r, hr, rfl⟩ := List.mem_map.mp hq
  exact ⟨r.2, List.all_eq_true.mp pi_mpl_all r hr⟩
end
section
-- PART 05: new T[n][k] (the outer row's cells as in the printed names' vr_outer)
theorem pi_outer (c : ClassId) (N h0 : Nat) : ∀ i : Nat, Jvm.Free.Multi.outerC c N h0 i = arrV c N (fun j => va_rf (if j < i then some (h0 + 1 + j) else none))
  | 0 => by
    show ({ cls := c, slots := Array.replicate N .null, vm := .none } : Cell) = _
    rw [arrV_new]
    refine congrArg (arrV c N) (funext fun j => ?_)
    simp [va_rf]
  | i + 1 => by
    show (Jvm.Free.Multi.outerC c N h0 i).setSlot i (.ref (h0 + 1 + i)) = _
    rw [pi_outer c N h0 i, arrV_store]
    refine congrArg (arrV c N) (funext fun j => ?_)
    by_cases e : j = i
    · subst e
      simp [updV, va_rf]
    · by_cases h : j < i
      · simp [updV, e, h, Nat.lt_succ_of_lt h]
      · simp [updV, e, h, show ¬ j < i + 1 by omega]
section PMN
variable {p : Program} {l : Launch} {e : Env} {R : Room} {s : State} {m : MethodId} {args : Array Value} {below : List Frame} {meth : Method} {c : Code} {H : Heap} {locs : List Loc} {cells slots : Nat} {Q : State → Prop}
variable {cc : ByteArray} {pc : Nat} {ls : Array Slot} {rest : List Value}
theorem pi_mnaK (hexec : p.tables.exec = Jvm.exec) (hb : c.code = cc) {own : String} {index : Nat} {ty : FieldType} (hown : s.vm.findClass own = some m.cls) (hclink : (Cond.classLink own index ("[" ++ (FieldType.array ty).toString)).before args s = true) (hover : (Cond.arrayOver (.array ty)).before args s = true) (harr : (Cond.arrayClass ty).before args s = true)
    {n k : Int32} (hn : ¬ n < 0) (hk : ¬ k < 0) (hb1 : n.toNatClampNeg * 4 ≤ 536870912) (hb2 : k.toNatClampNeg * componentBytes ty ≤ 536870912) (hb3 : k.toNatClampNeg ≤ 536870912) (hdf : fits ty (defaultValue ty) = true) (hdd : (defaultValue ty).isDefault = true) (hcells : cells + (1 + n.toNatClampNeg) ≤ R.cells) (hslots : slots + (n.toNatClampNeg + n.toNatClampNeg * k.toNatClampNeg) ≤ R.slots) (hdg : decode cc pc = .ok (.multianewarray index 2, 4))
    (kk : ∀ (H1 : Heap) (cA cy : ClassId), s.vm.findClass ("[" ++ (FieldType.array ty).toString) = some cA → s.vm.findClass (FieldType.array ty).toString = some cy → H1.size = H.size + 1 + n.toNatClampNeg → (∀ q, q < H.size → H1[q]? = H[q]?) →
      H1[H.size]? = some (vp_cell cA (n.toNatClampNeg, .inr (.inr (.inr (.inr (fun i => if i < n.toNatClampNeg then some (H.size + 1 + i) else none)))))) → (∀ j, j < n.toNatClampNeg → H1[H.size + 1 + j]? = some (arrV cy k.toNatClampNeg (fun _ => defaultValue ty))) →
      W p l e R s m args below meth c H1 locs (cells + 1 + n.toNatClampNeg) (slots + n.toNatClampNeg + n.toNatClampNeg * k.toNatClampNeg) Q (F0 m (pc + 4) ls (.ref H.size :: rest))) : W p l e R s m args below meth c H locs cells slots Q (F0 m pc ls (.int k :: .int n :: rest)) := by
  intro T hT Xs
  obtain ⟨vm₁, cA, cy, -, fA, fC, -, -, X', step⟩ := Xs.multianewarray2F hexec hown hclink hover harr (g := F0 m pc ls (.int k :: .int n :: rest)) rfl (by rw [hb]; exact hdg) rfl hn hk hb1 hb2 hb3 hdf hdd hcells hslots
  generalize hF : Jvm.Free.Multi.fill (T.setVm vm₁) cA cy n.toNatClampNeg k.toNatClampNeg (defaultValue ty) n.toNatClampNeg = F at X' step
  have hTh : (T.setVm vm₁).heap = H := hT
  obtain ⟨f1, f2, -, -⟩ := Jvm.Free.Multi.fill_facts (T.setVm vm₁) cA cy n.toNatClampNeg k.toNatClampNeg (defaultValue ty) n.toNatClampNeg
  rw [hF, hTh] at f1 f2
  have hold : ∀ x : Nat, x < H.size → F.heap[x]? = H[x]? := fun x hx => by
    have := Jvm.Free.Multi.fill_old (T.setVm vm₁) cA cy n.toNatClampNeg k.toNatClampNeg (defaultValue ty) (a := x) (by rw [hTh]; exact hx) n.toNatClampNeg
    rw [hF, hTh] at this
    exact this
  have hrow : ∀ j : Nat, j < n.toNatClampNeg → F.heap[H.size + 1 + j]? = some (arrV cy k.toNatClampNeg (fun _ => defaultValue ty)) := fun j hj => by
    have := Jvm.Free.Multi.fill_inner (T.setVm vm₁) cA cy n.toNatClampNeg k.toNatClampNeg (defaultValue ty) n.toNatClampNeg j hj
    rw [hF, hTh] at this
    rw [this, ← arrV_new]
    rfl
  have hout : Jvm.Free.Multi.outerC cA n.toNatClampNeg H.size n.toNatClampNeg = vp_cell cA (n.toNatClampNeg, .inr (.inr (.inr (.inr (fun i => if i < n.toNatClampNeg then some (H.size + 1 + i) else none))))) := by
    rw [vp_cell_q]
    exact pi_outer cA n.toNatClampNeg H.size n.toNatClampNeg
  rw [hout] at f2
  obtain ⟨t, a1, b1⟩ := kk F.heap cA cy fA fC f1 hold f2 hrow F rfl X'
  refine ⟨t, step t ?_, b1⟩
  have e : T.heap.size = H.size := by rw [hT]
  rw [e]
  exact a1
end PMN
end
section
-- PART 06a: what a pure heap means on the machine
abbrev pi_G : Type := va_G × (Nat → ClassId) × (Nat → Option Nat) × Nat × (Nat → Option pi_E)
def pi_B (g : pi_G) : Nat := g.2.2.2.1
def pi_A (g : pi_G) : Nat → Prop := fun q => pi_B g ≤ q
def pi_tv (g : pi_G) (v : Value) : Value := match v with
  | .ref k => if k < 1000000 then .ref (pi_B g + k) else va_rf (g.2.2.1 (k - 1000000))
  | v => v
def pi_te (g : pi_G) (e : pi_E) : va_E := match e with
  | .inl (t, n, .inr (.inr (.inr (.inr f)))) => .inl (g.2.1 t, n, .inr (.inr (.inr (.inr (fun i => (f i).map (fun k => pi_B g + k))))))
  | .inl (t, n, a) => .inl (g.2.1 t, n, a)
  | .inr (ci, fs) => .inr (ci, fs.map (pi_tv g))
def pi_dyn (e : pi_E) : Bool := match e with
  | .inl (t, _) => decide (t < 6)
  | .inr (ci, _) => decide (ci < 6)
/-- the dynamic cells at B and behind it, in their order; the others stand in the static table -/
def pi_R (g : pi_G) (H : pi_H) (Hp : Heap) : Prop := Hp.size = pi_B g + H.2.1 ∧ H.2.1 ≤ 1000000 ∧ ∀ (k : Nat) (e : pi_E), H.1 k = some e → (k < H.2.1 ∧ pi_dyn e = true ∧ va_at g.1 pi_cl (pi_B g + k, pi_te g e) Hp) ∨ g.2.2.2.2 k = some e
def pi_sat (g : pi_G) (k : Nat) (e : pi_E) (U : State) : Prop :=
  (∃ (n : Nat) (f : Nat → Int32) (a : Nat), e = .inl (10, n, .inl f) ∧ g.2.2.1 (k - 1000000) = some a ∧ va_T .int a n (fun j => .int (f j)) (pi_A g) U U.heap) ∨
  (∃ (n : Nat) (f : Nat → Int32) (a : Nat), e = .inl (11, n, .inl f) ∧ g.2.2.1 (k - 1000000) = some a ∧ va_T .byte a n (fun j => .int (f j)) (pi_A g) U U.heap) ∨
  (∃ (v a av : Nat), e = .inr (7, [.ref v, .int 0]) ∧ g.2.2.1 (k - 1000000) = some a ∧ 1000000 ≤ v ∧ g.2.2.1 (v - 1000000) = some av ∧ va_O "java/lang/String" a (pi_A g) U U.heap ∧ va_OF "java/lang/String" "value" "[B" (.ref av) a (pi_A g) U U.heap ∧ va_OF "java/lang/String" "coder" "B" (.int 0) a (pi_A g) U U.heap)
def pi_tysA (g : pi_G) : List (ClassId × FieldType) := [(g.2.1 0, .int), (g.2.1 1, .char), (g.2.1 2, .long), (g.2.1 3, .object "OrderLevels$Shop"), (g.2.1 4, .array .int), (g.2.1 5, .array .long)]
def pi_AOA (t : FieldType) (U : State) : Prop := (Cond.arrayOver (.array t)).before #[] U = true
def pi_Env (g : pi_G) (U : State) : Prop :=
  va_K g.1 pi_cl (pi_tysA g) U ∧
  (∀ (own : String) (ix : Nat) (y : MethodName), Cond.methodLinkNest own ix y "OrderLevels" ∈ lw_tbl → va_Nw (.methodLinkNest own ix y "OrderLevels") U) ∧
  (∀ (own : String) (ix : Nat), Cond.fieldLinkNest own ix "OrderLevels" "MOST_COST" "[I" "OrderLevels" ∈ lw_tbl → va_Nw (.fieldLinkNest own ix "OrderLevels" "MOST_COST" "[I" "OrderLevels") U) ∧
  va_AO "OrderLevels$Shop" U ∧ pi_AOA .int U ∧ pi_AOA .long U ∧
  (∀ (i : Nat) (q : Nat × String), pi_str[i]? = some q → ∃ a, g.2.2.1 (1 + i) = some a ∧ vk_R "OrderLevels$Script" q.1 q.2 a U) ∧
  (∃ t, g.2.2.1 0 = some t ∧ va_Z "OrderLevels" "MOST_COST" "[I" (.ref t) (pi_A g) U U.heap) ∧
  va_Z "java/lang/String" "COMPACT_STRINGS" "Z" (.int 1) (pi_A g) U U.heap ∧
  va_Z "jdk/internal/util/Preconditions" "SIOOBE_FORMATTER" "Ljava/util/function/BiFunction;" (va_rf (g.2.2.1 30)) (pi_A g) U U.heap ∧
  (∀ (k : Nat) (e : pi_E), g.2.2.2.2 k = some e → 1000000 ≤ k ∧ pi_sat g k e U) ∧
  (∀ j, j ≠ 30 → ∃ a, g.2.2.1 j = some a)
theorem pi_AOA.moved {t : FieldType} {u U : State} (hvm : u.vm.Alike U.vm) (h : pi_AOA t u) : pi_AOA t U := over_moved (a := #[]) (a' := #[]) hvm h
theorem pi_sat.env {g : pi_G} {k : Nat} {e : pi_E} {u U : State} (hvm : u.vm.Alike U.vm) (hh : ∀ q : Nat, q < u.heap.size → ¬ pi_A g q → U.heap[q]? = u.heap[q]?) (h : pi_sat g k e u) : pi_sat g k e U := by
  rcases h with ⟨n, f, a, h1, h2, h3⟩ | ⟨n, f, a, h1, h2, h3⟩ | ⟨v, a, av, h1, h2, h3, h4, h5, h6, h7⟩
  · exact Or.inl ⟨n, f, a, h1, h2, (h3.moved hvm).kept hh⟩
  · exact Or.inr (Or.inl ⟨n, f, a, h1, h2, (h3.moved hvm).kept hh⟩)
  · exact Or.inr (Or.inr ⟨v, a, av, h1, h2, h3, h4, (h5.moved hvm).kept hh, (h6.moved hvm).kept hh, (h7.moved hvm).kept hh⟩)
theorem pi_Env.warm {g : pi_G} {u U : State} (hW : u.WarmedH U.vm) (hh : ∀ q : Nat, q < u.heap.size → ¬ pi_A g q → U.heap[q]? = u.heap[q]?) (h : pi_Env g u) : pi_Env g U := by
  obtain ⟨h1, h2, h3, h4, h5, h6, h7, ⟨t, h8, h8'⟩, h9, h10, h11, h12⟩ := h
  have hvm := hW.alike
  exact ⟨va_K.moved hvm h1, fun own ix y hy => va_Nw.warmM hW (h2 own ix y hy), fun own ix hy => va_Nw.warmF hW (h3 own ix hy), va_AO.moved hvm h4, pi_AOA.moved hvm h5, pi_AOA.moved hvm h6,
    fun i q hq => by obtain ⟨a, ha, hr⟩ := h7 i q hq; exact ⟨a, ha, vk_R.warm hW hr⟩, ⟨t, h8, (h8'.moved hvm).kept hh⟩, (h9.moved hvm).kept hh, (h10.moved hvm).kept hh, fun k e hk => ⟨(h11 k e hk).1, (h11 k e hk).2.env hvm hh⟩, h12⟩
theorem pi_tv_dyn {g : pi_G} {a : Nat} (h : a < 1000000) : pi_tv g (.ref a) = .ref (pi_B g + a) := by simp [pi_tv, h]
theorem pi_tv_st {g : pi_G} {a t : Nat} (h : 1000000 ≤ a) (hs : g.2.2.1 (a - 1000000) = some t) : pi_tv g (.ref a) = .ref t := by
  simp [pi_tv, Nat.not_lt.mpr h, hs, va_rf]
theorem pi_tv_cat {g : pi_G} (v : Value) : (pi_tv g v).category = v.category := by
  cases v with
  | ref k =>
    unfold pi_tv
    dsimp only
    split
    · rfl
    · unfold va_rf; split <;> rfl
  | _ => rfl
theorem pi_tv_cats {g : pi_G} (S : List Value) : ((S.map (pi_tv g)).map fun v => v.category).sum = pi_cats S := by
  unfold pi_cats
  rw [List.map_map]
  congr 1
  apply List.map_congr_left
  intro v _
  exact pi_tv_cat v
theorem pi_P1 {D : va_G} {cl : List vw_C} {a : Nat} {x : va_E} {Hp : Heap} (h : va_at D cl (a, x) Hp) : va_P D cl [(a, x)] Hp := by
  intro k q hq
  cases k with
  | zero => cases hq; exact h
  | succ k => simp at hq
theorem pi_in_vp {i : Int32} {n : Nat} (h : pi_in i n = true) : vp_in i n := by
  unfold pi_in at h
  rw [Bool.and_eq_true, Bool.not_eq_true', decide_eq_false_iff_not, decide_eq_true_eq] at h
  rintro (q | q)
  · exact h.1 q
  · omega
/-! the locals -/
def pi_lv (g : pi_G) (L : pi_L) : List (Nat × Value) := (List.range L.length).filterMap (fun j => (pi_ld L j).map (fun v => (j, pi_tv g v)))
theorem pi_ld_lt {L : pi_L} {j : Nat} {v : Value} (h : pi_ld L j = some v) : j < L.length := by
  unfold pi_ld at h
  split at h
  next w hw => exact (List.getElem?_eq_some_iff.mp hw).1
  next => cases h
theorem pi_ld_some {L : pi_L} {j : Nat} {v : Value} : pi_ld L j = some v ↔ L[j]? = some (some v) := by
  unfold pi_ld
  split
  next w hw => rw [hw]; constructor <;> (intro h; cases h; rfl)
  next hw =>
    constructor
    · intro h; cases h
    · intro h; exact absurd h (hw v)
theorem pi_lv_mem {g : pi_G} {L : pi_L} {q : Nat × Value} : q ∈ pi_lv g L ↔ ∃ v, pi_ld L q.1 = some v ∧ q.2 = pi_tv g v := by
  unfold pi_lv
  rw [List.mem_filterMap]
  constructor
  · rintro ⟨j, -, hj⟩
    cases hl : pi_ld L j with
    | none => rw [hl] at hj; cases hj
    | some v => rw [hl] at hj; cases hj; exact ⟨v, hl, rfl⟩
  · rintro ⟨v, h1, h2⟩
    refine ⟨q.1, List.mem_range.mpr (pi_ld_lt h1), ?_⟩
    rw [h1, Option.map_some, ← h2]
theorem pi_lv_at {g : pi_G} {L : pi_L} {ls : Array Slot} {n j : Nat} {v : Value} (h : lv_has ls n (pi_lv g L)) (hj : pi_ld L j = some v) : ls[j]? = some (.val (pi_tv g v)) := h.2.2 (j, pi_tv g v) (pi_lv_mem.mpr ⟨v, hj, rfl⟩)
theorem pi_lv_mono {ls : Array Slot} {n : Nat} {l l' : List (Nat × Value)} (h : lv_has ls n l) (hs : ∀ q ∈ l', q ∈ l) : lv_has ls n l' := ⟨h.1, h.2.1, fun q hq => h.2.2 q (hs q hq)⟩
theorem pi_ld_set {L : pi_L} {i j : Nat} {o : Option Value} {v : Value} (h : pi_ld (L.set i o) j = some v) : (j = i ∧ o = some v) ∨ (j ≠ i ∧ pi_ld L j = some v) := by
  rw [pi_ld_some] at h
  by_cases e : j = i
  · subst e
    have hl : j < L.length := by have := (List.getElem?_eq_some_iff.mp h).1; simpa using this
    rw [List.getElem?_set_self hl] at h
    exact Or.inl ⟨rfl, Option.some.inj h⟩
  · rw [List.getElem?_set_ne (Ne.symm e)] at h
    exact Or.inr ⟨e, pi_ld_some.mpr h⟩
theorem pi_ld_cut {L : pi_L} {k j : Nat} {v : Value} (h : pi_ld (pi_cut L k) j = some v) : pi_ld L j = some v ∧ ¬ (j + 1 = k ∧ v.category = 2) := by
  unfold pi_cut at h
  cases k with
  | zero => exact ⟨h, fun q => by omega⟩
  | succ i =>
    dsimp only at h
    split at h
    next hc =>
      rcases pi_ld_set h with ⟨-, q⟩ | ⟨q1, q2⟩
      · cases q
      · exact ⟨q2, fun z => q1 (by omega)⟩
    next hc =>
      refine ⟨h, fun z => hc ?_⟩
      have e : j = i := by omega
      subst e
      rw [h]
      simp [pi_c2, z.2]
theorem pi_cut_len (L : pi_L) (k : Nat) : (pi_cut L k).length = L.length := by
  unfold pi_cut
  split
  · rfl
  · split <;> simp
theorem pi_s1_len (L : pi_L) (k : Nat) (v : Value) : (pi_s1 L k v).length = L.length := by simp [pi_s1, pi_cut_len]
theorem pi_s2_len (L : pi_L) (k : Nat) (v : Value) : (pi_s2 L k v).length = L.length := by simp [pi_s2, pi_cut_len]
theorem pi_lv_s1 {g : pi_G} {L : pi_L} {ls : Array Slot} {n k : Nat} {v : Value} (h : lv_has ls n ((k, pi_tv g v) :: (pi_lv g L).filter (fun q => !(q.1 == k) && !(q.1 + 1 == k && q.2.category == 2)))) : lv_has ls n (pi_lv g (pi_s1 L k v)) := by
  refine pi_lv_mono h fun q hq => ?_
  obtain ⟨u, h1, h2⟩ := pi_lv_mem.mp hq
  rcases pi_ld_set h1 with ⟨e1, e2⟩ | ⟨e1, e2⟩
  · cases e2
    rw [show q = (k, pi_tv g v) from Prod.ext e1 h2]
    exact List.mem_cons_self
  · obtain ⟨e3, e4⟩ := pi_ld_cut e2
    refine List.mem_cons_of_mem _ (List.mem_filter.mpr ⟨pi_lv_mem.mpr ⟨u, e3, h2⟩, ?_⟩)
    rw [h2, pi_tv_cat]
    simp only [Bool.and_eq_true, Bool.not_eq_true', beq_eq_false_iff_ne, ne_eq, Bool.and_eq_false_iff]
    refine ⟨e1, ?_⟩
    by_cases z : q.1 + 1 = k
    · exact Or.inr (fun y => e4 ⟨z, y⟩)
    · exact Or.inl z
theorem pi_lv_s2 {g : pi_G} {L : pi_L} {ls : Array Slot} {n k : Nat} {v : Value} (h : lv_has ls n ((k, pi_tv g v) :: (pi_lv g L).filter (fun q => !(q.1 == k) && (!(q.1 == k + 1) && !(q.1 + 1 == k && q.2.category == 2))))) : lv_has ls n (pi_lv g (pi_s2 L k v)) := by
  refine pi_lv_mono h fun q hq => ?_
  obtain ⟨u, h1, h2⟩ := pi_lv_mem.mp hq
  rcases pi_ld_set h1 with ⟨-, e2⟩ | ⟨e0, h1⟩
  · cases e2
  rcases pi_ld_set h1 with ⟨e1, e2⟩ | ⟨e1, e2⟩
  · cases e2
    rw [show q = (k, pi_tv g v) from Prod.ext e1 h2]
    exact List.mem_cons_self
  · obtain ⟨e3, e4⟩ := pi_ld_cut e2
    refine List.mem_cons_of_mem _ (List.mem_filter.mpr ⟨pi_lv_mem.mpr ⟨u, e3, h2⟩, ?_⟩)
    rw [h2, pi_tv_cat]
    simp only [Bool.and_eq_true, Bool.not_eq_true', beq_eq_false_iff_ne, ne_eq, Bool.and_eq_false_iff]
    refine ⟨e1, e0, ?_⟩
    by_cases z : q.1 + 1 = k
    · exact Or.inr (fun y => e4 ⟨z, y⟩)
    · exact Or.inl z
/-! writing and making cells -/
theorem pi_te_at {g : pi_G} {H : pi_H} {Hp Hp' : Heap} {a : Nat} {e' : pi_E} (h : pi_R g H Hp) (ha : a < H.2.1) (hd : pi_dyn e' = true) (hz : Hp'.size = Hp.size) (ho : ∀ q : Nat, q ≠ pi_B g + a → Hp'[q]? = Hp[q]?) (hn : va_at g.1 pi_cl (pi_B g + a, pi_te g e') Hp') : pi_R g (pi_set H a e') Hp' := by
  refine ⟨hz.trans h.1, h.2.1, fun k e hk => ?_⟩
  have hk : (if k = a then some e' else H.1 k) = some e := hk
  by_cases q : k = a
  · rw [if_pos q] at hk
    cases hk
    exact Or.inl ⟨by rw [q]; exact ha, hd, by rw [q]; exact hn⟩
  · rw [if_neg q] at hk
    rcases h.2.2 k e hk with ⟨h1, h2, h3⟩ | h1
    · exact Or.inl ⟨h1, h2, h3.kept (ho _ (by show pi_B g + k ≠ pi_B g + a; omega))⟩
    · exact Or.inr h1
theorem pi_te_new {g : pi_G} {H : pi_H} {Hp Hp' : Heap} {e' : pi_E} {z : Nat} (h : pi_R g H Hp) (hl : H.2.1 < 1000000) (hd : pi_dyn e' = true) (hz : Hp'.size = Hp.size + 1) (ho : ∀ q : Nat, q < Hp.size → Hp'[q]? = Hp[q]?) (hn : va_at g.1 pi_cl (pi_B g + H.2.1, pi_te g e') Hp') : pi_R g (pi_add H e' z) Hp' := by
  refine ⟨by rw [hz, h.1]; rfl, hl, fun k e hk => ?_⟩
  have hk : (if k = H.2.1 then some e' else H.1 k) = some e := hk
  by_cases q : k = H.2.1
  · rw [if_pos q] at hk
    cases hk
    refine Or.inl ⟨by rw [q]; exact Nat.lt_succ_self _, hd, by rw [q]; exact hn⟩
  · rw [if_neg q] at hk
    rcases h.2.2 k e hk with ⟨h1, h2, h3⟩ | h1
    · exact Or.inl ⟨Nat.lt_succ_of_lt h1, h2, h3.kept (ho _ h3.lt)⟩
    · exact Or.inr h1
end
section
-- PART 06b: one instruction of the machine as the pure interpreter has it: what stays in the frame
def pi_W (g : pi_G) (p : Program) (l : Launch) (e : Env) (R : Room) (s : State) (m : MethodId) (args : Array Value) (below : List Frame) (meth : Method) (c : Code) (Q : State → Prop) (M : pi_M) (n0 z0 : Nat) (F : pi_F) : Prop :=
  ∀ (Hp : Heap) (ls : Array Slot) (locs : List Loc) (cells slots : Nat), pi_R g F.2.2.2 Hp → lv_has ls (pm_ml M) (pi_lv g F.2.1) → F.2.1.length = pm_ml M → va_S (pi_A g) s.heap Hp locs → F.2.2.2.2.1 = n0 + cells → F.2.2.2.2.2 = z0 + slots → W p l e R s m args below meth c Hp locs cells slots Q (F0 m F.1 ls (F.2.2.1.map (pi_tv g)))
/-- what a method's walk knows from its start on -/
def pi_C (g : pi_G) (p : Program) (R : Room) (s : State) (m : MethodId) (args : Array Value) (meth : Method) (c : Code) (M : pi_M) (n0 : Nat) : Prop :=
  p.tables.exec = Jvm.exec ∧ c.code = pm_by M ∧ c.maxLocals = pm_ml M ∧ (∃ own, pi_own[pm_ow M]? = some own ∧ s.vm.findClass own = some m.cls) ∧ (∀ w ∈ lw_tbl, goodWord w = true → w.before args s = true) ∧ pi_Env g s ∧ (pm_in M = true → meth.name = "<init>") ∧ meth.sig.returnType = pm_rt M ∧ meth.locks = false ∧ pm_rk M ≤ R.frames ∧ 35 * pm_rk M ≤ R.locals ∧ s.heap.size = pi_B g + n0
section PIN
variable {g : pi_G} {p : Program} {l : Launch} {e : Env} {R : Room} {s : State} {m : MethodId} {args : Array Value} {below : List Frame} {meth : Method} {c : Code} {Q : State → Prop} {M : pi_M} {n0 z0 : Nat}
theorem pi_g_spec {b : Bool} {o : pi_O} {x} (h : pi_g b o = some x) : b = true ∧ o = some x := by
  unfold pi_g at h
  split at h
  next q => exact ⟨q, h⟩
  next => cases h
theorem pi_go_spec {pc : Nat} {L : pi_L} {S : List Value} {H : pi_H} {F : pi_F} (h : pi_go pc L S H = some (.inl F)) : F = (pc, L, S, H) := by
  unfold pi_go at h
  cases h
  rfl
theorem pi_gi_spec {pc : Nat} {off : Int} {L : pi_L} {S : List Value} {H : pi_H} {F : pi_F} (h : pi_gi pc off L S H = some (.inl F)) : ∃ tgt : Nat, (pc : Int) + off = (tgt : Int) ∧ F = (tgt, L, S, H) := by
  unfold pi_gi at h
  split at h
  next q => exact ⟨((pc : Int) + off).toNat, by omega, pi_go_spec h⟩
  next => cases h
theorem pi_n_iload {i : Instr} {len k pc w : Nat} {L : pi_L} {S : List Value} {H : pi_H} {F : pi_F} (C : pi_C g p R s m args meth c M n0) (hd : decode (pm_by M) pc = .ok (i, len)) (hi : (i = .iload k ∧ w = 2) ∨ (∃ n : Fin 4, i = .iload_n n ∧ n.val = k ∧ w = 1)) (h : pi_g (len == w && pi_isI (pi_ld L k)) (pi_ld1 (pi_ld L k) (pc + w) L S H) = some (.inl F))
    (kk : pi_W g p l e R s m args below meth c Q M n0 z0 F) : pi_W g p l e R s m args below meth c Q M n0 z0 (pc, L, S, H) := by
  have h0 := pi_g_spec h
  clear h
  obtain ⟨hb, h⟩ := h0
  rw [Bool.and_eq_true, beq_iff_eq] at hb
  obtain ⟨rfl, hb⟩ := hb
  cases hl : pi_ld L k with
  | none => rw [hl] at hb; cases hb
  | some v =>
    rw [hl] at hb h
    cases v <;> first | cases hb | skip
    rename_i x
    obtain rfl := pi_go_spec h
    intro Hp ls locs cells slots r1 r2 r3 r4 r5 r6
    have ha := pi_lv_at r2 hl
    have k1 := kk Hp ls locs cells slots r1 r2 r3 r4 r5 r6
    rcases hi with ⟨rfl, rfl⟩ | ⟨n, rfl, rfl, rfl⟩
    · exact lv_iload C.1 C.2.1 hd ha k1
    · exact lv_iload_n C.1 C.2.1 hd rfl ha k1
theorem pi_n_lload {i : Instr} {len k pc w : Nat} {L : pi_L} {S : List Value} {H : pi_H} {F : pi_F} (C : pi_C g p R s m args meth c M n0) (hd : decode (pm_by M) pc = .ok (i, len)) (hi : (i = .lload k ∧ w = 2) ∨ (∃ n : Fin 4, i = .lload_n n ∧ n.val = k ∧ w = 1)) (h : pi_g (len == w && pi_isJ (pi_ld L k)) (pi_ld1 (pi_ld L k) (pc + w) L S H) = some (.inl F))
    (kk : pi_W g p l e R s m args below meth c Q M n0 z0 F) : pi_W g p l e R s m args below meth c Q M n0 z0 (pc, L, S, H) := by
  have h0 := pi_g_spec h
  clear h
  obtain ⟨hb, h⟩ := h0
  rw [Bool.and_eq_true, beq_iff_eq] at hb
  obtain ⟨rfl, hb⟩ := hb
  cases hl : pi_ld L k with
  | none => rw [hl] at hb; cases hb
  | some v =>
    rw [hl] at hb h
    cases v <;> first | cases hb | skip
    rename_i x
    obtain rfl := pi_go_spec h
    intro Hp ls locs cells slots r1 r2 r3 r4 r5 r6
    have ha := pi_lv_at r2 hl
    have k1 := kk Hp ls locs cells slots r1 r2 r3 r4 r5 r6
    rcases hi with ⟨rfl, rfl⟩ | ⟨n, rfl, rfl, rfl⟩
    · exact lv_lload C.1 C.2.1 hd ha k1
    · exact lv_lload_n C.1 C.2.1 hd rfl ha k1
theorem pi_ref (C : pi_C g p R s m args meth c M n0) {k : Nat} (hk : pi_isA (some (.ref k)) = true) : ∃ a, pi_tv g (.ref k) = .ref a := by
  have hk : k ≠ 1000030 := by simpa [pi_isA] using hk
  by_cases q : k < 1000000
  · exact ⟨_, pi_tv_dyn q⟩
  · obtain ⟨a, ha⟩ := C.2.2.2.2.2.1.2.2.2.2.2.2.2.2.2.2.2 (k - 1000000) (by omega)
    exact ⟨a, pi_tv_st (by omega) ha⟩
theorem pi_n_aload {i : Instr} {len k pc w : Nat} {L : pi_L} {S : List Value} {H : pi_H} {F : pi_F} (C : pi_C g p R s m args meth c M n0) (hd : decode (pm_by M) pc = .ok (i, len)) (hi : (i = .aload k ∧ w = 2) ∨ (∃ n : Fin 4, i = .aload_n n ∧ n.val = k ∧ w = 1)) (h : pi_g (len == w && pi_isA (pi_ld L k)) (pi_ld1 (pi_ld L k) (pc + w) L S H) = some (.inl F))
    (kk : pi_W g p l e R s m args below meth c Q M n0 z0 F) : pi_W g p l e R s m args below meth c Q M n0 z0 (pc, L, S, H) := by
  have h0 := pi_g_spec h
  clear h
  obtain ⟨hb, h⟩ := h0
  rw [Bool.and_eq_true, beq_iff_eq] at hb
  obtain ⟨rfl, hb⟩ := hb
  cases hl : pi_ld L k with
  | none => rw [hl] at hb; cases hb
  | some v =>
    rw [hl] at hb h
    cases v <;> first | cases hb | skip
    rename_i x
    obtain rfl := pi_go_spec h
    intro Hp ls locs cells slots r1 r2 r3 r4 r5 r6
    have ha := pi_lv_at r2 hl
    have k1 := kk Hp ls locs cells slots r1 r2 r3 r4 r5 r6
    obtain ⟨a, ea⟩ := pi_ref (g := g) C hb
    rw [List.map_cons, ea] at k1
    rw [ea] at ha
    rcases hi with ⟨rfl, rfl⟩ | ⟨n, rfl, rfl, rfl⟩
    · exact lv_aload C.1 C.2.1 hd ha k1
    · exact lv_aload_n C.1 C.2.1 hd rfl ha k1
theorem pi_n_istore {i : Instr} {len k pc w : Nat} {L : pi_L} {S : List Value} {H : pi_H} {F : pi_F} (C : pi_C g p R s m args meth c M n0) (hd : decode (pm_by M) pc = .ok (i, len)) (hi : (i = .istore k ∧ w = 2) ∨ (∃ n : Fin 4, i = .istore_n n ∧ n.val = k ∧ w = 1)) (h : pi_g (len == w) (pi_sti M k (pc + w) L S H) = some (.inl F))
    (kk : pi_W g p l e R s m args below meth c Q M n0 z0 F) : pi_W g p l e R s m args below meth c Q M n0 z0 (pc, L, S, H) := by
  have h0 := pi_g_spec h
  clear h
  obtain ⟨hb, h⟩ := h0
  rw [beq_iff_eq] at hb
  subst hb
  unfold pi_sti at h
  split at h
  next x r =>
    obtain ⟨hk, h⟩ := pi_g_spec h
    obtain rfl := pi_go_spec h
    intro Hp ls locs cells slots r1 r2 r3 r4 r5 r6
    have k1 : ∀ ls' : Array Slot, lv_has ls' (pm_ml M) ((k, pi_tv g (.int x)) :: (pi_lv g L).filter (fun q => !(q.1 == k) && !(q.1 + 1 == k && q.2.category == 2))) → W p l e R s m args below meth c Hp locs cells slots Q (F0 m (pc + len) ls' (r.map (pi_tv g))) :=
      fun ls' hl' => kk Hp ls' locs cells slots r1 (pi_lv_s1 hl') (by rw [← r3]; exact pi_s1_len _ _ _) r4 r5 r6
    rcases hi with ⟨rfl, rfl⟩ | ⟨n, rfl, rfl, rfl⟩
    · exact lv_istore C.1 C.2.1 hd r2 (of_decide_eq_true hk) rfl k1
    · exact lv_istore_n C.1 C.2.1 hd rfl r2 (of_decide_eq_true hk) rfl k1
  next => cases h
theorem pi_n_lstore {i : Instr} {len k pc w : Nat} {L : pi_L} {S : List Value} {H : pi_H} {F : pi_F} (C : pi_C g p R s m args meth c M n0) (hd : decode (pm_by M) pc = .ok (i, len)) (hi : (i = .lstore k ∧ w = 2) ∨ (∃ n : Fin 4, i = .lstore_n n ∧ n.val = k ∧ w = 1)) (h : pi_g (len == w) (pi_stl M k (pc + w) L S H) = some (.inl F))
    (kk : pi_W g p l e R s m args below meth c Q M n0 z0 F) : pi_W g p l e R s m args below meth c Q M n0 z0 (pc, L, S, H) := by
  have h0 := pi_g_spec h
  clear h
  obtain ⟨hb, h⟩ := h0
  rw [beq_iff_eq] at hb
  subst hb
  unfold pi_stl at h
  split at h
  next x r =>
    obtain ⟨hk, h⟩ := pi_g_spec h
    obtain rfl := pi_go_spec h
    intro Hp ls locs cells slots r1 r2 r3 r4 r5 r6
    have k1 : ∀ ls' : Array Slot, lv_has ls' (pm_ml M) ((k, pi_tv g (.long x)) :: (pi_lv g L).filter (fun q => !(q.1 == k) && (!(q.1 == k + 1) && !(q.1 + 1 == k && q.2.category == 2)))) → W p l e R s m args below meth c Hp locs cells slots Q (F0 m (pc + len) ls' (r.map (pi_tv g))) :=
      fun ls' hl' => kk Hp ls' locs cells slots r1 (pi_lv_s2 hl') (by rw [← r3]; exact pi_s2_len _ _ _) r4 r5 r6
    rcases hi with ⟨rfl, rfl⟩ | ⟨n, rfl, rfl, rfl⟩
    · exact lv_lstore C.1 C.2.1 hd r2 (of_decide_eq_true hk) rfl k1
    · exact lv_lstore_n C.1 C.2.1 hd rfl r2 (of_decide_eq_true hk) rfl k1
  next => cases h
theorem pi_n_astore {i : Instr} {len k pc w : Nat} {L : pi_L} {S : List Value} {H : pi_H} {F : pi_F} (C : pi_C g p R s m args meth c M n0) (hd : decode (pm_by M) pc = .ok (i, len)) (hi : (i = .astore k ∧ w = 2) ∨ (∃ n : Fin 4, i = .astore_n n ∧ n.val = k ∧ w = 1)) (h : pi_g (len == w) (pi_sta M k (pc + w) L S H) = some (.inl F))
    (kk : pi_W g p l e R s m args below meth c Q M n0 z0 F) : pi_W g p l e R s m args below meth c Q M n0 z0 (pc, L, S, H) := by
  have h0 := pi_g_spec h
  clear h
  obtain ⟨hb, h⟩ := h0
  rw [beq_iff_eq] at hb
  subst hb
  unfold pi_sta at h
  split at h
  next x r =>
    obtain ⟨hk, h⟩ := pi_g_spec h
    rw [Bool.and_eq_true, decide_eq_true_eq] at hk
    obtain ⟨hk, hr⟩ := hk
    obtain rfl := pi_go_spec h
    intro Hp ls locs cells slots r1 r2 r3 r4 r5 r6
    obtain ⟨a, ea⟩ := pi_ref (g := g) (k := x) C hr
    have k1 : ∀ ls' : Array Slot, lv_has ls' (pm_ml M) ((k, .ref a) :: (pi_lv g L).filter (fun q => !(q.1 == k) && !(q.1 + 1 == k && q.2.category == 2))) → W p l e R s m args below meth c Hp locs cells slots Q (F0 m (pc + len) ls' (r.map (pi_tv g))) :=
      fun ls' hl' => kk Hp ls' locs cells slots r1 (pi_lv_s1 (by rw [ea]; exact hl')) (by rw [← r3]; exact pi_s1_len _ _ _) r4 r5 r6
    show W p l e R s m args below meth c Hp locs cells slots Q (F0 m pc ls (pi_tv g (.ref x) :: r.map (pi_tv g)))
    rw [ea]
    rcases hi with ⟨rfl, rfl⟩ | ⟨n, rfl, rfl, rfl⟩
    · exact lv_astore C.1 C.2.1 hd r2 hk rfl k1
    · exact lv_astore_n C.1 C.2.1 hd rfl r2 hk rfl k1
  next => cases h
theorem pi_n_iinc {len k pc : Nat} {n : Int} {L : pi_L} {S : List Value} {H : pi_H} {F : pi_F} (C : pi_C g p R s m args meth c M n0) (hd : decode (pm_by M) pc = .ok (.iinc k n, len)) (h : pi_ins M (.iinc k n) len pc L S H = some (.inl F))
    (kk : pi_W g p l e R s m args below meth c Q M n0 z0 F) : pi_W g p l e R s m args below meth c Q M n0 z0 (pc, L, S, H) := by
  have h0 := pi_g_spec h
  clear h
  obtain ⟨hb, h⟩ := h0
  rw [Bool.and_eq_true, beq_iff_eq, decide_eq_true_eq] at hb
  obtain ⟨rfl, hk⟩ := hb
  split at h
  next x hx =>
    obtain rfl := pi_go_spec h
    intro Hp ls locs cells slots r1 r2 r3 r4 r5 r6
    obtain ⟨j, hj⟩ := List.getElem?_of_mem (pi_lv_mem (q := (k, pi_tv g (.int x))).mpr ⟨_, hx, rfl⟩)
    exact lv_iinc C.1 C.2.1 hd r2 (k := j) hj rfl hk rfl fun ls' hl' => kk Hp ls' locs cells slots r1 (pi_lv_s1 hl') (by rw [← r3]; exact pi_s1_len _ _ _) r4 r5 r6
  next => cases h
/-- instructions that touch the operands alone -/
theorem pi_n_op {len pc : Nat} {L : pi_L} {S S' : List Value} {H : pi_H}
    (row : ∀ (Hp : Heap) (ls : Array Slot) (locs : List Loc) (cells slots : Nat), W p l e R s m args below meth c Hp locs cells slots Q (F0 m (pc + len) ls (S'.map (pi_tv g))) → W p l e R s m args below meth c Hp locs cells slots Q (F0 m pc ls (S.map (pi_tv g))))
    (kk : pi_W g p l e R s m args below meth c Q M n0 z0 (pc + len, L, S', H)) : pi_W g p l e R s m args below meth c Q M n0 z0 (pc, L, S, H) := by
  intro Hp ls locs cells slots r1 r2 r3 r4 r5 r6
  exact row Hp ls locs cells slots (kk Hp ls locs cells slots r1 r2 r3 r4 r5 r6)
theorem pi_iop_spec {S S' : List Value} {f : Int32 → Int32 → Int32} (h : pi_iop S f = some S') : ∃ x y r, S = .int y :: .int x :: r ∧ S' = .int (f x y) :: r := by
  unfold pi_iop at h
  split at h
  next y x r => cases h; exact ⟨x, y, r, rfl, rfl⟩
  next => cases h
theorem pi_lop_spec {S S' : List Value} {f : Int64 → Int64 → Int64} (h : pi_lop S f = some S') : ∃ x y r, S = .long y :: .long x :: r ∧ S' = .long (f x y) :: r := by
  unfold pi_lop at h
  split at h
  next y x r => cases h; exact ⟨x, y, r, rfl, rfl⟩
  next => cases h
theorem pi_nx_spec {S' : Option (List Value)} {pc : Nat} {L : pi_L} {H : pi_H} {F : pi_F} (h : pi_nx S' pc L H = some (.inl F)) : ∃ S, S' = some S ∧ F = (pc, L, S, H) := by
  unfold pi_nx at h
  split at h
  next S => exact ⟨S, rfl, pi_go_spec h⟩
  next => cases h
theorem pi_n_iop {i : Instr} {len pc : Nat} {f : Int32 → Int32 → Int32} {L : pi_L} {S : List Value} {H : pi_H} {F : pi_F} (h : pi_g (len == 1) (pi_nx (pi_iop S f) (pc + 1) L H) = some (.inl F)) (hd : decode (pm_by M) pc = .ok (i, len))
    (row : ∀ (x y : Int32) (rest : List Value) (Hp : Heap) (ls : Array Slot) (locs : List Loc) (cells slots : Nat), decode (pm_by M) pc = .ok (i, 1) → W p l e R s m args below meth c Hp locs cells slots Q (F0 m (pc + 1) ls (.int (f x y) :: rest)) → W p l e R s m args below meth c Hp locs cells slots Q (F0 m pc ls (.int y :: .int x :: rest)))
    (kk : pi_W g p l e R s m args below meth c Q M n0 z0 F) : pi_W g p l e R s m args below meth c Q M n0 z0 (pc, L, S, H) := by
  have h0 := pi_g_spec h
  clear h
  obtain ⟨hb, h⟩ := h0
  rw [beq_iff_eq] at hb
  subst hb
  obtain ⟨S', h1, rfl⟩ := pi_nx_spec h
  obtain ⟨x, y, r, rfl, rfl⟩ := pi_iop_spec h1
  intro Hp ls locs cells slots r1 r2 r3 r4 r5 r6
  exact row x y (r.map (pi_tv g)) Hp ls locs cells slots hd (kk Hp ls locs cells slots r1 r2 r3 r4 r5 r6)
theorem pi_n_lop {i : Instr} {len pc : Nat} {f : Int64 → Int64 → Int64} {L : pi_L} {S : List Value} {H : pi_H} {F : pi_F} (h : pi_g (len == 1) (pi_nx (pi_lop S f) (pc + 1) L H) = some (.inl F)) (hd : decode (pm_by M) pc = .ok (i, len))
    (row : ∀ (x y : Int64) (rest : List Value) (Hp : Heap) (ls : Array Slot) (locs : List Loc) (cells slots : Nat), decode (pm_by M) pc = .ok (i, 1) → W p l e R s m args below meth c Hp locs cells slots Q (F0 m (pc + 1) ls (.long (f x y) :: rest)) → W p l e R s m args below meth c Hp locs cells slots Q (F0 m pc ls (.long y :: .long x :: rest)))
    (kk : pi_W g p l e R s m args below meth c Q M n0 z0 F) : pi_W g p l e R s m args below meth c Q M n0 z0 (pc, L, S, H) := by
  have h0 := pi_g_spec h
  clear h
  obtain ⟨hb, h⟩ := h0
  rw [beq_iff_eq] at hb
  subst hb
  obtain ⟨S', h1, rfl⟩ := pi_nx_spec h
  obtain ⟨x, y, r, rfl, rfl⟩ := pi_lop_spec h1
  intro Hp ls locs cells slots r1 r2 r3 r4 r5 r6
  exact row x y (r.map (pi_tv g)) Hp ls locs cells slots hd (kk Hp ls locs cells slots r1 r2 r3 r4 r5 r6)
theorem pi_n_br {pc : Nat} {b : Bool} {cond : Prop} {off : Int} {L : pi_L} {S S0 : List Value} {H : pi_H} {F : pi_F} (h : pi_br b pc off L S H = some (.inl F)) (hc : b = true ↔ cond)
    (row : ∀ (tgt : Nat) (Hp : Heap) (ls : Array Slot) (locs : List Loc) (cells slots : Nat), (pc : Int) + off = (tgt : Int) → (cond → W p l e R s m args below meth c Hp locs cells slots Q (F0 m tgt ls (S.map (pi_tv g)))) → (¬ cond → W p l e R s m args below meth c Hp locs cells slots Q (F0 m (pc + 3) ls (S.map (pi_tv g)))) → W p l e R s m args below meth c Hp locs cells slots Q (F0 m pc ls (S0.map (pi_tv g))))
    (kk : pi_W g p l e R s m args below meth c Q M n0 z0 F) : pi_W g p l e R s m args below meth c Q M n0 z0 (pc, L, S0, H) := by
  unfold pi_br at h
  intro Hp ls locs cells slots r1 r2 r3 r4 r5 r6
  split at h
  next q0 =>
    have ht : (pc : Int) + off = ((((pc : Int) + off).toNat : Nat) : Int) := by omega
    split at h
    next q =>
      obtain rfl := pi_go_spec h
      exact row _ Hp ls locs cells slots ht (fun _ => kk Hp ls locs cells slots r1 r2 r3 r4 r5 r6) (fun z => absurd (hc.mp q) z)
    next q =>
      obtain rfl := pi_go_spec h
      exact row _ Hp ls locs cells slots ht (fun z => absurd (hc.mpr z) q) (fun _ => kk Hp ls locs cells slots r1 r2 r3 r4 r5 r6)
  next => cases h
end PIN
end
section
-- PART 06c: fields, arrays, new cells
theorem pi_cl_at {ci : Nat} {C : String} {T : u_T} {N : Nat} (h : pi_cl[ci]? = some (C, T, N)) : (∀ w ∈ u_ws C T N, w ∈ lw_tbl ∧ goodWord w = true) ∧ (∃ ty0 : Nat → FieldType, ∀ k, k < N → parseFieldDescriptor (T k).2.2.1 = some (ty0 k)) ∧ (∀ a, a < N → ∀ b, b < N → a ≠ b → (T a).2.1 ≠ (T b).2.1) := by
  have h0 := List.all_eq_true.mp pi_cl_ok _ (List.mem_of_getElem? h)
  unfold pi_clc at h0
  rw [Bool.and_eq_true, Bool.and_eq_true] at h0
  obtain ⟨h1, h2, h3⟩ := h0
  refine ⟨fun w hw => pi_t_in (List.all_eq_true.mp h1 w hw), ⟨fun k => (parseFieldDescriptor (T k).2.2.1).getD .int, fun k hk => ?_⟩, fun a ha b hb hab => ?_⟩
  · have := List.all_eq_true.mp h2 k (List.mem_range.mpr hk)
    cases hq : parseFieldDescriptor (T k).2.2.1 with
    | none => rw [hq] at this; cases this
    | some y => show some y = some ((parseFieldDescriptor (T k).2.2.1).getD .int); rw [hq]; rfl
  · have := List.all_eq_true.mp (List.all_eq_true.mp h3 a (List.mem_range.mpr ha)) b (List.mem_range.mpr hb)
    rw [Bool.or_eq_true, beq_iff_eq, decide_eq_true_eq] at this
    exact this.resolve_left hab
theorem pi_lk_mem {α β : Type} [BEq α] [LawfulBEq α] {l : List (α × β)} {a : α} {b : β} (h : l.lookup a = some b) : (a, b) ∈ l := by
  induction l with
  | nil => cases h
  | cons q l ih =>
    obtain ⟨x, y⟩ := q
    rw [List.lookup_cons] at h
    split at h
    next hq =>
      have := eq_of_beq hq
      cases h
      rw [this]
      exact List.mem_cons_self
    next => exact List.mem_cons_of_mem _ (ih h)
section PIH
variable {g : pi_G} {p : Program} {l : Launch} {e : Env} {R : Room} {s : State} {m : MethodId} {args : Array Value} {below : List Frame} {meth : Method} {c : Code} {Q : State → Prop} {M : pi_M} {n0 z0 : Nat}
theorem pi_dyn_at {H : pi_H} {Hp : Heap} {a : Nat} {x : pi_E} (r1 : pi_R g H Hp) (E : pi_Env g s) (h : pi_get H a = some x) (hd : pi_dyn x = true) : a < H.2.1 ∧ a < 1000000 ∧ va_at g.1 pi_cl (pi_B g + a, pi_te g x) Hp := by
  rcases r1.2.2 a x h with ⟨h1, -, h3⟩ | h1
  · exact ⟨h1, Nat.lt_of_lt_of_le h1 r1.2.1, h3⟩
  · exfalso
    rcases (E.2.2.2.2.2.2.2.2.2.2.1 a x h1).2 with ⟨n, f, a', e1, -⟩ | ⟨n, f, a', e1, -⟩ | ⟨v, a', av, e1, -⟩ <;> (subst e1; revert hd; simp [pi_dyn])
theorem pi_sta_at {H : pi_H} {Hp : Heap} {a : Nat} {x : pi_E} (r1 : pi_R g H Hp) (E : pi_Env g s) (h : pi_get H a = some x) (hd : pi_dyn x = false) : 1000000 ≤ a ∧ pi_sat g a x s := by
  rcases r1.2.2 a x h with ⟨-, h2, -⟩ | h1
  · rw [h2] at hd; cases hd
  · exact E.2.2.2.2.2.2.2.2.2.2.1 a x h1
theorem pi_tys_at {g : pi_G} : ∀ t, t < 6 → (pi_tysA g)[t]? = some (g.2.1 t, (pi_tys[t]?).getD .int) := by
  intro t ht
  match t, ht with
  | 0, _ => rfl
  | 1, _ => rfl
  | 2, _ => rfl
  | 3, _ => rfl
  | 4, _ => rfl
  | 5, _ => rfl
theorem pi_n_getfield {ix len pc : Nat} {L : pi_L} {S : List Value} {H : pi_H} {F : pi_F} (C : pi_C g p R s m args meth c M n0) (hd : decode (pm_by M) pc = .ok (.getfield ix, len)) (h : pi_ins M (.getfield ix) len pc L S H = some (.inl F))
    (kk : pi_W g p l e R s m args below meth c Q M n0 z0 F) : pi_W g p l e R s m args below meth c Q M n0 z0 (pc, L, S, H) := by
  have h0 := pi_g_spec h
  clear h
  obtain ⟨hb, h⟩ := h0
  rw [beq_iff_eq] at hb
  subst hb
  split at h
  next a r ci k fin tc hfl =>
    have hq := List.all_eq_true.mp pi_flk_ok _ (pi_lk_mem hfl)
    obtain ⟨hx, hbb, hml, ⟨own, ho1, ho2⟩, hts, hE, hin, hrt, hlk, hfr, hlo, hsz⟩ := id C
    unfold pi_flc at hq
    dsimp only at hq
    rw [ho1] at hq
    dsimp only at hq
    cases hg : pi_get H a with
    | none => rw [hg] at h; cases h
    | some x =>
      rw [hg] at h
      cases x with
      | inl z => cases h
      | inr o =>
        obtain ⟨c', fs⟩ := o
        unfold pi_ld1 pi_fv at h
        dsimp only at h
        split at h
        next v hv =>
          split at hv
          next hc =>
            have hc := eq_of_beq hc
            subst hc
            obtain rfl := pi_go_spec h
            intro Hp ls locs cells slots r1 r2 r3 r4 r5 r6
            have k1 := kk Hp ls locs cells slots r1 r2 r3 r4 r5 r6
            cases hcl : pi_cl[c']? with
            | some y =>
              obtain ⟨Cn, T, N⟩ := y
              rw [hcl] at hq
              dsimp only at hq
              rw [Bool.and_eq_true, Bool.and_eq_true, decide_eq_true_eq] at hq
              obtain ⟨hk, hw, -⟩ := hq
              obtain ⟨w1, w2⟩ := pi_t_in hw
              have hdy : pi_dyn (.inr (c', fs)) = true := by
                have : c' < pi_cl.length := (List.getElem?_eq_some_iff.mp hcl).1
                exact decide_eq_true this
              obtain ⟨d1, d2, d3⟩ := pi_dyn_at r1 hE hg hdy
              show W p l e R s m args below meth c Hp locs cells slots Q (F0 m pc ls (pi_tv g (.ref a) :: r.map (pi_tv g)))
              rw [pi_tv_dyn d2]
              obtain ⟨q1, -⟩ := pi_cl_at hcl
              exact va_get (D := g.1) (ci := c') (v := pi_tv g v) (C := Cn) (T := T) (N := N) (Ts := u_ws Cn T N) hx hbb (fun w hw => hts w (q1 w hw).1 (q1 w hw).2) (fun w hw => hw) ho2 hE.1 (pi_P1 d3) 0 rfl hcl k hk (hts _ w1 w2) (fun _ h9 => h9) (by rw [List.getElem?_map, hv]; rfl) hd k1
            | none =>
              rw [hcl] at hq
              dsimp only at hq
              rw [Bool.and_eq_true, beq_iff_eq] at hq
              obtain ⟨rfl, hq⟩ := hq
              obtain ⟨s1, s2⟩ := pi_sta_at r1 hE hg rfl
              rcases s2 with ⟨_, _, _, e1, -⟩ | ⟨_, _, _, e1, -⟩ | ⟨w, a', av, e1, e2, e3, e4, e5, e6, e7⟩
              · cases e1
              · cases e1
              cases e1
              show W p l e R s m args below meth c Hp locs cells slots Q (F0 m pc ls (pi_tv g (.ref a) :: r.map (pi_tv g)))
              rw [pi_tv_st s1 e2]
              rw [Bool.or_eq_true, Bool.and_eq_true, Bool.and_eq_true, beq_iff_eq, beq_iff_eq] at hq
              rcases hq with ⟨rfl, hq⟩ | ⟨rfl, hq⟩
              · obtain ⟨w1, w2⟩ := pi_t_in hq
                cases hv
                have k2 : W p l e R s m args below meth c Hp locs cells slots Q (F0 m (pc + 3) ls (pi_tv g (.ref w) :: r.map (pi_tv g))) := k1
                rw [pi_tv_st e3 e4] at k2
                exact vk_getf hx hbb e6 r4 ho2 (hts _ w1 w2) (fun _ h9 => h9) hd k2
              · obtain ⟨w1, w2⟩ := pi_t_in hq
                cases hv
                exact vk_getf hx hbb e7 r4 ho2 (hts _ w1 w2) (fun _ h9 => h9) hd k1
          next => cases hv
        next => cases h
  next => cases h
/-- putfield on the machine, final or not: the new cell, the rest as it was -/
theorem pi_putK {H : Heap} {locs : List Loc} {cells slots : Nat} {cc : ByteArray} {pc index : Nat} {ls : Array Slot} {rest : List Value} (hexec : p.tables.exec = Jvm.exec) (hb : c.code = cc) {own C : String} {T : u_T} {N ci : Nat} {D : va_G} {tys : List (ClassId × FieldType)} (hts : ∀ w ∈ u_ws C T N, w.before args s = true) (ty0 : Nat → FieldType) (hty : ∀ k, k < N → parseFieldDescriptor (T k).2.2.1 = some (ty0 k)) (hnm : ∀ a, a < N → ∀ b, b < N → a ≠ b → (T a).2.1 ≠ (T b).2.1) (hown : s.vm.findClass own = some m.cls) (hK : va_K D pi_cl tys s) {a : Nat} {fs : List Value} (hP : va_at D pi_cl (a, .inr (ci, fs)) H) (hc : pi_cl[ci]? = some (C, T, N)) (k : Nat) (hk : k < N) (hlink : (Cond.fieldLink own index (T k).1 (T k).2.1 (T k).2.2.1).before args s = true)
    (hfin : (T k).2.2.2 = true → meth.name = "<init>" ∧ (T k).1 = own) {ty : FieldType} {v : Value} (hd : parseFieldDescriptor (T k).2.2.1 = some ty) (hn : narrow ty v = v) (hfit : fits ty v = true) (hl : k < fs.length)
    (hdg : decode cc pc = .ok (.putfield index, 3)) (kk : ∀ (H1 : Heap) (i : Nat), va_at D pi_cl (a, .inr (ci, fs.set k v)) H1 → H1.size = H.size → (∀ q : Nat, q ≠ a → H1[q]? = H[q]?) → W p l e R s m args below meth c H1 (locs ++ [⟨a, i⟩]) cells slots Q (F0 m (pc + 3) ls rest)) : W p l e R s m args below meth c H locs cells slots Q (F0 m pc ls (v :: .ref a :: rest)) := by
  have hap := va_apart (own := own) (Ts := u_ws C T N) hts (fun w hw => hw) ty0 hty hnm hK hc
  obtain ⟨r, h1, cell, q1, q2, q3, q4⟩ := hP
  have hr : r = (C, T, N) := Option.some.inj (h1.symm.trans hc)
  subst hr
  obtain ⟨hS, hfc, kC, hkC, hkind⟩ := hK.1 ci _ hc
  obtain ⟨cf, kf, fi, f, hi, hsl⟩ := hS k hk
  have hlay := hts _ (u_in_lay hk)
  have hst := (u_facts hfc hkC (u_lays (ws := u_ws C T N) hts (fun w hw => hw) hk) hi).1
  by_cases hz : (T k).2.2.2 = true
  · obtain ⟨hin2, hdecl⟩ := hfin hz
    unfold u_lay at hlay
    rw [if_pos hz] at hlay
    have hcf : m.cls = cf := by
      obtain ⟨_, _, c', _, _, _, -, -, hf', -, -, -, hown2, -⟩ := Cond.laysFinal_spec hlay
      have e1 : c' = cf := by have := hi.symm.trans hf'; simp at this; exact this.1.symm
      rw [hdecl] at hown2
      rw [← e1]; exact Option.some.inj (hown.symm.trans hown2)
    have h6 := u_fits hfc hkC hkind (Or.inr hlay) hi hd hn hfit
    refine W.putFinK hexec hb hown hlink hi hst hcf hin2 (by rw [q2]; exact h6) q1 q3 (by rw [hsl]; exact k2_hasslot (q4 k hk)) rfl rfl hdg fun H' e1 e2 e3 => ?_
    rw [hsl] at e1 ⊢
    exact kk H' _ ⟨_, hc, t_OB.to (V := updV (vp_V fs) k v) ⟨_, e1, q2, q3, t_set q4 hap hk v⟩ (fun j _ => vp_updV_set hl v j)⟩ e2 e3
  · unfold u_lay at hlay
    rw [if_neg hz] at hlay
    have h6 := u_store hfc hkC hkind hlay hi hd hn hfit
    refine W.putK hexec hb (f := f) ⟨hown, hlink, ⟨_, _, _, hi⟩, hst⟩ (by rw [q2]; exact h6) q1 q3 (by rw [hsl]; exact k2_hasslot (q4 k hk)) rfl rfl hdg fun H' e1 e2 e3 => ?_
    rw [hsl] at e1 ⊢
    exact kk H' _ ⟨_, hc, t_OB.to (V := updV (vp_V fs) k v) ⟨_, e1, q2, q3, t_set q4 hap hk v⟩ (fun j _ => vp_updV_set hl v j)⟩ e2 e3
theorem pi_tv_fits {g : pi_G} {k : Nat} {ty : FieldType} (h : (∃ n, ty = .object n) ∨ ∃ n, ty = .array n) : narrow ty (pi_tv g (.ref k)) = pi_tv g (.ref k) ∧ fits ty (pi_tv g (.ref k)) = true := by
  have hv : (∃ b, pi_tv g (.ref k) = .ref b) ∨ pi_tv g (.ref k) = .null := by
    unfold pi_tv
    dsimp only
    split
    · exact Or.inl ⟨_, rfl⟩
    · unfold va_rf
      split
      · exact Or.inr rfl
      · exact Or.inl ⟨_, rfl⟩
  rcases hv with ⟨b, hb⟩ | hb <;> rw [hb] <;> rcases h with ⟨n, rfl⟩ | ⟨n, rfl⟩ <;> exact ⟨rfl, rfl⟩
theorem pi_okv_ty {tc : Nat} {d : String} {v : Value} (h1 : pi_tck tc d = true) (h2 : pi_okv tc v = true) : ∃ ty, parseFieldDescriptor d = some ty ∧ narrow ty (pi_tv g v) = pi_tv g v ∧ fits ty (pi_tv g v) = true := by
  unfold pi_tck at h1
  split at h1
  next e1 =>
    rw [beq_iff_eq] at h1
    subst h1
    cases v <;> first | (cases h2; done) | exact ⟨_, e1, rfl, rfl⟩
  next e1 =>
    rw [beq_iff_eq] at h1
    subst h1
    cases v <;> first | (cases h2; done) | exact ⟨_, e1, rfl, rfl⟩
  next e1 =>
    rw [beq_iff_eq] at h1
    subst h1
    cases v <;> first | (cases h2; done) | skip
    rename_i x
    have h2 : (decide (x = 0) || decide (x = 1)) = true := h2
    rw [Bool.or_eq_true, decide_eq_true_eq, decide_eq_true_eq] at h2
    have e2 : narrow .boolean (.int x) = .int x ∧ fits .boolean (.int x) = true := by
      rcases h2 with rfl | rfl <;> decide +kernel
    exact ⟨_, e1, e2.1, e2.2⟩
  next nm e1 =>
    rw [beq_iff_eq] at h1
    subst h1
    cases v <;> first | (cases h2; done) | skip
    exact ⟨_, e1, pi_tv_fits (Or.inl ⟨_, rfl⟩)⟩
  next nm e1 =>
    rw [beq_iff_eq] at h1
    subst h1
    cases v <;> first | (cases h2; done) | skip
    exact ⟨_, e1, pi_tv_fits (Or.inr ⟨_, rfl⟩)⟩
  next => cases h1
theorem pi_dynA (q : Nat) : pi_A g (pi_B g + q) := Nat.le_add_right _ _
theorem pi_n_putfield {ix len pc : Nat} {L : pi_L} {S : List Value} {H : pi_H} {F : pi_F} (C : pi_C g p R s m args meth c M n0) (hd : decode (pm_by M) pc = .ok (.putfield ix, len)) (h : pi_ins M (.putfield ix) len pc L S H = some (.inl F))
    (kk : pi_W g p l e R s m args below meth c Q M n0 z0 F) : pi_W g p l e R s m args below meth c Q M n0 z0 (pc, L, S, H) := by
  have h0 := pi_g_spec h
  clear h
  obtain ⟨hb, h⟩ := h0
  rw [beq_iff_eq] at hb
  subst hb
  split at h
  next v a r ci k fin tc hfl =>
    have hq := List.all_eq_true.mp pi_flk_ok _ (pi_lk_mem hfl)
    obtain ⟨hx, hbb, hml, ⟨own, ho1, ho2⟩, hts, hE, hin, hrt, hlk, hfr, hlo, hsz⟩ := id C
    unfold pi_flc at hq
    dsimp only at hq
    rw [ho1] at hq
    dsimp only at hq
    have h0 := pi_g_spec h
    clear h
    obtain ⟨hb, h⟩ := h0
    rw [Bool.and_eq_true] at hb
    obtain ⟨hok, hfi⟩ := hb
    cases hpf : pi_pf H a ci k v with
    | none => rw [hpf] at h; cases h
    | some H' =>
      rw [hpf] at h
      obtain rfl := pi_go_spec h
      unfold pi_pf at hpf
      split at hpf
      next c' fs hg =>
        split at hpf
        next hc =>
          cases hpf
          rw [Bool.and_eq_true, Bool.and_eq_true, beq_iff_eq, decide_eq_true_eq, decide_eq_true_eq] at hc
          obtain ⟨⟨rfl, hk1⟩, hc6⟩ := hc
          intro Hp ls locs cells slots r1 r2 r3 r4 r5 r6
          cases hcl : pi_cl[c']? with
          | none =>
            have : pi_cl.length ≤ c' := List.getElem?_eq_none_iff.mp hcl
            have e6 : pi_cl.length = 6 := rfl
            omega
          | some y =>
            obtain ⟨Cn, T, N⟩ := y
            rw [hcl] at hq
            dsimp only at hq
            rw [Bool.and_eq_true, Bool.and_eq_true, Bool.and_eq_true, Bool.and_eq_true, decide_eq_true_eq] at hq
            obtain ⟨hk, hw, hf1, hf2, htk⟩ := hq
            obtain ⟨w1, w2⟩ := pi_t_in hw
            have hdy : pi_dyn (.inr (c', fs)) = true := decide_eq_true hc6
            obtain ⟨d1, d2, d3⟩ := pi_dyn_at r1 hE hg hdy
            obtain ⟨q1, ⟨ty0, q2⟩, q3⟩ := pi_cl_at hcl
            obtain ⟨ty, t1, t2, t3⟩ := pi_okv_ty (g := g) htk hok
            show W p l e R s m args below meth c Hp locs cells slots Q (F0 m pc ls (pi_tv g v :: pi_tv g (.ref a) :: r.map (pi_tv g)))
            rw [pi_tv_dyn d2]
            refine pi_putK (D := g.1) hx hbb (fun w hw => hts w (q1 w hw).1 (q1 w hw).2) ty0 q2 q3 ho2 hE.1 d3 hcl k hk (hts _ w1 w2) (fun hz => ?_) t1 t2 t3 (by rw [List.length_map]; exact hk1) hd (fun H1 i k1 k2 k3 => ?_)
            · rw [hz] at hf2
              have hf : fin = true := by rw [eq_of_beq hf1]; exact hz
              rw [hf] at hfi
              exact ⟨hin (by simpa using hfi), by simpa using hf2⟩
            · refine kk H1 ls _ cells slots (pi_te_at r1 d1 hdy k2 k3 ?_) r2 r3 (r4.put k2 k3 (pi_dynA a)) r5 r6
              show va_at g.1 pi_cl (pi_B g + a, .inr (c', (fs.set k v).map (pi_tv g))) H1
              rw [List.map_set]
              exact k1
        next => cases hpf
      next => cases hpf
  next => cases h
end PIH
end
section
-- PART 06d: arrays, new cells, constants
section PIA
variable {g : pi_G} {p : Program} {l : Launch} {e : Env} {R : Room} {s : State} {m : MethodId} {args : Array Value} {below : List Frame} {meth : Method} {c : Code} {Q : State → Prop} {M : pi_M} {n0 z0 : Nat}
theorem pi_alx_spec {S S' : List Value} {H : pi_H} {kd : Nat} (h : pi_alx S H kd = some S') : ∃ i a r v, S = .int i :: .ref a :: r ∧ pi_al (pi_get H a) i kd = some v ∧ S' = v :: r := by
  unfold pi_alx at h
  split at h
  next i a r =>
    split at h
    next v hv => cases h; exact ⟨i, a, r, v, rfl, hv, rfl⟩
    next => cases h
  next => cases h
theorem pi_al_spec {o : Option pi_E} {i : Int32} {kd : Nat} {v : Value} (h : pi_al o i kd = some v) :
    (∃ t n f, o = some (.inl (t, n, .inl f)) ∧ pi_in i n = true ∧ v = .int (f i.toNatClampNeg) ∧ ((kd = 0 ∧ (t = 0 ∨ t = 10)) ∨ (kd = 1 ∧ t = 1) ∨ (kd = 2 ∧ t = 11))) ∨
    (∃ t n f, o = some (.inl (t, n, .inr (.inl f))) ∧ pi_in i n = true ∧ v = .long (f i.toNatClampNeg) ∧ kd = 3 ∧ t = 2) ∨
    (∃ t n f k, o = some (.inl (t, n, .inr (.inr (.inr (.inr f))))) ∧ pi_in i n = true ∧ v = .ref k ∧ f i.toNatClampNeg = some k ∧ k < 1000000 ∧ kd = 4 ∧ (t = 3 ∨ t = 4 ∨ t = 5)) := by
  unfold pi_al at h
  split at h
  next t n f =>
    refine Or.inl ⟨t, n, f, rfl, ?_⟩
    split at h
    next hi =>
      split at h
      next =>
        split at h
        next q => cases h; rw [Bool.or_eq_true, beq_iff_eq, beq_iff_eq] at q; exact ⟨hi, rfl, Or.inl ⟨rfl, q⟩⟩
        next => cases h
      next =>
        split at h
        next q => cases h; rw [beq_iff_eq] at q; exact ⟨hi, rfl, Or.inr (Or.inl ⟨rfl, q⟩)⟩
        next => cases h
      next =>
        split at h
        next q => cases h; rw [beq_iff_eq] at q; exact ⟨hi, rfl, Or.inr (Or.inr ⟨rfl, q⟩)⟩
        next => cases h
      next => cases h
    next => cases h
  next t n f =>
    split at h
    next q =>
      cases h
      rw [Bool.and_eq_true, Bool.and_eq_true, beq_iff_eq, beq_iff_eq] at q
      exact Or.inr (Or.inl ⟨t, n, f, rfl, q.1.1, rfl, q.2, q.1.2⟩)
    next => cases h
  next t n f =>
    split at h
    next q =>
      rw [Bool.and_eq_true, Bool.and_eq_true, beq_iff_eq, Bool.or_eq_true, Bool.or_eq_true, beq_iff_eq, beq_iff_eq, beq_iff_eq] at q
      split at h
      next k hk =>
        split at h
        next hl =>
          cases h
          refine Or.inr (Or.inr ⟨t, n, f, k, rfl, q.1.1, rfl, hk, hl, q.2, ?_⟩)
          rcases q.1.2 with (z | z) | z
          · exact Or.inl z
          · exact Or.inr (Or.inl z)
          · exact Or.inr (Or.inr z)
        next => cases h
      next => cases h
    next => cases h
  next => cases h
/-- aaload off an array of arrays or objects -/
theorem pi_aald {H : Heap} {locs : List Loc} {cells slots : Nat} {cc : ByteArray} {pc : Nat} {ls : Array Slot} {rest : List Value} (hexec : p.tables.exec = Jvm.exec) (hb : c.code = cc) {cA : ClassId} {ty : FieldType} {n a : Nat} {f : Nat → Option Nat} (hA : ArrOfT s cA ty) (hr : ty.isReference = true) (ha : H[a]? = some (vp_cell cA (n, .inr (.inr (.inr (.inr f)))))) {i : Int32} (hin : vp_in i n) (hdg : decode cc pc = .ok (.aaload, 1))
    (kk : W p l e R s m args below meth c H locs cells slots Q (F0 m (pc + 1) ls (va_rf (f i.toNatClampNeg) :: rest))) : W p l e R s m args below meth c H locs cells slots Q (F0 m pc ls (.int i :: .ref a :: rest)) := by
  have hlt : i.toNatClampNeg < n := Nat.not_le.mp fun q => hin (Or.inr q)
  exact W.aald (v := va_rf (f i.toNatClampNeg)) (ty := ty) hexec hb ha (hA n (fun j => va_rf (f j))) hr (fun q => by cases q) (by show ¬ (i < 0 ∨ (arrV _ _ _).slots.size ≤ _); rw [arrV_size]; exact hin) (by show (arrV _ _ _).slots[_]? = _; rw [arrV_read _ _ hlt]) rfl rfl hdg kk
theorem pi_n_al {i : Instr} {len pc kd : Nat} {L : pi_L} {S : List Value} {H : pi_H} {F : pi_F} (C : pi_C g p R s m args meth c M n0) (hd : decode (pm_by M) pc = .ok (i, len)) (hi : (kd = 0 ∧ i = .iaload) ∨ (kd = 1 ∧ i = .caload) ∨ (kd = 2 ∧ i = .baload) ∨ (kd = 3 ∧ i = .laload) ∨ (kd = 4 ∧ i = .aaload)) (h : pi_g (len == 1) (pi_nx (pi_alx S H kd) (pc + 1) L H) = some (.inl F))
    (kk : pi_W g p l e R s m args below meth c Q M n0 z0 F) : pi_W g p l e R s m args below meth c Q M n0 z0 (pc, L, S, H) := by
  have h0 := pi_g_spec h
  clear h
  obtain ⟨hb, h⟩ := h0
  rw [beq_iff_eq] at hb
  subst hb
  obtain ⟨S', h1, rfl⟩ := pi_nx_spec h
  obtain ⟨ix, a, r, v, rfl, h2, rfl⟩ := pi_alx_spec h1
  obtain ⟨hx, hbb, hml, -, hts, hE, -⟩ := id C
  intro Hp ls locs cells slots r1 r2 r3 r4 r5 r6
  have k1 := kk Hp ls locs cells slots r1 r2 r3 r4 r5 r6
  rw [show ((pc + 1, L, v :: r, H) : pi_F).2.2.1.map (pi_tv g) = pi_tv g v :: r.map (pi_tv g) from rfl] at k1
  show W p l e R s m args below meth c Hp locs cells slots Q (F0 m pc ls (.int ix :: pi_tv g (.ref a) :: r.map (pi_tv g)))
  rcases pi_al_spec h2 with ⟨t, n, f, e1, e2, rfl, e4⟩ | ⟨t, n, f, e1, e2, rfl, rfl, rfl⟩ | ⟨t, n, f, k, e1, e2, rfl, e3, e5, rfl, e6⟩
  · have dyn : ∀ t', t = t' → t' < 6 → a < 1000000 ∧ va_at g.1 pi_cl (pi_B g + a, .inl (g.2.1 t, n, .inl f)) Hp := fun t' q1 q2 => by
      obtain ⟨-, d2, d3⟩ := pi_dyn_at r1 hE e1 (by subst q1; exact decide_eq_true q2)
      exact ⟨d2, d3⟩
    rcases e4 with ⟨rfl, rfl | rfl⟩ | ⟨rfl, rfl⟩ | ⟨rfl, rfl⟩
    · obtain ⟨d2, d3⟩ := dyn 0 rfl (by decide)
      rw [pi_tv_dyn d2]
      obtain rfl : i = .iaload := by rcases hi with ⟨-, q⟩ | ⟨q, -⟩ | ⟨q, -⟩ | ⟨q, -⟩ | ⟨q, -⟩ <;> first | exact q | cases q
      exact va_iald (D := g.1) hx hbb hE.1 (pi_P1 d3) 0 0 rfl rfl (pi_in_vp e2) hd k1
    · obtain ⟨d2, d3⟩ := pi_sta_at r1 hE e1 rfl
      obtain rfl : i = .iaload := by rcases hi with ⟨-, q⟩ | ⟨q, -⟩ | ⟨q, -⟩ | ⟨q, -⟩ | ⟨q, -⟩ <;> first | exact q | cases q
      rcases d3 with ⟨n', f', a', q1, q2, q3⟩ | ⟨n', f', a', q1, -⟩ | ⟨w, a', av, q1, -⟩
      · cases q1
        rw [pi_tv_st d2 q2]
        exact va_ti hx hbb q3 r4 (pi_in_vp e2) rfl hd k1
      · cases q1
      · cases q1
    · obtain ⟨d2, d3⟩ := dyn 1 rfl (by decide)
      rw [pi_tv_dyn d2]
      obtain rfl : i = .caload := by rcases hi with ⟨q, -⟩ | ⟨-, q⟩ | ⟨q, -⟩ | ⟨q, -⟩ | ⟨q, -⟩ <;> first | exact q | cases q
      exact va_cald (D := g.1) hx hbb hE.1 (pi_P1 d3) 0 1 rfl rfl (pi_in_vp e2) hd k1
    · obtain ⟨d2, d3⟩ := pi_sta_at r1 hE e1 rfl
      obtain rfl : i = .baload := by rcases hi with ⟨q, -⟩ | ⟨q, -⟩ | ⟨-, q⟩ | ⟨q, -⟩ | ⟨q, -⟩ <;> first | exact q | cases q
      rcases d3 with ⟨n', f', a', q1, -⟩ | ⟨n', f', a', q1, q2, q3⟩ | ⟨w, a', av, q1, -⟩
      · cases q1
      · cases q1
        rw [pi_tv_st d2 q2]
        exact va_tb hx hbb q3 r4 (pi_in_vp e2) rfl hd k1
      · cases q1
  · obtain ⟨-, d2, d3⟩ := pi_dyn_at r1 hE e1 rfl
    rw [pi_tv_dyn d2]
    obtain rfl : i = .laload := by rcases hi with ⟨q, -⟩ | ⟨q, -⟩ | ⟨q, -⟩ | ⟨-, q⟩ | ⟨q, -⟩ <;> first | exact q | cases q
    exact va_lald (D := g.1) hx hbb hE.1 (pi_P1 d3) 0 2 rfl rfl (pi_in_vp e2) hd k1
  · obtain rfl : i = .aaload := by rcases hi with ⟨q, -⟩ | ⟨q, -⟩ | ⟨q, -⟩ | ⟨q, -⟩ | ⟨-, q⟩ <;> first | exact q | cases q
    have ht6 : t < 6 := by omega
    obtain ⟨-, d2, d3⟩ := pi_dyn_at r1 hE e1 (decide_eq_true ht6)
    rw [pi_tv_dyn d2]
    rw [pi_tv_dyn e5] at k1
    have k2 := hE.1.2 t _ (pi_tys_at t ht6)
    refine pi_aald hx hbb k2.1 (by rcases e6 with rfl | rfl | rfl <;> rfl) d3 (pi_in_vp e2) hd ?_
    rw [e3]
    exact k1
theorem pi_asx_spec {S : List Value} {H : pi_H} {kd pc : Nat} {L : pi_L} {F : pi_F} (h : pi_asx S H kd pc L = some (.inl F)) : ∃ v i a r H', S = v :: .int i :: .ref a :: r ∧ pi_as H a i v kd = some H' ∧ F = (pc, L, r, H') := by
  unfold pi_asx at h
  split at h
  next v i a r =>
    split at h
    next H' hv => exact ⟨v, i, a, r, H', rfl, hv, pi_go_spec h⟩
    next => cases h
  next => cases h
theorem pi_as_spec {H H' : pi_H} {a : Nat} {i : Int32} {kd : Nat} {v : Value} (h : pi_as H a i v kd = some H') :
    (∃ t n f x, pi_get H a = some (.inl (t, n, .inl f)) ∧ v = .int x ∧ pi_in i n = true ∧ ((kd = 0 ∧ t = 0 ∧ H' = pi_set H a (.inl (t, n, .inl (upd f i.toNatClampNeg x)))) ∨ (kd = 1 ∧ t = 1 ∧ H' = pi_set H a (.inl (t, n, .inl (upd f i.toNatClampNeg (vp_nar .char x))))))) ∨
    (∃ t n f x, pi_get H a = some (.inl (t, n, .inr (.inl f))) ∧ v = .long x ∧ pi_in i n = true ∧ kd = 3 ∧ t = 2 ∧ H' = pi_set H a (.inl (t, n, .inr (.inl (vp_updL f i.toNatClampNeg x))))) ∨
    (∃ t n f x, pi_get H a = some (.inl (t, n, .inr (.inr (.inr (.inr f))))) ∧ v = .ref x ∧ pi_in i n = true ∧ kd = 4 ∧ t = 3 ∧ pi_isO (pi_get H x) 3 = true ∧ H' = pi_set H a (.inl (t, n, .inr (.inr (.inr (.inr (va_up f i.toNatClampNeg (some x)))))))) := by
  unfold pi_as at h
  split at h
  next t n f x hg =>
    refine Or.inl ⟨t, n, f, x, hg, rfl, ?_⟩
    split at h
    next hi =>
      split at h
      next =>
        split at h
        next q => cases h; rw [beq_iff_eq] at q; exact ⟨hi, Or.inl ⟨rfl, q, rfl⟩⟩
        next => cases h
      next =>
        split at h
        next q => cases h; rw [beq_iff_eq] at q; exact ⟨hi, Or.inr ⟨rfl, q, rfl⟩⟩
        next => cases h
      next => cases h
    next => cases h
  next t n f x hg =>
    split at h
    next q =>
      cases h
      rw [Bool.and_eq_true, Bool.and_eq_true, beq_iff_eq, beq_iff_eq] at q
      exact Or.inr (Or.inl ⟨t, n, f, x, hg, rfl, q.1.1, q.2, q.1.2, rfl⟩)
    next => cases h
  next t n f x hg =>
    split at h
    next q =>
      cases h
      rw [Bool.and_eq_true, Bool.and_eq_true, Bool.and_eq_true, beq_iff_eq, beq_iff_eq] at q
      exact Or.inr (Or.inr ⟨t, n, f, x, hg, rfl, q.1.1.1, q.1.2, q.1.1.2, q.2, rfl⟩)
    next => cases h
  next => cases h
theorem pi_st_i (cA : ClassId) (n j : Nat) (f : Nat → Int32) (x : Int32) : some ((vp_cell cA (n, .inl f)).setSlot j (.int x)) = some (vp_cell cA (n, .inl (upd f j x))) := by
  show some ((arrV cA n (fun k => .int (f k))).setSlot j (.int x)) = some (arrV cA n (fun k => .int (upd f j x k)))
  rw [arrV_store]
  congr 2
  funext q
  by_cases hq : q = j <;> simp [updV, upd, hq]
theorem pi_st_c (cA : ClassId) (n j : Nat) (f : Nat → Int32) (x : Int32) : some ((vp_cell cA (n, .inl f)).setSlot j (narrow .char (.int x))) = some (vp_cell cA (n, .inl (upd f j (vp_nar .char x)))) := pi_st_i cA n j f (vp_nar .char x)
theorem pi_st_l (cA : ClassId) (n j : Nat) (f : Nat → Int64) (x : Int64) : some ((vp_cell cA (n, .inr (.inl f))).setSlot j (.long x)) = some (vp_cell cA (n, .inr (.inl (vp_updL f j x)))) := by
  show some ((arrV cA n (fun k => .long (f k))).setSlot j (.long x)) = some (arrV cA n (fun k => .long (vp_updL f j x k)))
  rw [arrV_store]
  congr 2
  funext q
  by_cases hq : q = j <;> simp [updV, vp_updL, hq]
theorem pi_st_q (cA : ClassId) (n j b : Nat) (f : Nat → Option Nat) (x : Nat) : some ((vp_cell cA (n, .inr (.inr (.inr (.inr (fun i => (f i).map (fun k => b + k))))))).setSlot j (.ref (b + x))) = some (vp_cell cA (n, .inr (.inr (.inr (.inr (fun i => (va_up f j (some x) i).map (fun k => b + k))))))) := by
  show some ((arrV cA n (fun k => va_rf ((f k).map (fun k => b + k)))).setSlot j (.ref (b + x))) = some (arrV cA n (fun k => va_rf ((va_up f j (some x) k).map (fun k => b + k))))
  rw [arrV_store]
  congr 2
  funext q
  by_cases hq : q = j
  · subst hq
    simp [updV, va_up, va_rf]
  · simp [updV, va_up, hq]
theorem pi_n_as {i : Instr} {len pc kd : Nat} {L : pi_L} {S : List Value} {H : pi_H} {F : pi_F} (C : pi_C g p R s m args meth c M n0) (hd : decode (pm_by M) pc = .ok (i, len)) (hi : (kd = 0 ∧ i = .iastore) ∨ (kd = 1 ∧ i = .castore) ∨ (kd = 3 ∧ i = .lastore) ∨ (kd = 4 ∧ i = .aastore)) (h : pi_g (len == 1) (pi_asx S H kd (pc + 1) L) = some (.inl F))
    (kk : pi_W g p l e R s m args below meth c Q M n0 z0 F) : pi_W g p l e R s m args below meth c Q M n0 z0 (pc, L, S, H) := by
  have h0 := pi_g_spec h
  clear h
  obtain ⟨hb, h⟩ := h0
  rw [beq_iff_eq] at hb
  subst hb
  obtain ⟨v, ix, a, r, H', rfl, h2, rfl⟩ := pi_asx_spec h
  obtain ⟨hx, hbb, hml, -, hts, hE, -⟩ := id C
  intro Hp ls locs cells slots r1 r2 r3 r4 r5 r6
  show W p l e R s m args below meth c Hp locs cells slots Q (F0 m pc ls (pi_tv g v :: .int ix :: pi_tv g (.ref a) :: r.map (pi_tv g)))
  rcases pi_as_spec h2 with ⟨t, n, f, x, e1, rfl, e2, e3⟩ | ⟨t, n, f, x, e1, rfl, e2, rfl, rfl, rfl⟩ | ⟨t, n, f, x, e1, rfl, e2, rfl, rfl, e4, rfl⟩
  · rcases e3 with ⟨rfl, rfl, rfl⟩ | ⟨rfl, rfl, rfl⟩
    · obtain ⟨d1, d2, d3⟩ := pi_dyn_at r1 hE e1 rfl
      rw [pi_tv_dyn d2]
      obtain rfl : i = .iastore := by rcases hi with ⟨-, q⟩ | ⟨q, -⟩ | ⟨q, -⟩ | ⟨q, -⟩ <;> first | exact q | cases q
      refine W.iast hx hbb d3 ((hE.1.2 0 _ rfl).1 n (fun j => .int (f j))) (fun q => by cases q) (by show ¬ (ix < 0 ∨ (arrV _ _ _).slots.size ≤ _); rw [arrV_size]; exact pi_in_vp e2) rfl rfl hd fun H1 q1 q2 q3 => ?_
      refine kk H1 ls _ cells slots (pi_te_at r1 d1 rfl q2 q3 ?_) r2 r3 (r4.put q2 q3 (pi_dynA a)) r5 r6
      exact q1.trans (pi_st_i _ _ _ _ _)
    · obtain ⟨d1, d2, d3⟩ := pi_dyn_at r1 hE e1 rfl
      rw [pi_tv_dyn d2]
      obtain rfl : i = .castore := by rcases hi with ⟨q, -⟩ | ⟨-, q⟩ | ⟨q, -⟩ | ⟨q, -⟩ <;> first | exact q | cases q
      refine W.cast hx hbb d3 ((hE.1.2 1 _ rfl).1 n (fun j => .int (f j))) (fun q => by cases q) (by show ¬ (ix < 0 ∨ (arrV _ _ _).slots.size ≤ _); rw [arrV_size]; exact pi_in_vp e2) rfl rfl hd fun H1 q1 q2 q3 => ?_
      refine kk H1 ls _ cells slots (pi_te_at r1 d1 rfl q2 q3 ?_) r2 r3 (r4.put q2 q3 (pi_dynA a)) r5 r6
      exact q1.trans (pi_st_c _ _ _ _ _)
  · obtain ⟨d1, d2, d3⟩ := pi_dyn_at r1 hE e1 rfl
    rw [pi_tv_dyn d2]
    obtain rfl : i = .lastore := by rcases hi with ⟨q, -⟩ | ⟨q, -⟩ | ⟨-, q⟩ | ⟨q, -⟩ <;> first | exact q | cases q
    refine W.last hx hbb d3 ((hE.1.2 2 _ rfl).1 n (fun j => .long (f j))) (fun q => by cases q) (by show ¬ (ix < 0 ∨ (arrV _ _ _).slots.size ≤ _); rw [arrV_size]; exact pi_in_vp e2) rfl rfl hd fun H1 q1 q2 q3 => ?_
    refine kk H1 ls _ cells slots (pi_te_at r1 d1 rfl q2 q3 ?_) r2 r3 (r4.put q2 q3 (pi_dynA a)) r5 r6
    exact q1.trans (pi_st_l _ _ _ _ _)
  · obtain ⟨d1, d2, d3⟩ := pi_dyn_at r1 hE e1 rfl
    rw [pi_tv_dyn d2]
    obtain rfl : i = .aastore := by rcases hi with ⟨q, -⟩ | ⟨q, -⟩ | ⟨q, -⟩ | ⟨-, q⟩ <;> first | exact q | cases q
    cases hgx : pi_get H x with
    | none => rw [hgx] at e4; cases e4
    | some y =>
      rw [hgx] at e4
      cases y with
      | inl z => cases e4
      | inr o =>
        obtain ⟨ci, vs⟩ := o
        have e4 : ci = 3 := eq_of_beq e4
        subst e4
        obtain ⟨x1, x2, x3⟩ := pi_dyn_at r1 hE hgx rfl
        rw [pi_tv_dyn x2]
        obtain ⟨r', hr', cellV, g1, g2, g3, -⟩ := x3
        have hr' : r' = ("OrderLevels$Shop", pt_T3, 14) := (Option.some.inj hr').symm
        subst hr'
        have hcls := (hE.1.1 3 _ rfl).2
        obtain ⟨kA, comp, k1, k2, k3, -⟩ := (hE.1.2 3 _ rfl).2
        have hcomp : comp = g.1.1 3 := Option.some.inj (k3.symm.trans hcls.1)
        subst hcomp
        obtain ⟨kC, hkC, -⟩ := hcls.2
        have hvp := pi_in_vp e2
        refine W.aast hx hbb d3 (fun q h => by cases h) (fun h => by cases h) k1 k2 rfl hkC ⟨fun q => hvp (Or.inl q), by show _ < (arrV _ _ _).slots.size; rw [arrV_size]; exact Nat.not_le.mp fun q => hvp (Or.inr q)⟩ g1 (fun q h => by rw [g3] at h; cases h) (by rw [g2]; exact hkC) (by rw [g2]; exact va_assign hcls) rfl rfl hd fun H1 q1 q2 q3 => ?_
        refine kk H1 ls _ cells slots (pi_te_at r1 d1 rfl q2 q3 ?_) r2 r3 (r4.put q2 q3 (pi_dynA a)) r5 r6
        exact q1.trans (pi_st_q _ _ _ _ _ _)
theorem pi_n_len {len pc : Nat} {L : pi_L} {S : List Value} {H : pi_H} {F : pi_F} (C : pi_C g p R s m args meth c M n0) (hd : decode (pm_by M) pc = .ok (.arraylength, len)) (h : pi_ins M .arraylength len pc L S H = some (.inl F))
    (kk : pi_W g p l e R s m args below meth c Q M n0 z0 F) : pi_W g p l e R s m args below meth c Q M n0 z0 (pc, L, S, H) := by
  have h0 := pi_g_spec h
  clear h
  obtain ⟨hb, h⟩ := h0
  rw [beq_iff_eq] at hb
  subst hb
  obtain ⟨hx, hbb, hml, -, hts, hE, -⟩ := id C
  split at h
  next a r =>
    split at h
    next n hn =>
      obtain rfl := pi_go_spec h
      intro Hp ls locs cells slots r1 r2 r3 r4 r5 r6
      have k1 := kk Hp ls locs cells slots r1 r2 r3 r4 r5 r6
      show W p l e R s m args below meth c Hp locs cells slots Q (F0 m pc ls (pi_tv g (.ref a) :: r.map (pi_tv g)))
      unfold pi_len at hn
      split at hn
      next t n' z hg =>
        cases hn
        cases hdy : pi_dyn (.inl (t, n, z)) with
        | true =>
          obtain ⟨d1, d2, d3⟩ := pi_dyn_at r1 hE hg hdy
          rw [pi_tv_dyn d2]
          have ht : t < 6 := of_decide_eq_true hdy
          have d4 : ∃ z' : (Nat → Int32) ⊕ (Nat → Int64) ⊕ (Nat → UInt32) ⊕ (Nat → UInt64) ⊕ (Nat → Option Nat), va_at g.1 pi_cl (pi_B g + a, .inl (g.2.1 t, (n, z'))) Hp := by
            rcases z with f | f | f | f | f
            · exact ⟨_, d3⟩
            · exact ⟨_, d3⟩
            · exact ⟨_, d3⟩
            · exact ⟨_, d3⟩
            · exact ⟨_, d3⟩
          obtain ⟨z', d4⟩ := d4
          exact va_alen (D := g.1) hx hbb hE.1 (pi_P1 d4) 0 t rfl (pi_tys_at t ht) rfl hd k1
        | false =>
          obtain ⟨d2, d3⟩ := pi_sta_at r1 hE hg hdy
          rcases d3 with ⟨n', f', a', q1, q2, q3⟩ | ⟨n', f', a', q1, q2, q3⟩ | ⟨w, a', av, q1, -⟩
          · cases q1
            rw [pi_tv_st d2 q2]
            exact va_tlen hx hbb q3 r4 rfl hd k1
          · cases q1
            rw [pi_tv_st d2 q2]
            exact va_tlen hx hbb q3 r4 rfl hd k1
          · cases q1
      next => cases hn
    next => cases h
  next => cases h
end PIA
end
section
-- PART 06e: new cells, constants, the dispatcher of what stays in the frame
section PIE2
variable {g : pi_G} {p : Program} {l : Launch} {e : Env} {R : Room} {s : State} {m : MethodId} {args : Array Value} {below : List Frame} {meth : Method} {c : Code} {Q : State → Prop} {M : pi_M} {n0 z0 : Nat}
theorem pi_S_new {Hp H1 : Heap} {locs : List Loc} {k : Nat} (h : va_S (pi_A g) s.heap Hp locs) (z : H1.size = Hp.size + k) (ho : ∀ q : Nat, q < Hp.size → H1[q]? = Hp[q]?) : va_S (pi_A g) s.heap H1 locs :=
  ⟨Nat.le_trans h.1 (by omega), fun q h1 h2 => (ho q (Nat.lt_of_lt_of_le h1 h.1)).trans (h.2.1 q h1 h2), h.2.2⟩
theorem pi_n_new {ix len pc : Nat} {L : pi_L} {S : List Value} {H : pi_H} {F : pi_F} (C : pi_C g p R s m args meth c M n0) (hd : decode (pm_by M) pc = .ok (.new ix, len)) (h : pi_ins M (.new ix) len pc L S H = some (.inl F)) (hb1 : F.2.2.2.2.1 ≤ n0 + R.cells) (hb2 : F.2.2.2.2.2 ≤ z0 + R.slots)
    (kk : pi_W g p l e R s m args below meth c Q M n0 z0 F) : pi_W g p l e R s m args below meth c Q M n0 z0 (pc, L, S, H) := by
  have h0 := pi_g_spec h
  clear h
  obtain ⟨hb, h⟩ := h0
  rw [beq_iff_eq] at hb
  subst hb
  obtain ⟨hx, hbb, hml, ⟨own, ho1, ho2⟩, hts, hE, -⟩ := id C
  split at h
  next ci hci =>
    split at h
    next fs hfs =>
      have h0 := pi_g_spec h
      clear h
      obtain ⟨hb, h⟩ := h0
      rw [decide_eq_true_eq] at hb
      obtain rfl := pi_go_spec h
      have hq := List.all_eq_true.mp pi_nlk_ok _ (pi_lk_mem hci)
      unfold pi_nlc at hq
      dsimp only at hq
      rw [ho1, hfs] at hq
      cases hcl : pi_cl[ci]? with
      | none => rw [hcl] at hq; cases hq
      | some y =>
        obtain ⟨Cn, T, N⟩ := y
        rw [hcl] at hq
        dsimp only at hq
        rw [Bool.and_eq_true, Bool.and_eq_true, Bool.and_eq_true, Bool.and_eq_true, decide_eq_true_eq] at hq
        obtain ⟨w1, w2, w3, hN, hdf⟩ := hq
        subst hN
        intro Hp ls locs cells slots r1 r2 r3 r4 r5 r6
        obtain ⟨q1, ⟨ty0, q2⟩, q3⟩ := pi_cl_at hcl
        have hci6 : ci < 6 := (List.getElem?_eq_some_iff.mp hcl).1
        have hdy : pi_dyn (.inr (ci, fs)) = true := decide_eq_true hci6
        have hKn := hE.1.1 ci _ hcl
        have b1 : H.2.1 + 1 ≤ n0 + R.cells := hb1
        have b2 : H.2.2 + fs.length ≤ z0 + R.slots := hb2
        have r5' : H.2.1 = n0 + cells := r5
        have r6' : H.2.2 = z0 + slots := r6
        refine W.newcK hx hbb ho2 (hts _ (pi_t_in w1).1 (pi_t_in w1).2) (hts _ (pi_t_in w2).1 (pi_t_in w2).2) (hts _ (pi_t_in w3).1 (pi_t_in w3).2) rfl hd (by omega) (by omega) hKn.2.1 r1.1 fun H1 kC hkC e1 z1 o1 => ?_
        have z1' : H1.size = Hp.size + 1 := by rw [z1, r1.1]
        have o1' : ∀ q : Nat, q < Hp.size → H1[q]? = Hp[q]? := fun q hq => o1 q (by rw [← r1.1]; exact hq)
        have hat : va_at g.1 pi_cl (pi_B g + H.2.1, pi_te g (.inr (ci, fs))) H1 := by
          refine ⟨_, hcl, (u_born (ws := u_ws Cn T fs.length) ty0 (fun w hw => hts w (q1 w hw).1 (q1 w hw).2) (fun w hw => hw) hKn hkC e1 q2).to fun j hj => ?_⟩
          have hj2 := List.all_eq_true.mp hdf j (List.mem_range.mpr hj)
          rw [decide_eq_true_eq, q2 j hj, Option.map_some] at hj2
          rw [Option.some.inj hj2]
          show vp_V fs j = vp_V (fs.map (pi_tv g)) j
          have hj3 : ∃ d, fs[j]? = some d ∧ pi_tv g d = d := by
            have hd0 : defaultValue (ty0 j) = vp_V fs j := Option.some.inj hj2
            refine ⟨fs[j], List.getElem?_eq_getElem hj, ?_⟩
            have hv : vp_V fs j = fs[j] := by simp [vp_V, hj]
            rw [← hv, ← hd0]
            cases ty0 j <;> rfl
          obtain ⟨d, hd1, hd2⟩ := hj3
          simp only [vp_V, List.getD_eq_getElem?_getD, List.getElem?_map, hd1, Option.map_some, Option.getD_some, hd2]
        have k1 := kk H1 ls locs (cells + 1) (slots + fs.length) (pi_te_new r1 hb hdy z1' o1' hat) r2 r3 (pi_S_new r4 z1' o1') (by show H.2.1 + 1 = _; omega) (by show H.2.2 + fs.length = _; omega)
        have e2 : pi_tv g (.ref H.2.1) = .ref (pi_B g + H.2.1) := pi_tv_dyn hb
        have k2 : W p l e R s m args below meth c H1 locs (cells + 1) (slots + fs.length) Q (F0 m (pc + 3) ls (pi_tv g (.ref H.2.1) :: S.map (pi_tv g))) := k1
        rw [e2] at k2
        exact k2
    next => cases h
  next => cases h
theorem pi_zer_spec {t n : Nat} {z : vp_A} (h : pi_zer t n = some z) : z.1 = n ∧ t < 6 ∧ pi_te g (.inl (t, z)) = .inl (g.2.1 t, z) ∧ vp_cell (g.2.1 t) z = arrV (g.2.1 t) n (fun _ => defaultValue ((pi_tys[t]?).getD .int)) := by
  unfold pi_zer at h
  split at h
  · cases h; exact ⟨rfl, by decide, rfl, rfl⟩
  · cases h; exact ⟨rfl, by decide, rfl, rfl⟩
  · cases h; exact ⟨rfl, by decide, rfl, rfl⟩
  · cases h
theorem pi_cls_uq {g : pi_G} (hE : pi_Env g s) {t : Nat} (ht : t < 6) {cA : ClassId} (hn : ∀ C, (pi_tys[t]?).getD .int ≠ .object C) (h : s.vm.findClass ("[" ++ ((pi_tys[t]?).getD .int).toString) = some cA) : cA = g.2.1 t := by
  have h2 := (hE.1.2 t _ (pi_tys_at t ht)).2
  have h3 : s.vm.findClass ("[" ++ ((pi_tys[t]?).getD .int).toString) = some (g.2.1 t) := by
    revert h2 hn
    generalize (pi_tys[t]?).getD .int = ty
    intro hn h2
    cases ty <;> first | exact h2 | exact absurd rfl (hn _)
  exact Option.some.inj (h.symm.trans h3)
theorem pi_n_newarray {at_ : ArrayType} {len pc : Nat} {L : pi_L} {S : List Value} {H : pi_H} {F : pi_F} (C : pi_C g p R s m args meth c M n0) (hd : decode (pm_by M) pc = .ok (.newarray at_, len)) (h : pi_ins M (.newarray at_) len pc L S H = some (.inl F)) (hb1 : F.2.2.2.2.1 ≤ n0 + R.cells) (hb2 : F.2.2.2.2.2 ≤ z0 + R.slots)
    (kk : pi_W g p l e R s m args below meth c Q M n0 z0 F) : pi_W g p l e R s m args below meth c Q M n0 z0 (pc, L, S, H) := by
  have h0 := pi_g_spec h
  clear h
  obtain ⟨hb, h⟩ := h0
  rw [beq_iff_eq] at hb
  subst hb
  obtain ⟨hx, hbb, hml, -, hts, hE, -⟩ := id C
  split at h
  next n r =>
    split at h
    next z hz =>
      have h0 := pi_g_spec h
      clear h
      obtain ⟨hb, h⟩ := h0
      rw [Bool.and_eq_true, Bool.and_eq_true, Bool.not_eq_true', decide_eq_false_iff_not, decide_eq_true_eq, decide_eq_true_eq] at hb
      obtain ⟨⟨hn, hn2⟩, hl⟩ := hb
      obtain rfl := pi_go_spec h
      intro Hp ls locs cells slots r1 r2 r3 r4 r5 r6
      obtain ⟨y1, y2, y3, y4⟩ := pi_zer_spec (g := g) hz
      have b1 : H.2.1 + 1 ≤ n0 + R.cells := hb1
      have b2 : H.2.2 + n.toNatClampNeg ≤ z0 + R.slots := hb2
      have r5' : H.2.1 = n0 + cells := r5
      have r6' : H.2.2 = z0 + slots := r6
      have hty : (Cond.arrayClass (newarray.typeOf at_)).before args s = true ∧ newarray.typeOf at_ = (pi_tys[pi_aty at_]?).getD .int ∧ ∀ C, newarray.typeOf at_ ≠ .object C := by
        have ha := pi_arr_ok
        rw [Bool.and_eq_true, Bool.and_eq_true] at ha
        cases at_ <;> first | (simp [pi_zer, pi_aty] at hz; done) | exact ⟨hts _ (pi_t_in ha.1).1 (pi_t_in ha.1).2, rfl, fun _ q => by cases q⟩ | exact ⟨hts _ (pi_t_in ha.2.1).1 (pi_t_in ha.2.1).2, rfl, fun _ q => by cases q⟩ | exact ⟨hts _ (pi_t_in ha.2.2).1 (pi_t_in ha.2.2).2, rfl, fun _ q => by cases q⟩
      obtain ⟨t1, t2, t3⟩ := hty
      refine va_newaK hx hbb t1 rfl hd rfl hn rfl (by have : componentBytes (newarray.typeOf at_) ≤ 8 := by (cases at_ <;> decide)
                                                      have := Nat.mul_le_mul hn2 this; omega) (by omega) (by omega) r1.1 fun H1 cA e1 z1 o1 hAr hNm => ?_
      have z1' : H1.size = Hp.size + 1 := by rw [z1, r1.1]
      have o1' : ∀ q : Nat, q < Hp.size → H1[q]? = Hp[q]? := fun q hq => o1 q (by rw [← r1.1]; exact hq)
      have hcA : cA = g.2.1 (pi_aty at_) := pi_cls_uq hE y2 (by rw [← t2]; exact t3) (by rw [← t2]; exact hNm)
      subst hcA
      have hat : va_at g.1 pi_cl (pi_B g + H.2.1, pi_te g (.inl (pi_aty at_, z))) H1 := by
        rw [y3]
        show H1[pi_B g + H.2.1]? = some (vp_cell _ z)
        rw [y4, e1, t2]
      have k2 : W p l e R s m args below meth c H1 locs (cells + 1) (slots + n.toNatClampNeg) Q (F0 m (pc + 2) ls (pi_tv g (.ref H.2.1) :: r.map (pi_tv g))) := kk H1 ls locs (cells + 1) (slots + n.toNatClampNeg) (pi_te_new r1 hl (decide_eq_true y2) z1' o1' hat) r2 r3 (pi_S_new r4 z1' o1') (by show H.2.1 + 1 = _; omega) (by show H.2.2 + n.toNatClampNeg = _; omega)
      rw [pi_tv_dyn hl] at k2
      exact k2
    next => cases h
  next => cases h
theorem pi_n_anew {ix len pc : Nat} {L : pi_L} {S : List Value} {H : pi_H} {F : pi_F} (C : pi_C g p R s m args meth c M n0) (hd : decode (pm_by M) pc = .ok (.anewarray ix, len)) (h : pi_ins M (.anewarray ix) len pc L S H = some (.inl F)) (hb1 : F.2.2.2.2.1 ≤ n0 + R.cells) (hb2 : F.2.2.2.2.2 ≤ z0 + R.slots)
    (kk : pi_W g p l e R s m args below meth c Q M n0 z0 F) : pi_W g p l e R s m args below meth c Q M n0 z0 (pc, L, S, H) := by
  have h0 := pi_g_spec h
  clear h
  obtain ⟨hb, h⟩ := h0
  rw [beq_iff_eq] at hb
  subst hb
  obtain ⟨hx, hbb, hml, ⟨own, ho1, ho2⟩, hts, hE, -⟩ := id C
  split at h
  next n r hal =>
    have h0 := pi_g_spec h
    clear h
    obtain ⟨hb, h⟩ := h0
    rw [Bool.and_eq_true, Bool.and_eq_true, Bool.not_eq_true', decide_eq_false_iff_not, decide_eq_true_eq, decide_eq_true_eq] at hb
    obtain ⟨⟨hn, hn2⟩, hl⟩ := hb
    obtain rfl := pi_go_spec h
    have hq := List.all_eq_true.mp pi_alk_ok _ (pi_lk_mem hal)
    unfold pi_alc at hq
    dsimp only at hq
    rw [ho1] at hq
    obtain ⟨w1, w2⟩ := pi_t_in hq
    intro Hp ls locs cells slots r1 r2 r3 r4 r5 r6
    have b1 : H.2.1 + 1 ≤ n0 + R.cells := hb1
    have b2 : H.2.2 + n.toNatClampNeg ≤ z0 + R.slots := hb2
    have r5' : H.2.1 = n0 + cells := r5
    have r6' : H.2.2 = z0 + slots := r6
    refine W.anew hx hbb ho2 (hts _ w1 w2) (va_AO.use hE.2.2.2.1) rfl hd rfl hn (by omega) (by omega) (by omega) fun cA kA comp f1 f2 f3 f4 => ?_
    generalize hH1 : Hp.push ({ cls := cA, slots := Array.replicate n.toNatClampNeg .null, vm := .none } : Cell) = H1
    have z1 : H1.size = Hp.size + 1 := by rw [← hH1, Array.size_push]
    have e1 : H1[Hp.size]? = some (arrV cA n.toNatClampNeg (fun _ => .null)) := by rw [← hH1, Array.getElem?_push_size, ← arrV_new]
    have o1 : ∀ q : Nat, q < Hp.size → H1[q]? = Hp[q]? := fun q hq => by rw [← hH1, Array.getElem?_push, if_neg (Nat.ne_of_lt hq)]
    obtain ⟨kA', comp', -, -, -, h4⟩ := (hE.1.2 3 _ rfl).2
    have hcA : cA = g.2.1 3 := Option.some.inj (f1.symm.trans h4)
    subst hcA
    have hat : va_at g.1 pi_cl (pi_B g + H.2.1, pi_te g (.inl (3, n.toNatClampNeg, .inr (.inr (.inr (.inr (fun _ => none))))))) H1 := by
      show H1[pi_B g + H.2.1]? = some (vp_cell _ _)
      rw [← r1.1, e1]
      rfl
    have k2 : W p l e R s m args below meth c H1 locs (cells + 1) (slots + n.toNatClampNeg) Q (F0 m (pc + 3) ls (pi_tv g (.ref H.2.1) :: r.map (pi_tv g))) := kk H1 ls locs (cells + 1) (slots + n.toNatClampNeg) (pi_te_new r1 hl rfl z1 o1 hat) r2 r3 (pi_S_new r4 z1 o1) (by show H.2.1 + 1 = _; omega) (by show H.2.2 + n.toNatClampNeg = _; omega)
    rw [pi_tv_dyn hl, ← r1.1] at k2
    exact k2
  next => cases h
theorem pi_R_mul {H : pi_H} {Hp H1 : Heap} {t ti N : Nat} {z : vp_A} (r1 : pi_R g H Hp) (hl : H.2.1 + 1 + N < 1000000) (ht : t = 4 ∨ t = 5) (hti : ti < 6) (hz : H1.size = Hp.size + 1 + N) (ho : ∀ q, q < Hp.size → H1[q]? = Hp[q]?)
    (h1 : H1[Hp.size]? = some (vp_cell (g.2.1 t) (N, .inr (.inr (.inr (.inr (fun i => if i < N then some (Hp.size + 1 + i) else none))))))) (hte : pi_te g (.inl (ti, z)) = .inl (g.2.1 ti, z)) (h2 : ∀ j, j < N → H1[Hp.size + 1 + j]? = some (vp_cell (g.2.1 ti) z)) : pi_R g (pi_mul H t ti N z) H1 := by
  have hs : Hp.size = pi_B g + H.2.1 := r1.1
  refine ⟨by rw [hz, hs]; show _ = pi_B g + (H.2.1 + 1 + N); omega, Nat.le_of_lt hl, fun k x hk => ?_⟩
  have hk : (if k = H.2.1 then some (Sum.inl (t, N, .inr (.inr (.inr (.inr (fun i => if i < N then some (H.2.1 + 1 + i) else none)))))) else if H.2.1 < k ∧ k ≤ H.2.1 + N then some (Sum.inl (ti, z)) else H.1 k) = some x := hk
  by_cases q : k = H.2.1
  · rw [if_pos q] at hk
    cases hk
    refine Or.inl ⟨by show k < H.2.1 + 1 + N; omega, ?_, ?_⟩
    · rcases ht with rfl | rfl <;> rfl
    · show H1[pi_B g + k]? = some (vp_cell (g.2.1 t) _)
      rw [q, ← hs, h1]
      have e : ((fun i => if i < N then some (Hp.size + 1 + i) else none) : Nat → Option Nat) = fun i => Option.map (fun k => pi_B g + k) (if i < N then some (H.2.1 + 1 + i) else none) := by
        funext i
        by_cases z : i < N
        · rw [if_pos z, if_pos z, Option.map_some]; congr 1; omega
        · rw [if_neg z, if_neg z]; rfl
      rw [e]
  · rw [if_neg q] at hk
    by_cases q2 : H.2.1 < k ∧ k ≤ H.2.1 + N
    · rw [if_pos q2] at hk
      cases hk
      refine Or.inl ⟨by show k < H.2.1 + 1 + N; omega, decide_eq_true hti, ?_⟩
      rw [hte]
      show H1[pi_B g + k]? = some (vp_cell (g.2.1 ti) z)
      rw [← h2 (k - H.2.1 - 1) (by omega)]
      congr 1
      omega
    · rw [if_neg q2] at hk
      rcases r1.2.2 k x hk with ⟨a1, a2, a3⟩ | a1
      · exact Or.inl ⟨by show k < H.2.1 + 1 + N; omega, a2, a3.kept (ho _ a3.lt)⟩
      · exact Or.inr a1
theorem pi_n_mul {ix dm len pc : Nat} {L : pi_L} {S : List Value} {H : pi_H} {F : pi_F} (C : pi_C g p R s m args meth c M n0) (hd : decode (pm_by M) pc = .ok (.multianewarray ix dm, len)) (h : pi_ins M (.multianewarray ix dm) len pc L S H = some (.inl F)) (hb1 : F.2.2.2.2.1 ≤ n0 + R.cells) (hb2 : F.2.2.2.2.2 ≤ z0 + R.slots)
    (kk : pi_W g p l e R s m args below meth c Q M n0 z0 F) : pi_W g p l e R s m args below meth c Q M n0 z0 (pc, L, S, H) := by
  have h0 := pi_g_spec h
  clear h
  obtain ⟨hb, h⟩ := h0
  rw [Bool.and_eq_true, beq_iff_eq, beq_iff_eq] at hb
  obtain ⟨rfl, rfl⟩ := hb
  obtain ⟨hx, hbb, hml, ⟨own, ho1, ho2⟩, hts, hE, -⟩ := id C
  split at h
  next k n r t0 hal =>
    split at h
    next t ti hmf =>
      split at h
      next z hz =>
        have h0 := pi_g_spec h
        clear h
        obtain ⟨hb, h⟩ := h0
        rw [Bool.and_eq_true, Bool.and_eq_true, Bool.and_eq_true, Bool.and_eq_true, Bool.not_eq_true', Bool.not_eq_true', decide_eq_false_iff_not, decide_eq_false_iff_not, decide_eq_true_eq, decide_eq_true_eq, decide_eq_true_eq] at hb
        obtain ⟨⟨⟨⟨hn, hk⟩, hn2⟩, hk2⟩, hl⟩ := hb
        obtain rfl := pi_go_spec h
        obtain ⟨y1, y2, y3, y4⟩ := pi_zer_spec (g := g) hz
        have hq := List.all_eq_true.mp pi_alk_ok _ (pi_lk_mem hal)
        unfold pi_alc at hq
        dsimp only at hq
        rw [ho1] at hq
        have ha := pi_arr_ok
        rw [Bool.and_eq_true, Bool.and_eq_true] at ha
        intro Hp ls locs cells slots r1 r2 r3 r4 r5 r6
        have b1 : H.2.1 + 1 + n.toNatClampNeg ≤ n0 + R.cells := hb1
        have b2 : H.2.2 + n.toNatClampNeg + n.toNatClampNeg * z.1 ≤ z0 + R.slots := hb2
        rw [y1] at b2
        have r5' : H.2.1 = n0 + cells := r5
        have r6' : H.2.2 = z0 + slots := r6
        have fin : ∀ (H1 : Heap), pi_R g (pi_mul H t ti n.toNatClampNeg z) H1 → H1.size = Hp.size + 1 + n.toNatClampNeg → (∀ q, q < Hp.size → H1[q]? = Hp[q]?) → W p l e R s m args below meth c H1 locs (cells + 1 + n.toNatClampNeg) (slots + n.toNatClampNeg + n.toNatClampNeg * k.toNatClampNeg) Q (F0 m (pc + 4) ls (.ref Hp.size :: r.map (pi_tv g))) := by
          intro H1 g1 g2 g3
          have k2 : W p l e R s m args below meth c H1 locs (cells + 1 + n.toNatClampNeg) (slots + n.toNatClampNeg + n.toNatClampNeg * k.toNatClampNeg) Q (F0 m (pc + 4) ls (pi_tv g (.ref H.2.1) :: r.map (pi_tv g))) := kk H1 ls locs _ _ g1 r2 r3 (pi_S_new (k := 1 + n.toNatClampNeg) r4 (by omega) g3) (by show H.2.1 + 1 + n.toNatClampNeg = _; omega) (by show H.2.2 + n.toNatClampNeg + n.toNatClampNeg * z.1 = _; rw [y1]; omega)
          rw [pi_tv_dyn (by omega), ← r1.1] at k2
          exact k2
        unfold pi_mfit at hmf
        split at hmf
        · cases hmf
          obtain ⟨w1, w2⟩ := pi_t_in hq
          refine pi_mnaK (ty := .int) hx hbb ho2 (hts _ w1 w2) hE.2.2.2.2.1 (hts _ (pi_t_in ha.1).1 (pi_t_in ha.1).2) hn hk (by omega) (by show _ * 4 ≤ _; omega) (by omega) rfl rfl (by omega) (by omega) hd fun H1 cA cy f1 f2 f3 f4 f5 f6 => ?_
          have e1 : cA = g.2.1 4 := pi_cls_uq hE (t := 4) (by decide) (fun C q => by cases q) f1
          have e2 : cy = g.2.1 0 := pi_cls_uq hE (t := 0) (by decide) (fun C q => by cases q) f2
          subst e1; subst e2
          exact fin H1 (pi_R_mul r1 hl (Or.inl rfl) (by decide) f3 f4 f5 y3 (fun j hj => by rw [f6 j hj, y4]; rfl)) f3 f4
        · cases hmf
          obtain ⟨w1, w2⟩ := pi_t_in hq
          refine pi_mnaK (ty := .long) hx hbb ho2 (hts _ w1 w2) hE.2.2.2.2.2.1 (hts _ (pi_t_in ha.2.2).1 (pi_t_in ha.2.2).2) hn hk (by omega) (by show _ * 8 ≤ _; omega) (by omega) rfl rfl (by omega) (by omega) hd fun H1 cA cy f1 f2 f3 f4 f5 f6 => ?_
          have e1 : cA = g.2.1 5 := pi_cls_uq hE (t := 5) (by decide) (fun C q => by cases q) f1
          have e2 : cy = g.2.1 2 := pi_cls_uq hE (t := 2) (by decide) (fun C q => by cases q) f2
          subst e1; subst e2
          exact fin H1 (pi_R_mul r1 hl (Or.inr rfl) (by decide) f3 f4 f5 y3 (fun j hj => by rw [f6 j hj, y4]; rfl)) f3 f4
        · cases hmf
      next => cases h
    next => cases h
  next => cases h
end PIE2
end
section
-- PART 06f: the dispatcher of what stays in the frame
section PIF
variable {g : pi_G} {p : Program} {l : Launch} {e : Env} {R : Room} {s : State} {m : MethodId} {args : Array Value} {below : List Frame} {meth : Method} {c : Code} {Q : State → Prop} {M : pi_M} {n0 z0 : Nat}
theorem pi_n_ldc {ix len pc : Nat} {L : pi_L} {S : List Value} {H : pi_H} {F : pi_F} (C : pi_C g p R s m args meth c M n0) (hd : decode (pm_by M) pc = .ok (.ldc ix, len)) (h : pi_ins M (.ldc ix) len pc L S H = some (.inl F))
    (kk : pi_W g p l e R s m args below meth c Q M n0 z0 F) : pi_W g p l e R s m args below meth c Q M n0 z0 (pc, L, S, H) := by
  have h0 := pi_g_spec h
  clear h
  obtain ⟨hb, h⟩ := h0
  rw [beq_iff_eq] at hb
  subst hb
  obtain ⟨hx, hbb, hml, ⟨own, ho1, ho2⟩, hts, hE, -⟩ := id C
  split at h
  next v hl =>
    have hq := List.all_eq_true.mp pi_klk_ok _ (pi_lk_mem hl)
    unfold pi_klc at hq
    dsimp only at hq
    rw [ho1] at hq
    obtain ⟨w1, w2⟩ := pi_t_in hq
    obtain rfl := pi_go_spec h
    exact pi_n_op (len := 2) (S' := .int (Int32.ofInt v) :: S) (fun Hp ls locs cells slots k => lv_ldc hx hbb ho2 (hts _ w1 w2) hd k) kk
  next v hl =>
    have hq := List.all_eq_true.mp pi_klk_ok _ (pi_lk_mem hl)
    unfold pi_klc at hq
    dsimp only at hq
    rw [ho1] at hq
    have hq : (decide (own = "OrderLevels$Script") && (match pi_str[v.toNat]? with
      | some (ix', _) => ix' == ix
      | none => false)) = true := hq
    rw [Bool.and_eq_true, decide_eq_true_eq] at hq
    obtain ⟨rfl, hq⟩ := hq
    cases hs : pi_str[v.toNat]? with
    | some y =>
      obtain ⟨ix', tx⟩ := y
      rw [hs] at hq
      have hq : ix' = ix := eq_of_beq hq
      subst hq
      obtain ⟨a, ha, hr⟩ := hE.2.2.2.2.2.2.1 v.toNat _ hs
      obtain rfl := pi_go_spec h
      refine pi_n_op (len := 2) (S' := .ref (1000001 + v.toNat) :: S) (fun Hp ls locs cells slots k => ?_) kk
      have e0 : 1000001 + v.toNat - 1000000 = 1 + v.toNat := by omega
      have e1 : pi_tv g (.ref (1000001 + v.toNat)) = .ref a := pi_tv_st (Nat.le_trans (by decide) (Nat.le_add_right 1000001 _)) (by rw [e0]; exact ha)
      rw [List.map_cons, e1] at k
      exact va_ldcS hx hbb ho2 hr hd k
    | none => rw [hs] at hq; cases hq
  next => cases h
theorem pi_n_ldc2 {ix len pc : Nat} {L : pi_L} {S : List Value} {H : pi_H} {F : pi_F} (C : pi_C g p R s m args meth c M n0) (hd : decode (pm_by M) pc = .ok (.ldc2_w ix, len)) (h : pi_ins M (.ldc2_w ix) len pc L S H = some (.inl F))
    (kk : pi_W g p l e R s m args below meth c Q M n0 z0 F) : pi_W g p l e R s m args below meth c Q M n0 z0 (pc, L, S, H) := by
  have h0 := pi_g_spec h
  clear h
  obtain ⟨hb, h⟩ := h0
  rw [beq_iff_eq] at hb
  subst hb
  obtain ⟨hx, hbb, hml, ⟨own, ho1, ho2⟩, hts, hE, -⟩ := id C
  split at h
  next v hl =>
    have hq := List.all_eq_true.mp pi_klk_ok _ (pi_lk_mem hl)
    unfold pi_klc at hq
    dsimp only at hq
    rw [ho1] at hq
    obtain ⟨w1, w2⟩ := pi_t_in hq
    obtain rfl := pi_go_spec h
    exact pi_n_op (len := 3) (S' := .long (Int64.ofInt v) :: S) (fun Hp ls locs cells slots k => lv_ldc2 hx hbb ho2 (hts _ w1 w2) hd k) kk
  next => cases h
theorem pi_n_getstatic {ix len pc : Nat} {L : pi_L} {S : List Value} {H : pi_H} {F : pi_F} (C : pi_C g p R s m args meth c M n0) (hd : decode (pm_by M) pc = .ok (.getstatic ix, len)) (h : pi_ins M (.getstatic ix) len pc L S H = some (.inl F))
    (kk : pi_W g p l e R s m args below meth c Q M n0 z0 F) : pi_W g p l e R s m args below meth c Q M n0 z0 (pc, L, S, H) := by
  have h0 := pi_g_spec h
  clear h
  obtain ⟨hb, h⟩ := h0
  rw [beq_iff_eq] at hb
  subst hb
  obtain ⟨hx, hbb, hml, ⟨own, ho1, ho2⟩, hts, hE, -⟩ := id C
  split at h
  next hl =>
    have hq := List.all_eq_true.mp pi_slk_ok _ (pi_lk_mem hl)
    unfold pi_slc at hq
    dsimp only at hq
    rw [ho1] at hq
    have hq := of_decide_eq_true hq
    obtain ⟨t, ht, hz⟩ := hE.2.2.2.2.2.2.2.1
    obtain rfl := pi_go_spec h
    intro Hp ls locs cells slots r1 r2 r3 r4 r5 r6
    have k : W p l e R s m args below meth c Hp locs cells slots Q (F0 m (pc + 3) ls (pi_tv g (.ref 1000000) :: S.map (pi_tv g))) := kk Hp ls locs cells slots r1 r2 r3 r4 r5 r6
    have e0 : pi_tv g (.ref 1000000) = .ref t := by simp [pi_tv, ht, va_rf]
    rw [e0] at k
    exact va_getsN hx hbb hz r4 ho2 (va_Nw.use rfl (hE.2.2.1 own ix hq)) (fun _ h9 => h9) hd k
  next hl =>
    have hq := List.all_eq_true.mp pi_slk_ok _ (pi_lk_mem hl)
    unfold pi_slc at hq
    dsimp only at hq
    rw [ho1] at hq
    obtain ⟨w1, w2⟩ := pi_t_in hq
    obtain rfl := pi_go_spec h
    intro Hp ls locs cells slots r1 r2 r3 r4 r5 r6
    exact va_gets hx hbb hE.2.2.2.2.2.2.2.2.1 r4 ho2 (hts _ w1 w2) (fun _ h9 => h9) hd (kk Hp ls locs cells slots r1 r2 r3 r4 r5 r6)
  next hl =>
    have hq := List.all_eq_true.mp pi_slk_ok _ (pi_lk_mem hl)
    unfold pi_slc at hq
    dsimp only at hq
    rw [ho1] at hq
    obtain ⟨w1, w2⟩ := pi_t_in hq
    obtain rfl := pi_go_spec h
    intro Hp ls locs cells slots r1 r2 r3 r4 r5 r6
    exact va_gets hx hbb hE.2.2.2.2.2.2.2.2.2.1 r4 ho2 (hts _ w1 w2) (fun _ h9 => h9) hd (kk Hp ls locs cells slots r1 r2 r3 r4 r5 r6)
  next => cases h
theorem pi_n_if {cd : Jvm.ClassFile.Cond} {off : Int} {len pc : Nat} {L : pi_L} {S : List Value} {H : pi_H} {F : pi_F} (C : pi_C g p R s m args meth c M n0) (hd : decode (pm_by M) pc = .ok (.ifCond cd off, len)) (h : pi_ins M (.ifCond cd off) len pc L S H = some (.inl F))
    (kk : pi_W g p l e R s m args below meth c Q M n0 z0 F) : pi_W g p l e R s m args below meth c Q M n0 z0 (pc, L, S, H) := by
  have h0 := pi_g_spec h
  clear h
  obtain ⟨hb, h⟩ := h0
  rw [beq_iff_eq] at hb
  subst hb
  split at h
  next x r =>
    cases cd
    · exact pi_n_br (cond := x = 0) h decide_eq_true_iff (fun tgt Hp ls locs cells slots ht kt kf => lv_if_eq C.1 C.2.1 hd ht kt kf) kk
    · exact pi_n_br (cond := ¬ x = 0) h decide_eq_true_iff (fun tgt Hp ls locs cells slots ht kt kf => lv_if_ne C.1 C.2.1 hd ht kt (fun q => kf (fun z => z q))) kk
    · exact pi_n_br (cond := x < 0) h decide_eq_true_iff (fun tgt Hp ls locs cells slots ht kt kf => lv_if_lt C.1 C.2.1 hd ht kt kf) kk
    · exact pi_n_br (cond := 0 ≤ x) h decide_eq_true_iff (fun tgt Hp ls locs cells slots ht kt kf => lv_if_ge C.1 C.2.1 hd ht kt kf) kk
    · exact pi_n_br (cond := 0 < x) h decide_eq_true_iff (fun tgt Hp ls locs cells slots ht kt kf => lv_if_gt C.1 C.2.1 hd ht kt kf) kk
    · exact pi_n_br (cond := x ≤ 0) h decide_eq_true_iff (fun tgt Hp ls locs cells slots ht kt kf => lv_if_le C.1 C.2.1 hd ht kt kf) kk
  next => cases h
theorem pi_n_icmp {cd : Jvm.ClassFile.Cond} {off : Int} {len pc : Nat} {L : pi_L} {S : List Value} {H : pi_H} {F : pi_F} (C : pi_C g p R s m args meth c M n0) (hd : decode (pm_by M) pc = .ok (.if_icmp cd off, len)) (h : pi_ins M (.if_icmp cd off) len pc L S H = some (.inl F))
    (kk : pi_W g p l e R s m args below meth c Q M n0 z0 F) : pi_W g p l e R s m args below meth c Q M n0 z0 (pc, L, S, H) := by
  have h0 := pi_g_spec h
  clear h
  obtain ⟨hb, h⟩ := h0
  rw [beq_iff_eq] at hb
  subst hb
  split at h
  next y x r =>
    cases cd
    · exact pi_n_br (cond := x = y) h decide_eq_true_iff (fun tgt Hp ls locs cells slots ht kt kf => lv_icmp_eq C.1 C.2.1 hd ht kt kf) kk
    · exact pi_n_br (cond := ¬ x = y) h decide_eq_true_iff (fun tgt Hp ls locs cells slots ht kt kf => lv_icmp_ne C.1 C.2.1 hd ht kt (fun q => kf (fun z => z q))) kk
    · exact pi_n_br (cond := x < y) h decide_eq_true_iff (fun tgt Hp ls locs cells slots ht kt kf => lv_icmp_lt C.1 C.2.1 hd ht kt kf) kk
    · exact pi_n_br (cond := y ≤ x) h decide_eq_true_iff (fun tgt Hp ls locs cells slots ht kt kf => lv_icmp_ge C.1 C.2.1 hd ht kt kf) kk
    · exact pi_n_br (cond := y < x) h decide_eq_true_iff (fun tgt Hp ls locs cells slots ht kt kf => lv_icmp_gt C.1 C.2.1 hd ht kt kf) kk
    · exact pi_n_br (cond := x ≤ y) h decide_eq_true_iff (fun tgt Hp ls locs cells slots ht kt kf => lv_icmp_le C.1 C.2.1 hd ht kt kf) kk
  next => cases h
theorem pi_n_gi {pc : Nat} {off : Int} {L : pi_L} {S S0 : List Value} {H : pi_H} {F : pi_F} (h : pi_gi pc off L S H = some (.inl F))
    (row : ∀ (tgt : Nat) (Hp : Heap) (ls : Array Slot) (locs : List Loc) (cells slots : Nat), (pc : Int) + off = (tgt : Int) → W p l e R s m args below meth c Hp locs cells slots Q (F0 m tgt ls (S.map (pi_tv g))) → W p l e R s m args below meth c Hp locs cells slots Q (F0 m pc ls (S0.map (pi_tv g))))
    (kk : pi_W g p l e R s m args below meth c Q M n0 z0 F) : pi_W g p l e R s m args below meth c Q M n0 z0 (pc, L, S0, H) := by
  obtain ⟨tgt, ht, rfl⟩ := pi_gi_spec h
  intro Hp ls locs cells slots r1 r2 r3 r4 r5 r6
  exact row tgt Hp ls locs cells slots ht (kk Hp ls locs cells slots r1 r2 r3 r4 r5 r6)
theorem pi_n_table {d lo hi : Int} {offs : Array Int} {len pc : Nat} {L : pi_L} {S : List Value} {H : pi_H} {F : pi_F} (C : pi_C g p R s m args meth c M n0) (hd : decode (pm_by M) pc = .ok (.tableswitch d lo hi offs, len)) (h : pi_ins M (.tableswitch d lo hi offs) len pc L S H = some (.inl F))
    (kk : pi_W g p l e R s m args below meth c Q M n0 z0 F) : pi_W g p l e R s m args below meth c Q M n0 z0 (pc, L, S, H) := by
  unfold pi_ins at h
  dsimp only at h
  split at h
  next x r =>
    split at h
    next q => exact pi_n_gi h (fun tgt Hp ls locs cells slots ht k => lv_tableOut C.1 C.2.1 hd q ht k) kk
    next q =>
      split at h
      next off ho =>
        rw [not_or] at q
        exact pi_n_gi h (fun tgt Hp ls locs cells slots ht k => lv_tableIn C.1 C.2.1 hd q.1 q.2 ho ht k) kk
      next => cases h
  next => cases h
theorem pi_n_lookup {d : Int} {ps : Array (Int × Int)} {len pc : Nat} {L : pi_L} {S : List Value} {H : pi_H} {F : pi_F} (C : pi_C g p R s m args meth c M n0) (hd : decode (pm_by M) pc = .ok (.lookupswitch d ps, len)) (h : pi_ins M (.lookupswitch d ps) len pc L S H = some (.inl F))
    (kk : pi_W g p l e R s m args below meth c Q M n0 z0 F) : pi_W g p l e R s m args below meth c Q M n0 z0 (pc, L, S, H) := by
  have h0 := pi_g_spec h
  clear h
  obtain ⟨hb, h⟩ := h0
  split at h
  next x r => exact pi_n_gi h (fun tgt Hp ls locs cells slots ht k => lv_lookup C.1 C.2.1 hd hb rfl ht k) kk
  next => cases h
theorem pi_next {i : Instr} {len pc : Nat} {L : pi_L} {S : List Value} {H : pi_H} {F : pi_F} (C : pi_C g p R s m args meth c M n0) (hd : decode (pm_by M) pc = .ok (i, len)) (h : pi_ins M i len pc L S H = some (.inl F)) (hb1 : F.2.2.2.2.1 ≤ n0 + R.cells) (hb2 : F.2.2.2.2.2 ≤ z0 + R.slots) (hiv : (∀ x, i ≠ .invokespecial x) ∧ (∀ x, i ≠ .invokestatic x) ∧ (∀ x, i ≠ .invokevirtual x))
    (kk : pi_W g p l e R s m args below meth c Q M n0 z0 F) : pi_W g p l e R s m args below meth c Q M n0 z0 (pc, L, S, H) := by
  have hx := C.1
  have hbb := C.2.1
  cases i
  case iconst n =>
    obtain ⟨hb, h1⟩ := pi_g_spec h
    have hb := eq_of_beq hb
    subst hb
    obtain rfl := pi_go_spec h1
    exact pi_n_op (len := 1) (S' := .int (Int32.ofInt n) :: S) (fun Hp ls locs cells slots k => lv_iconst hx hbb hd rfl k) kk
  case bipush n =>
    obtain ⟨hb, h1⟩ := pi_g_spec h
    have hb := eq_of_beq hb
    subst hb
    obtain rfl := pi_go_spec h1
    exact pi_n_op (len := 2) (S' := .int (Int8.ofInt n).toInt32 :: S) (fun Hp ls locs cells slots k => lv_bipush hx hbb hd rfl k) kk
  case sipush n =>
    obtain ⟨hb, h1⟩ := pi_g_spec h
    have hb := eq_of_beq hb
    subst hb
    obtain rfl := pi_go_spec h1
    exact pi_n_op (len := 3) (S' := .int (Int16.ofInt n).toInt32 :: S) (fun Hp ls locs cells slots k => lv_sipush hx hbb hd rfl k) kk
  case lconst n =>
    obtain ⟨hb, h1⟩ := pi_g_spec h
    have hb := eq_of_beq hb
    subst hb
    obtain rfl := pi_go_spec h1
    exact pi_n_op (len := 1) (S' := .long (Int64.ofNat (n : Nat)) :: S) (fun Hp ls locs cells slots k => lv_lconst hx hbb hd rfl k) kk
  case ldc ix => exact pi_n_ldc C hd h kk
  case ldc2_w ix => exact pi_n_ldc2 C hd h kk
  case getstatic ix => exact pi_n_getstatic C hd h kk
  case iload k => exact pi_n_iload C hd (Or.inl ⟨rfl, rfl⟩) h kk
  case iload_n k => exact pi_n_iload C hd (Or.inr ⟨k, rfl, rfl, rfl⟩) h kk
  case lload k => exact pi_n_lload C hd (Or.inl ⟨rfl, rfl⟩) h kk
  case lload_n k => exact pi_n_lload C hd (Or.inr ⟨k, rfl, rfl, rfl⟩) h kk
  case aload k => exact pi_n_aload C hd (Or.inl ⟨rfl, rfl⟩) h kk
  case aload_n k => exact pi_n_aload C hd (Or.inr ⟨k, rfl, rfl, rfl⟩) h kk
  case istore k => exact pi_n_istore C hd (Or.inl ⟨rfl, rfl⟩) h kk
  case istore_n k => exact pi_n_istore C hd (Or.inr ⟨k, rfl, rfl, rfl⟩) h kk
  case lstore k => exact pi_n_lstore C hd (Or.inl ⟨rfl, rfl⟩) h kk
  case lstore_n k => exact pi_n_lstore C hd (Or.inr ⟨k, rfl, rfl, rfl⟩) h kk
  case astore k => exact pi_n_astore C hd (Or.inl ⟨rfl, rfl⟩) h kk
  case astore_n k => exact pi_n_astore C hd (Or.inr ⟨k, rfl, rfl, rfl⟩) h kk
  case iinc k n => exact pi_n_iinc C hd h kk
  case iadd => exact pi_n_iop (f := fun x y => x + y) h hd (fun x y rest Hp ls locs cells slots hd k => lv_iadd hx hbb hd k) kk
  case isub => exact pi_n_iop (f := fun x y => x - y) h hd (fun x y rest Hp ls locs cells slots hd k => lv_isub hx hbb hd k) kk
  case imul => exact pi_n_iop (f := fun x y => x * y) h hd (fun x y rest Hp ls locs cells slots hd k => lv_imul hx hbb hd k) kk
  case iand => exact pi_n_iop (f := fun x y => x &&& y) h hd (fun x y rest Hp ls locs cells slots hd k => lv_iand hx hbb hd k) kk
  case ior => exact pi_n_iop (f := fun x y => x ||| y) h hd (fun x y rest Hp ls locs cells slots hd k => lv_ior hx hbb hd k) kk
  case ishl => exact pi_n_iop (f := fun x y => x <<< (y &&& 31)) h hd (fun x y rest Hp ls locs cells slots hd k => lv_ishl hx hbb hd k) kk
  case ishr => exact pi_n_iop (f := fun x y => x >>> (y &&& 31)) h hd (fun x y rest Hp ls locs cells slots hd k => lv_ishr hx hbb hd k) kk
  case ladd => exact pi_n_lop (f := fun x y => x + y) h hd (fun x y rest Hp ls locs cells slots hd k => lv_ladd hx hbb hd k) kk
  case lsub => exact pi_n_lop (f := fun x y => x - y) h hd (fun x y rest Hp ls locs cells slots hd k => lv_lsub hx hbb hd k) kk
  case lmul => exact pi_n_lop (f := fun x y => x * y) h hd (fun x y rest Hp ls locs cells slots hd k => lv_lmul hx hbb hd k) kk
  case lor => exact pi_n_lop (f := fun x y => x ||| y) h hd (fun x y rest Hp ls locs cells slots hd k => lv_lor hx hbb hd k) kk
  case irem =>
    obtain ⟨hb, h1⟩ := pi_g_spec h
    have hb := eq_of_beq hb
    subst hb
    split at h1
    · obtain ⟨hy, h2⟩ := pi_g_spec h1
      rw [Bool.not_eq_true', decide_eq_false_iff_not] at hy
      obtain rfl := pi_go_spec h2
      refine pi_n_op (len := 1) ?_ kk
      exact fun Hp ls locs cells slots k => lv_irem hx hbb hd hy k
    · cases h1
  case ldiv =>
    obtain ⟨hb, h1⟩ := pi_g_spec h
    have hb := eq_of_beq hb
    subst hb
    split at h1
    · obtain ⟨hy, h2⟩ := pi_g_spec h1
      rw [Bool.not_eq_true', decide_eq_false_iff_not] at hy
      obtain rfl := pi_go_spec h2
      refine pi_n_op (len := 1) ?_ kk
      exact fun Hp ls locs cells slots k => lv_ldiv hx hbb hd hy k
    · cases h1
  case lrem =>
    obtain ⟨hb, h1⟩ := pi_g_spec h
    have hb := eq_of_beq hb
    subst hb
    split at h1
    · obtain ⟨hy, h2⟩ := pi_g_spec h1
      rw [Bool.not_eq_true', decide_eq_false_iff_not] at hy
      obtain rfl := pi_go_spec h2
      refine pi_n_op (len := 1) ?_ kk
      exact fun Hp ls locs cells slots k => lv_lrem hx hbb hd hy k
    · cases h1
  case lneg =>
    obtain ⟨hb, h1⟩ := pi_g_spec h
    have hb := eq_of_beq hb
    subst hb
    split at h1
    · obtain rfl := pi_go_spec h1
      refine pi_n_op (len := 1) ?_ kk
      exact fun Hp ls locs cells slots k => lv_lneg hx hbb hd k
    · cases h1
  case lshl =>
    obtain ⟨hb, h1⟩ := pi_g_spec h
    have hb := eq_of_beq hb
    subst hb
    split at h1
    · obtain rfl := pi_go_spec h1
      refine pi_n_op (len := 1) ?_ kk
      exact fun Hp ls locs cells slots k => lv_lshl hx hbb hd rfl k
    · cases h1
  case i2l =>
    obtain ⟨hb, h1⟩ := pi_g_spec h
    have hb := eq_of_beq hb
    subst hb
    split at h1
    · obtain rfl := pi_go_spec h1
      refine pi_n_op (len := 1) ?_ kk
      exact fun Hp ls locs cells slots k => lv_i2l hx hbb hd rfl k
    · cases h1
  case i2c =>
    obtain ⟨hb, h1⟩ := pi_g_spec h
    have hb := eq_of_beq hb
    subst hb
    split at h1
    · obtain rfl := pi_go_spec h1
      refine pi_n_op (len := 1) ?_ kk
      exact fun Hp ls locs cells slots k => lv_i2c hx hbb hd rfl k
    · cases h1
  case lcmp =>
    obtain ⟨hb, h1⟩ := pi_g_spec h
    have hb := eq_of_beq hb
    subst hb
    split at h1
    · obtain rfl := pi_go_spec h1
      refine pi_n_op (len := 1) ?_ kk
      exact fun Hp ls locs cells slots k => W.lcmp hx hbb hd k
    · cases h1
  case dup =>
    obtain ⟨hb, h1⟩ := pi_g_spec h
    have hb := eq_of_beq hb
    subst hb
    split at h1
    · obtain ⟨hv, h2⟩ := pi_g_spec h1
      have hv := eq_of_beq hv
      obtain rfl := pi_go_spec h2
      refine pi_n_op (len := 1) ?_ kk
      exact fun Hp ls locs cells slots k => lv_dup hx hbb hd (by rw [pi_tv_cat]; exact hv) k
    · cases h1
  case pop =>
    obtain ⟨hb, h1⟩ := pi_g_spec h
    have hb := eq_of_beq hb
    subst hb
    split at h1
    · obtain ⟨hv, h2⟩ := pi_g_spec h1
      have hv := eq_of_beq hv
      obtain rfl := pi_go_spec h2
      exact pi_n_op (len := 1) (fun Hp ls locs cells slots k => lv_pop hx hbb hd (by rw [pi_tv_cat]; exact hv) k) kk
    · cases h1
  case dup2 =>
    obtain ⟨hb, h1⟩ := pi_g_spec h
    have hb := eq_of_beq hb
    subst hb
    split at h1
    · obtain ⟨hv, h2⟩ := pi_g_spec h1
      rw [Bool.and_eq_true, beq_iff_eq, beq_iff_eq] at hv
      obtain rfl := pi_go_spec h2
      refine pi_n_op (len := 1) ?_ kk
      exact fun Hp ls locs cells slots k => lv_dup2_11 hx hbb hd (by rw [pi_tv_cat]; exact hv.1) (by rw [pi_tv_cat]; exact hv.2) k
    · cases h1
  case ifCond cd off => exact pi_n_if C hd h kk
  case if_icmp cd off => exact pi_n_icmp C hd h kk
  case goto off =>
    obtain ⟨hb, h1⟩ := pi_g_spec h
    have hb := eq_of_beq hb
    subst hb
    exact pi_n_gi h1 (fun tgt Hp ls locs cells slots ht k => lv_goto hx hbb hd ht k) kk
  case tableswitch => exact pi_n_table C hd h kk
  case lookupswitch => exact pi_n_lookup C hd h kk
  case getfield ix => exact pi_n_getfield C hd h kk
  case putfield ix => exact pi_n_putfield C hd h kk
  case iaload => exact pi_n_al C hd (Or.inl ⟨rfl, rfl⟩) h kk
  case caload => exact pi_n_al C hd (Or.inr (Or.inl ⟨rfl, rfl⟩)) h kk
  case baload => exact pi_n_al C hd (Or.inr (Or.inr (Or.inl ⟨rfl, rfl⟩))) h kk
  case laload => exact pi_n_al C hd (Or.inr (Or.inr (Or.inr (Or.inl ⟨rfl, rfl⟩)))) h kk
  case aaload => exact pi_n_al C hd (Or.inr (Or.inr (Or.inr (Or.inr ⟨rfl, rfl⟩)))) h kk
  case iastore => exact pi_n_as C hd (Or.inl ⟨rfl, rfl⟩) h kk
  case castore => exact pi_n_as C hd (Or.inr (Or.inl ⟨rfl, rfl⟩)) h kk
  case lastore => exact pi_n_as C hd (Or.inr (Or.inr (Or.inl ⟨rfl, rfl⟩))) h kk
  case aastore => exact pi_n_as C hd (Or.inr (Or.inr (Or.inr ⟨rfl, rfl⟩))) h kk
  case arraylength => exact pi_n_len C hd h kk
  case new ix => exact pi_n_new C hd h hb1 hb2 kk
  case newarray a => exact pi_n_newarray C hd h hb1 hb2 kk
  case anewarray ix => exact pi_n_anew C hd h hb1 hb2 kk
  case multianewarray ix dm => exact pi_n_mul C hd h hb1 hb2 kk
  case invokespecial ix => exact absurd rfl (hiv.1 ix)
  case invokestatic ix => exact absurd rfl (hiv.2.1 ix)
  case invokevirtual ix => exact absurd rfl (hiv.2.2 ix)
  case ireturn =>
    obtain ⟨hb, h1⟩ := pi_g_spec h
    split at h1
    · obtain ⟨hv, h2⟩ := pi_g_spec h1
      cases h2
    · cases h1
  case lreturn =>
    obtain ⟨hb, h1⟩ := pi_g_spec h
    split at h1 <;> cases h1
  case areturn =>
    obtain ⟨hb, h1⟩ := pi_g_spec h
    split at h1 <;> cases h1
  case return_ =>
    obtain ⟨hb, h1⟩ := pi_g_spec h
    split at h1 <;> cases h1
  all_goals (cases h)
end PIF
end
section
-- PART 06g: calls
def pi_ws (M : pi_M) : List Cond := Cond.code (pm_nm M) (pm_by M) (pm_ml M) (pm_rt M) :: lw_tbl.filter goodWord
def pi_Pc (g : pi_G) (a : List Value) (H : pi_H) : Array Value → State → Prop := va_Pc (a.map (pi_tv g)) (fun U => pi_R g H U.heap ∧ pi_Env g U)
def pi_Q (g : pi_G) (r : Option Value) (H' : pi_H) : Array Value → State → Outcome → State → Prop := fun _ st o t => o = .returned (r.map (pi_tv g)) ∧ pi_R g H' t.heap ∧ va_F (pi_A g) st t
def pi_rm (M : pi_M) (mc ms : Nat) : Room := { frames := pm_rk M, cells := mc, slots := ms, locals := 35 * pm_rk M }
def pi_Met (l : Launch) (g : pi_G) (M : pi_M) (a : List Value) (H : pi_H) (r : Option Value) (H' : pi_H) : Prop :=
  Met l (pm_nm M) (pi_ws M) (pi_rm M (H'.2.1 - H.2.1) (H'.2.2 - H.2.2)) (pi_Pc g a H) (pi_Q g r H') (H'.2.1 - H.2.1) (H'.2.2 - H.2.2) (pi_A g)
section PIG
variable {g : pi_G} {p : Program} {l : Launch} {e : Env} {R : Room} {s : State} {m : MethodId} {args : Array Value} {below : List Frame} {meth : Method} {c : Code} {Q : State → Prop} {M : pi_M} {n0 z0 : Nat}
theorem pi_cats_map (S : List Value) : ((S.map (pi_tv g)).map fun v => v.category).sum = pi_cats S := pi_tv_cats S
theorem pi_n_oin {ix pc a : Nat} {L : pi_L} {r : List Value} {H : pi_H} {F : pi_F} (C : pi_C g p R s m args meth c M n0) (hd : decode (pm_by M) pc = .ok (.invokespecial ix, 3)) {m' n : Nat} (hl : pi_mlk.lookup (pm_ow M, ix) = some (m', n, 5)) (h : pi_g (decide (a < 1000000) && decide (1 ≤ pm_rk M) && decide (pi_cats r ≤ 8)) (pi_go (pc + 3) L r H) = some (.inl F))
    (kk : pi_W g p l e R s m args below meth c Q M n0 z0 F) : pi_W g p l e R s m args below meth c Q M n0 z0 (pc, L, .ref a :: r, H) := by
  obtain ⟨hb, h1⟩ := pi_g_spec h
  rw [Bool.and_eq_true, Bool.and_eq_true, decide_eq_true_eq, decide_eq_true_eq, decide_eq_true_eq] at hb
  obtain ⟨⟨b1, b2⟩, b3⟩ := hb
  obtain rfl := pi_go_spec h1
  obtain ⟨hx, hbb, hml, ⟨own, ho1, ho2⟩, hts, hE, -, -, -, hfr, hlo, -⟩ := id C
  obtain ⟨ps, hq⟩ := pi_mlk_ok _ (pi_lk_mem hl)
  unfold pi_mlc at hq
  dsimp only at hq
  rw [ho1] at hq
  have hq : (pi_p ps[0]? (.methodLink own ix Lib.objectInit) && (pi_p ps[1]? (.instanceMethod Lib.objectInit) && pi_p ps[2]? (.code Lib.objectInit ⟨#[0xb1]⟩ 1 none))) = true := hq
  rw [Bool.and_eq_true, Bool.and_eq_true] at hq
  obtain ⟨q1, q2, q3⟩ := hq
  intro Hp ls locs cells slots r1 r2 r3 r4 r5 r6
  show W p l e R s m args below meth c Hp locs cells slots Q (F0 m pc ls (pi_tv g (.ref a) :: r.map (pi_tv g)))
  rw [pi_tv_dyn b1]
  refine W.objInit hx hbb ho2 (hts _ (pi_p_in q1).1 (pi_p_in q1).2) (hts _ (pi_p_in q2).1 (pi_p_in q2).2) (hts _ (pi_p_in q3).1 (pi_p_in q3).2) rfl (by rw [hml]; exact r2.1) rfl hd (Nat.le_trans b2 hfr) ?_ (kk Hp ls locs cells slots r1 r2 r3 r4 r5 r6)
  rw [pi_cats_map]
  show 2 * 0 + pi_cats r + 12 ≤ R.locals
  omega
/-- what comes back from a call, put into the caller's walk -/
theorem pi_back {pc : Nat} {L : pi_L} {S : List Value} {H H1 : pi_H} {r : Option Value} {rest : List Value} {a' : Array Value}
    (hmono : H.2.1 ≤ H1.2.1 ∧ H.2.2 ≤ H1.2.2) (hb1 : H1.2.1 ≤ n0 + R.cells) (hb2 : H1.2.2 ≤ z0 + R.slots)
    (run : ∀ (Hp : Heap) (ls : Array Slot) (locs : List Loc) (cells slots : Nat), pi_R g H Hp → ls.size = pm_ml M → va_S (pi_A g) s.heap Hp locs → cells + (H1.2.1 - H.2.1) ≤ R.cells ∧ slots + (H1.2.2 - H.2.2) ≤ R.slots → va_Run p l e R s m args below meth c Hp locs cells slots (H1.2.1 - H.2.1) (H1.2.2 - H.2.2) (F0 m pc ls (S.map (pi_tv g))) (rest.map (pi_tv g)) (pi_Q g r H1 a') (pi_A g))
    (kk : pi_W g p l e R s m args below meth c Q M n0 z0 (pc + 3, L, r.toList ++ rest, H1)) : pi_W g p l e R s m args below meth c Q M n0 z0 (pc, L, S, H) := by
  intro Hp ls locs cells slots r1 r2 r3 r4 r5 r6
  have r5' : H.2.1 = n0 + cells := r5
  have r6' : H.2.2 = z0 + slots := r6
  have hr := run Hp ls locs cells slots r1 r2.1 r4 ⟨by omega, by omega⟩
  intro T hT X
  obtain ⟨v, st₀, t, T', Ls, h0, X', hL, e1, e2, ⟨hv, hR, hz, hk⟩, st⟩ := hr T hT X
  have hv : v = r.map (pi_tv g) := Outcome.returned.inj hv
  rw [h0] at hz hk
  have S1 : va_S (pi_A g) s.heap T'.heap (locs ++ Ls) := ⟨Nat.le_trans r4.1 (by rw [e1]; exact hz), fun q h1 h2 => by rw [e1, hk q (Nat.lt_of_lt_of_le h1 r4.1) h2]; exact r4.2.1 q h1 h2, fun q hq => by
      rcases List.mem_append.mp hq with h | h
      · exact r4.2.2 q h
      · exact hL q h⟩
  have k1 := kk T'.heap ls (locs ++ Ls) (cells + (H1.2.1 - H.2.1)) (slots + (H1.2.2 - H.2.2)) (by rw [e1]; exact hR) r2 r3 S1 (by show H1.2.1 = _; omega) (by show H1.2.2 = _; omega)
  obtain ⟨t2, a1, b1⟩ := k1 T' rfl X'
  refine ⟨t2, st t2 ?_, b1⟩
  have e3 : (r.toList ++ rest).map (pi_tv g) = v.toList ++ rest.map (pi_tv g) := by
    rw [List.map_append, hv]
    cases r <;> rfl
  have a2 : Steps p.tables e below (T'.setTop (F0 m (pc + 3) ls ((r.toList ++ rest).map (pi_tv g)))) t2 := a1
  rw [e3] at a2
  exact a2
theorem pi_wsG (C : pi_C g p R s m args meth c M n0) {M' : pi_M} (hc : Cond.code (pm_nm M') (pm_by M') (pm_ml M') (pm_rt M') ∈ lw_tbl ∧ goodWord (.code (pm_nm M') (pm_by M') (pm_ml M') (pm_rt M')) = true) : ∀ w ∈ pi_ws M', ∀ (a' : Array Value) (U : State), s.WarmedH U.vm → w.before a' U = true := by
  intro w hw a' U hW
  have hm : w ∈ lw_tbl ∧ goodWord w = true := by
    rcases List.mem_cons.mp hw with rfl | hw
    · exact hc
    · exact List.mem_filter.mp hw
  exact word_at hW (good_of_word hm.2) (C.2.2.2.2.1 w hm.1 hm.2)
theorem pi_blind {a : List Value} {H : pi_H} : FrameBlind (pi_Pc g a H) := fun a' U gg mk h => ⟨h.1, h.2.1, h.2.2.warm (State.WarmedH.refl U) (fun _ _ _ => rfl)⟩
theorem pi_pre (C : pi_C g p R s m args meth c M n0) {a : List Value} {H : pi_H} {Hp : Heap} {locs : List Loc} (r1 : pi_R g H Hp) (r4 : va_S (pi_A g) s.heap Hp locs) : ∀ U : State, U.heap = Hp → s.WarmedH U.vm → pi_Pc g a H (a.map (pi_tv g)).toArray U :=
  fun U hU hW => ⟨rfl, by rw [hU]; exact r1, C.2.2.2.2.2.1.warm hW (fun q h1 h2 => by rw [hU]; exact r4.2.1 q h1 h2)⟩
/-- a call of any kind, by what the tables say of it -/
theorem pi_n_call {i : Instr} {pc ix : Nat} {L : pi_L} {S : List Value} {H H1 : pi_H} {m' n kd : Nat} {M' : pi_M} {k : Nat} {r : Option Value} (C : pi_C g p R s m args meth c M n0) (hd : decode (pm_by M) pc = .ok (i, 3)) (hl : pi_mlk.lookup (pm_ow M, ix) = some (m', n, kd)) (hM' : pi_tab[m']? = some M')
    (hi : (i = .invokevirtual ix ∧ kd = 0 ∧ k = n + 1 ∧ pi_rcv m' H S[n]? = true) ∨ (i = .invokestatic ix ∧ (kd = 1 ∨ kd = 3) ∧ k = n) ∨ (i = .invokespecial ix ∧ (kd = 2 ∨ kd = 4) ∧ k = n + 1 ∧ pi_rcd S[n]? = true))
    (hrk : pm_rk M' < pm_rk M) (hk : k ≤ S.length) (hcat : pi_cats (S.drop k) ≤ 8)
    (hmet : pi_Met l g M' (S.take k).reverse H r H1) (hmono : H.2.1 ≤ H1.2.1 ∧ H.2.2 ≤ H1.2.2) (hb1 : H1.2.1 ≤ n0 + R.cells) (hb2 : H1.2.2 ≤ z0 + R.slots)
    (kk : pi_W g p l e R s m args below meth c Q M n0 z0 (pc + 3, L, r.toList ++ S.drop k, H1)) : pi_W g p l e R s m args below meth c Q M n0 z0 (pc, L, S, H) := by
  obtain ⟨hx, hbb, hml, ⟨own, ho1, ho2⟩, hts, hE, -, -, -, hfr, hlo, -⟩ := id C
  obtain ⟨ps, hq⟩ := pi_mlk_ok _ (pi_lk_mem hl)
  have base : kd = 0 ∨ kd = 1 ∨ kd = 2 ∨ kd = 3 ∨ kd = 4 := by rcases hi with ⟨-, q, -⟩ | ⟨-, q, -⟩ | ⟨-, q, -⟩ <;> omega
  have hq : (pi_p ps[0]? (.code (pm_nm M') (pm_by M') (pm_ml M') (pm_rt M')) && (pi_p ps[1]? (.initialized (pm_nm M').cls) && (decide (pm_ml M' ≤ 12) && (decide ((pm_nm M').cls ≠ "java/lang/invoke/MethodHandle" ∧ (pm_nm M').cls ≠ "java/lang/invoke/VarHandle" ∧ (parseMethodDescriptor (pm_nm M').desc).map (fun d => d.parameters.length) = some n) && (match kd with
          | 0 => pi_p ps[2]? (.methodLink own ix (pm_nm M')) && (pi_p ps[3]? (.instanceMethod (pm_nm M')) && (pi_p ps[4]? (.selects (pm_nm M').cls (pm_nm M') (pm_nm M')) && decide (pi_own[pm_ow M']? = some (pm_nm M').cls)))
          | 1 => pi_p ps[2]? (.methodLink own ix (pm_nm M')) && pi_p ps[3]? (.static (pm_nm M'))
          | 2 => pi_p ps[2]? (.methodLink own ix (pm_nm M')) && (pi_p ps[3]? (.instanceMethod (pm_nm M')) && decide ((pm_nm M').name = "<init>" ∧ pm_rt M' = none))
          | 3 => pi_pn ps[2]? (.methodLinkNest own ix (pm_nm M') "OrderLevels") && pi_p ps[3]? (.static (pm_nm M'))
          | 4 => pi_pn ps[2]? (.methodLinkNest own ix (pm_nm M') "OrderLevels") && (pi_p ps[3]? (.instanceMethod (pm_nm M')) && decide ((pm_nm M').name = "<init>" ∧ pm_rt M' = none))
          | _ => false))))) = true := by
    unfold pi_mlc at hq
    dsimp only at hq
    rw [ho1] at hq
    rcases base with rfl | rfl | rfl | rfl | rfl <;> (dsimp only at hq; rw [hM'] at hq; exact hq)
  rw [Bool.and_eq_true, Bool.and_eq_true, Bool.and_eq_true, Bool.and_eq_true, decide_eq_true_eq, decide_eq_true_eq] at hq
  obtain ⟨w1, w2, hm12, hdsc, hkd⟩ := hq
  have hcode := pi_p_in w1
  have hini := hts _ (pi_p_in w2).1 (pi_p_in w2).2
  have hlen : ∀ sig, parseMethodDescriptor (pm_nm M').desc = some sig → n = sig.parameters.length := fun sig h => by
    have h2 := hdsc.2.2
    rw [h] at h2
    exact (Option.some.inj h2).symm
  have cb : ∀ (hlk : (Cond.methodLink own ix (pm_nm M')).before args s = true), CallB R s args own ix (pm_nm M') (pm_by M') (pm_ml M') (pm_rt M') (pi_ws M') (pi_rm M' (H1.2.1 - H.2.1) (H1.2.2 - H.2.2)) (H1.2.1 - H.2.1) (H1.2.2 - H.2.2) n := fun hlk =>
    ⟨rfl, rfl, by show pm_rk M' + 1 ≤ R.frames; omega, by show 8 + (pm_ml M' + 11) + 35 * pm_rk M' ≤ R.locals; omega, pi_wsG C hcode, List.mem_cons_self, hts _ hcode.1 hcode.2, hini, ⟨hdsc.1, hdsc.2.1⟩, hlen, hlk⟩
  have cn : ∀ (hlk : (Cond.methodLinkNest own ix (pm_nm M') "OrderLevels").before args s = true), va_CN R s args own ix (pm_nm M') "OrderLevels" (pm_by M') (pm_ml M') (pm_rt M') (pi_ws M') (pi_rm M' (H1.2.1 - H.2.1) (H1.2.2 - H.2.2)) (H1.2.1 - H.2.1) (H1.2.2 - H.2.2) n := fun hlk =>
    ⟨⟨rfl, rfl, by show pm_rk M' + 1 ≤ R.frames; omega, by show 8 + (pm_ml M' + 11) + 35 * pm_rk M' ≤ R.locals; omega, pi_wsG C hcode, List.mem_cons_self⟩, hts _ hcode.1 hcode.2, hini, ⟨hdsc.1, hdsc.2.1⟩, hlen, hlk⟩
  have fx : CallFix p m c (pm_by M) (pm_ml M) s args (lw_tbl.filter goodWord) own := ⟨hx, hbb, hml, ho2, fun w hw => hts w (List.mem_filter.mp hw).1 (List.mem_filter.mp hw).2⟩
  have hcat8 : ∀ ls : Array Slot, 2 * (F0 m pc ls (S.map (pi_tv g))).monitorRoom + (((S.drop k).map (pi_tv g)).map fun v => v.category).sum ≤ 8 := fun ls => by rw [pi_cats_map]; show 2 * 0 + _ ≤ 8; omega
  -- the stack in its parts
  have hst0 : S.map (pi_tv g) = (((S.take n).reverse.map (pi_tv g))).reverse ++ (S.drop n).map (pi_tv g) := by
    rw [← List.map_reverse, List.reverse_reverse, ← List.map_append, List.take_append_drop]
  have hst1 : ∀ a, S[n]? = some a → S.map (pi_tv g) = (((S.take n).reverse.map (pi_tv g))).reverse ++ pi_tv g a :: (S.drop (n + 1)).map (pi_tv g) ∧ (S.take (n + 1)).reverse = a :: (S.take n).reverse := fun a ha => by
    obtain ⟨hlt, hge⟩ := List.getElem?_eq_some_iff.mp ha
    refine ⟨?_, ?_⟩
    · rw [hst0, List.drop_eq_getElem_cons hlt, hge, List.map_cons]
    · rw [List.take_succ, ha]
      simp
  rcases hi with ⟨rfl, rfl, rfl, hrc⟩ | ⟨rfl, hkk, rfl⟩ | ⟨rfl, hkk, rfl, hrc⟩
  · have hkd : (pi_p ps[2]? (.methodLink own ix (pm_nm M')) && (pi_p ps[3]? (.instanceMethod (pm_nm M')) && (pi_p ps[4]? (.selects (pm_nm M').cls (pm_nm M') (pm_nm M')) && decide (pi_own[pm_ow M']? = some (pm_nm M').cls)))) = true := hkd
    rw [Bool.and_eq_true, Bool.and_eq_true, Bool.and_eq_true, decide_eq_true_eq] at hkd
    obtain ⟨v1, v2, v3, v4⟩ := hkd
    unfold pi_rcv at hrc
    split at hrc
    next ad M2 hs hm2 =>
      cases hM'.symm.trans hm2
      obtain ⟨e1, e2⟩ := hst1 _ hs
      rw [e2] at hmet
      refine pi_back (a' := #[]) (S := S) (rest := S.drop (n + 1)) hmono hb1 hb2 (fun Hp ls locs cells slots r1 hsz r4 hf => ?_) kk
      have hrecv : ∃ b, pi_tv g (.ref ad) = .ref b ∧ ∃ cellB : Cell, Hp[b]? = some cellB ∧ cellB.vm.isStatics = false ∧ s.vm.findClass (pm_nm M').cls = some cellB.cls := by
        cases hgo : pi_get H ad with
        | none => rw [hgo] at hrc; cases hrc
        | some x =>
          rw [hgo] at hrc
          cases x with
          | inl z => cases hrc
          | inr o =>
            obtain ⟨ci, fs⟩ := o
            have hci : ci = pm_ow M' := eq_of_beq hrc
            subst hci
            cases hdy : pi_dyn (.inr (pm_ow M', fs)) with
            | true =>
              obtain ⟨d1, d2, d3⟩ := pi_dyn_at r1 hE hgo hdy
              refine ⟨_, pi_tv_dyn d2, ?_⟩
              have hlt6 : pm_ow M' < 6 := of_decide_eq_true hdy
              obtain ⟨y, hy⟩ : ∃ y, pi_cl[pm_ow M']? = some y := ⟨_, List.getElem?_eq_getElem (show pm_ow M' < pi_cl.length from hlt6)⟩
              obtain ⟨cell, c1, c2, c3⟩ := va_recv hE.1 (pi_P1 d3) hy (q0 := 0) rfl
              refine ⟨cell, c1, c2, ?_⟩
              have hnm : y.1 = (pm_nm M').cls := by
                have : ∀ j, j < 6 → (pi_cl[j]?).map (fun y => y.1) = pi_own[j]? := by decide +kernel
                have h3 := this _ hlt6
                rw [hy, v4] at h3
                exact Option.some.inj h3
              rw [← hnm]
              exact c3
            | false =>
              obtain ⟨d2, d3⟩ := pi_sta_at r1 hE hgo hdy
              rcases d3 with ⟨_, _, _, q1, -⟩ | ⟨_, _, _, q1, -⟩ | ⟨w, a', av, q1, q2, q3, q4, q5, -⟩
              · cases q1
              · cases q1
              · have h7 : pm_ow M' = 7 := by injection q1 with q1; exact (Prod.mk.inj q1).1
                refine ⟨a', pi_tv_st d2 q2, ?_⟩
                obtain ⟨cell, c1, c2, c3, c4⟩ := q5.kept r4.2.1
                have hnm : (pm_nm M').cls = "java/lang/String" := by
                  rw [h7] at v4
                  exact (Option.some.inj v4).symm
                rw [hnm]
                exact ⟨cell, c1, c2, c3⟩
      obtain ⟨b, hb, hcell⟩ := hrecv
      rw [hb] at e1
      have hM0 : Met l (pm_nm M') (pi_ws M') (pi_rm M' (H1.2.1 - H.2.1) (H1.2.2 - H.2.2)) (pi_Pc g (.ref ad :: (S.take n).reverse) H) (pi_Q g r H1) (H1.2.1 - H.2.1) (H1.2.2 - H.2.2) (pi_A g) := hmet
      have hpre := pi_pre C (a := .ref ad :: (S.take n).reverse) r1 r4
      rw [List.map_cons, hb] at hpre
      exact va_runV (C := (pm_nm M').cls) fx hM0 ⟨cb (hts _ (pi_p_in v1).1 (pi_p_in v1).2), hts _ (pi_p_in v2).1 (pi_p_in v2).2, hts _ (pi_p_in v3).1 (pi_p_in v3).2⟩ ⟨pi_blind, hcell, hpre⟩ rfl (by simp; omega) hsz e1 (hcat8 ls) hd hf
    next => cases hrc
  · have hM0 : Met l (pm_nm M') (pi_ws M') (pi_rm M' (H1.2.1 - H.2.1) (H1.2.2 - H.2.2)) (pi_Pc g (S.take k).reverse H) (pi_Q g r H1) (H1.2.1 - H.2.1) (H1.2.2 - H.2.2) (pi_A g) := hmet
    refine pi_back (a' := #[]) (S := S) (rest := S.drop k) hmono hb1 hb2 (fun Hp ls locs cells slots r1 hsz r4 hf => ?_) kk
    have hpre := pi_pre C (a := (S.take k).reverse) r1 r4
    rcases hkk with rfl | rfl
    · have hkd : (pi_p ps[2]? (.methodLink own ix (pm_nm M')) && pi_p ps[3]? (.static (pm_nm M'))) = true := hkd
      rw [Bool.and_eq_true] at hkd
      obtain ⟨v1, v2⟩ := hkd
      exact va_runS (As := (S.take k).reverse.map (pi_tv g)) fx hM0 ⟨cb (hts _ (pi_p_in v1).1 (pi_p_in v1).2), hts _ (pi_p_in v2).1 (pi_p_in v2).2⟩ ⟨pi_blind, hpre⟩ rfl (by simp; omega) hsz hst0 (hcat8 ls) hd hf
    · have hkd : (pi_pn ps[2]? (.methodLinkNest own ix (pm_nm M') "OrderLevels") && pi_p ps[3]? (.static (pm_nm M'))) = true := hkd
      rw [Bool.and_eq_true] at hkd
      obtain ⟨v1, v2⟩ := hkd
      exact va_runSN (As := (S.take k).reverse.map (pi_tv g)) (host := "OrderLevels") fx hM0 ⟨cn (va_Nw.use rfl (hE.2.1 own ix _ (pi_pn_in v1))), hts _ (pi_p_in v2).1 (pi_p_in v2).2, trivial⟩ ⟨pi_blind, hpre⟩ rfl (by simp; omega) hsz hst0 (hcat8 ls) hd hf
  · unfold pi_rcd at hrc
    split at hrc
    next ad hs =>
      have had : ad < 1000000 := of_decide_eq_true hrc
      obtain ⟨e1, e2⟩ := hst1 _ hs
      rw [e2] at hmet
      rw [pi_tv_dyn had] at e1
      refine pi_back (a' := #[]) (S := S) (rest := S.drop (n + 1)) hmono hb1 hb2 (fun Hp ls locs cells slots r1 hsz r4 hf => ?_) kk
      have hM0 : Met l (pm_nm M') (pi_ws M') (pi_rm M' (H1.2.1 - H.2.1) (H1.2.2 - H.2.2)) (pi_Pc g (.ref ad :: (S.take n).reverse) H) (pi_Q g r H1) (H1.2.1 - H.2.1) (H1.2.2 - H.2.2) (pi_A g) := hmet
      have hpre := pi_pre C (a := .ref ad :: (S.take n).reverse) r1 r4
      rw [List.map_cons, pi_tv_dyn had] at hpre
      rcases hkk with rfl | rfl
      · have hkd : (pi_p ps[2]? (.methodLink own ix (pm_nm M')) && (pi_p ps[3]? (.instanceMethod (pm_nm M')) && decide ((pm_nm M').name = "<init>" ∧ pm_rt M' = none))) = true := hkd
        rw [Bool.and_eq_true, Bool.and_eq_true, decide_eq_true_eq] at hkd
        obtain ⟨v1, v2, v3, v4⟩ := hkd
        have cb0 := cb (hts _ (pi_p_in v1).1 (pi_p_in v1).2)
        rw [v4] at cb0
        exact va_runI fx hM0 ⟨cb0, v3, hts _ (pi_p_in v2).1 (pi_p_in v2).2⟩ ⟨pi_blind, hpre⟩ rfl (by simp; omega) hsz e1 (hcat8 ls) hd hf
      · have hkd : (pi_pn ps[2]? (.methodLinkNest own ix (pm_nm M') "OrderLevels") && (pi_p ps[3]? (.instanceMethod (pm_nm M')) && decide ((pm_nm M').name = "<init>" ∧ pm_rt M' = none))) = true := hkd
        rw [Bool.and_eq_true, Bool.and_eq_true, decide_eq_true_eq] at hkd
        obtain ⟨v1, v2, v3, v4⟩ := hkd
        have cn0 := cn (va_Nw.use rfl (hE.2.1 own ix _ (pi_pn_in v1)))
        rw [v4] at cn0
        exact va_runIN (host := "OrderLevels") fx hM0 ⟨cn0, v3, hts _ (pi_p_in v2).1 (pi_p_in v2).2⟩ ⟨pi_blind, hpre⟩ rfl (by simp; omega) hsz e1 (hcat8 ls) hd hf
    next => cases hrc
end PIG
end
section
-- PART 06h: the machine does what the pure interpreter computes
theorem pi_ins_mono {M : pi_M} {i : Instr} {len pc : Nat} {L : pi_L} {S : List Value} {H : pi_H} {F : pi_F} (h : pi_ins M i len pc L S H = some (.inl F)) : H.2.1 ≤ F.2.2.2.2.1 ∧ H.2.2 ≤ F.2.2.2.2.2 := by
  have go : ∀ {pc : Nat} {L : pi_L} {S : List Value} {H' : pi_H}, H.2.1 ≤ H'.2.1 ∧ H.2.2 ≤ H'.2.2 → pi_go pc L S H' = some (.inl F) → H.2.1 ≤ F.2.2.2.2.1 ∧ H.2.2 ≤ F.2.2.2.2.2 := fun q h => by
    obtain rfl := pi_go_spec h
    exact q
  have r0 : H.2.1 ≤ H.2.1 ∧ H.2.2 ≤ H.2.2 := ⟨Nat.le_refl _, Nat.le_refl _⟩
  have gi : ∀ {pc : Nat} {off : Int} {L : pi_L} {S : List Value}, pi_gi pc off L S H = some (.inl F) → H.2.1 ≤ F.2.2.2.2.1 ∧ H.2.2 ≤ F.2.2.2.2.2 := fun h => by
    obtain ⟨tgt, -, rfl⟩ := pi_gi_spec h
    exact r0
  have br : ∀ {b : Bool} {pc : Nat} {off : Int} {L : pi_L} {S : List Value}, pi_br b pc off L S H = some (.inl F) → H.2.1 ≤ F.2.2.2.2.1 ∧ H.2.2 ≤ F.2.2.2.2.2 := fun h => by
    unfold pi_br at h
    split at h
    · split at h <;> exact go r0 h
    · cases h
  have asx : ∀ {kd pc : Nat} {L : pi_L}, pi_asx S H kd pc L = some (.inl F) → H.2.1 ≤ F.2.2.2.2.1 ∧ H.2.2 ≤ F.2.2.2.2.2 := fun h => by
    obtain ⟨v, i, a, r, H', -, h2, rfl⟩ := pi_asx_spec h
    rcases pi_as_spec h2 with ⟨t, n, f, x, -, -, -, ⟨-, -, rfl⟩ | ⟨-, -, rfl⟩⟩ | ⟨t, n, f, x, -, -, -, -, -, rfl⟩ | ⟨t, n, f, x, -, -, -, -, -, -, rfl⟩ <;> exact r0
  have c1 : ∀ {m' k pc : Nat} {L : pi_L} {S : List Value}, pi_cl1 M m' k pc L S H = some (.inl F) → False := fun h => by
    unfold pi_cl1 at h
    split at h
    · cases h
    · have := (pi_g_spec h).2
      cases this
  unfold pi_ins at h
  split at h
  all_goals first
    | (cases h; done)
    | (have h := (pi_g_spec h).2
       first
         | exact go r0 h
         | (split at h <;> first | (cases h; done) | exact go r0 h | exact go r0 (pi_g_spec h).2)
         | (unfold pi_ld1 at h; split at h <;> first | (cases h; done) | exact go r0 h)
         | (unfold pi_sti at h; split at h <;> first | (cases h; done) | exact go r0 (pi_g_spec h).2)
         | (unfold pi_stl at h; split at h <;> first | (cases h; done) | exact go r0 (pi_g_spec h).2)
         | (unfold pi_sta at h; split at h <;> first | (cases h; done) | exact go r0 (pi_g_spec h).2)
         | (obtain ⟨S', -, rfl⟩ := pi_nx_spec h; exact r0)
         | exact gi h)
    | skip
  · have h := (pi_g_spec h).2
    split at h
    · exact br h
    · cases h
  · have h := (pi_g_spec h).2
    split at h
    · exact br h
    · cases h
  · split at h
    · split at h
      · exact gi h
      · split at h
        · exact gi h
        · cases h
    · cases h
  · have h := (pi_g_spec h).2
    split at h
    · exact gi h
    · cases h
  · have h := (pi_g_spec h).2
    split at h
    · have h := (pi_g_spec h).2
      cases h
    · cases h
  · have h := (pi_g_spec h).2
    split at h
    · unfold pi_ld1 at h
      split at h
      · exact go r0 h
      · cases h
    · cases h
  · have h := (pi_g_spec h).2
    split at h
    · have h := (pi_g_spec h).2
      split at h
      next H' hpf =>
        unfold pi_pf at hpf
        split at hpf
        · split at hpf
          · cases hpf
            refine go ?_ h
            exact r0
          · cases hpf
        · cases hpf
      next => cases h
    · cases h
  · exact asx (pi_g_spec h).2
  · exact asx (pi_g_spec h).2
  · exact asx (pi_g_spec h).2
  · exact asx (pi_g_spec h).2
  · have h := (pi_g_spec h).2
    split at h
    · split at h
      · exact go r0 h
      · cases h
    · cases h
  · have h := (pi_g_spec h).2
    split at h
    · split at h
      · exact go ⟨Nat.le_succ _, Nat.le_add_right _ _⟩ (pi_g_spec h).2
      · cases h
    · cases h
  · have h := (pi_g_spec h).2
    split at h
    · split at h
      · exact go ⟨Nat.le_succ _, Nat.le_add_right _ _⟩ (pi_g_spec h).2
      · cases h
    · cases h
  · have h := (pi_g_spec h).2
    split at h
    · exact go ⟨Nat.le_succ _, Nat.le_add_right _ _⟩ (pi_g_spec h).2
    · cases h
  · have h := (pi_g_spec h).2
    split at h
    · split at h
      · split at h
        · refine go ⟨?_, ?_⟩ (pi_g_spec h).2
          · show H.2.1 ≤ H.2.1 + 1 + _; omega
          · show H.2.2 ≤ H.2.2 + _ + _; omega
        · cases h
      · cases h
    · cases h
  · have h := (pi_g_spec h).2
    unfold pi_inv at h
    split at h
    · exact (c1 (pi_g_spec h).2).elim
    · cases h
  · have h := (pi_g_spec h).2
    unfold pi_inv at h
    split at h
    · simp only [Bool.false_eq_true, if_false] at h
      split at h
      · exact (c1 (pi_g_spec h).2).elim
      · exact (c1 (pi_g_spec h).2).elim
      · split at h
        · exact go r0 (pi_g_spec h).2
        · cases h
      · cases h
    · cases h
  · have h := (pi_g_spec h).2
    unfold pi_ivs at h
    split at h
    · split at h
      · exact (c1 h).elim
      · exact (c1 h).elim
      · split at h
        · split at h
          · refine go ?_ (pi_g_spec h).2
            exact r0
          · cases h
        · cases h
      · cases h
    · cases h
/-- what isn't a call nor a return stays in the frame -/
theorem pi_ins_inl {M : pi_M} {i : Instr} {len pc : Nat} {L : pi_L} {S : List Value} {H : pi_H} {z} (h : pi_ins M i len pc L S H = some (.inr z)) : (∃ ix, i = .invokespecial ix ∨ i = .invokestatic ix ∨ i = .invokevirtual ix) ∨ i = .ireturn ∨ i = .lreturn ∨ i = .areturn ∨ i = .return_ := by
  have go : ∀ {pc : Nat} {L : pi_L} {S : List Value} {H' : pi_H}, pi_go pc L S H' = some (.inr z) → False := fun h => by
    unfold pi_go at h
    cases h
  have gi : ∀ {pc : Nat} {off : Int} {L : pi_L} {S : List Value}, pi_gi pc off L S H = some (.inr z) → False := fun h => by
    unfold pi_gi at h
    split at h
    · exact go h
    · cases h
  have br : ∀ {b : Bool} {pc : Nat} {off : Int} {L : pi_L} {S : List Value}, pi_br b pc off L S H = some (.inr z) → False := fun h => by
    unfold pi_br at h
    split at h
    · split at h <;> exact go h
    · cases h
  have asx : ∀ {kd pc : Nat} {L : pi_L}, pi_asx S H kd pc L = some (.inr z) → False := fun h => by
    unfold pi_asx at h
    split at h
    · split at h
      · exact go h
      · cases h
    · cases h
  have nx : ∀ {S' : Option (List Value)} {pc : Nat} {L : pi_L}, pi_nx S' pc L H = some (.inr z) → False := fun h => by
    unfold pi_nx at h
    split at h
    · exact go h
    · cases h
  unfold pi_ins at h
  split at h
  all_goals first
    | (cases h; done)
    | exact Or.inl ⟨_, Or.inl rfl⟩
    | exact Or.inl ⟨_, Or.inr (Or.inl rfl)⟩
    | exact Or.inl ⟨_, Or.inr (Or.inr rfl)⟩
    | exact Or.inr (Or.inl rfl)
    | exact Or.inr (Or.inr (Or.inl rfl))
    | exact Or.inr (Or.inr (Or.inr (Or.inl rfl)))
    | exact Or.inr (Or.inr (Or.inr (Or.inr rfl)))
    | (exfalso
       have h := (pi_g_spec h).2
       first
         | exact go h
         | exact nx h
         | exact asx h
         | exact gi h
         | (split at h <;> first | (cases h; done) | exact go h | exact br h | exact gi h | exact go (pi_g_spec h).2)
         | (unfold pi_ld1 at h; split at h <;> first | (cases h; done) | exact go h)
         | (unfold pi_sti at h; split at h <;> first | (cases h; done) | exact go (pi_g_spec h).2)
         | (unfold pi_stl at h; split at h <;> first | (cases h; done) | exact go (pi_g_spec h).2)
         | (unfold pi_sta at h; split at h <;> first | (cases h; done) | exact go (pi_g_spec h).2)
         | (split at h <;> first | (cases h; done) | (split at h <;> first | (cases h; done) | exact go h | exact go (pi_g_spec h).2 | (split at h <;> first | (cases h; done) | exact go (pi_g_spec h).2)) | (have h := (pi_g_spec h).2; split at h <;> first | (cases h; done) | exact go h) | (unfold pi_ld1 at h; split at h <;> first | (cases h; done) | exact go h)))
    | (exfalso
       split at h <;> first | (cases h; done) | (split at h <;> first | exact gi h | (split at h <;> first | exact gi h | (cases h; done))))
end
section
-- PART 06i: the main theorem of the pure interpreter
section PII
variable {g : pi_G} {p : Program} {l : Launch} {e : Env} {R : Room} {s : State} {m : MethodId} {args : Array Value} {below : List Frame} {meth : Method} {c : Code} {Q : State → Prop} {M : pi_M} {n0 z0 : Nat}
theorem pi_n_copy {pc ix m' n9 a b n0' n1 : Nat} {f f1 : Nat → Int32} {n dp sp : Int32} {L : pi_L} {r : List Value} {H : pi_H} (C : pi_C g p R s m args meth c M n0) (hd : decode (pm_by M) pc = .ok (.invokestatic ix, 3)) (hl : pi_mlk.lookup (pm_ow M, ix) = some (m', n9, 6))
    (ha : pi_get H a = some (.inl (0, n0', .inl f))) (hb : pi_get H b = some (.inl (0, n1, .inl f1))) (har : pi_arr f f1 n0' n1 sp dp n = true) (hr : 1 ≤ pm_rk M) (hc : pi_cats r ≤ 8)
    (kk : pi_W g p l e R s m args below meth c Q M n0 z0 (pc + 3, L, r, pi_set H b (.inl (0, n1, .inl (va_cpy f f1 sp.toNatClampNeg dp.toNatClampNeg n.toNatClampNeg))))) : pi_W g p l e R s m args below meth c Q M n0 z0 (pc, L, .int n :: .int dp :: .ref b :: .int sp :: .ref a :: r, H) := by
  obtain ⟨hx, hbb, hml, ⟨own, ho1, ho2⟩, hts, hE, -, -, -, hfr, hlo, -⟩ := id C
  obtain ⟨ps, hq⟩ := pi_mlk_ok _ (pi_lk_mem hl)
  unfold pi_mlc at hq
  dsimp only at hq
  rw [ho1] at hq
  have hq : (pi_p ps[0]? (.methodLink own ix arraycopyName) && (pi_p ps[1]? (.native arraycopyName) && (pi_p ps[2]? (.static arraycopyName) && pi_p ps[3]? (.initialized "java/lang/System")))) = true := hq
  rw [Bool.and_eq_true, Bool.and_eq_true, Bool.and_eq_true] at hq
  obtain ⟨q1, q2, q3, q4⟩ := hq
  have q1 := hts _ (pi_p_in q1).1 (pi_p_in q1).2
  have q2 := hts _ (pi_p_in q2).1 (pi_p_in q2).2
  have q3 := hts _ (pi_p_in q3).1 (pi_p_in q3).2
  have q4 := hts _ (pi_p_in q4).1 (pi_p_in q4).2
  unfold pi_arr at har
  rw [Bool.and_eq_true, Bool.and_eq_true, Bool.and_eq_true, Bool.and_eq_true, Bool.not_eq_true', Bool.not_eq_true', Bool.not_eq_true', decide_eq_false_iff_not, decide_eq_false_iff_not, decide_eq_false_iff_not, decide_eq_true_eq, decide_eq_true_eq] at har
  obtain ⟨⟨⟨⟨h1, h2⟩, h3⟩, h4⟩, h5⟩ := har
  have nn : ∀ z : Int32, ¬ z < 0 → z.toInt = (z.toNatClampNeg : Int) := by
    intro z hz
    have hz0 : (0 : Int) ≤ z.toInt := by
      have := Int32.not_lt.mp hz
      simpa using Int32.le_iff_toInt_le.mp this
    show z.toInt = ((z.toInt.toNat : Nat) : Int)
    omega
  intro Hp ls locs cells slots r1 r2 r3 r4 r5 r6
  obtain ⟨a1, a2, a3⟩ := pi_dyn_at r1 hE ha rfl
  obtain ⟨b1, b2, b3⟩ := pi_dyn_at r1 hE hb rfl
  show W p l e R s m args below meth c Hp locs cells slots Q (F0 m pc ls (.int n :: .int dp :: pi_tv g (.ref b) :: .int sp :: pi_tv g (.ref a) :: r.map (pi_tv g)))
  rw [pi_tv_dyn a2, pi_tv_dyn b2]
  intro T hT X
  have hc0 : Hp[pi_B g + a]? = some (vp_cell (g.2.1 0) (n0', .inl f)) := a3
  have hc1 : Hp[pi_B g + b]? = some (vp_cell (g.2.1 0) (n1, .inl f1)) := b3
  obtain ⟨-, k0, hk0, cm0, hkk0⟩ := (hE.1.2 0 _ rfl).1 n0' (fun j => .int (f j))
  obtain ⟨vm', X', step⟩ := X.arraycopy hx ho2 q1 q2 q3 q4 (src := pi_B g + a) (dst := pi_B g + b) (cs := vp_cell (g.2.1 0) (n0', .inl f)) (cd := vp_cell (g.2.1 0) (n1, .inl f1)) (srcPos := sp) (destPos := dp) (n := n) (by rw [hT]; exact hc0) (by rw [hT]; exact hc1)
    (fun _ h => by cases h) (fun _ h => by cases h) (fun h => by cases h) (fun h => by cases h) hk0 hk0 hkk0 hkk0 (by simp [refKind]) h1 h2 h3
    (by rw [nn sp h1, nn n h3]; show ¬ _ > ((arrV (g.2.1 0) n0' (fun j => .int (f j))).slots.size : Int); rw [arrV_size]; omega)
    (by rw [nn dp h2, nn n h3]; show ¬ _ > ((arrV (g.2.1 0) n1 (fun j => .int (f1 j))).slots.size : Int); rw [arrV_size]; omega)
    (fun vm₁ _ i hi => by
      have e : (vp_cell (g.2.1 0) (n0', .inl f)).slots.getD (sp.toNatClampNeg + i) .null = .int (f (sp.toNatClampNeg + i)) := by
        show (arrV (g.2.1 0) n0' (fun j => .int (f j))).slots.getD _ _ = _
        rw [Array.getD_eq_getD_getElem?, arrV_read _ _ (by omega)]
        rfl
      refine ⟨?_, ?_⟩
      · rw [e]
        rfl
      · rw [e]
        exact trivial)
    (g := F0 m pc ls (.int n :: .int dp :: .ref (pi_B g + b) :: .int sp :: .ref (pi_B g + a) :: r.map (pi_tv g))) rfl (by rw [hml]; exact r2.1) (rest := r.map (pi_tv g)) rfl (by rw [hbb]; exact hd) (Nat.le_trans hr hfr) (by
      rw [pi_cats_map]
      have : nativeFrameWords "java/lang/System" "arraycopy" 5 = 7 := by decide +kernel
      rw [this]
      show 2 * 0 + pi_cats r + (7 + 11) ≤ R.locals
      omega)
  have e1 : copied (vp_cell (g.2.1 0) (n0', .inl f)) (vp_cell (g.2.1 0) (n1, .inl f1)) sp dp n = vp_cell (g.2.1 0) (n1, .inl (va_cpy f f1 sp.toNatClampNeg dp.toNatClampNeg n.toNatClampNeg)) := va_copied (fun z => .int z) (g.2.1 0) (g.2.1 0) f f1 h4
  rw [e1] at X' step
  have hlt : pi_B g + b < Hp.size := (Array.getElem?_eq_some_iff.mp hc1).1
  have hheap : ((T.setVm vm').setCell (pi_B g + b) (vp_cell (g.2.1 0) (n1, .inl (va_cpy f f1 sp.toNatClampNeg dp.toNatClampNeg n.toNatClampNeg)))).heap = Hp.setIfInBounds (pi_B g + b) (vp_cell (g.2.1 0) (n1, .inl (va_cpy f f1 sp.toNatClampNeg dp.toNatClampNeg n.toNatClampNeg))) := by rw [← hT]; rfl
  have oq : ∀ q : Nat, q ≠ pi_B g + b → (Hp.setIfInBounds (pi_B g + b) (vp_cell (g.2.1 0) (n1, .inl (va_cpy f f1 sp.toNatClampNeg dp.toNatClampNeg n.toNatClampNeg))))[q]? = Hp[q]? := fun q hq => by simp [Array.getElem?_setIfInBounds, Ne.symm hq]
  have r1' : pi_R g (pi_set H b (.inl (0, n1, .inl (va_cpy f f1 sp.toNatClampNeg dp.toNatClampNeg n.toNatClampNeg)))) (Hp.setIfInBounds (pi_B g + b) (vp_cell (g.2.1 0) (n1, .inl (va_cpy f f1 sp.toNatClampNeg dp.toNatClampNeg n.toNatClampNeg)))) := by
    refine pi_te_at r1 b1 rfl (by simp) oq ?_
    show (Hp.setIfInBounds (pi_B g + b) _)[pi_B g + b]? = some (vp_cell _ _)
    simp [Array.getElem?_setIfInBounds, hlt]
  obtain ⟨t, t1, t2⟩ := kk _ ls _ cells slots r1' r2 r3 ⟨by simp; exact r4.1, fun q g1 g2 => by
      rw [oq q (fun e => g2 (by rw [e]; exact pi_dynA b))]
      exact r4.2.1 q g1 g2, fun q hq => by
      rcases List.mem_append.mp hq with h | h
      · exact r4.2.2 q h
      · obtain ⟨z, -, hz⟩ := List.mem_map.mp h
        rw [← hz]
        exact pi_dynA b⟩ r5 r6 _ hheap X'
  exact ⟨t, step t t1, t2⟩
/-- what an invocation that stays in the frame is: Object's constructor, arraycopy -/
theorem pi_next2 {i : Instr} {len pc : Nat} {L : pi_L} {S : List Value} {H : pi_H} {F : pi_F} (C : pi_C g p R s m args meth c M n0) (hd : decode (pm_by M) pc = .ok (i, len)) (h : pi_ins M i len pc L S H = some (.inl F)) (hb1 : F.2.2.2.2.1 ≤ n0 + R.cells) (hb2 : F.2.2.2.2.2 ≤ z0 + R.slots)
    (kk : pi_W g p l e R s m args below meth c Q M n0 z0 F) : pi_W g p l e R s m args below meth c Q M n0 z0 (pc, L, S, H) := by
  have c1 : ∀ {m' k pc : Nat} {L : pi_L} {S : List Value}, pi_cl1 M m' k pc L S H = some (.inl F) → False := fun h => by
    unfold pi_cl1 at h
    split at h
    · cases h
    · have := (pi_g_spec h).2
      cases this
  by_cases hiv : (∀ x, i ≠ .invokespecial x) ∧ (∀ x, i ≠ .invokestatic x) ∧ (∀ x, i ≠ .invokevirtual x)
  · exact pi_next C hd h hb1 hb2 hiv kk
  · cases i
    case invokespecial ix =>
      have h9 := pi_g_spec h
      have hb := eq_of_beq h9.1
      subst hb
      replace h := h9.2
      clear h9
      unfold pi_inv at h
      split at h
      next m' n kd hl =>
        simp only [Bool.false_eq_true, if_false] at h
        split at h
        · exact (c1 (pi_g_spec h).2).elim
        · exact (c1 (pi_g_spec h).2).elim
        · split at h
          · exact pi_n_oin C hd hl h kk
          · cases h
        · cases h
      next => cases h
    case invokestatic ix =>
      have h9 := pi_g_spec h
      have hb := eq_of_beq h9.1
      subst hb
      replace h := h9.2
      clear h9
      unfold pi_ivs at h
      split at h
      next m' n kd hl =>
        split at h
        · exact (c1 h).elim
        · exact (c1 h).elim
        · split at h
          next n9 dp b sp a r =>
            split at h
            next t0 n0' f t1 n1 f1 ha hb =>
              obtain ⟨hq, h1⟩ := pi_g_spec h
              rw [Bool.and_eq_true, Bool.and_eq_true, Bool.and_eq_true, Bool.and_eq_true, beq_iff_eq, beq_iff_eq, decide_eq_true_eq, decide_eq_true_eq] at hq
              obtain ⟨⟨⟨⟨rfl, rfl⟩, har⟩, hr⟩, hc⟩ := hq
              obtain rfl := pi_go_spec h1
              exact pi_n_copy C hd hl ha hb har hr hc kk
            next => cases h
          next => cases h
        · cases h
      next => cases h
    case invokevirtual ix =>
      obtain ⟨hb, h⟩ := pi_g_spec h
      unfold pi_inv at h
      split at h
      · exact (c1 (pi_g_spec h).2).elim
      · cases h
    all_goals exact (hiv ⟨fun x q => (by cases q), fun x q => (by cases q), fun x q => (by cases q)⟩).elim
theorem pi_cl1_spec {m' k pc : Nat} {L : pi_L} {S : List Value} {H : pi_H} {m2 : Nat} {a : List Value} {F : pi_F} (h : pi_cl1 M m' k pc L S H = some (.inr (.inr (m2, a, F)))) : ∃ M', pi_tab[m']? = some M' ∧ m2 = m' ∧ a = (S.take k).reverse ∧ F = (pc + 3, L, S.drop k, H) ∧ pm_rk M' < pm_rk M ∧ k ≤ S.length ∧ pi_cats (S.drop k) ≤ 8 ∧ (pi_l0 (S.take k).reverse).length ≤ pm_ml M' := by
  unfold pi_cl1 at h
  split at h
  · cases h
  next M' hM =>
    obtain ⟨hq, h1⟩ := pi_g_spec h
    rw [Bool.and_eq_true, Bool.and_eq_true, Bool.and_eq_true, decide_eq_true_eq, decide_eq_true_eq, decide_eq_true_eq, decide_eq_true_eq] at hq
    cases h1
    exact ⟨M', hM, rfl, rfl, rfl, hq.1.1.1, hq.1.1.2, hq.1.2, hq.2⟩
/-- a call of an own method: which, and what the tables know of it -/
theorem pi_call_spec {i : Instr} {len pc : Nat} {L : pi_L} {S : List Value} {H : pi_H} {m2 : Nat} {a : List Value} {F : pi_F} (h : pi_ins M i len pc L S H = some (.inr (.inr (m2, a, F)))) : ∃ ix n kd k M', len = 3 ∧ pi_mlk.lookup (pm_ow M, ix) = some (m2, n, kd) ∧ pi_tab[m2]? = some M' ∧
    ((i = .invokevirtual ix ∧ kd = 0 ∧ k = n + 1 ∧ pi_rcv m2 H S[n]? = true) ∨ (i = .invokestatic ix ∧ (kd = 1 ∨ kd = 3) ∧ k = n) ∨ (i = .invokespecial ix ∧ (kd = 2 ∨ kd = 4) ∧ k = n + 1 ∧ pi_rcd S[n]? = true)) ∧
    a = (S.take k).reverse ∧ F = (pc + 3, L, S.drop k, H) ∧ pm_rk M' < pm_rk M ∧ k ≤ S.length ∧ pi_cats (S.drop k) ≤ 8 ∧ (pi_l0 (S.take k).reverse).length ≤ pm_ml M' := by
  have go : ∀ {pc : Nat} {L : pi_L} {S : List Value} {H' : pi_H}, pi_go pc L S H' = some (.inr (.inr (m2, a, F))) → False := fun h => by
    unfold pi_go at h
    cases h
  rcases pi_ins_inl h with ⟨ix, rfl | rfl | rfl⟩ | rfl | rfl | rfl | rfl
  · have h9 := pi_g_spec h
    have hb := eq_of_beq h9.1
    subst hb
    replace h := h9.2
    clear h9
    unfold pi_inv at h
    split at h
    next m' n kd hl =>
      simp only [Bool.false_eq_true, if_false] at h
      split at h
      · obtain ⟨hr, h1⟩ := pi_g_spec h
        obtain ⟨M', q1, rfl, q2⟩ := pi_cl1_spec h1
        exact ⟨ix, n, 2, n + 1, M', rfl, hl, q1, Or.inr (Or.inr ⟨rfl, Or.inl rfl, rfl, hr⟩), q2⟩
      · obtain ⟨hr, h1⟩ := pi_g_spec h
        obtain ⟨M', q1, rfl, q2⟩ := pi_cl1_spec h1
        exact ⟨ix, n, 4, n + 1, M', rfl, hl, q1, Or.inr (Or.inr ⟨rfl, Or.inr rfl, rfl, hr⟩), q2⟩
      · split at h
        · exact (go (pi_g_spec h).2).elim
        · cases h
      · cases h
    next => cases h
  · have h9 := pi_g_spec h
    have hb := eq_of_beq h9.1
    subst hb
    replace h := h9.2
    clear h9
    unfold pi_ivs at h
    split at h
    next m' n kd hl =>
      split at h
      · obtain ⟨M', q1, rfl, q2⟩ := pi_cl1_spec h
        exact ⟨ix, n, 1, n, M', rfl, hl, q1, Or.inr (Or.inl ⟨rfl, Or.inl rfl, rfl⟩), q2⟩
      · obtain ⟨M', q1, rfl, q2⟩ := pi_cl1_spec h
        exact ⟨ix, n, 3, n, M', rfl, hl, q1, Or.inr (Or.inl ⟨rfl, Or.inr rfl, rfl⟩), q2⟩
      · split at h
        · split at h
          · exact (go (pi_g_spec h).2).elim
          · cases h
        · cases h
      · cases h
    next => cases h
  · have h9 := pi_g_spec h
    have hb := eq_of_beq h9.1
    subst hb
    replace h := h9.2
    clear h9
    unfold pi_inv at h
    split at h
    next m' n kd hl =>
      obtain ⟨hr, h1⟩ := pi_g_spec h
      rw [Bool.and_eq_true, beq_iff_eq] at hr
      obtain ⟨rfl, hr⟩ := hr
      obtain ⟨M', q1, rfl, q2⟩ := pi_cl1_spec h1
      exact ⟨ix, n, 0, n + 1, M', rfl, hl, q1, Or.inl ⟨rfl, rfl, rfl, hr⟩, q2⟩
    next => cases h
  · have h := (pi_g_spec h).2
    split at h
    · have h := (pi_g_spec h).2
      cases h
    · cases h
  · have h := (pi_g_spec h).2
    split at h <;> cases h
  · have h := (pi_g_spec h).2
    split at h <;> cases h
  · have h := (pi_g_spec h).2
    split at h <;> cases h
end PII
end
section
-- PART 06j: whatever the pure interpreter comes to, the machine comes to
theorem pi_run_heap : ∀ (n m : Nat) (F : pi_F) (r : Option Value) (H' : pi_H), pi_run n m F = some (r, H') → F.2.2.2.2.1 ≤ H'.2.1 ∧ F.2.2.2.2.2 ≤ H'.2.2 := by
  intro n
  induction n with
  | zero => intro m F r H' h; cases h
  | succ n ih =>
    intro m F r H' h
    rw [pi_run] at h
    cases hs : pi_step m F with
    | none => rw [hs] at h; cases h
    | some o =>
      rw [hs] at h
      unfold pi_step at hs
      split at hs
      · cases hs
      next M hM =>
        split at hs
        next i len hd =>
          match o, h, hs with
          | .inl F', h, hs =>
            have h1 := pi_ins_mono hs
            have h2 := ih m F' r H' h
            exact ⟨Nat.le_trans h1.1 h2.1, Nat.le_trans h1.2 h2.2⟩
          | .inr (.inl q), h, hs =>
            cases h
            have : H' = F.2.2.2 := by
              rcases pi_ins_inl hs with ⟨ix, q⟩ | rfl | rfl | rfl | rfl
              · exfalso
                rcases q with rfl | rfl | rfl
                · have h := (pi_g_spec hs).2
                  unfold pi_inv at h
                  split at h
                  · simp only [Bool.false_eq_true, if_false] at h
                    have c1 : ∀ {m' k pc : Nat} {L : pi_L} {S : List Value} {H : pi_H} {z}, pi_cl1 M m' k pc L S H = some (.inr (.inl z)) → False := fun h => by
                      unfold pi_cl1 at h
                      split at h
                      · cases h
                      · have := (pi_g_spec h).2
                        cases this
                    split at h
                    · exact c1 (pi_g_spec h).2
                    · exact c1 (pi_g_spec h).2
                    · split at h
                      · have := (pi_g_spec h).2
                        unfold pi_go at this
                        cases this
                      · cases h
                    · cases h
                  · cases h
                · have h := (pi_g_spec hs).2
                  unfold pi_ivs at h
                  split at h
                  · have c1 : ∀ {m' k pc : Nat} {L : pi_L} {S : List Value} {H : pi_H} {z}, pi_cl1 M m' k pc L S H = some (.inr (.inl z)) → False := fun h => by
                      unfold pi_cl1 at h
                      split at h
                      · cases h
                      · have := (pi_g_spec h).2
                        cases this
                    split at h
                    · exact c1 h
                    · exact c1 h
                    · split at h
                      · split at h
                        · have := (pi_g_spec h).2
                          unfold pi_go at this
                          cases this
                        · cases h
                      · cases h
                    · cases h
                  · cases h
                · have h := (pi_g_spec hs).2
                  unfold pi_inv at h
                  split at h
                  · have h := (pi_g_spec h).2
                    unfold pi_cl1 at h
                    split at h
                    · cases h
                    · have := (pi_g_spec h).2
                      cases this
                  · cases h
              · have h := (pi_g_spec hs).2
                split at h
                · have h := (pi_g_spec h).2
                  cases h
                  rfl
                · cases h
              · have h := (pi_g_spec hs).2
                split at h <;> first | (cases h; rfl) | cases h
              · have h := (pi_g_spec hs).2
                split at h <;> first | (cases h; rfl) | cases h
              · have h := (pi_g_spec hs).2
                split at h <;> first | (cases h; rfl) | cases h
            rw [this]
            exact ⟨Nat.le_refl _, Nat.le_refl _⟩
          | .inr (.inr (m2, a, F')), h, hs =>
            dsimp only at h
            obtain ⟨ix, n', kd, k, M', -, -, -, -, -, hF, -⟩ := pi_call_spec hs
            cases hc : pi_run n m2 (0, pi_ent (pi_nl m2) a, [], F'.2.2.2) with
            | none => rw [hc] at h; cases h
            | some q =>
              obtain ⟨r1, H1⟩ := q
              rw [hc] at h
              have h1 := ih m2 _ r1 H1 hc
              have h2 := ih m _ r H' h
              rw [hF] at h1
              exact ⟨Nat.le_trans h1.1 h2.1, Nat.le_trans h1.2 h2.2⟩
        next => cases hs
/-- the locals at the entry -/
theorem pi_l0_len (g : pi_G) (a : List Value) : (lg_sl (a.map (pi_tv g))).length = (pi_l0 a).length := by
  induction a with
  | nil => rfl
  | cons v vs ih =>
    have e : lg_sl ((v :: vs).map (pi_tv g)) = (if (pi_tv g v).category = 2 then [.val (pi_tv g v), .second] else [.val (pi_tv g v)]) ++ lg_sl (vs.map (pi_tv g)) := by simp [lg_sl]
    rw [e, List.length_append, ih, pi_tv_cat, pi_l0]
    by_cases hc : v.category = 2
    · simp [hc]; omega
    · simp [hc]; omega
theorem pi_l0_at (g : pi_G) (a : List Value) : ∀ (i j k : Nat) (v : Value), pi_ld (pi_l0 a ++ List.replicate k none) j = some v → (i + j, pi_tv g v) ∈ lv_args i (a.map (pi_tv g)) := by
  induction a with
  | nil =>
    intro i j k v h
    rw [pi_ld_some] at h
    have := List.eq_of_mem_replicate (List.mem_of_getElem? (show (List.replicate k (none : Option Value))[j]? = some (some v) from h))
    cases this
  | cons w ws ih =>
    intro i j k v h
    rw [pi_ld_some] at h
    rw [List.map_cons, lv_args, pi_tv_cat]
    rw [pi_l0] at h
    by_cases hc : w.category = 2
    · rw [if_pos (by simp [hc])] at h
      rw [if_pos hc]
      match j, h with
      | 0, h => cases h; exact List.mem_cons_self
      | 1, h => cases h
      | j + 2, h =>
        refine List.mem_cons_of_mem _ ?_
        have := ih (i + 2) j k v (pi_ld_some.mpr h)
        rw [show i + (j + 2) = i + 2 + j by omega]
        exact this
    · rw [if_neg (by simp [hc])] at h
      rw [if_neg hc]
      match j, h with
      | 0, h => cases h; exact List.mem_cons_self
      | j + 1, h =>
        refine List.mem_cons_of_mem _ ?_
        have := ih (i + 1) j k v (pi_ld_some.mpr h)
        rw [show i + (j + 1) = i + 1 + j by omega]
        exact this
theorem pi_entry (g : pi_G) {n : Nat} {a : List Value} (h : (pi_l0 a).length ≤ n) : lv_has ((lg_sl (a.map (pi_tv g)) ++ List.replicate (n - (lg_sl (a.map (pi_tv g))).length) Slot.unset).toArray) n (pi_lv g (pi_ent n a)) ∧ (pi_ent n a).length = n := by
  refine ⟨pi_lv_mono (lv_entry (a.map (pi_tv g)) (by rw [pi_l0_len]; exact h)) fun q hq => ?_, ?_⟩
  · obtain ⟨v, h1, h2⟩ := pi_lv_mem.mp hq
    have := pi_l0_at g a 0 q.1 _ v h1
    rw [Nat.zero_add, ← h2] at this
    exact this
  · unfold pi_ent
    rw [List.length_append, List.length_replicate]
    omega
/-- runs of n steps: the machine comes where the pure interpreter comes -/
def pi_Ok (l : Launch) (n : Nat) : Prop := ∀ (g : pi_G) (p : Program) (e : Env) (R : Room) (s : State) (m : MethodId) (args : Array Value) (below : List Frame) (meth : Method) (c : Code) (Q : State → Prop) (M : pi_M) (n0 z0 m0 : Nat) (F : pi_F) (r : Option Value) (H' : pi_H),
  pi_tab[m0]? = some M → pi_run n m0 F = some (r, H') → pi_C g p R s m args meth c M n0 → H'.2.1 ≤ n0 + R.cells → H'.2.2 ≤ z0 + R.slots →
  (∀ (i : Instr) (len pc : Nat) (L : pi_L) (S : List Value), decode (pm_by M) pc = .ok (i, len) → pi_ins M i len pc L S H' = some (.inr (.inl (r, H'))) → pi_W g p l e R s m args below meth c Q M n0 z0 (pc, L, S, H')) →
  pi_W g p l e R s m args below meth c Q M n0 z0 F
theorem pi_retv {M : pi_M} {i : Instr} {len pc : Nat} {L : pi_L} {S : List Value} {H : pi_H} {r : Option Value} {H' : pi_H} (hs : pi_ins M i len pc L S H = some (.inr (.inl (r, H')))) :
    len = 1 ∧ H' = H ∧ ((∃ v, i = .ireturn ∧ S = [.int v] ∧ r = some (.int v) ∧ pi_rt M v = true) ∨ (∃ v, i = .lreturn ∧ S = [.long v] ∧ r = some (.long v) ∧ pm_rt M = some .long) ∨ (∃ v, i = .areturn ∧ S = [.ref v] ∧ r = some (.ref v) ∧ pi_isr M = true) ∨ (i = .return_ ∧ S = [] ∧ r = none ∧ pm_rt M = none)) := by
  rcases pi_ins_inl hs with ⟨ix, q⟩ | rfl | rfl | rfl | rfl
  · exfalso
    have c1 : ∀ {m' k pc : Nat} {L : pi_L} {S : List Value} {H : pi_H} {z}, pi_cl1 M m' k pc L S H = some (.inr (.inl z)) → False := fun h => by
      unfold pi_cl1 at h
      split at h
      · cases h
      · have := (pi_g_spec h).2
        cases this
    rcases q with rfl | rfl | rfl
    · have h := (pi_g_spec hs).2
      unfold pi_inv at h
      split at h
      · simp only [Bool.false_eq_true, if_false] at h
        split at h
        · exact c1 (pi_g_spec h).2
        · exact c1 (pi_g_spec h).2
        · split at h
          · have := (pi_g_spec h).2
            unfold pi_go at this
            cases this
          · cases h
        · cases h
      · cases h
    · have h := (pi_g_spec hs).2
      unfold pi_ivs at h
      split at h
      · split at h
        · exact c1 h
        · exact c1 h
        · split at h
          · split at h
            · have := (pi_g_spec h).2
              unfold pi_go at this
              cases this
            · cases h
          · cases h
        · cases h
      · cases h
    · have h := (pi_g_spec hs).2
      unfold pi_inv at h
      split at h
      · exact c1 (pi_g_spec h).2
      · cases h
  · obtain ⟨hb, h⟩ := pi_g_spec hs
    refine ⟨eq_of_beq hb, ?_⟩
    split at h
    next v =>
      obtain ⟨h1, h2⟩ := pi_g_spec h
      cases h2
      exact ⟨rfl, Or.inl ⟨v, rfl, rfl, rfl, h1⟩⟩
    next => cases h
  · obtain ⟨hb, h⟩ := pi_g_spec hs
    rw [Bool.and_eq_true, beq_iff_eq, decide_eq_true_eq] at hb
    refine ⟨hb.1, ?_⟩
    split at h
    next v => cases h; exact ⟨rfl, Or.inr (Or.inl ⟨v, rfl, rfl, rfl, hb.2⟩)⟩
    next => cases h
  · obtain ⟨hb, h⟩ := pi_g_spec hs
    rw [Bool.and_eq_true, beq_iff_eq] at hb
    refine ⟨hb.1, ?_⟩
    split at h
    next v => cases h; exact ⟨rfl, Or.inr (Or.inr (Or.inl ⟨v, rfl, rfl, rfl, hb.2⟩))⟩
    next => cases h
  · obtain ⟨hb, h⟩ := pi_g_spec hs
    rw [Bool.and_eq_true, beq_iff_eq, decide_eq_true_eq] at hb
    refine ⟨hb.1, ?_⟩
    split at h
    next => cases h; exact ⟨rfl, Or.inr (Or.inr (Or.inr ⟨rfl, rfl, rfl, hb.2⟩))⟩
    next => cases h
theorem pi_met_of {l : Launch} {n : Nat} (ok : pi_Ok l n) {g : pi_G} {m0 : Nat} {M : pi_M} {a : List Value} {H : pi_H} {r : Option Value} {H' : pi_H} (hM : pi_tab[m0]? = some M) (hrun : pi_run n m0 (0, pi_ent (pi_nl m0) a, [], H) = some (r, H')) (hlen : (pi_l0 a).length ≤ pm_ml M) : pi_Met l g M a H r H' := by
  have hmc := List.all_eq_true.mp pi_tab_ok _ (List.mem_of_getElem? hM)
  have hpf := List.all_eq_true.mp pi_tab_pf _ (List.mem_of_getElem? hM)
  unfold pi_mc at hmc
  rw [Bool.and_eq_true, decide_eq_true_eq] at hmc
  obtain ⟨hin, hown⟩ := hmc
  have hmono := pi_run_heap _ _ _ _ _ hrun
  refine va_MetF (cc := pm_by M) (maxL := pm_ml M) (ret := pm_rt M) hpf rfl ?_
  intro p e s m args below meth c s₁ Bd hml hv
  obtain ⟨rfl, hR, hE⟩ := hv
  have hts := atoms_spec (ws := pi_ws M) Bd.pre
  have hfind : s.vm.findClass (pm_nm M).cls = some m.cls := findClass_of_methodNamed Bd.named
  have hname : meth.name = (pm_nm M).name := (name_of_methodNamed Bd.named Bd.method).1
  have hnl : pi_nl m0 = pm_ml M := by unfold pi_nl; rw [hM]
  have C : pi_C g p (headSpec (pi_ws M) (pi_rm M (H'.2.1 - H.2.1) (H'.2.2 - H.2.2))).room s m (a.map (pi_tv g)).toArray meth c M H.2.1 :=
    ⟨Bd.exec, Bd.bytes, hml, ⟨_, hown, hfind⟩, fun w hw hg => hts w (List.mem_cons_of_mem _ (List.mem_filter.mpr ⟨hw, hg⟩)), hE, fun hi => by rw [hname]; rw [hi] at hin; simpa using hin, Bd.returns, Bd.notSynchronized, Nat.le_refl _, Nat.le_refl _, hR.1⟩
  rw [lg_entry_eq]
  obtain ⟨e1, e2⟩ := pi_entry g hlen
  have hbc : H'.2.1 ≤ H.2.1 + (headSpec (pi_ws M) (pi_rm M (H'.2.1 - H.2.1) (H'.2.2 - H.2.2))).room.cells := by show _ ≤ H.2.1 + (H'.2.1 - H.2.1); omega
  have hbs : H'.2.2 ≤ H.2.2 + (headSpec (pi_ws M) (pi_rm M (H'.2.1 - H.2.1) (H'.2.2 - H.2.2))).room.slots := by show _ ≤ H.2.2 + (H'.2.2 - H.2.2); omega
  refine ok g p e _ s m _ below meth c _ M H.2.1 H.2.2 m0 (0, pi_ent (pi_nl m0) a, [], H) r H' hM hrun C hbc hbs ?_ s.heap _ [] 0 0 hR (by rw [hnl]; exact e1) (by rw [hnl]; exact e2) va_S.rf rfl rfl
  intro i len pc L S hd hs Hp ls locs cells slots r1 r2 r3 r4 r5 r6
  have r5' : H'.2.1 = H.2.1 + cells := r5
  have r6' : H'.2.2 = H.2.2 + slots := r6
  have ec : H'.2.1 - H.2.1 = cells := by omega
  have es : H'.2.2 - H.2.2 = slots := by omega
  rw [ec, es]
  have hlocks := Bd.notSynchronized
  have hq : ∀ v : Option Value, r = v → ∀ t : State, t.heap = Hp → s.WarmedH t.vm → pi_Q g r H' (a.map (pi_tv g)).toArray s (.returned (v.map (pi_tv g))) t := fun v hv t ht _ => ⟨by rw [hv], by rw [ht]; exact r1, r4.F ht⟩
  obtain ⟨hl, -, hc⟩ := pi_retv hs
  subst hl
  rcases hc with ⟨v, rfl, rfl, rfl, hrt⟩ | ⟨v, rfl, rfl, rfl, hrt⟩ | ⟨v, rfl, rfl, rfl, hrt⟩ | ⟨rfl, rfl, rfl, hrt⟩
  · unfold pi_rt at hrt
    split at hrt
    next ty hty => exact W.zret Bd.exec Bd.bytes (Bd.returns.trans hty) (of_decide_eq_true hrt) (hq _ rfl) r4.2.2 hd
    next => cases hrt
  · exact W.lret Bd.exec Bd.bytes (Bd.returns.trans hrt) (hq _ rfl) r4.2.2 hd
  · unfold pi_isr at hrt
    split at hrt
    next nm hty =>
      refine W.aret (v := pi_tv g (.ref v)) Bd.exec Bd.bytes (Bd.returns.trans hty) (Or.inl ⟨_, rfl⟩) ?_ (hq _ rfl) r4.2.2 hd
      unfold pi_tv
      dsimp only
      split
      · exact Or.inr ⟨_, rfl⟩
      · unfold va_rf
        split
        · exact Or.inl rfl
        · exact Or.inr ⟨_, rfl⟩
    next => cases hrt
  · exact W.vret Bd.exec Bd.bytes (Bd.returns.trans hrt) (hq _ rfl) r4.2.2 hd
theorem pi_ok (l : Launch) : ∀ n, pi_Ok l n := by
  intro n
  induction n with
  | zero => intro g p e R s m args below meth c Q M n0 z0 m0 F r H' hM hrun; cases hrun
  | succ n ih =>
    intro g p e R s m args below meth c Q M n0 z0 m0 F r H' hM hrun C hb1 hb2 hret
    obtain ⟨pc, L, S, H⟩ := F
    have hmono := pi_run_heap _ _ _ _ _ hrun
    rw [pi_run] at hrun
    cases hs : pi_step m0 (pc, L, S, H) with
    | none => rw [hs] at hrun; cases hrun
    | some o =>
      rw [hs] at hrun
      unfold pi_step at hs
      rw [hM] at hs
      dsimp only at hs
      split at hs
      next i len hd =>
        match o, hrun, hs with
        | .inl F', hrun, hs =>
          have h1 := pi_run_heap _ _ _ _ _ hrun
          exact pi_next2 C hd hs (Nat.le_trans h1.1 hb1) (Nat.le_trans h1.2 hb2) (ih g p e R s m args below meth c Q M n0 z0 m0 F' r H' hM hrun C hb1 hb2 hret)
        | .inr (.inl q), hrun, hs =>
          cases hrun
          obtain ⟨-, hH, -⟩ := pi_retv hs
          subst hH
          exact hret i len pc L S hd hs
        | .inr (.inr (m2, a, F')), hrun, hs =>
          dsimp only at hrun
          obtain ⟨ix, n', kd, k, M', rfl, hl, hM', hi, ha, hF, hrk, hk, hcat, hlen⟩ := pi_call_spec hs
          subst ha
          subst hF
          cases hc : pi_run n m2 (0, pi_ent (pi_nl m2) (S.take k).reverse, [], H) with
          | none => rw [hc] at hrun; cases hrun
          | some q =>
            obtain ⟨r1, H1⟩ := q
            rw [hc] at hrun
            have h1 := pi_run_heap _ _ _ _ _ hc
            have h2 := pi_run_heap _ _ _ _ _ hrun
            exact pi_n_call C hd hl hM' hi hrk hk hcat (pi_met_of ih hM' hc hlen) h1 (Nat.le_trans h2.1 hb1) (Nat.le_trans h2.2 hb2) (ih g p e R s m args below meth c Q M n0 z0 m0 _ r H' hM hrun C hb1 hb2 hret)
      next => cases hs
end
section
-- PART 07: from the Statement's start to the pure interpreter (its first rows are the skeleton's)
/-! THE CLAIM OUT OF ONE WALK OF THE LAW'S BODY. Your part is whole_start (and what it stands on); all else here is the same for every law, but numbers. -/
def R_law : String := "OrderLevelsLaw"
def lw_P (b : Addr) (xs : List Int32) (args : Array Value) (s : State) : Prop := args = #[.ref b] ∧ s.IntsAt b xs ∧ xs.length ≤ 2048 ∧ (Jvm.Cond.and given_1 narrow_1).before args s = true
def lw_Q (_ : Array Value) (s : State) (o : Outcome) (t : State) : Prop := o = .returned (some (.int 1)) ∧ Framed s o t [] 600000 7302250
def lw_Z (below : List Frame) (a : Array Value) (s : State) : State → Prop := fun t => ∃ o, t.status = .running ∧ Ended t below o ∧ lw_Q a s o t
/-- the law's own end, with 1 on the stack, nothing written that was there before, its room as the claim has it -/
theorem lw_ret {p : Program} {l : Launch} {e : Env} {s : State} {m : MethodId} {below : List Frame} {meth : Method} {c : Code} {b : Nat} (hx : p.tables.exec = Jvm.exec) (hb : c.code = code) (hr : meth.sig.returnType = ret) (hlocks : meth.locks = false) {pc : Nat} {H : Heap} {ls : Array Slot} (hdg : decode code pc = .ok (.ireturn, 1)) : W p l e room_1 s m #[Value.ref b] below meth c H [] 600000 7302250 (lw_Z below #[Value.ref b] s) (F0 m pc ls [.int 1]) := by
  intro T hT X
  obtain ⟨fs, hret, hrun, hended, hW, hframe⟩ := X.leave (v := some (.int 1)) (hlocks := hlocks) (fun h => by rw [hr] at h; cases h)
  have hmeth' : T.vm.method? m = some meth := X.method'
  refine ⟨T.setFrames fs, ?_, .returned (some (.int 1)), hrun, hended, rfl, ⟨_, rfl⟩, hW, hframe⟩
  jvm_step X.here [X.here.top, hx, hb, hdg, hmeth', hr, ret, narrow_b1]
  (try refine ⟨rfl, ?_⟩); (try refine ⟨rfl, ?_⟩)
  first | (intro acts; rw [hret _ acts rfl rfl rfl]) | rw [hret _ _ rfl rfl rfl]
  exact Steps.refl _
/-- what holds at the law's entry: the machine, the code, the tables' words (any of lw_tbl by 'hts w (by decide +kernel)'), the script of L ints xs at the cell b, what the Statement gives of the start (any of its parts by flat_of_before) -/
def lw_At (p : Program) (s : State) (m : MethodId) (meth : Method) (c : Code) (b L : Nat) (xs : Nat → Int32) : Prop :=
  p.tables.exec = Jvm.exec ∧ c.code = code ∧ meth.sig.returnType = ret ∧ c.maxLocals = 4 ∧ s.vm.findClass R_law = some m.cls ∧ (∀ w ∈ lw_tbl, w.before #[Value.ref b] s = true) ∧ va_X b L xs s s.heap ∧ b < s.heap.size ∧ meth.locks = false ∧ (Jvm.Cond.and given_1 narrow_1).before #[Value.ref b] s = true
/-! the static cells: MOST_COST, the seven texts, the script -/
def pi_mcost (j : Nat) : Int32 := ([99, 9, 9, 29, 9] : List Int32).getD j 0
def pi_txt : List (List Int32) := [[119, 101, 105, 103, 104, 116], [99, 111, 115, 116], [115, 101, 97, 115, 111, 110], [112, 108, 97, 110], [111, 114, 100, 101, 114], [102, 111, 108, 108, 111, 119], [115, 101, 108, 108]]
def pi_tln : List Nat := [6, 4, 6, 4, 5, 6, 4]
def pi_st (xs : Nat → Int32) (L : Nat) (k : Nat) : Option pi_E :=
  if k < 1000000 then none
  else if k = 1000000 then some (.inl (10, 5, .inl pi_mcost))
  else if k = 1000050 then some (.inl (10, L, .inl xs))
  else if 1000001 ≤ k ∧ k < 1000008 then some (.inr (7, [.ref (k + 10), .int 0]))
  else if 1000011 ≤ k ∧ k < 1000018 then some (.inl (11, pi_tln.getD (k - 1000011) 0, .inl (fun j => (pi_txt.getD (k - 1000011) []).getD j 0)))
  else none
def pi_H0 (xs : Nat → Int32) (L : Nat) : pi_H := (pi_st xs L, 0, 0)
def pi_tm (i : Nat) : Term := .string "OrderLevels$Script" ((pi_str.getD i (0, "")).1)
theorem pi_range {N : Nat} {P : Nat → Prop} [DecidablePred P] (h : (List.range N).all (fun i => decide (P i)) = true) : ∀ i, i < N → P i := fun i hi => of_decide_eq_true (List.all_eq_true.mp h i (List.mem_range.mpr hi))
def pi_flat : List Cond := flatC (Jvm.Cond.and given_1 narrow_1)
theorem pi_f1 : ∀ i, i < 7 → Cond.exactly (pi_tm i) "java/lang/String" ∈ pi_flat := pi_range (by decide +kernel)
theorem pi_f2 : ∀ i, i < 7 → Cond.eq (.field (pi_tm i) "java/lang/String" "coder" "B") (.int 0) ∈ pi_flat := pi_range (by decide +kernel)
theorem pi_f3 : ∀ i, i < 7 → Cond.arrayOf (.field (pi_tm i) "java/lang/String" "value" "[B") .byte ∈ pi_flat := pi_range (by decide +kernel)
theorem pi_f4 : ∀ i, i < 7 → Cond.eq (.length (.field (pi_tm i) "java/lang/String" "value" "[B")) (.int (Int32.ofNat (pi_tln.getD i 0))) ∈ pi_flat := pi_range (by decide +kernel)
theorem pi_f5 : ∀ i, i < 7 → ∀ j, j < pi_tln.getD i 0 → Cond.eq (.elem (.field (pi_tm i) "java/lang/String" "value" "[B") (.int (Int32.ofNat j))) (.int ((pi_txt.getD i []).getD j 0)) ∈ pi_flat := by
  have h : ∀ i, i < 7 → (List.range (pi_tln.getD i 0)).all (fun j => decide (Cond.eq (.elem (.field (pi_tm i) "java/lang/String" "value" "[B") (.int (Int32.ofNat j))) (.int ((pi_txt.getD i []).getD j 0)) ∈ pi_flat)) = true := pi_range (by decide +kernel)
  intro i hi
  exact pi_range (h i hi)
theorem pi_f6 : ∀ i, i < 7 → ∀ j, j < 7 → i ≠ j → Cond.not (Cond.eq (pi_tm i) (pi_tm j)) ∈ pi_flat ∨ Cond.not (Cond.eq (pi_tm j) (pi_tm i)) ∈ pi_flat := by
  have h : ∀ i, i < 7 → (List.range 7).all (fun j => decide (i ≠ j → Cond.not (Cond.eq (pi_tm i) (pi_tm j)) ∈ pi_flat ∨ Cond.not (Cond.eq (pi_tm j) (pi_tm i)) ∈ pi_flat)) = true := pi_range (by decide +kernel)
  intro i hi
  exact pi_range (h i hi)
theorem pi_f7 : ∀ j, j < 5 → Cond.eq (.elem (.static "OrderLevels" "MOST_COST" "[I") (.int (Int32.ofNat j))) (.int (pi_mcost j)) ∈ pi_flat := pi_range (by decide +kernel)
theorem pi_f8 : Cond.arrayOf (.static "OrderLevels" "MOST_COST" "[I") .int ∈ pi_flat ∧ Cond.eq (.length (.static "OrderLevels" "MOST_COST" "[I")) (.int (Int32.ofNat 5)) ∈ pi_flat ∧ Cond.eq (.static "java/lang/String" "COMPACT_STRINGS" "Z") (.int 1) ∈ pi_flat ∧ Cond.isRef (.static "jdk/internal/util/Preconditions" "SIOOBE_FORMATTER" "Ljava/util/function/BiFunction;") ∈ pi_flat := by decide +kernel
theorem pi_f9 : Cond.laysStatic "OrderLevels" "MOST_COST" "[I" ∈ lw_tbl ∧ Cond.laysStatic "java/lang/String" "COMPACT_STRINGS" "Z" ∈ lw_tbl ∧ Cond.laysStatic "jdk/internal/util/Preconditions" "SIOOBE_FORMATTER" "Ljava/util/function/BiFunction;" ∈ lw_tbl ∧ Cond.initialized "OrderLevels" ∈ lw_tbl ∧ Cond.initialized "java/lang/String" ∈ lw_tbl ∧ Cond.initialized "jdk/internal/util/Preconditions" ∈ lw_tbl := by decide +kernel
theorem pi_f10 : Cond.arrayOver (.object "OrderLevels$Shop") ∈ lw_tbl ∧ Cond.arrayOver (.array .int) ∈ lw_tbl ∧ Cond.arrayOver (.array .long) ∈ lw_tbl ∧ Cond.arrayClass .int ∈ lw_tbl ∧ Cond.arrayClass .char ∈ lw_tbl ∧ Cond.arrayClass .long ∈ lw_tbl := by decide +kernel
theorem pi_f11 : ∀ i, i < 7 → Cond.stringRef "OrderLevels$Script" (pi_str.getD i (0, "")).1 (pi_str.getD i (0, "")).2 ∈ lw_tbl := pi_range (by decide +kernel)
theorem pi_f12 : ∀ i, i < 6 → Cond.instantiable ((pi_cl.getD i ("", pt_T0, 0)).1) ((pi_cl.getD i ("", pt_T0, 0)).2.2) ∈ lw_tbl := pi_range (by decide +kernel)
end
section
-- PART 07b: the law's start
theorem pi_arrC {args : Array Value} {s : State} {ty : FieldType} (h : (Cond.arrayClass ty).before args s = true) (hn : ∀ C, ty ≠ .object C) : ∃ c, ArrOfT s c ty ∧ va_RA s c ty := by
  obtain ⟨c, k, comp, h1, h2, h3⟩ := Cond.arrayClass_spec h
  refine ⟨c, fun N z => ⟨(fun q hq => by cases hq), k, h2, comp, h3⟩, ?_⟩
  cases ty <;> first | exact h1 | exact absurd rfl (hn _)
theorem pi_arrO {args : Array Value} {s : State} {C : String} (h : (Cond.arrayOver (.object C)).before args s = true) : ∃ c, ArrOfT s c (.object C) ∧ va_RA s c (.object C) := by
  obtain ⟨comp, c, k, h1, h2, h3, h4, h5⟩ := Cond.arrayOver_spec h
  exact ⟨c, fun N z => ⟨(fun q hq => by cases hq), k, h3, comp, h4⟩, k, comp, h3, h4, h1, h5⟩
theorem pi_arrA {args : Array Value} {s : State} {t : FieldType} (h : (Cond.arrayOver (.array t)).before args s = true) : ∃ c, ArrOfT s c (.array t) ∧ va_RA s c (.array t) := by
  obtain ⟨comp, c, k, h1, h2, h3, h4, h5⟩ := arrayOverA_spec h
  exact ⟨c, fun N z => ⟨(fun q hq => by cases hq), k, h3, comp, h4⟩, h5⟩
theorem pi_sat2 {g : pi_G} {k j : Nat} {U : State} {n : Nat} {f : Nat → Int32} {a : Nat} (hj : k - 1000000 = j) (h1 : g.2.2.1 j = some a) (h3 : va_T .byte a n (fun j => .int (f j)) (pi_A g) U U.heap) : pi_sat g k (.inl (11, n, .inl f)) U := by
  subst hj
  exact Or.inr (Or.inl ⟨n, f, a, rfl, h1, h3⟩)
theorem pi_sat3 {g : pi_G} {k j j2 : Nat} {U : State} {v a av : Nat} (hj : k - 1000000 = j) (h1 : g.2.2.1 j = some a) (h2 : 1000000 ≤ v) (hj2 : v - 1000000 = j2) (h3 : g.2.2.1 j2 = some av) (h4 : va_O "java/lang/String" a (pi_A g) U U.heap) (h5 : va_OF "java/lang/String" "value" "[B" (.ref av) a (pi_A g) U U.heap) (h6 : va_OF "java/lang/String" "coder" "B" (.int 0) a (pi_A g) U U.heap) : pi_sat g k (.inr (7, [.ref v, .int 0])) U := by
  subst hj hj2
  exact Or.inr (Or.inr ⟨v, a, av, rfl, h1, h2, h3, h4, h5, h6⟩)
set_option maxRecDepth 100000 in
theorem pi_start_env {p : Program} {s : State} {m : MethodId} {meth : Method} {c : Code} {b L : Nat} {xs : Nat → Int32} (C0 : lw_At p s m meth c b L xs) (hL : L < 2 ^ 31) : ∃ g : pi_G, pi_B g = s.heap.size ∧ g.2.2.2.2 = pi_st xs L ∧ pi_tv g (.ref 1000050) = .ref b ∧ pi_Env g s := by
  obtain ⟨hx, hb, hr, hml, hown, hts, hX, hbl, hlocks, hgv⟩ := id C0
  have hfl := flat_of_before _ hgv
  have hA : ∀ a : Nat, a < s.heap.size → ¬ (fun q => s.heap.size ≤ q) a := fun a ha => Nat.not_le.mpr ha
  have hcls : ∀ ci : Nat, ∃ q : ClassId × (Nat → Nat), ∀ y : vw_C, pi_cl[ci]? = some y → u_Kn s y.1 y.2.1 y.2.2 q.1 q.2 := by
    intro ci
    cases hcl : pi_cl[ci]? with
    | none => exact ⟨(0, fun _ => 0), fun y hy => by cases hy⟩
    | some y =>
      obtain ⟨Cn, T, N⟩ := y
      obtain ⟨q1, -, -⟩ := pi_cl_at hcl
      have hci : ci < 6 := (List.getElem?_eq_some_iff.mp hcl).1
      have hin := pi_f12 ci hci
      rw [List.getD_eq_getElem?_getD, hcl] at hin
      obtain ⟨cC, iS, hK⟩ := u_known (ws := u_ws Cn T N) (fun w hw => hts w (q1 w hw).1) (fun w hw => hw) (hts _ hin)
      exact ⟨(cC, iS), fun y hy => by cases hy; exact hK⟩
  obtain ⟨cd, hcd⟩ := Classical.axiomOfChoice hcls
  obtain ⟨o1, o2, o3, o4, o5, o6⟩ := pi_f10
  obtain ⟨a0, ha0⟩ := pi_arrC (hts _ o4) (fun C q => by cases q)
  obtain ⟨a1, ha1⟩ := pi_arrC (hts _ o5) (fun C q => by cases q)
  obtain ⟨a2, ha2⟩ := pi_arrC (hts _ o6) (fun C q => by cases q)
  obtain ⟨a3, ha3⟩ := pi_arrO (hts _ o1)
  obtain ⟨a4, ha4⟩ := pi_arrA (hts _ o2)
  obtain ⟨a5, ha5⟩ := pi_arrA (hts _ o3)
  obtain ⟨u1, u2, u3, u4⟩ := pi_f8
  obtain ⟨l1, l2, l3, l4, l5, l6⟩ := pi_f9
  obtain ⟨tm, htm, hT⟩ := va_Tof (N := 5) (f := fun j => .int (pi_mcost j)) (A := fun q => s.heap.size ≤ q) (by decide) (hfl _ u1) (va_eqt (hfl _ u2)) (fun j hj => va_eqt (hfl _ (pi_f7 j hj))) hA
  have hZ := va_Zof (hts _ l1) (hts _ l4) htm hA
  have hZc := va_Zof (hts _ l2) (hts _ l5) (va_eqi (hfl _ u3)) hA
  have hZs := va_Zqof (hts _ l3) (hts _ l6) (hfl _ u4) hA
  obtain ⟨adK, adV, hS, hSe⟩ := vk_Sof (N := 7) (tm := pi_tm) (len := pi_tln) (byt := pi_txt) (A := fun q => s.heap.size ≤ q) (by decide) (fun i hi => hfl _ (pi_f1 i hi)) (fun i hi => hfl _ (pi_f2 i hi)) (fun i hi => hfl _ (pi_f3 i hi)) (fun i hi => hfl _ (pi_f4 i hi)) (fun i hi j hj => hfl _ (pi_f5 i hi j hj)) (fun i j hi hj hij => (pi_f6 i hi j hj hij).imp (hfl _) (hfl _)) hA
  obtain ⟨f30, hf30⟩ : ∃ o : Option Nat, va_Z "jdk/internal/util/Preconditions" "SIOOBE_FORMATTER" "Ljava/util/function/BiFunction;" (va_rf o) (fun q => s.heap.size ≤ q) s s.heap := by
    rcases hZs with h | ⟨t, h⟩
    · exact ⟨none, h⟩
    · exact ⟨some t, h⟩
  have hXT : va_T .int b L (fun j => .int (xs j)) (fun q => s.heap.size ≤ q) s s.heap := by
    obtain ⟨scr, x1, x2, x3, x4, x5⟩ := hX
    exact ⟨scr, x1, x2, x3, Nat.le_of_eq x4.symm, by rw [x4] <;> rfl, x5, hA b hbl⟩
  let sv : Nat → Option Nat := fun j => if j = 0 then some tm else if j = 30 then f30 else if j = 50 then some b else if 1 ≤ j ∧ j < 8 then some (adK (j - 1)) else if 11 ≤ j ∧ j < 18 then some (adV (j - 11)) else some 0
  refine ⟨((fun k => (cd k).1, fun k => (cd k).2), (fun t => match t with | 0 => a0 | 1 => a1 | 2 => a2 | 3 => a3 | 4 => a4 | _ => a5), sv, s.heap.size, pi_st xs L), rfl, rfl, rfl, ⟨fun ci y hy => hcd ci y hy, fun k q hk => ?_⟩, fun own ix y hy => va_Nw.of rfl (hts _ hy), fun own ix hy => va_Nw.of rfl (hts _ hy), va_AO.of (hts _ o1), ?_, ?_, fun i q hq => ?_, ⟨tm, rfl, hZ⟩, hZc, hf30, fun k e hk => ?_, fun j hj => ?_⟩
  · match k, hk with
    | 0, hk => cases hk; exact ha0
    | 1, hk => cases hk; exact ha1
    | 2, hk => cases hk; exact ha2
    | 3, hk => cases hk; exact ha3
    | 4, hk => cases hk; exact ha4
    | 5, hk => cases hk; exact ha5
    | k + 6, hk => simp [pi_tysA] at hk
  · exact hts _ o2
  · exact hts _ o3
  · have hi : i < 7 := (List.getElem?_eq_some_iff.mp hq).1
    refine ⟨adK i, ?_, ?_⟩
    · show sv (1 + i) = _
      have : 1 + i ≠ 0 ∧ 1 + i ≠ 30 ∧ 1 + i ≠ 50 ∧ (1 ≤ 1 + i ∧ 1 + i < 8) := by omega
      simp only [sv, if_neg this.1, if_neg this.2.1, if_neg this.2.2.1, if_pos this.2.2.2, Nat.add_sub_cancel_left]
    · have hs := pi_f11 i hi
      have he := hSe i hi
      unfold pi_tm at he
      rw [List.getD_eq_getElem?_getD, hq] at hs he
      exact vk_R.of (hts _ hs) he
  · have hk : pi_st xs L k = some e := hk
    unfold pi_st at hk
    by_cases z0 : k < 1000000
    · rw [if_pos z0] at hk; cases hk
    rw [if_neg z0] at hk
    refine ⟨Nat.not_lt.mp z0, ?_⟩
    by_cases z1 : k = 1000000
    · rw [if_pos z1] at hk
      cases hk
      subst z1
      exact Or.inl ⟨5, pi_mcost, tm, rfl, rfl, hT⟩
    rw [if_neg z1] at hk
    by_cases z2 : k = 1000050
    · rw [if_pos z2] at hk
      cases hk
      subst z2
      exact Or.inl ⟨L, xs, b, rfl, rfl, hXT⟩
    rw [if_neg z2] at hk
    by_cases z3 : 1000001 ≤ k ∧ k < 1000008
    · rw [if_pos z3] at hk
      cases hk
      obtain ⟨i, hi, e0, e0', e9⟩ : ∃ i, i < 7 ∧ k - 1000000 = 1 + i ∧ k + 10 - 1000000 = 11 + i ∧ 1000000 ≤ k + 10 := ⟨k - 1000001, by omega, by omega, by omega, by omega⟩
      have e1 : sv (1 + i) = some (adK i) := by
        have : 1 + i ≠ 0 ∧ 1 + i ≠ 30 ∧ 1 + i ≠ 50 ∧ (1 ≤ 1 + i ∧ 1 + i < 8) := by omega
        simp only [sv, if_neg this.1, if_neg this.2.1, if_neg this.2.2.1, if_pos this.2.2.2, Nat.add_sub_cancel_left]
      have e2 : sv (11 + i) = some (adV i) := by
        have : 11 + i ≠ 0 ∧ 11 + i ≠ 30 ∧ 11 + i ≠ 50 ∧ ¬ (1 ≤ 11 + i ∧ 11 + i < 8) ∧ (11 ≤ 11 + i ∧ 11 + i < 18) := by omega
        simp only [sv, if_neg this.1, if_neg this.2.1, if_neg this.2.2.1, if_neg this.2.2.2.1, if_pos this.2.2.2.2, Nat.add_sub_cancel_left]
      obtain ⟨s1, s2, s3, s4⟩ := hS.1 i hi
      exact pi_sat3 e0 e1 e9 e0' e2 s1 s3 s2
    rw [if_neg z3] at hk
    by_cases z4 : 1000011 ≤ k ∧ k < 1000018
    · rw [if_pos z4] at hk
      cases hk
      obtain ⟨i, hi, e0, e3⟩ : ∃ i, i < 7 ∧ k - 1000000 = 11 + i ∧ k - 1000011 = i := ⟨k - 1000011, by omega, by omega, rfl⟩
      have e1 : sv (11 + i) = some (adV i) := by
        have : 11 + i ≠ 0 ∧ 11 + i ≠ 30 ∧ 11 + i ≠ 50 ∧ ¬ (1 ≤ 11 + i ∧ 11 + i < 8) ∧ (11 ≤ 11 + i ∧ 11 + i < 18) := by omega
        simp only [sv, if_neg this.1, if_neg this.2.1, if_neg this.2.2.1, if_neg this.2.2.2.1, if_pos this.2.2.2.2, Nat.add_sub_cancel_left]
      obtain ⟨s1, s2, s3, s4⟩ := hS.1 i hi
      rw [e3]
      exact pi_sat2 e0 e1 s4
    rw [if_neg z4] at hk
    cases hk
  · show ∃ a, sv j = some a
    simp only [sv]
    repeat' split
    all_goals first | exact ⟨_, rfl⟩ | exact absurd ‹_› hj
set_option maxRecDepth 100000 in
theorem pi_start {p : Program} {e : Env} {s : State} {m : MethodId} {below : List Frame} {meth : Method} {c : Code} (l : Launch) {b L : Nat} {xs : Nat → Int32} (hL : L ≤ 2048) (C0 : lw_At p s m meth c b L xs) (H' : pi_H) (hrun : ex 170 [.ref 1000050] (pi_H0 xs L) = some (some (.int 1), H')) (hc : H'.2.1 ≤ 600000) (hs : H'.2.2 ≤ 7302250) :
    W p l e room_1 s m #[Value.ref b] below meth c s.heap [] 0 0 (lw_Z below #[Value.ref b] s) (entryFrame m ([Value.ref b] : List Value).toArray 4) := by
  obtain ⟨hx, hb, hr, hml, hown, hts, hX, hbl, hlocks, hgv⟩ := id C0
  obtain ⟨g, g1, g2, g3, hE⟩ := pi_start_env C0 (by omega)
  have hM : pi_tab[170]? = some pm_La_law := rfl
  have C : pi_C g p room_1 s m #[Value.ref b] meth c pm_La_law 0 :=
    ⟨hx, hb, hml, ⟨"OrderLevelsLaw", rfl, hown⟩, fun w hw _ => hts w hw, hE, (fun h => (by cases h)), hr, hlocks, by decide, by decide, g1.symm⟩
  obtain ⟨n, hn⟩ := (ev_iff _ _ _ _ _ _).mp hrun
  have hR : pi_R g (pi_H0 xs L) s.heap := ⟨by rw [g1]; rfl, Nat.zero_le _, fun k x hk => Or.inr (by rw [g2]; exact hk)⟩
  obtain ⟨e1, e2⟩ := pi_entry g (n := 4) (a := [.ref 1000050]) (by decide)
  rw [show [Value.ref 1000050].map (pi_tv g) = [Value.ref b] by rw [List.map_cons, g3]; rfl] at e1
  rw [lg_entry_eq]
  refine pi_ok l n g p e room_1 s m #[Value.ref b] below meth c _ pm_La_law 0 0 170 (0, pi_ent (pi_nl 170) [.ref 1000050], [], pi_H0 xs L) _ H' hM hn C (by rw [Nat.zero_add]; exact hc) (by rw [Nat.zero_add]; exact hs) ?_ s.heap _ [] 0 0 hR e1 e2 va_S.rf rfl rfl
  intro i len pc Lx S hd hi Hp ls locs cells slots r1 r2 r3 r4 r5 r6
  obtain ⟨rfl, -, hcs⟩ := pi_retv hi
  have r5' : H'.2.1 = 0 + cells := r5
  have r6' : H'.2.2 = 0 + slots := r6
  rcases hcs with ⟨v, rfl, rfl, hv, hrt⟩ | ⟨v, rfl, rfl, hv, hrt⟩ | ⟨v, rfl, rfl, hv, hrt⟩ | ⟨rfl, rfl, hv, hrt⟩
  · cases hv
    refine va_forget (fun q hq => by have := r4.2.2 q hq; rw [← g1]; exact this) ?_
    refine W.widen (k := 600000) (n := 7302250) (by omega) (by omega) ?_
    exact lw_ret hx hb hr hlocks hd
  · cases hv
  · cases hv
  · cases hv
end
section
-- PART 99: the claim (its last rows are the skeleton's)
theorem pi_law (xs : Nat → Int32) (L : Nat) (hL : L ≤ 2048) : ∃ H', ex 170 [.ref 1000050] (pi_H0 xs L) = some (some (.int 1), H') ∧ H'.2.1 ≤ 600000 ∧ H'.2.2 ≤ 7302250 := by
  sorry
theorem whole_start {p : Program} {e : Env} {s : State} {m : MethodId} {below : List Frame} {meth : Method} {c : Code} (l : Launch) (hflags : l.flags = flags0) {b L : Nat} {xs : Nat → Int32} (hL : L ≤ 2048) (C0 : lw_At p s m meth c b L xs) : W p l e room_1 s m #[Value.ref b] below meth c s.heap [] 0 0 (lw_Z below #[Value.ref b] s) (entryFrame m ([Value.ref b] : List Value).toArray 4) := by
  obtain ⟨H', h1, h2, h3⟩ := pi_law xs L hL
  exact pi_start l hL C0 H' h1 h2 h3
-- ===== YOUR PART ENDS =====
set_option maxHeartbeats 4000000 in
theorem lw_walk (l : Launch) (hflags : l.flags = flags0) (b : Addr) (xs : List Int32) : MetFree l x (headSpec (Jvm.Cond.code x code maxLocals ret :: tables_1) room_1) (lw_P b xs) (fun _ _ _ _ _ => True) lw_Q := by
  refine MetFree.of_bodyS (code := code) (maxLocals := maxLocals) (ret := ret) (by decide) ?_ ?_
  · intro args s m h hn
    obtain ⟨meth, c, h1, h2, h3, h4, h5, h6, -, -⟩ := Cond.code_spec hn (atoms_spec (ws := Jvm.Cond.code x code maxLocals ret :: tables_1) h _ List.mem_cons_self)
    exact ⟨meth, c, h1, h2, h3, h4, h5, h6⟩
  · intro p e s m args below meth c s₁ B hml0 hP _
    obtain ⟨rfl, hx, hbd, hgv⟩ := hP
    obtain ⟨scr, harrAt, hlist, hof, hsmall⟩ := hx
    obtain ⟨hcb, hkn, -, -⟩ := State.arrayAt?_spec harrAt
    have hown : s.vm.findClass R_law = some m.cls := findClass_of_methodNamed B.named
    have hts0 : ∀ c ∈ (Jvm.Cond.code x code maxLocals ret :: tables_1), c.before #[Value.ref b] s = true := atoms_spec (ws := Jvm.Cond.code x code maxLocals ret :: tables_1) B.pre
    have hts : ∀ w ∈ lw_tbl, w.before #[Value.ref b] s = true := k2_hts_sels lw_privs (fun w hw => hts0 w (List.mem_cons_of_mem _ hw)) lw_privs_ok
    have hml : c.maxLocals = 4 := B.maxLocals_eq (hts0 _ List.mem_cons_self)
    have X₀ : Stand p l e room_1 s m #[Value.ref b] below meth c s₁ [] 0 0 := Stand.of_body B
    have hh0 : s₁.heap = s.heap := by rw [B.state]; rfl
    have hsz : scr.slots.size = xs.length := by rw [← Array.length_toList, hlist, List.length_map]
    have hval : ∀ j : Nat, j < xs.length → scr.slots[j]? = some (.int (xs.getD j 0)) := fun j hj => by
      rw [← Array.getElem?_toList, hlist]
      simp [hj]
    have hbl : b < s.heap.size := (Array.getElem?_eq_some_iff.mp hcb).1
    have hX : va_X b xs.length (fun j => xs.getD j 0) s s.heap := ⟨scr, hcb, hof, hkn, hsz, hval⟩
    have K : W p l e room_1 s m #[Value.ref b] below meth c s₁.heap [] 0 0 (lw_Z below #[Value.ref b] s) (entryFrame m ([Value.ref b] : List Value).toArray 4) := by
      rw [hh0]
      exact whole_start l hflags hbd ⟨B.exec, B.bytes, B.returns, hml, hown, hts, hX, hbl, B.notSynchronized, hgv⟩
    obtain ⟨t, a1, o, b1, b2, b3⟩ := K s₁ rfl X₀
    exact ⟨t, o, a1, b1, b2, b3⟩
theorem lw_pre_spec {args : Array Value} {s : State} (h : (Jvm.Cond.and given_1 narrow_1).before args s = true) (hr : rest_1_c.before args s = true) : ∃ (b : Addr) (xs : List Int32), lw_P b xs args s := by
  have hs := flat_of_before _ h
  have hq := flat_of_before _ hr
  have hc : (Cond.count 1).before args s = true := hs _ (by decide +kernel)
  have harr : (Cond.arrayOf (.arg 0) .int).before args s = true := hs _ (by decide +kernel)
  have hle : (Cond.le (.length (.arg 0)) (.int 2048)).before args s = true := hs _ (by decide +kernel)
  have hlen : (Cond.isInt (.length (.arg 0))).before args s = true := hq _ (by decide +kernel)
  have hall : (Cond.all (.arg 0) (.isInt (.elem (.arg 0) (.index 0)))).before args s = true := hq _ (by decide +kernel)
  obtain ⟨b, xs, hb, hx⟩ := State.ints_of_pre rfl harr hlen hall
  have hsm : xs.length < 2 ^ 31 := hx.choose_spec.2.2.2
  have hev : (Term.length (.arg 0)).eval args s none [] s = some (.int xs.length.toInt32) := hx.length_eval hb
  have hv := Cond.le_ints hev (show (Term.int 2048).eval args s none [] s = some (.int 2048) from rfl)
  have hd : xs.length.toInt32 ≤ 2048 := by
    simpa [Cond.before, Cond.holds, hv] using hle
  have hN : xs.length ≤ 2048 := (Int32.ofNat_le_ofNat hsm (by decide)).mp (show Int32.ofNat xs.length ≤ Int32.ofNat 2048 from hd)
  exact ⟨b, xs, Cond.one_arg hc (show args[0]? = some (.ref b) from hb), hx, hN, h⟩
theorem lw_comes (l : Launch) (hflags : l.flags = flags0) : Comes l x (Jvm.Cond.code x code maxLocals ret :: tables_1) room_1 (fun tb e args s => Calls_1 tb e args s ∧ rest_1 tb e args s ∧ Pre_1 tb e args s)
    (fun _ _ args s o t => lw_Q args s o t) := by
  intro p e ha hc hk s m args below hf hfit hheap happ hpre
  obtain ⟨b, xs, hP⟩ := lw_pre_spec hpre.2.2 hpre.2.1
  obtain ⟨k, o, h1, h2, h3, hQ⟩ := lw_walk l hflags b xs p e ha hc hk s m args below hf ((Spec.applies_iff_loose hf).mp happ).1 hP trivial
  exact ⟨k, o, h1, h2, h3, hQ⟩
theorem lw_frame {s t : State} {o : Outcome} {args : Array Value} (h : Framed s o t [] 600000 7302250) :
    Framed s o t (fieldLocs frame_1_writes args s ++ arrayLocs frame_1_arrays args s ++ staticLocs frame_1_statics s) 600000 7302250 := h
theorem lw_limb (L : Cond) (hL : ∀ (args : Array Value) (s t : State), L.after args s (.returned (some (.int 1))) t = true) :
    ArmFor flags0 classFile x code maxLocals ret World_1 tables_1 room_1 Calls_1 rest_1 Pre_1
      (fun tb e a s o t => postC L tb e a s o t ∧ Framed s o t (fieldLocs frame_1_writes a s ++ arrayLocs frame_1_arrays a s ++ staticLocs frame_1_statics s) 600000 7302250) := by
  intro l hflags _ _ p e ha hc hk s m args below hf hfit hheap happ hpre
  obtain ⟨k, o, h1, h2, h3, rfl, hF⟩ := lw_comes l hflags p e ha hc hk s m args below hf hfit hheap happ hpre
  exact ⟨k, _, h1, h2, h3, hL args s _, lw_frame hF⟩
theorem i_vc : Claimed_1_1 ∧ Claimed_1_2 := ⟨lw_limb limb_1_1 (fun args s t => by simp [limb_1_1, Cond.after, Cond.holds, Cond.value]), lw_limb limb_1_2 (fun args s t => Cond.after_iff.mpr (by
  first | (rw [show limb_1_2 = Cond.eq .result (.int 1) from rfl, Cond.eq_ints (x := 1) (y := 1) rfl rfl]; simp; done) | (simp [limb_1_2, Cond.value, Term.eval]; done)))⟩
end
