-- ===== PART A: goes FIRST, ahead of the names: the tables' words, and 'selects' of the private methods out of them =====
/-- a private method of a class that the tables say can be made, by its rows of tables_1 -/
def lw_okq (q : MethodName × Nat) : Prop := (q.1.cls ≠ "java/lang/invoke/MethodHandle" ∧ q.1.cls ≠ "java/lang/invoke/VarHandle") ∧ Cond.instantiable q.1.cls q.2 ∈ tables_1 ∧ Cond.privateMethod q.1 ∈ tables_1 ∧ Cond.instanceMethod q.1 ∈ tables_1
theorem lw_p0 : lw_okq (⟨"LegHedge$Reckoning", "clearGrounds", "()V"⟩, 16) := ⟨⟨by decide +kernel, by decide +kernel⟩, List.mem_of_getElem? (i := 26) (by decide +kernel), List.mem_of_getElem? (i := 295) (by decide +kernel), List.mem_of_getElem? (i := 296) (by decide +kernel)⟩
theorem lw_p1 : lw_okq (⟨"LegHedge$Reckoning", "addLosses", "(I)V"⟩, 16) := ⟨⟨by decide +kernel, by decide +kernel⟩, List.mem_of_getElem? (i := 26) (by decide +kernel), List.mem_of_getElem? (i := 318) (by decide +kernel), List.mem_of_getElem? (i := 319) (by decide +kernel)⟩
theorem lw_p2 : lw_okq (⟨"LegHedge$Reckoning", "addDelta", "(I)V"⟩, 16) := ⟨⟨by decide +kernel, by decide +kernel⟩, List.mem_of_getElem? (i := 26) (by decide +kernel), List.mem_of_getElem? (i := 343) (by decide +kernel), List.mem_of_getElem? (i := 344) (by decide +kernel)⟩
theorem lw_p3 : lw_okq (⟨"LegHedge$Reckoning", "sumGround", "(I)V"⟩, 16) := ⟨⟨by decide +kernel, by decide +kernel⟩, List.mem_of_getElem? (i := 26) (by decide +kernel), List.mem_of_getElem? (i := 349) (by decide +kernel), List.mem_of_getElem? (i := 350) (by decide +kernel)⟩
theorem lw_p4 : lw_okq (⟨"LegHedge$Reckoning", "fitWithoutSign", "(J)J"⟩, 16) := ⟨⟨by decide +kernel, by decide +kernel⟩, List.mem_of_getElem? (i := 26) (by decide +kernel), List.mem_of_getElem? (i := 356) (by decide +kernel), List.mem_of_getElem? (i := 357) (by decide +kernel)⟩
theorem lw_p5 : lw_okq (⟨"LegHedge$Reckoning", "chargesOf", "(I)J"⟩, 16) := ⟨⟨by decide +kernel, by decide +kernel⟩, List.mem_of_getElem? (i := 26) (by decide +kernel), List.mem_of_getElem? (i := 360) (by decide +kernel), List.mem_of_getElem? (i := 361) (by decide +kernel)⟩
theorem lw_p6 : lw_okq (⟨"LegHedge$Reckoning", "paired", "(II)J"⟩, 16) := ⟨⟨by decide +kernel, by decide +kernel⟩, List.mem_of_getElem? (i := 26) (by decide +kernel), List.mem_of_getElem? (i := 367) (by decide +kernel), List.mem_of_getElem? (i := 368) (by decide +kernel)⟩
theorem lw_p7 : lw_okq (⟨"LegHedge$Reckoning", "sumAll", "()V"⟩, 16) := ⟨⟨by decide +kernel, by decide +kernel⟩, List.mem_of_getElem? (i := 26) (by decide +kernel), List.mem_of_getElem? (i := 378) (by decide +kernel), List.mem_of_getElem? (i := 379) (by decide +kernel)⟩
theorem lw_p8 : lw_okq (⟨"LegHedge$Credits", "timesOf", "(I)J"⟩, 16) := ⟨⟨by decide +kernel, by decide +kernel⟩, List.mem_of_getElem? (i := 102) (by decide +kernel), List.mem_of_getElem? (i := 393) (by decide +kernel), List.mem_of_getElem? (i := 394) (by decide +kernel)⟩
theorem lw_p9 : lw_okq (⟨"LegHedge$Credits", "hoped", "()J"⟩, 16) := ⟨⟨by decide +kernel, by decide +kernel⟩, List.mem_of_getElem? (i := 102) (by decide +kernel), List.mem_of_getElem? (i := 402) (by decide +kernel), List.mem_of_getElem? (i := 403) (by decide +kernel)⟩
theorem lw_p10 : lw_okq (⟨"LegHedge$Credits", "creditOf", "(IJ)J"⟩, 16) := ⟨⟨by decide +kernel, by decide +kernel⟩, List.mem_of_getElem? (i := 102) (by decide +kernel), List.mem_of_getElem? (i := 406) (by decide +kernel), List.mem_of_getElem? (i := 407) (by decide +kernel)⟩
theorem lw_p11 : lw_okq (⟨"LegHedge$Credits", "take", "(IJ)V"⟩, 16) := ⟨⟨by decide +kernel, by decide +kernel⟩, List.mem_of_getElem? (i := 102) (by decide +kernel), List.mem_of_getElem? (i := 411) (by decide +kernel), List.mem_of_getElem? (i := 412) (by decide +kernel)⟩
theorem lw_p12 : lw_okq (⟨"LegHedge", "tryGround", "(III)I"⟩, 7) := ⟨⟨by decide +kernel, by decide +kernel⟩, List.mem_of_getElem? (i := 18) (by decide +kernel), List.mem_of_getElem? (i := 453) (by decide +kernel), List.mem_of_getElem? (i := 454) (by decide +kernel)⟩
theorem lw_p13 : lw_okq (⟨"LegHedge", "accept", "()V"⟩, 7) := ⟨⟨by decide +kernel, by decide +kernel⟩, List.mem_of_getElem? (i := 18) (by decide +kernel), List.mem_of_getElem? (i := 471) (by decide +kernel), List.mem_of_getElem? (i := 472) (by decide +kernel)⟩
theorem lw_p14 : lw_okq (⟨"LegHedge", "tryMove", "(III)I"⟩, 7) := ⟨⟨by decide +kernel, by decide +kernel⟩, List.mem_of_getElem? (i := 18) (by decide +kernel), List.mem_of_getElem? (i := 480) (by decide +kernel), List.mem_of_getElem? (i := 481) (by decide +kernel)⟩
theorem lw_p15 : lw_okq (⟨"LegHedge", "isMoveOrNow", "(I)Z"⟩, 7) := ⟨⟨by decide +kernel, by decide +kernel⟩, List.mem_of_getElem? (i := 18) (by decide +kernel), List.mem_of_getElem? (i := 499) (by decide +kernel), List.mem_of_getElem? (i := 500) (by decide +kernel)⟩
def lw_privs_1 : List (MethodName × Nat) := [(⟨"LegHedge$Reckoning", "clearGrounds", "()V"⟩, 16), (⟨"LegHedge$Reckoning", "addLosses", "(I)V"⟩, 16), (⟨"LegHedge$Reckoning", "addDelta", "(I)V"⟩, 16), (⟨"LegHedge$Reckoning", "sumGround", "(I)V"⟩, 16), (⟨"LegHedge$Reckoning", "fitWithoutSign", "(J)J"⟩, 16), (⟨"LegHedge$Reckoning", "chargesOf", "(I)J"⟩, 16), (⟨"LegHedge$Reckoning", "paired", "(II)J"⟩, 16), (⟨"LegHedge$Reckoning", "sumAll", "()V"⟩, 16), (⟨"LegHedge$Credits", "timesOf", "(I)J"⟩, 16), (⟨"LegHedge$Credits", "hoped", "()J"⟩, 16), (⟨"LegHedge$Credits", "creditOf", "(IJ)J"⟩, 16), (⟨"LegHedge$Credits", "take", "(IJ)V"⟩, 16), (⟨"LegHedge", "tryGround", "(III)I"⟩, 7), (⟨"LegHedge", "accept", "()V"⟩, 7), (⟨"LegHedge", "tryMove", "(III)I"⟩, 7), (⟨"LegHedge", "isMoveOrNow", "(I)Z"⟩, 7)]
theorem lw_r1 : ∀ q ∈ lw_privs_1, lw_okq q := List.forall_mem_cons.mpr ⟨lw_p0, List.forall_mem_cons.mpr ⟨lw_p1, List.forall_mem_cons.mpr ⟨lw_p2, List.forall_mem_cons.mpr ⟨lw_p3, List.forall_mem_cons.mpr ⟨lw_p4, List.forall_mem_cons.mpr ⟨lw_p5, List.forall_mem_cons.mpr ⟨lw_p6, List.forall_mem_cons.mpr ⟨lw_p7, List.forall_mem_cons.mpr ⟨lw_p8, List.forall_mem_cons.mpr ⟨lw_p9, List.forall_mem_cons.mpr ⟨lw_p10, List.forall_mem_cons.mpr ⟨lw_p11, List.forall_mem_cons.mpr ⟨lw_p12, List.forall_mem_cons.mpr ⟨lw_p13, List.forall_mem_cons.mpr ⟨lw_p14, List.forall_mem_cons.mpr ⟨lw_p15, fun _ h => absurd h List.not_mem_nil⟩⟩⟩⟩⟩⟩⟩⟩⟩⟩⟩⟩⟩⟩⟩⟩
theorem lw_p16 : lw_okq (⟨"LegHedge", "tryOffset", "(IIIIII)I"⟩, 7) := ⟨⟨by decide +kernel, by decide +kernel⟩, List.mem_of_getElem? (i := 18) (by decide +kernel), List.mem_of_getElem? (i := 509) (by decide +kernel), List.mem_of_getElem? (i := 510) (by decide +kernel)⟩
theorem lw_p17 : lw_okq (⟨"LegHedge", "tryTrade", "(IIIII)I"⟩, 7) := ⟨⟨by decide +kernel, by decide +kernel⟩, List.mem_of_getElem? (i := 18) (by decide +kernel), List.mem_of_getElem? (i := 521) (by decide +kernel), List.mem_of_getElem? (i := 522) (by decide +kernel)⟩
theorem lw_p18 : lw_okq (⟨"LegHedge$Credits", "nextFree", "(II)I"⟩, 16) := ⟨⟨by decide +kernel, by decide +kernel⟩, List.mem_of_getElem? (i := 102) (by decide +kernel), List.mem_of_getElem? (i := 605) (by decide +kernel), List.mem_of_getElem? (i := 606) (by decide +kernel)⟩
theorem lw_p19 : lw_okq (⟨"LegHedge", "sieveFloors", "(I)V"⟩, 7) := ⟨⟨by decide +kernel, by decide +kernel⟩, List.mem_of_getElem? (i := 18) (by decide +kernel), List.mem_of_getElem? (i := 633) (by decide +kernel), List.mem_of_getElem? (i := 634) (by decide +kernel)⟩
theorem lw_p20 : lw_okq (⟨"LegHedge$Book", "shiftGrounds", "(II)V"⟩, 6) := ⟨⟨by decide +kernel, by decide +kernel⟩, List.mem_of_getElem? (i := 32) (by decide +kernel), List.mem_of_getElem? (i := 662) (by decide +kernel), List.mem_of_getElem? (i := 663) (by decide +kernel)⟩
theorem lw_p21 : lw_okq (⟨"LegHedge$SetUp", "parseClause", "(I)Z"⟩, 6) := ⟨⟨by decide +kernel, by decide +kernel⟩, List.mem_of_getElem? (i := 242) (by decide +kernel), List.mem_of_getElem? (i := 684) (by decide +kernel), List.mem_of_getElem? (i := 685) (by decide +kernel)⟩
theorem lw_p22 : lw_okq (⟨"LegHedge$SetUp", "skip", "(I)Z"⟩, 6) := ⟨⟨by decide +kernel, by decide +kernel⟩, List.mem_of_getElem? (i := 242) (by decide +kernel), List.mem_of_getElem? (i := 748) (by decide +kernel), List.mem_of_getElem? (i := 749) (by decide +kernel)⟩
theorem lw_p23 : lw_okq (⟨"LegHedge$SetUp", "parseNumber", "(I)I"⟩, 6) := ⟨⟨by decide +kernel, by decide +kernel⟩, List.mem_of_getElem? (i := 242) (by decide +kernel), List.mem_of_getElem? (i := 752) (by decide +kernel), List.mem_of_getElem? (i := 753) (by decide +kernel)⟩
theorem lw_p24 : lw_okq (⟨"LegHedge", "tryClause", "(I[I)I"⟩, 7) := ⟨⟨by decide +kernel, by decide +kernel⟩, List.mem_of_getElem? (i := 18) (by decide +kernel), List.mem_of_getElem? (i := 757) (by decide +kernel), List.mem_of_getElem? (i := 758) (by decide +kernel)⟩
theorem lw_p25 : lw_okq (⟨"LegHedge$Book", "isFirstOfItsPair", "(I)Z"⟩, 6) := ⟨⟨by decide +kernel, by decide +kernel⟩, List.mem_of_getElem? (i := 32) (by decide +kernel), List.mem_of_getElem? (i := 789) (by decide +kernel), List.mem_of_getElem? (i := 790) (by decide +kernel)⟩
theorem lw_p26 : lw_okq (⟨"LegHedgeModel", "works", "()Z"⟩, 42) := ⟨⟨by decide +kernel, by decide +kernel⟩, List.mem_of_getElem? (i := 825) (by decide +kernel), List.mem_of_getElem? (i := 835) (by decide +kernel), List.mem_of_getElem? (i := 836) (by decide +kernel)⟩
theorem lw_p27 : lw_okq (⟨"LegHedgeModel", "legs", "()V"⟩, 42) := ⟨⟨by decide +kernel, by decide +kernel⟩, List.mem_of_getElem? (i := 825) (by decide +kernel), List.mem_of_getElem? (i := 839) (by decide +kernel), List.mem_of_getElem? (i := 840) (by decide +kernel)⟩
theorem lw_p28 : lw_okq (⟨"LegHedgeModel", "legAs", "(II)I"⟩, 42) := ⟨⟨by decide +kernel, by decide +kernel⟩, List.mem_of_getElem? (i := 825) (by decide +kernel), List.mem_of_getElem? (i := 843) (by decide +kernel), List.mem_of_getElem? (i := 844) (by decide +kernel)⟩
theorem lw_p29 : lw_okq (⟨"LegHedgeModel", "leg", "(II)J"⟩, 42) := ⟨⟨by decide +kernel, by decide +kernel⟩, List.mem_of_getElem? (i := 825) (by decide +kernel), List.mem_of_getElem? (i := 847) (by decide +kernel), List.mem_of_getElem? (i := 848) (by decide +kernel)⟩
theorem lw_p30 : lw_okq (⟨"LegHedgeModel", "is", "(J)J"⟩, 42) := ⟨⟨by decide +kernel, by decide +kernel⟩, List.mem_of_getElem? (i := 825) (by decide +kernel), List.mem_of_getElem? (i := 851) (by decide +kernel), List.mem_of_getElem? (i := 852) (by decide +kernel)⟩
theorem lw_p31 : lw_okq (⟨"LegHedgeModel", "of", "(II)I"⟩, 42) := ⟨⟨by decide +kernel, by decide +kernel⟩, List.mem_of_getElem? (i := 825) (by decide +kernel), List.mem_of_getElem? (i := 857) (by decide +kernel), List.mem_of_getElem? (i := 858) (by decide +kernel)⟩
def lw_privs_2 : List (MethodName × Nat) := [(⟨"LegHedge", "tryOffset", "(IIIIII)I"⟩, 7), (⟨"LegHedge", "tryTrade", "(IIIII)I"⟩, 7), (⟨"LegHedge$Credits", "nextFree", "(II)I"⟩, 16), (⟨"LegHedge", "sieveFloors", "(I)V"⟩, 7), (⟨"LegHedge$Book", "shiftGrounds", "(II)V"⟩, 6), (⟨"LegHedge$SetUp", "parseClause", "(I)Z"⟩, 6), (⟨"LegHedge$SetUp", "skip", "(I)Z"⟩, 6), (⟨"LegHedge$SetUp", "parseNumber", "(I)I"⟩, 6), (⟨"LegHedge", "tryClause", "(I[I)I"⟩, 7), (⟨"LegHedge$Book", "isFirstOfItsPair", "(I)Z"⟩, 6), (⟨"LegHedgeModel", "works", "()Z"⟩, 42), (⟨"LegHedgeModel", "legs", "()V"⟩, 42), (⟨"LegHedgeModel", "legAs", "(II)I"⟩, 42), (⟨"LegHedgeModel", "leg", "(II)J"⟩, 42), (⟨"LegHedgeModel", "is", "(J)J"⟩, 42), (⟨"LegHedgeModel", "of", "(II)I"⟩, 42)]
theorem lw_r2 : ∀ q ∈ lw_privs_2, lw_okq q := List.forall_mem_cons.mpr ⟨lw_p16, List.forall_mem_cons.mpr ⟨lw_p17, List.forall_mem_cons.mpr ⟨lw_p18, List.forall_mem_cons.mpr ⟨lw_p19, List.forall_mem_cons.mpr ⟨lw_p20, List.forall_mem_cons.mpr ⟨lw_p21, List.forall_mem_cons.mpr ⟨lw_p22, List.forall_mem_cons.mpr ⟨lw_p23, List.forall_mem_cons.mpr ⟨lw_p24, List.forall_mem_cons.mpr ⟨lw_p25, List.forall_mem_cons.mpr ⟨lw_p26, List.forall_mem_cons.mpr ⟨lw_p27, List.forall_mem_cons.mpr ⟨lw_p28, List.forall_mem_cons.mpr ⟨lw_p29, List.forall_mem_cons.mpr ⟨lw_p30, List.forall_mem_cons.mpr ⟨lw_p31, fun _ h => absurd h List.not_mem_nil⟩⟩⟩⟩⟩⟩⟩⟩⟩⟩⟩⟩⟩⟩⟩⟩
theorem lw_p32 : lw_okq (⟨"LegHedgeModel", "valueBy", "(II)I"⟩, 42) := ⟨⟨by decide +kernel, by decide +kernel⟩, List.mem_of_getElem? (i := 825) (by decide +kernel), List.mem_of_getElem? (i := 861) (by decide +kernel), List.mem_of_getElem? (i := 862) (by decide +kernel)⟩
theorem lw_p33 : lw_okq (⟨"LegHedgeModel", "price", "(II)I"⟩, 42) := ⟨⟨by decide +kernel, by decide +kernel⟩, List.mem_of_getElem? (i := 825) (by decide +kernel), List.mem_of_getElem? (i := 865) (by decide +kernel), List.mem_of_getElem? (i := 866) (by decide +kernel)⟩
theorem lw_p34 : lw_okq (⟨"LegHedgeModel", "unrest", "(II)I"⟩, 42) := ⟨⟨by decide +kernel, by decide +kernel⟩, List.mem_of_getElem? (i := 825) (by decide +kernel), List.mem_of_getElem? (i := 870) (by decide +kernel), List.mem_of_getElem? (i := 871) (by decide +kernel)⟩
theorem lw_p35 : lw_okq (⟨"LegHedgeModel", "value", "(III)I"⟩, 42) := ⟨⟨by decide +kernel, by decide +kernel⟩, List.mem_of_getElem? (i := 825) (by decide +kernel), List.mem_of_getElem? (i := 874) (by decide +kernel), List.mem_of_getElem? (i := 875) (by decide +kernel)⟩
theorem lw_p36 : lw_okq (⟨"LegHedgeModel", "grounds", "()V"⟩, 42) := ⟨⟨by decide +kernel, by decide +kernel⟩, List.mem_of_getElem? (i := 825) (by decide +kernel), List.mem_of_getElem? (i := 887) (by decide +kernel), List.mem_of_getElem? (i := 888) (by decide +kernel)⟩
theorem lw_p37 : lw_okq (⟨"LegHedgeModel", "charges", "(I)J"⟩, 42) := ⟨⟨by decide +kernel, by decide +kernel⟩, List.mem_of_getElem? (i := 825) (by decide +kernel), List.mem_of_getElem? (i := 893) (by decide +kernel), List.mem_of_getElem? (i := 894) (by decide +kernel)⟩
theorem lw_p38 : lw_okq (⟨"LegHedgeModel", "orders", "(IJ)V"⟩, 42) := ⟨⟨by decide +kernel, by decide +kernel⟩, List.mem_of_getElem? (i := 825) (by decide +kernel), List.mem_of_getElem? (i := 901) (by decide +kernel), List.mem_of_getElem? (i := 902) (by decide +kernel)⟩
theorem lw_p39 : lw_okq (⟨"LegHedgeModel", "offsetAt", "(II)I"⟩, 42) := ⟨⟨by decide +kernel, by decide +kernel⟩, List.mem_of_getElem? (i := 825) (by decide +kernel), List.mem_of_getElem? (i := 905) (by decide +kernel), List.mem_of_getElem? (i := 906) (by decide +kernel)⟩
theorem lw_p40 : lw_okq (⟨"LegHedgeModel", "uses", "(I)V"⟩, 42) := ⟨⟨by decide +kernel, by decide +kernel⟩, List.mem_of_getElem? (i := 825) (by decide +kernel), List.mem_of_getElem? (i := 909) (by decide +kernel), List.mem_of_getElem? (i := 910) (by decide +kernel)⟩
theorem lw_p41 : lw_okq (⟨"LegHedgeModel", "mayUse", "(I)Z"⟩, 42) := ⟨⟨by decide +kernel, by decide +kernel⟩, List.mem_of_getElem? (i := 825) (by decide +kernel), List.mem_of_getElem? (i := 913) (by decide +kernel), List.mem_of_getElem? (i := 914) (by decide +kernel)⟩
theorem lw_p42 : lw_okq (⟨"LegHedgeModel", "laysAside", "()V"⟩, 42) := ⟨⟨by decide +kernel, by decide +kernel⟩, List.mem_of_getElem? (i := 825) (by decide +kernel), List.mem_of_getElem? (i := 1061) (by decide +kernel), List.mem_of_getElem? (i := 1062) (by decide +kernel)⟩
theorem lw_p43 : lw_okq (⟨"LegHedgeModel", "stays", "()Z"⟩, 42) := ⟨⟨by decide +kernel, by decide +kernel⟩, List.mem_of_getElem? (i := 825) (by decide +kernel), List.mem_of_getElem? (i := 1068) (by decide +kernel), List.mem_of_getElem? (i := 1069) (by decide +kernel)⟩
theorem lw_p44 : lw_okq (⟨"LegHedgeModel", "isMove", "(I)Z"⟩, 42) := ⟨⟨by decide +kernel, by decide +kernel⟩, List.mem_of_getElem? (i := 825) (by decide +kernel), List.mem_of_getElem? (i := 1088) (by decide +kernel), List.mem_of_getElem? (i := 1089) (by decide +kernel)⟩
theorem lw_p45 : lw_okq (⟨"LegHedgeModel", "leaves", "(IIII)V"⟩, 42) := ⟨⟨by decide +kernel, by decide +kernel⟩, List.mem_of_getElem? (i := 825) (by decide +kernel), List.mem_of_getElem? (i := 1092) (by decide +kernel), List.mem_of_getElem? (i := 1093) (by decide +kernel)⟩
theorem lw_p46 : lw_okq (⟨"LegHedgeModel", "isOffset", "(I)Z"⟩, 42) := ⟨⟨by decide +kernel, by decide +kernel⟩, List.mem_of_getElem? (i := 825) (by decide +kernel), List.mem_of_getElem? (i := 1109) (by decide +kernel), List.mem_of_getElem? (i := 1110) (by decide +kernel)⟩
theorem lw_p47 : lw_okq (⟨"LegHedgeModel", "trades", "(IIIII)I"⟩, 42) := ⟨⟨by decide +kernel, by decide +kernel⟩, List.mem_of_getElem? (i := 825) (by decide +kernel), List.mem_of_getElem? (i := 1121) (by decide +kernel), List.mem_of_getElem? (i := 1122) (by decide +kernel)⟩
def lw_privs_3 : List (MethodName × Nat) := [(⟨"LegHedgeModel", "valueBy", "(II)I"⟩, 42), (⟨"LegHedgeModel", "price", "(II)I"⟩, 42), (⟨"LegHedgeModel", "unrest", "(II)I"⟩, 42), (⟨"LegHedgeModel", "value", "(III)I"⟩, 42), (⟨"LegHedgeModel", "grounds", "()V"⟩, 42), (⟨"LegHedgeModel", "charges", "(I)J"⟩, 42), (⟨"LegHedgeModel", "orders", "(IJ)V"⟩, 42), (⟨"LegHedgeModel", "offsetAt", "(II)I"⟩, 42), (⟨"LegHedgeModel", "uses", "(I)V"⟩, 42), (⟨"LegHedgeModel", "mayUse", "(I)Z"⟩, 42), (⟨"LegHedgeModel", "laysAside", "()V"⟩, 42), (⟨"LegHedgeModel", "stays", "()Z"⟩, 42), (⟨"LegHedgeModel", "isMove", "(I)Z"⟩, 42), (⟨"LegHedgeModel", "leaves", "(IIII)V"⟩, 42), (⟨"LegHedgeModel", "isOffset", "(I)Z"⟩, 42), (⟨"LegHedgeModel", "trades", "(IIIII)I"⟩, 42)]
theorem lw_r3 : ∀ q ∈ lw_privs_3, lw_okq q := List.forall_mem_cons.mpr ⟨lw_p32, List.forall_mem_cons.mpr ⟨lw_p33, List.forall_mem_cons.mpr ⟨lw_p34, List.forall_mem_cons.mpr ⟨lw_p35, List.forall_mem_cons.mpr ⟨lw_p36, List.forall_mem_cons.mpr ⟨lw_p37, List.forall_mem_cons.mpr ⟨lw_p38, List.forall_mem_cons.mpr ⟨lw_p39, List.forall_mem_cons.mpr ⟨lw_p40, List.forall_mem_cons.mpr ⟨lw_p41, List.forall_mem_cons.mpr ⟨lw_p42, List.forall_mem_cons.mpr ⟨lw_p43, List.forall_mem_cons.mpr ⟨lw_p44, List.forall_mem_cons.mpr ⟨lw_p45, List.forall_mem_cons.mpr ⟨lw_p46, List.forall_mem_cons.mpr ⟨lw_p47, fun _ h => absurd h List.not_mem_nil⟩⟩⟩⟩⟩⟩⟩⟩⟩⟩⟩⟩⟩⟩⟩⟩
theorem lw_p48 : lw_okq (⟨"LegHedgeModel", "legOf", "(IIII)I"⟩, 42) := ⟨⟨by decide +kernel, by decide +kernel⟩, List.mem_of_getElem? (i := 825) (by decide +kernel), List.mem_of_getElem? (i := 1125) (by decide +kernel), List.mem_of_getElem? (i := 1126) (by decide +kernel)⟩
theorem lw_p49 : lw_okq (⟨"LegHedgeModel", "isLeg", "(I)Z"⟩, 42) := ⟨⟨by decide +kernel, by decide +kernel⟩, List.mem_of_getElem? (i := 825) (by decide +kernel), List.mem_of_getElem? (i := 1138) (by decide +kernel), List.mem_of_getElem? (i := 1139) (by decide +kernel)⟩
theorem lw_p50 : lw_okq (⟨"LegHedgeModel", "thinks", "()V"⟩, 42) := ⟨⟨by decide +kernel, by decide +kernel⟩, List.mem_of_getElem? (i := 825) (by decide +kernel), List.mem_of_getElem? (i := 1183) (by decide +kernel), List.mem_of_getElem? (i := 1184) (by decide +kernel)⟩
theorem lw_p51 : lw_okq (⟨"LegHedgeModel", "forgets", "()V"⟩, 42) := ⟨⟨by decide +kernel, by decide +kernel⟩, List.mem_of_getElem? (i := 825) (by decide +kernel), List.mem_of_getElem? (i := 1187) (by decide +kernel), List.mem_of_getElem? (i := 1188) (by decide +kernel)⟩
theorem lw_p52 : lw_okq (⟨"LegHedgeModel", "isAsSeen", "(I)Z"⟩, 42) := ⟨⟨by decide +kernel, by decide +kernel⟩, List.mem_of_getElem? (i := 825) (by decide +kernel), List.mem_of_getElem? (i := 1212) (by decide +kernel), List.mem_of_getElem? (i := 1213) (by decide +kernel)⟩
theorem lw_p53 : lw_okq (⟨"LegHedgeModel", "weighs", "(J)V"⟩, 42) := ⟨⟨by decide +kernel, by decide +kernel⟩, List.mem_of_getElem? (i := 825) (by decide +kernel), List.mem_of_getElem? (i := 1216) (by decide +kernel), List.mem_of_getElem? (i := 1217) (by decide +kernel)⟩
theorem lw_p54 : lw_okq (⟨"LegHedgeModel", "shifts", "(IJJJ)V"⟩, 42) := ⟨⟨by decide +kernel, by decide +kernel⟩, List.mem_of_getElem? (i := 825) (by decide +kernel), List.mem_of_getElem? (i := 1230) (by decide +kernel), List.mem_of_getElem? (i := 1231) (by decide +kernel)⟩
theorem lw_p55 : lw_okq (⟨"LegHedgeModel", "clause", "(I)V"⟩, 42) := ⟨⟨by decide +kernel, by decide +kernel⟩, List.mem_of_getElem? (i := 825) (by decide +kernel), List.mem_of_getElem? (i := 1243) (by decide +kernel), List.mem_of_getElem? (i := 1244) (by decide +kernel)⟩
theorem lw_p56 : lw_okq (⟨"LegHedgeModel", "fails", "(I)V"⟩, 42) := ⟨⟨by decide +kernel, by decide +kernel⟩, List.mem_of_getElem? (i := 825) (by decide +kernel), List.mem_of_getElem? (i := 1247) (by decide +kernel), List.mem_of_getElem? (i := 1248) (by decide +kernel)⟩
theorem lw_p57 : lw_okq (⟨"LegHedgeModel", "number", "(I)I"⟩, 42) := ⟨⟨by decide +kernel, by decide +kernel⟩, List.mem_of_getElem? (i := 825) (by decide +kernel), List.mem_of_getElem? (i := 1251) (by decide +kernel), List.mem_of_getElem? (i := 1252) (by decide +kernel)⟩
theorem lw_p58 : lw_okq (⟨"LegHedgeModel", "needs", "(I)V"⟩, 42) := ⟨⟨by decide +kernel, by decide +kernel⟩, List.mem_of_getElem? (i := 825) (by decide +kernel), List.mem_of_getElem? (i := 1257) (by decide +kernel), List.mem_of_getElem? (i := 1258) (by decide +kernel)⟩
theorem lw_p59 : lw_okq (⟨"LegHedgeModel", "takes", "(I)Z"⟩, 42) := ⟨⟨by decide +kernel, by decide +kernel⟩, List.mem_of_getElem? (i := 825) (by decide +kernel), List.mem_of_getElem? (i := 1261) (by decide +kernel), List.mem_of_getElem? (i := 1262) (by decide +kernel)⟩
theorem lw_p60 : lw_okq (⟨"LegHedgeModel", "signed", "(I)I"⟩, 42) := ⟨⟨by decide +kernel, by decide +kernel⟩, List.mem_of_getElem? (i := 825) (by decide +kernel), List.mem_of_getElem? (i := 1265) (by decide +kernel), List.mem_of_getElem? (i := 1266) (by decide +kernel)⟩
theorem lw_p61 : lw_okq (⟨"LegHedgeModel", "isDone", "(I)Z"⟩, 42) := ⟨⟨by decide +kernel, by decide +kernel⟩, List.mem_of_getElem? (i := 825) (by decide +kernel), List.mem_of_getElem? (i := 1269) (by decide +kernel), List.mem_of_getElem? (i := 1270) (by decide +kernel)⟩
theorem lw_p62 : lw_okq (⟨"LegHedgeModel", "does", "(I)I"⟩, 42) := ⟨⟨by decide +kernel, by decide +kernel⟩, List.mem_of_getElem? (i := 825) (by decide +kernel), List.mem_of_getElem? (i := 1273) (by decide +kernel), List.mem_of_getElem? (i := 1274) (by decide +kernel)⟩
theorem lw_p63 : lw_okq (⟨"LegHedgeModel", "spots", "()I"⟩, 42) := ⟨⟨by decide +kernel, by decide +kernel⟩, List.mem_of_getElem? (i := 825) (by decide +kernel), List.mem_of_getElem? (i := 1299) (by decide +kernel), List.mem_of_getElem? (i := 1300) (by decide +kernel)⟩
def lw_privs_4 : List (MethodName × Nat) := [(⟨"LegHedgeModel", "legOf", "(IIII)I"⟩, 42), (⟨"LegHedgeModel", "isLeg", "(I)Z"⟩, 42), (⟨"LegHedgeModel", "thinks", "()V"⟩, 42), (⟨"LegHedgeModel", "forgets", "()V"⟩, 42), (⟨"LegHedgeModel", "isAsSeen", "(I)Z"⟩, 42), (⟨"LegHedgeModel", "weighs", "(J)V"⟩, 42), (⟨"LegHedgeModel", "shifts", "(IJJJ)V"⟩, 42), (⟨"LegHedgeModel", "clause", "(I)V"⟩, 42), (⟨"LegHedgeModel", "fails", "(I)V"⟩, 42), (⟨"LegHedgeModel", "number", "(I)I"⟩, 42), (⟨"LegHedgeModel", "needs", "(I)V"⟩, 42), (⟨"LegHedgeModel", "takes", "(I)Z"⟩, 42), (⟨"LegHedgeModel", "signed", "(I)I"⟩, 42), (⟨"LegHedgeModel", "isDone", "(I)Z"⟩, 42), (⟨"LegHedgeModel", "does", "(I)I"⟩, 42), (⟨"LegHedgeModel", "spots", "()I"⟩, 42)]
theorem lw_r4 : ∀ q ∈ lw_privs_4, lw_okq q := List.forall_mem_cons.mpr ⟨lw_p48, List.forall_mem_cons.mpr ⟨lw_p49, List.forall_mem_cons.mpr ⟨lw_p50, List.forall_mem_cons.mpr ⟨lw_p51, List.forall_mem_cons.mpr ⟨lw_p52, List.forall_mem_cons.mpr ⟨lw_p53, List.forall_mem_cons.mpr ⟨lw_p54, List.forall_mem_cons.mpr ⟨lw_p55, List.forall_mem_cons.mpr ⟨lw_p56, List.forall_mem_cons.mpr ⟨lw_p57, List.forall_mem_cons.mpr ⟨lw_p58, List.forall_mem_cons.mpr ⟨lw_p59, List.forall_mem_cons.mpr ⟨lw_p60, List.forall_mem_cons.mpr ⟨lw_p61, List.forall_mem_cons.mpr ⟨lw_p62, List.forall_mem_cons.mpr ⟨lw_p63, fun _ h => absurd h List.not_mem_nil⟩⟩⟩⟩⟩⟩⟩⟩⟩⟩⟩⟩⟩⟩⟩⟩
def lw_privs : List (MethodName × Nat) := lw_privs_1 ++ (lw_privs_2 ++ (lw_privs_3 ++ (lw_privs_4)))
def lw_tbl : List Cond := k2_sels lw_privs ++ tables_1
theorem lw_privs_ok : ∀ q ∈ lw_privs, lw_okq q := by
  show ∀ q ∈ lw_privs_1 ++ (lw_privs_2 ++ (lw_privs_3 ++ (lw_privs_4))), lw_okq q
  exact List.forall_mem_append.mpr ⟨lw_r1, List.forall_mem_append.mpr ⟨lw_r2, List.forall_mem_append.mpr ⟨lw_r3, lw_r4⟩⟩⟩

def RX0 : String := "LegHedge$Book"
def TX0 : u_T := fun k => match k with
  | 0 => ("LegHedge$Book", "grounds", "LLegHedge$Table;", true)
  | 1 => ("LegHedge$Book", "moves", "LLegHedge$Table;", true)
  | 2 => ("LegHedge$Book", "offsets", "LLegHedge$Table;", true)
  | 3 => ("LegHedge$Book", "legs", "LLegHedge$Table;", true)
  | 4 => ("LegHedge$Book", "seen", "LLegHedge$Table;", true)
  | _ => ("LegHedge$Book", "plan", "LLegHedge$Table;", true)
def tyX0 : Nat → FieldType := fun k => match k with
  | 0 => .object "LegHedge$Table"
  | 1 => .object "LegHedge$Table"
  | 2 => .object "LegHedge$Table"
  | 3 => .object "LegHedge$Table"
  | 4 => .object "LegHedge$Table"
  | _ => .object "LegHedge$Table"
abbrev wsX00 : List Cond := u_ws RX0 TX0 6
theorem nmX0 : ∀ a, a < 6 → ∀ b, b < 6 → a ≠ b → (TX0 a).2.1 ≠ (TX0 b).2.1 := by decide +kernel
theorem tyX0_ok : ∀ k, k < 6 → parseFieldDescriptor (TX0 k).2.2.1 = some (tyX0 k) := by decide +kernel
abbrev cX0_init : ByteArray := prog_2_method_1_code
def yX0_init : MethodName := ⟨RX0, "<init>", "()V"⟩
abbrev cX0_copyFrom : ByteArray := prog_2_method_2_code
def yX0_copyFrom : MethodName := ⟨RX0, "copyFrom", "(LLegHedge$Book;)V"⟩
abbrev cX0_priceBy : ByteArray := prog_2_method_3_code
def yX0_priceBy : MethodName := ⟨RX0, "priceBy", "(II)I"⟩
abbrev cX0_unrestBy : ByteArray := prog_2_method_4_code
def yX0_unrestBy : MethodName := ⟨RX0, "unrestBy", "(II)I"⟩
abbrev cX0_money : ByteArray := prog_2_method_5_code
def yX0_money : MethodName := ⟨RX0, "money", "(III)I"⟩
abbrev cX0_worthOf : ByteArray := prog_2_method_6_code
def yX0_worthOf : MethodName := ⟨RX0, "worthOf", "(III)I"⟩
abbrev cX0_legOfInstrument : ByteArray := prog_2_method_7_code
def yX0_legOfInstrument : MethodName := ⟨RX0, "legOfInstrument", "(IIII)I"⟩
abbrev cX0_unlikeStrikesAndExpiries : ByteArray := prog_2_method_8_code
def yX0_unlikeStrikesAndExpiries : MethodName := ⟨RX0, "unlikeStrikesAndExpiries", "()I"⟩
abbrev cX0_isFirstOfItsPair : ByteArray := prog_2_method_9_code
def yX0_isFirstOfItsPair : MethodName := ⟨RX0, "isFirstOfItsPair", "(I)Z"⟩
abbrev cX0_scale : ByteArray := prog_2_method_10_code
def yX0_scale : MethodName := ⟨RX0, "scale", "(I)Z"⟩
abbrev cX0_follow : ByteArray := prog_2_method_11_code
def yX0_follow : MethodName := ⟨RX0, "follow", "()V"⟩
abbrev cX0_shiftGrounds : ByteArray := prog_2_method_12_code
def yX0_shiftGrounds : MethodName := ⟨RX0, "shiftGrounds", "(II)V"⟩
def RX1 : String := "LegHedge$Credits"
def TX1 : u_T := fun k => match k with
  | 0 => ("LegHedge$Credits", "count", "I", false)
  | 1 => ("LegHedge$Credits", "best", "[I", true)
  | 2 => ("LegHedge$Credits", "current", "[I", true)
  | 3 => ("LegHedge$Credits", "walkedTimes", "[I", true)
  | 4 => ("LegHedge$Credits", "walkedCredit", "[J", true)
  | 5 => ("LegHedge$Credits", "most", "J", false)
  | 6 => ("LegHedge$Credits", "a", "[I", true)
  | 7 => ("LegHedge$Credits", "b", "[I", true)
  | 8 => ("LegHedge$Credits", "tenA", "[I", true)
  | 9 => ("LegHedge$Credits", "tenB", "[I", true)
  | 10 => ("LegHedge$Credits", "pay", "[J", true)
  | 11 => ("LegHedge$Credits", "rate", "[I", true)
  | 12 => ("LegHedge$Credits", "suits", "[Z", true)
  | 13 => ("LegHedge$Credits", "gone", "[Z", true)
  | 14 => ("LegHedge$Credits", "atFirst", "[J", true)
  | _ => ("LegHedge$Credits", "left", "[J", true)
def tyX1 : Nat → FieldType := fun k => match k with
  | 0 => .int
  | 1 => .array .int
  | 2 => .array .int
  | 3 => .array .int
  | 4 => .array .long
  | 5 => .long
  | 6 => .array .int
  | 7 => .array .int
  | 8 => .array .int
  | 9 => .array .int
  | 10 => .array .long
  | 11 => .array .int
  | 12 => .array .boolean
  | 13 => .array .boolean
  | 14 => .array .long
  | _ => .array .long
abbrev wsX10 : List Cond := u_ws RX1 TX1 16
theorem nmX1 : ∀ a, a < 16 → ∀ b, b < 16 → a ≠ b → (TX1 a).2.1 ≠ (TX1 b).2.1 := by decide +kernel
theorem tyX1_ok : ∀ k, k < 16 → parseFieldDescriptor (TX1 k).2.2.1 = some (tyX1 k) := by decide +kernel
abbrev cX1_init : ByteArray := prog_3_method_1_code
def yX1_init : MethodName := ⟨RX1, "<init>", "()V"⟩
abbrev cX1_prepare : ByteArray := prog_3_method_2_code
def yX1_prepare : MethodName := ⟨RX1, "prepare", "(LLegHedge$Table;[J[JLLegHedge$Gauge;)V"⟩
abbrev cX1_areSo : ByteArray := prog_3_method_3_code
def yX1_areSo : MethodName := ⟨RX1, "areSo", "(JJI)Z"⟩
abbrev cX1_timesOf : ByteArray := prog_3_method_4_code
def yX1_timesOf : MethodName := ⟨RX1, "timesOf", "(I)J"⟩
abbrev cX1_creditOf : ByteArray := prog_3_method_5_code
def yX1_creditOf : MethodName := ⟨RX1, "creditOf", "(IJ)J"⟩
abbrev cX1_take : ByteArray := prog_3_method_6_code
def yX1_take : MethodName := ⟨RX1, "take", "(IJ)V"⟩
abbrev cX1_hoped : ByteArray := prog_3_method_7_code
def yX1_hoped : MethodName := ⟨RX1, "hoped", "()J"⟩
abbrev cX1_search : ByteArray := prog_3_method_8_code
def yX1_search : MethodName := ⟨RX1, "search", "(LLegHedge$Credits;IJ)V"⟩
abbrev cX1_walk : ByteArray := prog_3_method_9_code
def yX1_walk : MethodName := ⟨RX1, "walk", "([I)J"⟩
abbrev cX1_nameOrder : ByteArray := prog_3_method_10_code
def yX1_nameOrder : MethodName := ⟨RX1, "nameOrder", "(I)Z"⟩
abbrev cX1_nextFree : ByteArray := prog_3_method_11_code
def yX1_nextFree : MethodName := ⟨RX1, "nextFree", "(II)I"⟩
def RX2 : String := "LegHedge$Gauge"
def TX2 : u_T := fun k => match k with
  | _ => ("LegHedge$Gauge", "over", "Z", false)
def tyX2 : Nat → FieldType := fun k => match k with
  | _ => .boolean
abbrev wsX20 : List Cond := u_ws RX2 TX2 1
theorem nmX2 : ∀ a, a < 1 → ∀ b, b < 1 → a ≠ b → (TX2 a).2.1 ≠ (TX2 b).2.1 := by decide +kernel
theorem tyX2_ok : ∀ k, k < 1 → parseFieldDescriptor (TX2 k).2.2.1 = some (tyX2 k) := by decide +kernel
abbrev cX2_init : ByteArray := prog_4_method_1_code
def yX2_init : MethodName := ⟨RX2, "<init>", "()V"⟩
abbrev cX2_isInt : ByteArray := prog_4_method_2_code
def yX2_isInt : MethodName := ⟨RX2, "isInt", "(J)Z"⟩
abbrev cX2_fit : ByteArray := prog_4_method_3_code
def yX2_fit : MethodName := ⟨RX2, "fit", "(J)J"⟩
def RX3 : String := "LegHedge$Reckoning"
def TX3 : u_T := fun k => match k with
  | 0 => ("LegHedge$Reckoning", "book", "LLegHedge$Book;", true)
  | 1 => ("LegHedge$Reckoning", "credits", "LLegHedge$Credits;", true)
  | 2 => ("LegHedge$Reckoning", "losses", "[[I", true)
  | 3 => ("LegHedge$Reckoning", "legDelta", "[J", true)
  | 4 => ("LegHedge$Reckoning", "rows", "[[J", true)
  | 5 => ("LegHedge$Reckoning", "deltaBy", "[[J", true)
  | 6 => ("LegHedge$Reckoning", "delta", "[J", true)
  | 7 => ("LegHedge$Reckoning", "scan", "[J", true)
  | 8 => ("LegHedge$Reckoning", "charge", "[J", true)
  | 9 => ("LegHedge$Reckoning", "shorts", "[J", true)
  | 10 => ("LegHedge$Reckoning", "per", "[J", true)
  | 11 => ("LegHedge$Reckoning", "totals", "[J", true)
  | 12 => ("LegHedge$Reckoning", "prices", "[[I", true)
  | 13 => ("LegHedge$Reckoning", "unrests", "[[I", true)
  | 14 => ("LegHedge$Reckoning", "left", "[J", true)
  | _ => ("LegHedge$Reckoning", "gauge", "LLegHedge$Gauge;", true)
def tyX3 : Nat → FieldType := fun k => match k with
  | 0 => .object "LegHedge$Book"
  | 1 => .object "LegHedge$Credits"
  | 2 => .array (.array .int)
  | 3 => .array .long
  | 4 => .array (.array .long)
  | 5 => .array (.array .long)
  | 6 => .array .long
  | 7 => .array .long
  | 8 => .array .long
  | 9 => .array .long
  | 10 => .array .long
  | 11 => .array .long
  | 12 => .array (.array .int)
  | 13 => .array (.array .int)
  | 14 => .array .long
  | _ => .object "LegHedge$Gauge"
abbrev wsX30 : List Cond := u_ws RX3 TX3 16
theorem nmX3 : ∀ a, a < 16 → ∀ b, b < 16 → a ≠ b → (TX3 a).2.1 ≠ (TX3 b).2.1 := by decide +kernel
theorem tyX3_ok : ∀ k, k < 16 → parseFieldDescriptor (TX3 k).2.2.1 = some (tyX3 k) := by decide +kernel
abbrev cX3_init : ByteArray := prog_5_method_1_code
def yX3_init : MethodName := ⟨RX3, "<init>", "()V"⟩
abbrev cX3_reckon : ByteArray := prog_5_method_2_code
def yX3_reckon : MethodName := ⟨RX3, "reckon", "()Z"⟩
abbrev cX3_marginByFloor : ByteArray := prog_5_method_3_code
def yX3_marginByFloor : MethodName := ⟨RX3, "marginByFloor", "(I)J"⟩
abbrev cX3_clearGrounds : ByteArray := prog_5_method_4_code
def yX3_clearGrounds : MethodName := ⟨RX3, "clearGrounds", "()V"⟩
abbrev cX3_addLosses : ByteArray := prog_5_method_5_code
def yX3_addLosses : MethodName := ⟨RX3, "addLosses", "(I)V"⟩
abbrev cX3_addDelta : ByteArray := prog_5_method_6_code
def yX3_addDelta : MethodName := ⟨RX3, "addDelta", "(I)V"⟩
abbrev cX3_sumGround : ByteArray := prog_5_method_7_code
def yX3_sumGround : MethodName := ⟨RX3, "sumGround", "(I)V"⟩
abbrev cX3_fitWithoutSign : ByteArray := prog_5_method_8_code
def yX3_fitWithoutSign : MethodName := ⟨RX3, "fitWithoutSign", "(J)J"⟩
abbrev cX3_chargesOf : ByteArray := prog_5_method_9_code
def yX3_chargesOf : MethodName := ⟨RX3, "chargesOf", "(I)J"⟩
abbrev cX3_paired : ByteArray := prog_5_method_10_code
def yX3_paired : MethodName := ⟨RX3, "paired", "(II)J"⟩
abbrev cX3_sumAll : ByteArray := prog_5_method_11_code
def yX3_sumAll : MethodName := ⟨RX3, "sumAll", "()V"⟩
def RX4 : String := "LegHedge$SetUp"
def TX4 : u_T := fun k => match k with
  | 0 => ("LegHedge$SetUp", "length", "I", false)
  | 1 => ("LegHedge$SetUp", "clauses", "I", false)
  | 2 => ("LegHedge$SetUp", "letters", "[I", true)
  | 3 => ("LegHedge$SetUp", "numbers", "[[I", true)
  | 4 => ("LegHedge$SetUp", "signs", "[I", true)
  | _ => ("LegHedge$SetUp", "place", "I", false)
def tyX4 : Nat → FieldType := fun k => match k with
  | 0 => .int
  | 1 => .int
  | 2 => .array .int
  | 3 => .array (.array .int)
  | 4 => .array .int
  | _ => .int
abbrev wsX40 : List Cond := u_ws RX4 TX4 6
theorem nmX4 : ∀ a, a < 6 → ∀ b, b < 6 → a ≠ b → (TX4 a).2.1 ≠ (TX4 b).2.1 := by decide +kernel
theorem tyX4_ok : ∀ k, k < 6 → parseFieldDescriptor (TX4 k).2.2.1 = some (tyX4 k) := by decide +kernel
abbrev cX4_init : ByteArray := prog_6_method_1_code
def yX4_init : MethodName := ⟨RX4, "<init>", "()V"⟩
abbrev cX4_add : ByteArray := prog_6_method_2_code
def yX4_add : MethodName := ⟨RX4, "add", "(I)Z"⟩
abbrev cX4_parse : ByteArray := prog_6_method_3_code
def yX4_parse : MethodName := ⟨RX4, "parse", "()I"⟩
abbrev cX4_parseClause : ByteArray := prog_6_method_4_code
def yX4_parseClause : MethodName := ⟨RX4, "parseClause", "(I)Z"⟩
abbrev cX4_formOf : ByteArray := prog_6_method_5_code
def yX4_formOf : MethodName := ⟨RX4, "formOf", "(I)Ljava/lang/String;"⟩
abbrev cX4_skip : ByteArray := prog_6_method_6_code
def yX4_skip : MethodName := ⟨RX4, "skip", "(I)Z"⟩
abbrev cX4_parseNumber : ByteArray := prog_6_method_7_code
def yX4_parseNumber : MethodName := ⟨RX4, "parseNumber", "(I)I"⟩
def RX5 : String := "LegHedge$Table"
def TX5 : u_T := fun k => match k with
  | 0 => ("LegHedge$Table", "most", "I", true)
  | 1 => ("LegHedge$Table", "width", "I", true)
  | 2 => ("LegHedge$Table", "cells", "[I", true)
  | _ => ("LegHedge$Table", "size", "I", false)
def tyX5 : Nat → FieldType := fun k => match k with
  | 0 => .int
  | 1 => .int
  | 2 => .array .int
  | _ => .int
abbrev wsX50 : List Cond := u_ws RX5 TX5 4
theorem nmX5 : ∀ a, a < 4 → ∀ b, b < 4 → a ≠ b → (TX5 a).2.1 ≠ (TX5 b).2.1 := by decide +kernel
theorem tyX5_ok : ∀ k, k < 4 → parseFieldDescriptor (TX5 k).2.2.1 = some (tyX5 k) := by decide +kernel
abbrev cX5_init : ByteArray := prog_7_method_1_code
def yX5_init : MethodName := ⟨RX5, "<init>", "(II)V"⟩
abbrev cX5_has : ByteArray := prog_7_method_2_code
def yX5_has : MethodName := ⟨RX5, "has", "(I)Z"⟩
abbrev cX5_at : ByteArray := prog_7_method_3_code
def yX5_at : MethodName := ⟨RX5, "at", "(II)I"⟩
abbrev cX5_put : ByteArray := prog_7_method_4_code
def yX5_put : MethodName := ⟨RX5, "put", "(III)V"⟩
abbrev cX5_grow : ByteArray := prog_7_method_5_code
def yX5_grow : MethodName := ⟨RX5, "grow", "()I"⟩
abbrev cX5_removeAt : ByteArray := prog_7_method_6_code
def yX5_removeAt : MethodName := ⟨RX5, "removeAt", "(I)V"⟩
abbrev cX5_dropZeros : ByteArray := prog_7_method_7_code
def yX5_dropZeros : MethodName := ⟨RX5, "dropZeros", "(I)V"⟩
abbrev cX5_copyFrom : ByteArray := prog_7_method_8_code
def yX5_copyFrom : MethodName := ⟨RX5, "copyFrom", "(LLegHedge$Table;)V"⟩
def RX6 : String := "LegHedge$Tapes"
def TX6 : u_T := fun k => match k with
  | 0 => ("LegHedge$Tapes", "sorts", "[I", true)
  | 1 => ("LegHedge$Tapes", "items", "[[J", true)
  | _ => ("LegHedge$Tapes", "sizes", "[I", true)
def tyX6 : Nat → FieldType := fun k => match k with
  | 0 => .array .int
  | 1 => .array (.array .long)
  | _ => .array .int
abbrev wsX60 : List Cond := u_ws RX6 TX6 3
theorem nmX6 : ∀ a, a < 3 → ∀ b, b < 3 → a ≠ b → (TX6 a).2.1 ≠ (TX6 b).2.1 := by decide +kernel
theorem tyX6_ok : ∀ k, k < 3 → parseFieldDescriptor (TX6 k).2.2.1 = some (tyX6 k) := by decide +kernel
abbrev cX6_init : ByteArray := prog_8_method_1_code
def yX6_init : MethodName := ⟨RX6, "<init>", "()V"⟩
abbrev cX6_empty : ByteArray := prog_8_method_2_code
def yX6_empty : MethodName := ⟨RX6, "empty", "(I)V"⟩
abbrev cX6_lay : ByteArray := prog_8_method_3_code
def yX6_lay : MethodName := ⟨RX6, "lay", "(III)V"⟩
abbrev cX6_has : ByteArray := prog_8_method_4_code
def yX6_has : MethodName := ⟨RX6, "has", "(IJ)Z"⟩
abbrev cX6_hasRange : ByteArray := prog_8_method_5_code
def yX6_hasRange : MethodName := ⟨RX6, "hasRange", "(III)Z"⟩
abbrev cX6_cut : ByteArray := prog_8_method_6_code
def yX6_cut : MethodName := ⟨RX6, "cut", "(IJ)J"⟩
def RX7 : String := "LegHedge"
def TX7 : u_T := fun k => match k with
  | 0 => ("LegHedge", "now", "LLegHedge$Reckoning;", false)
  | 1 => ("LegHedge", "thought", "LLegHedge$Reckoning;", false)
  | 2 => ("LegHedge", "kept", "LLegHedge$Book;", true)
  | 3 => ("LegHedge", "hasImage", "Z", false)
  | 4 => ("LegHedge", "setUp", "LLegHedge$SetUp;", true)
  | 5 => ("LegHedge", "tapes", "LLegHedge$Tapes;", true)
  | _ => ("LegHedge", "fitting", "[Z", true)
def tyX7 : Nat → FieldType := fun k => match k with
  | 0 => .object "LegHedge$Reckoning"
  | 1 => .object "LegHedge$Reckoning"
  | 2 => .object "LegHedge$Book"
  | 3 => .boolean
  | 4 => .object "LegHedge$SetUp"
  | 5 => .object "LegHedge$Tapes"
  | _ => .array .boolean
abbrev wsX70 : List Cond := u_ws RX7 TX7 7
theorem nmX7 : ∀ a, a < 7 → ∀ b, b < 7 → a ≠ b → (TX7 a).2.1 ≠ (TX7 b).2.1 := by decide +kernel
theorem tyX7_ok : ∀ k, k < 7 → parseFieldDescriptor (TX7 k).2.2.1 = some (tyX7 k) := by decide +kernel
abbrev cX7_init : ByteArray := prog_1_method_1_code
def yX7_init : MethodName := ⟨RX7, "<init>", "()V"⟩
abbrev cX7_ground : ByteArray := prog_1_method_2_code
def yX7_ground : MethodName := ⟨RX7, "ground", "(III)I"⟩
abbrev cX7_groundOf : ByteArray := prog_1_method_3_code
def yX7_groundOf : MethodName := ⟨RX7, "groundOf", "(II)I"⟩
abbrev cX7_move : ByteArray := prog_1_method_4_code
def yX7_move : MethodName := ⟨RX7, "move", "(III)I"⟩
abbrev cX7_still : ByteArray := prog_1_method_5_code
def yX7_still : MethodName := ⟨RX7, "still", "(I)I"⟩
abbrev cX7_moved : ByteArray := prog_1_method_6_code
def yX7_moved : MethodName := ⟨RX7, "moved", "(III)I"⟩
abbrev cX7_offset : ByteArray := prog_1_method_7_code
def yX7_offset : MethodName := ⟨RX7, "offset", "(IIIIII)I"⟩
abbrev cX7_unset : ByteArray := prog_1_method_8_code
def yX7_unset : MethodName := ⟨RX7, "unset", "(I)I"⟩
abbrev cX7_trade : ByteArray := prog_1_method_9_code
def yX7_trade : MethodName := ⟨RX7, "trade", "(IIIII)I"⟩
abbrev cX7_find : ByteArray := prog_1_method_10_code
def yX7_find : MethodName := ⟨RX7, "find", "(IIII)I"⟩
abbrev cX7_legOf : ByteArray := prog_1_method_11_code
def yX7_legOf : MethodName := ⟨RX7, "legOf", "(II)J"⟩
abbrev cX7_value : ByteArray := prog_1_method_12_code
def yX7_value : MethodName := ⟨RX7, "value", "(II)I"⟩
abbrev cX7_taken : ByteArray := prog_1_method_13_code
def yX7_taken : MethodName := ⟨RX7, "taken", "(II)I"⟩
abbrev cX7_loss : ByteArray := prog_1_method_14_code
def yX7_loss : MethodName := ⟨RX7, "loss", "(II)J"⟩
abbrev cX7_row : ByteArray := prog_1_method_15_code
def yX7_row : MethodName := ⟨RX7, "row", "(II)J"⟩
abbrev cX7_risk : ByteArray := prog_1_method_16_code
def yX7_risk : MethodName := ⟨RX7, "risk", "(II)J"⟩
abbrev cX7_told : ByteArray := prog_1_method_17_code
def yX7_told : MethodName := ⟨RX7, "told", "(I)J"⟩
abbrev cX7_order : ByteArray := prog_1_method_18_code
def yX7_order : MethodName := ⟨RX7, "order", "(I)I"⟩
abbrev cX7_used : ByteArray := prog_1_method_19_code
def yX7_used : MethodName := ⟨RX7, "used", "(II)I"⟩
abbrev cX7_ordered : ByteArray := prog_1_method_20_code
def yX7_ordered : MethodName := ⟨RX7, "ordered", "(I)J"⟩
abbrev cX7_would : ByteArray := prog_1_method_21_code
def yX7_would : MethodName := ⟨RX7, "would", "(IIIII)J"⟩
abbrev cX7_hedge : ByteArray := prog_1_method_22_code
def yX7_hedge : MethodName := ⟨RX7, "hedge", "(II)I"⟩
abbrev cX7_share : ByteArray := prog_1_method_23_code
def yX7_share : MethodName := ⟨RX7, "share", "(II)J"⟩
abbrev cX7_see : ByteArray := prog_1_method_24_code
def yX7_see : MethodName := ⟨RX7, "see", "(II)I"⟩
abbrev cX7_fits : ByteArray := prog_1_method_25_code
def yX7_fits : MethodName := ⟨RX7, "fits", "(I)I"⟩
abbrev cX7_plan : ByteArray := prog_1_method_26_code
def yX7_plan : MethodName := ⟨RX7, "plan", "(II)I"⟩
abbrev cX7_ends : ByteArray := prog_1_method_27_code
def yX7_ends : MethodName := ⟨RX7, "ends", "()J"⟩
abbrev cX7_feed : ByteArray := prog_1_method_28_code
def yX7_feed : MethodName := ⟨RX7, "feed", "(I)I"⟩
abbrev cX7_read : ByteArray := prog_1_method_29_code
def yX7_read : MethodName := ⟨RX7, "read", "()I"⟩
abbrev cX7_judge : ByteArray := prog_1_method_30_code
def yX7_judge : MethodName := ⟨RX7, "judge", "(III)I"⟩
abbrev cX7_image : ByteArray := prog_1_method_31_code
def yX7_image : MethodName := ⟨RX7, "image", "()I"⟩
abbrev cX7_undo : ByteArray := prog_1_method_32_code
def yX7_undo : MethodName := ⟨RX7, "undo", "()I"⟩
abbrev cX7_count : ByteArray := prog_1_method_33_code
def yX7_count : MethodName := ⟨RX7, "count", "(I)I"⟩
abbrev cX7_tape : ByteArray := prog_1_method_34_code
def yX7_tape : MethodName := ⟨RX7, "tape", "(III)I"⟩
abbrev cX7_item : ByteArray := prog_1_method_35_code
def yX7_item : MethodName := ⟨RX7, "item", "(IIJ)I"⟩
abbrev cX7_peek : ByteArray := prog_1_method_36_code
def yX7_peek : MethodName := ⟨RX7, "peek", "(II)J"⟩
abbrev cX7_shift : ByteArray := prog_1_method_37_code
def yX7_shift : MethodName := ⟨RX7, "shift", "(IIIII)I"⟩
abbrev cX7_accept : ByteArray := prog_1_method_38_code
def yX7_accept : MethodName := ⟨RX7, "accept", "()V"⟩
abbrev cX7_tryGround : ByteArray := prog_1_method_39_code
def yX7_tryGround : MethodName := ⟨RX7, "tryGround", "(III)I"⟩
abbrev cX7_tryMove : ByteArray := prog_1_method_40_code
def yX7_tryMove : MethodName := ⟨RX7, "tryMove", "(III)I"⟩
abbrev cX7_tryOffset : ByteArray := prog_1_method_41_code
def yX7_tryOffset : MethodName := ⟨RX7, "tryOffset", "(IIIIII)I"⟩
abbrev cX7_tryTrade : ByteArray := prog_1_method_42_code
def yX7_tryTrade : MethodName := ⟨RX7, "tryTrade", "(IIIII)I"⟩
abbrev cX7_tryClause : ByteArray := prog_1_method_43_code
def yX7_tryClause : MethodName := ⟨RX7, "tryClause", "(I[I)I"⟩
abbrev cX7_sieveFloors : ByteArray := prog_1_method_44_code
def yX7_sieveFloors : MethodName := ⟨RX7, "sieveFloors", "(I)V"⟩
abbrev cX7_within : ByteArray := prog_1_method_45_code
def yX7_within : MethodName := ⟨RX7, "within", "(III)Z"⟩
abbrev cX7_isGround : ByteArray := prog_1_method_46_code
def yX7_isGround : MethodName := ⟨RX7, "isGround", "(I)Z"⟩
abbrev cX7_isTape : ByteArray := prog_1_method_47_code
def yX7_isTape : MethodName := ⟨RX7, "isTape", "(I)Z"⟩
abbrev cX7_isMoveOrNow : ByteArray := prog_1_method_48_code
def yX7_isMoveOrNow : MethodName := ⟨RX7, "isMoveOrNow", "(I)Z"⟩
abbrev cX7_isUnder : ByteArray := prog_1_method_49_code
def yX7_isUnder : MethodName := ⟨RX7, "isUnder", "(II)Z"⟩
abbrev cX7_refusedInstrument : ByteArray := prog_1_method_50_code
def yX7_refusedInstrument : MethodName := ⟨RX7, "refusedInstrument", "(IIII)I"⟩
abbrev cX7_commonDivisor : ByteArray := prog_1_method_51_code
def yX7_commonDivisor : MethodName := ⟨RX7, "commonDivisor", "(JJ)J"⟩
def RX8 : String := "LegHedgeModel"
def TX8 : u_T := fun k => match k with
  | 0 => ("LegHedgeModel", "s", "[J", true)
  | 1 => ("LegHedgeModel", "image", "[J", true)
  | 2 => ("LegHedgeModel", "mind", "[J", true)
  | 3 => ("LegHedgeModel", "aside", "[J", true)
  | 4 => ("LegHedgeModel", "isKept", "Z", false)
  | 5 => ("LegHedgeModel", "isOver", "Z", false)
  | 6 => ("LegHedgeModel", "loss", "[J", true)
  | 7 => ("LegHedgeModel", "legDelta", "[J", true)
  | 8 => ("LegHedgeModel", "row", "[J", true)
  | 9 => ("LegHedgeModel", "scan", "[J", true)
  | 10 => ("LegHedgeModel", "charge", "[J", true)
  | 11 => ("LegHedgeModel", "sold", "[J", true)
  | 12 => ("LegHedgeModel", "per", "[J", true)
  | 13 => ("LegHedgeModel", "delta", "[J", true)
  | 14 => ("LegHedgeModel", "deltaBy", "[J", true)
  | 15 => ("LegHedgeModel", "rest", "[J", true)
  | 16 => ("LegHedgeModel", "left", "[J", true)
  | 17 => ("LegHedgeModel", "credits", "[J", true)
  | 18 => ("LegHedgeModel", "k", "[J", true)
  | 19 => ("LegHedgeModel", "credit", "[J", true)
  | 20 => ("LegHedgeModel", "bestK", "[J", true)
  | 21 => ("LegHedgeModel", "bestCredit", "[J", true)
  | 22 => ("LegHedgeModel", "order", "[I", true)
  | 23 => ("LegHedgeModel", "bestOrder", "[I", true)
  | 24 => ("LegHedgeModel", "isUsed", "[Z", true)
  | 25 => ("LegHedgeModel", "orders", "I", false)
  | 26 => ("LegHedgeModel", "best", "J", false)
  | 27 => ("LegHedgeModel", "scans", "J", false)
  | 28 => ("LegHedgeModel", "charges", "J", false)
  | 29 => ("LegHedgeModel", "floors", "J", false)
  | 30 => ("LegHedgeModel", "worst", "J", false)
  | 31 => ("LegHedgeModel", "margin", "J", false)
  | 32 => ("LegHedgeModel", "text", "[I", true)
  | 33 => ("LegHedgeModel", "read", "[I", true)
  | 34 => ("LegHedgeModel", "rate", "[I", true)
  | 35 => ("LegHedgeModel", "letters", "I", false)
  | 36 => ("LegHedgeModel", "at", "I", false)
  | 37 => ("LegHedgeModel", "fault", "I", false)
  | 38 => ("LegHedgeModel", "sort", "[I", true)
  | 39 => ("LegHedgeModel", "items", "[I", true)
  | 40 => ("LegHedgeModel", "cell", "[J", true)
  | _ => ("LegHedgeModel", "carried", "[J", true)
def tyX8 : Nat → FieldType := fun k => match k with
  | 0 => .array .long
  | 1 => .array .long
  | 2 => .array .long
  | 3 => .array .long
  | 4 => .boolean
  | 5 => .boolean
  | 6 => .array .long
  | 7 => .array .long
  | 8 => .array .long
  | 9 => .array .long
  | 10 => .array .long
  | 11 => .array .long
  | 12 => .array .long
  | 13 => .array .long
  | 14 => .array .long
  | 15 => .array .long
  | 16 => .array .long
  | 17 => .array .long
  | 18 => .array .long
  | 19 => .array .long
  | 20 => .array .long
  | 21 => .array .long
  | 22 => .array .int
  | 23 => .array .int
  | 24 => .array .boolean
  | 25 => .int
  | 26 => .long
  | 27 => .long
  | 28 => .long
  | 29 => .long
  | 30 => .long
  | 31 => .long
  | 32 => .array .int
  | 33 => .array .int
  | 34 => .array .int
  | 35 => .int
  | 36 => .int
  | 37 => .int
  | 38 => .array .int
  | 39 => .array .int
  | 40 => .array .long
  | _ => .array .long
abbrev wsX80 : List Cond := u_ws RX8 TX8 42
theorem nmX8 : ∀ a, a < 42 → ∀ b, b < 42 → a ≠ b → (TX8 a).2.1 ≠ (TX8 b).2.1 := by decide +kernel
theorem tyX8_ok : ∀ k, k < 42 → parseFieldDescriptor (TX8 k).2.2.1 = some (tyX8 k) := by decide +kernel
abbrev cX8_init : ByteArray := prog_10_method_1_code
def yX8_init : MethodName := ⟨RX8, "<init>", "()V"⟩
abbrev cX8_isIn : ByteArray := prog_10_method_2_code
def yX8_isIn : MethodName := ⟨RX8, "isIn", "(JJJ)Z"⟩
abbrev cX8_isGround : ByteArray := prog_10_method_3_code
def yX8_isGround : MethodName := ⟨RX8, "isGround", "(I)Z"⟩
abbrev cX8_isLeg : ByteArray := prog_10_method_4_code
def yX8_isLeg : MethodName := ⟨RX8, "isLeg", "(I)Z"⟩
abbrev cX8_isMove : ByteArray := prog_10_method_5_code
def yX8_isMove : MethodName := ⟨RX8, "isMove", "(I)Z"⟩
abbrev cX8_isOffset : ByteArray := prog_10_method_6_code
def yX8_isOffset : MethodName := ⟨RX8, "isOffset", "(I)Z"⟩
abbrev cX8_of : ByteArray := prog_10_method_7_code
def yX8_of : MethodName := ⟨RX8, "of", "(II)I"⟩
abbrev cX8_leg : ByteArray := prog_10_method_8_code
def yX8_leg : MethodName := ⟨RX8, "leg", "(II)J"⟩
abbrev cX8_legAs : ByteArray := prog_10_method_9_code
def yX8_legAs : MethodName := ⟨RX8, "legAs", "(II)I"⟩
abbrev cX8_offsetAt : ByteArray := prog_10_method_10_code
def yX8_offsetAt : MethodName := ⟨RX8, "offsetAt", "(II)I"⟩
abbrev cX8_copies : ByteArray := prog_10_method_11_code
def yX8_copies : MethodName := ⟨RX8, "copies", "([J[J)V"⟩
abbrev cX8_is : ByteArray := prog_10_method_12_code
def yX8_is : MethodName := ⟨RX8, "is", "(J)J"⟩
abbrev cX8_above : ByteArray := prog_10_method_13_code
def yX8_above : MethodName := ⟨RX8, "above", "(II)I"⟩
abbrev cX8_money : ByteArray := prog_10_method_14_code
def yX8_money : MethodName := ⟨RX8, "money", "(III)I"⟩
abbrev cX8_value : ByteArray := prog_10_method_15_code
def yX8_value : MethodName := ⟨RX8, "value", "(III)I"⟩
abbrev cX8_price : ByteArray := prog_10_method_16_code
def yX8_price : MethodName := ⟨RX8, "price", "(II)I"⟩
abbrev cX8_unrest : ByteArray := prog_10_method_17_code
def yX8_unrest : MethodName := ⟨RX8, "unrest", "(II)I"⟩
abbrev cX8_valueBy : ByteArray := prog_10_method_18_code
def yX8_valueBy : MethodName := ⟨RX8, "valueBy", "(II)I"⟩
abbrev cX8_legs : ByteArray := prog_10_method_19_code
def yX8_legs : MethodName := ⟨RX8, "legs", "()V"⟩
abbrev cX8_charges : ByteArray := prog_10_method_20_code
def yX8_charges : MethodName := ⟨RX8, "charges", "(I)J"⟩
abbrev cX8_grounds : ByteArray := prog_10_method_21_code
def yX8_grounds : MethodName := ⟨RX8, "grounds", "()V"⟩
abbrev cX8_mayUse : ByteArray := prog_10_method_22_code
def yX8_mayUse : MethodName := ⟨RX8, "mayUse", "(I)Z"⟩
abbrev cX8_uses : ByteArray := prog_10_method_23_code
def yX8_uses : MethodName := ⟨RX8, "uses", "(I)V"⟩
abbrev cX8_orders : ByteArray := prog_10_method_24_code
def yX8_orders : MethodName := ⟨RX8, "orders", "(IJ)V"⟩
abbrev cX8_works : ByteArray := prog_10_method_25_code
def yX8_works : MethodName := ⟨RX8, "works", "()Z"⟩
abbrev cX8_stays : ByteArray := prog_10_method_26_code
def yX8_stays : MethodName := ⟨RX8, "stays", "()Z"⟩
abbrev cX8_laysAside : ByteArray := prog_10_method_27_code
def yX8_laysAside : MethodName := ⟨RX8, "laysAside", "()V"⟩
abbrev cX8_mayBe : ByteArray := prog_10_method_28_code
def yX8_mayBe : MethodName := ⟨RX8, "mayBe", "(II)Z"⟩
abbrev cX8_ground : ByteArray := prog_10_method_29_code
def yX8_ground : MethodName := ⟨RX8, "ground", "(III)I"⟩
abbrev cX8_groundOf : ByteArray := prog_10_method_30_code
def yX8_groundOf : MethodName := ⟨RX8, "groundOf", "(II)I"⟩
abbrev cX8_move : ByteArray := prog_10_method_31_code
def yX8_move : MethodName := ⟨RX8, "move", "(III)I"⟩
abbrev cX8_leaves : ByteArray := prog_10_method_32_code
def yX8_leaves : MethodName := ⟨RX8, "leaves", "(IIII)V"⟩
abbrev cX8_still : ByteArray := prog_10_method_33_code
def yX8_still : MethodName := ⟨RX8, "still", "(I)I"⟩
abbrev cX8_moved : ByteArray := prog_10_method_34_code
def yX8_moved : MethodName := ⟨RX8, "moved", "(III)I"⟩
abbrev cX8_offset : ByteArray := prog_10_method_35_code
def yX8_offset : MethodName := ⟨RX8, "offset", "(IIIIII)I"⟩
abbrev cX8_unset : ByteArray := prog_10_method_36_code
def yX8_unset : MethodName := ⟨RX8, "unset", "(I)I"⟩
abbrev cX8_legOf : ByteArray := prog_10_method_37_code
def yX8_legOf : MethodName := ⟨RX8, "legOf", "(IIII)I"⟩
abbrev cX8_bars : ByteArray := prog_10_method_38_code
def yX8_bars : MethodName := ⟨RX8, "bars", "(IIIII)I"⟩
abbrev cX8_trades : ByteArray := prog_10_method_39_code
def yX8_trades : MethodName := ⟨RX8, "trades", "(IIIII)I"⟩
abbrev cX8_trade : ByteArray := prog_10_method_40_code
def yX8_trade : MethodName := ⟨RX8, "trade", "(IIIII)I"⟩
abbrev cX8_find : ByteArray := prog_10_method_41_code
def yX8_find : MethodName := ⟨RX8, "find", "(IIII)I"⟩
abbrev cX8_legOf_ : ByteArray := prog_10_method_42_code
def yX8_legOf_ : MethodName := ⟨RX8, "legOf", "(II)J"⟩
abbrev cX8_value_ : ByteArray := prog_10_method_43_code
def yX8_value_ : MethodName := ⟨RX8, "value", "(II)I"⟩
abbrev cX8_taken : ByteArray := prog_10_method_44_code
def yX8_taken : MethodName := ⟨RX8, "taken", "(II)I"⟩
abbrev cX8_loss : ByteArray := prog_10_method_45_code
def yX8_loss : MethodName := ⟨RX8, "loss", "(II)J"⟩
abbrev cX8_row : ByteArray := prog_10_method_46_code
def yX8_row : MethodName := ⟨RX8, "row", "(II)J"⟩
abbrev cX8_risk : ByteArray := prog_10_method_47_code
def yX8_risk : MethodName := ⟨RX8, "risk", "(II)J"⟩
abbrev cX8_told : ByteArray := prog_10_method_48_code
def yX8_told : MethodName := ⟨RX8, "told", "(I)J"⟩
abbrev cX8_order : ByteArray := prog_10_method_49_code
def yX8_order : MethodName := ⟨RX8, "order", "(I)I"⟩
abbrev cX8_used : ByteArray := prog_10_method_50_code
def yX8_used : MethodName := ⟨RX8, "used", "(II)I"⟩
abbrev cX8_ordered : ByteArray := prog_10_method_51_code
def yX8_ordered : MethodName := ⟨RX8, "ordered", "(I)J"⟩
abbrev cX8_thinks : ByteArray := prog_10_method_52_code
def yX8_thinks : MethodName := ⟨RX8, "thinks", "()V"⟩
abbrev cX8_forgets : ByteArray := prog_10_method_53_code
def yX8_forgets : MethodName := ⟨RX8, "forgets", "()V"⟩
abbrev cX8_would : ByteArray := prog_10_method_54_code
def yX8_would : MethodName := ⟨RX8, "would", "(IIIII)J"⟩
abbrev cX8_hedge : ByteArray := prog_10_method_55_code
def yX8_hedge : MethodName := ⟨RX8, "hedge", "(II)I"⟩
abbrev cX8_common : ByteArray := prog_10_method_56_code
def yX8_common : MethodName := ⟨RX8, "common", "(JJ)J"⟩
abbrev cX8_share : ByteArray := prog_10_method_57_code
def yX8_share : MethodName := ⟨RX8, "share", "(II)J"⟩
abbrev cX8_see : ByteArray := prog_10_method_58_code
def yX8_see : MethodName := ⟨RX8, "see", "(II)I"⟩
abbrev cX8_weighs : ByteArray := prog_10_method_59_code
def yX8_weighs : MethodName := ⟨RX8, "weighs", "(J)V"⟩
abbrev cX8_isAsSeen : ByteArray := prog_10_method_60_code
def yX8_isAsSeen : MethodName := ⟨RX8, "isAsSeen", "(I)Z"⟩
abbrev cX8_fits : ByteArray := prog_10_method_61_code
def yX8_fits : MethodName := ⟨RX8, "fits", "(I)I"⟩
abbrev cX8_plan : ByteArray := prog_10_method_62_code
def yX8_plan : MethodName := ⟨RX8, "plan", "(II)I"⟩
abbrev cX8_shifts : ByteArray := prog_10_method_63_code
def yX8_shifts : MethodName := ⟨RX8, "shifts", "(IJJJ)V"⟩
abbrev cX8_ends : ByteArray := prog_10_method_64_code
def yX8_ends : MethodName := ⟨RX8, "ends", "()J"⟩
abbrev cX8_feed : ByteArray := prog_10_method_65_code
def yX8_feed : MethodName := ⟨RX8, "feed", "(I)I"⟩
abbrev cX8_fails : ByteArray := prog_10_method_66_code
def yX8_fails : MethodName := ⟨RX8, "fails", "(I)V"⟩
abbrev cX8_takes : ByteArray := prog_10_method_67_code
def yX8_takes : MethodName := ⟨RX8, "takes", "(I)Z"⟩
abbrev cX8_needs : ByteArray := prog_10_method_68_code
def yX8_needs : MethodName := ⟨RX8, "needs", "(I)V"⟩
abbrev cX8_number : ByteArray := prog_10_method_69_code
def yX8_number : MethodName := ⟨RX8, "number", "(I)I"⟩
abbrev cX8_signed : ByteArray := prog_10_method_70_code
def yX8_signed : MethodName := ⟨RX8, "signed", "(I)I"⟩
abbrev cX8_clause : ByteArray := prog_10_method_71_code
def yX8_clause : MethodName := ⟨RX8, "clause", "(I)V"⟩
abbrev cX8_does : ByteArray := prog_10_method_72_code
def yX8_does : MethodName := ⟨RX8, "does", "(I)I"⟩
abbrev cX8_isDone : ByteArray := prog_10_method_73_code
def yX8_isDone : MethodName := ⟨RX8, "isDone", "(I)Z"⟩
abbrev cX8_read : ByteArray := prog_10_method_74_code
def yX8_read : MethodName := ⟨RX8, "read", "()I"⟩
abbrev cX8_isTape : ByteArray := prog_10_method_75_code
def yX8_isTape : MethodName := ⟨RX8, "isTape", "(I)Z"⟩
abbrev cX8_judge : ByteArray := prog_10_method_76_code
def yX8_judge : MethodName := ⟨RX8, "judge", "(III)I"⟩
abbrev cX8_image : ByteArray := prog_10_method_77_code
def yX8_image : MethodName := ⟨RX8, "image", "()I"⟩
abbrev cX8_undo : ByteArray := prog_10_method_78_code
def yX8_undo : MethodName := ⟨RX8, "undo", "()I"⟩
abbrev cX8_spots : ByteArray := prog_10_method_79_code
def yX8_spots : MethodName := ⟨RX8, "spots", "()I"⟩
abbrev cX8_count : ByteArray := prog_10_method_80_code
def yX8_count : MethodName := ⟨RX8, "count", "(I)I"⟩
abbrev cX8_tape : ByteArray := prog_10_method_81_code
def yX8_tape : MethodName := ⟨RX8, "tape", "(III)I"⟩
abbrev cX8_item : ByteArray := prog_10_method_82_code
def yX8_item : MethodName := ⟨RX8, "item", "(IIJ)I"⟩
abbrev cX8_peek : ByteArray := prog_10_method_83_code
def yX8_peek : MethodName := ⟨RX8, "peek", "(II)J"⟩
abbrev cX8_shift : ByteArray := prog_10_method_84_code
def yX8_shift : MethodName := ⟨RX8, "shift", "(IIIII)I"⟩
def RJ13 : String := "java/lang/Long"
def TJ13 : u_T := fun k => match k with
  | _ => ("", "", "", false)
def tyJ13 : Nat → FieldType := fun k => match k with
  | _ => .int
abbrev wsJ130 : List Cond := u_ws RJ13 TJ13 0
theorem nmJ13 : ∀ a, a < 0 → ∀ b, b < 0 → a ≠ b → (TJ13 a).2.1 ≠ (TJ13 b).2.1 := by decide +kernel
theorem tyJ13_ok : ∀ k, k < 0 → parseFieldDescriptor (TJ13 k).2.2.1 = some (tyJ13 k) := by decide +kernel
abbrev cJ13_signum_95d88 : ByteArray := prog_11_method_57_code
def yJ13_signum_95d88 : MethodName := ⟨RJ13, "signum", "(J)I"⟩
def RJ9 : String := "java/lang/Math"
def TJ9 : u_T := fun k => match k with
  | _ => ("", "", "", false)
def tyJ9 : Nat → FieldType := fun k => match k with
  | _ => .int
abbrev wsJ90 : List Cond := u_ws RJ9 TJ9 0
theorem nmJ9 : ∀ a, a < 0 → ∀ b, b < 0 → a ≠ b → (TJ9 a).2.1 ≠ (TJ9 b).2.1 := by decide +kernel
theorem tyJ9_ok : ∀ k, k < 0 → parseFieldDescriptor (TJ9 k).2.2.1 = some (tyJ9 k) := by decide +kernel
abbrev cJ9_abs_0f7a4 : ByteArray := prog_12_method_59_code
def yJ9_abs_0f7a4 : MethodName := ⟨RJ9, "abs", "(I)I"⟩
abbrev cJ9_abs_067f4 : ByteArray := prog_12_method_61_code
def yJ9_abs_067f4 : MethodName := ⟨RJ9, "abs", "(J)J"⟩
abbrev cJ9_max_7cf53 : ByteArray := prog_12_method_65_code
def yJ9_max_7cf53 : MethodName := ⟨RJ9, "max", "(II)I"⟩
abbrev cJ9_max_f86c9 : ByteArray := prog_12_method_66_code
def yJ9_max_f86c9 : MethodName := ⟨RJ9, "max", "(JJ)J"⟩
abbrev cJ9_min_7cf53 : ByteArray := prog_12_method_69_code
def yJ9_min_7cf53 : MethodName := ⟨RJ9, "min", "(II)I"⟩
abbrev cJ9_min_f86c9 : ByteArray := prog_12_method_70_code
def yJ9_min_f86c9 : MethodName := ⟨RJ9, "min", "(JJ)J"⟩
def RJ0 : String := "java/lang/String"
def TJ0 : u_T := fun k => match k with
  | _ => ("", "", "", false)
def tyJ0 : Nat → FieldType := fun k => match k with
  | _ => .int
abbrev wsJ00 : List Cond := u_ws RJ0 TJ0 0
theorem nmJ0 : ∀ a, a < 0 → ∀ b, b < 0 → a ≠ b → (TJ0 a).2.1 ≠ (TJ0 b).2.1 := by decide +kernel
theorem tyJ0_ok : ∀ k, k < 0 → parseFieldDescriptor (TJ0 k).2.2.1 = some (tyJ0 k) := by decide +kernel
abbrev cJ0_length_8abf5 : ByteArray := prog_13_method_54_code
def yJ0_length_8abf5 : MethodName := ⟨RJ0, "length", "()I"⟩
abbrev cJ0_isEmpty_aae02 : ByteArray := prog_13_method_55_code
def yJ0_isEmpty_aae02 : MethodName := ⟨RJ0, "isEmpty", "()Z"⟩
abbrev cJ0_charAt_5068e : ByteArray := prog_13_method_56_code
def yJ0_charAt_5068e : MethodName := ⟨RJ0, "charAt", "(I)C"⟩
abbrev cJ0_coder_7d493 : ByteArray := prog_13_method_152_code
def yJ0_coder_7d493 : MethodName := ⟨RJ0, "coder", "()B"⟩
abbrev cJ0_isLatin1_aae02 : ByteArray := prog_13_method_154_code
def yJ0_isLatin1_aae02 : MethodName := ⟨RJ0, "isLatin1", "()Z"⟩
abbrev cJ0_checkIndex_df160 : ByteArray := prog_13_method_155_code
def yJ0_checkIndex_df160 : MethodName := ⟨RJ0, "checkIndex", "(II)V"⟩
def RJ1 : String := "java/lang/StringLatin1"
def TJ1 : u_T := fun k => match k with
  | _ => ("", "", "", false)
def tyJ1 : Nat → FieldType := fun k => match k with
  | _ => .int
abbrev wsJ10 : List Cond := u_ws RJ1 TJ1 0
theorem nmJ1 : ∀ a, a < 0 → ∀ b, b < 0 → a ≠ b → (TJ1 a).2.1 ≠ (TJ1 b).2.1 := by decide +kernel
theorem tyJ1_ok : ∀ k, k < 0 → parseFieldDescriptor (TJ1 k).2.2.1 = some (tyJ1 k) := by decide +kernel
abbrev cJ1_charAt_3b067 : ByteArray := prog_14_method_2_code
def yJ1_charAt_3b067 : MethodName := ⟨RJ1, "charAt", "([BI)C"⟩
def RJ2 : String := "java/lang/StringUTF16"
def TJ2 : u_T := fun k => match k with
  | _ => ("", "", "", false)
def tyJ2 : Nat → FieldType := fun k => match k with
  | _ => .int
abbrev wsJ20 : List Cond := u_ws RJ2 TJ2 0
theorem nmJ2 : ∀ a, a < 0 → ∀ b, b < 0 → a ≠ b → (TJ2 a).2.1 ≠ (TJ2 b).2.1 := by decide +kernel
theorem tyJ2_ok : ∀ k, k < 0 → parseFieldDescriptor (TJ2 k).2.2.1 = some (tyJ2 k) := by decide +kernel
abbrev cJ2_getChar_3b067 : ByteArray := prog_15_method_5_code
def yJ2_getChar_3b067 : MethodName := ⟨RJ2, "getChar", "([BI)C"⟩
abbrev cJ2_length_9d52b : ByteArray := prog_15_method_6_code
def yJ2_length_9d52b : MethodName := ⟨RJ2, "length", "([B)I"⟩
abbrev cJ2_charAt_3b067 : ByteArray := prog_15_method_83_code
def yJ2_charAt_3b067 : MethodName := ⟨RJ2, "charAt", "([BI)C"⟩
abbrev cJ2_checkIndex_2214a : ByteArray := prog_15_method_91_code
def yJ2_checkIndex_2214a : MethodName := ⟨RJ2, "checkIndex", "(I[B)V"⟩
def RJ10 : String := "java/lang/System"
def TJ10 : u_T := fun k => match k with
  | _ => ("", "", "", false)
def tyJ10 : Nat → FieldType := fun k => match k with
  | _ => .int
abbrev wsJ100 : List Cond := u_ws RJ10 TJ10 0
theorem nmJ10 : ∀ a, a < 0 → ∀ b, b < 0 → a ≠ b → (TJ10 a).2.1 ≠ (TJ10 b).2.1 := by decide +kernel
theorem tyJ10_ok : ∀ k, k < 0 → parseFieldDescriptor (TJ10 k).2.2.1 = some (tyJ10 k) := by decide +kernel
def RJ3 : String := "jdk/internal/util/Preconditions"
def TJ3 : u_T := fun k => match k with
  | _ => ("", "", "", false)
def tyJ3 : Nat → FieldType := fun k => match k with
  | _ => .int
abbrev wsJ30 : List Cond := u_ws RJ3 TJ3 0
theorem nmJ3 : ∀ a, a < 0 → ∀ b, b < 0 → a ≠ b → (TJ3 a).2.1 ≠ (TJ3 b).2.1 := by decide +kernel
theorem tyJ3_ok : ∀ k, k < 0 → parseFieldDescriptor (TJ3 k).2.2.1 = some (tyJ3 k) := by decide +kernel
abbrev cJ3_checkIndex_8e157 : ByteArray := prog_17_method_11_code
def yJ3_checkIndex_8e157 : MethodName := ⟨RJ3, "checkIndex", "(IILjava/util/function/BiFunction;)I"⟩
def RL : String := "LegHedgeLaw"
abbrev cL_law : ByteArray := code
def yL_law : MethodName := ⟨RL, "law", "([I)Z"⟩
abbrev vwCl : List vw_C := [(RX0, TX0, 6), (RX1, TX1, 16), (RX2, TX2, 1), (RX3, TX3, 16), (RX4, TX4, 6), (RX5, TX5, 4), (RX6, TX6, 3), (RX7, TX7, 7), (RX8, TX8, 42)]
