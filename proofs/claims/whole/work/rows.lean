section
-- ===== PART A: goes FIRST, ahead of the names: the tables' words, and 'selects' of the private methods out of them =====
/-- a private method of a class that the tables say can be made, by its rows of tables_1 -/
def lw_okq (q : MethodName × Nat) : Prop := (q.1.cls ≠ "java/lang/invoke/MethodHandle" ∧ q.1.cls ≠ "java/lang/invoke/VarHandle") ∧ Cond.instantiable q.1.cls q.2 ∈ tables_1 ∧ Cond.privateMethod q.1 ∈ tables_1 ∧ Cond.instanceMethod q.1 ∈ tables_1
theorem lw_p0 : lw_okq (⟨"SoftStairs$Reader", "take", "(CLSoftStairs$Rule;)V"⟩, 4) := ⟨⟨by decide +kernel, by decide +kernel⟩, List.mem_of_getElem? (i := 41) (by decide +kernel), List.mem_of_getElem? (i := 150) (by decide +kernel), List.mem_of_getElem? (i := 151) (by decide +kernel)⟩
theorem lw_p1 : lw_okq (⟨"SoftStairs$Reader", "keepWaiting", "(C)V"⟩, 4) := ⟨⟨by decide +kernel, by decide +kernel⟩, List.mem_of_getElem? (i := 41) (by decide +kernel), List.mem_of_getElem? (i := 154) (by decide +kernel), List.mem_of_getElem? (i := 155) (by decide +kernel)⟩
theorem lw_p2 : lw_okq (⟨"SoftStairs$Reader", "joinWaiting", "(ILSoftStairs$Rule;)V"⟩, 4) := ⟨⟨by decide +kernel, by decide +kernel⟩, List.mem_of_getElem? (i := 41) (by decide +kernel), List.mem_of_getElem? (i := 158) (by decide +kernel), List.mem_of_getElem? (i := 159) (by decide +kernel)⟩
theorem lw_p3 : lw_okq (⟨"SoftStairs$Reader", "strength", "(C)I"⟩, 4) := ⟨⟨by decide +kernel, by decide +kernel⟩, List.mem_of_getElem? (i := 41) (by decide +kernel), List.mem_of_getElem? (i := 162) (by decide +kernel), List.mem_of_getElem? (i := 163) (by decide +kernel)⟩
theorem lw_p4 : lw_okq (⟨"SoftStairs$Reader", "joinFree", "(CLSoftStairs$Rule;)V"⟩, 4) := ⟨⟨by decide +kernel, by decide +kernel⟩, List.mem_of_getElem? (i := 41) (by decide +kernel), List.mem_of_getElem? (i := 166) (by decide +kernel), List.mem_of_getElem? (i := 167) (by decide +kernel)⟩
theorem lw_p5 : lw_okq (⟨"SoftStairs$Reader", "takeFree", "()I"⟩, 4) := ⟨⟨by decide +kernel, by decide +kernel⟩, List.mem_of_getElem? (i := 41) (by decide +kernel), List.mem_of_getElem? (i := 170) (by decide +kernel), List.mem_of_getElem? (i := 171) (by decide +kernel)⟩
theorem lw_p6 : lw_okq (⟨"SoftStairs$Rule", "depthOf", "(I)I"⟩, 6) := ⟨⟨by decide +kernel, by decide +kernel⟩, List.mem_of_getElem? (i := 121) (by decide +kernel), List.mem_of_getElem? (i := 178) (by decide +kernel), List.mem_of_getElem? (i := 179) (by decide +kernel)⟩
theorem lw_p7 : lw_okq (⟨"SoftStairs$Rule", "add", "(CIII)I"⟩, 6) := ⟨⟨by decide +kernel, by decide +kernel⟩, List.mem_of_getElem? (i := 121) (by decide +kernel), List.mem_of_getElem? (i := 185) (by decide +kernel), List.mem_of_getElem? (i := 186) (by decide +kernel)⟩
theorem lw_p8 : lw_okq (⟨"SoftStairs$Reader", "keepFree", "(I)V"⟩, 4) := ⟨⟨by decide +kernel, by decide +kernel⟩, List.mem_of_getElem? (i := 41) (by decide +kernel), List.mem_of_getElem? (i := 189) (by decide +kernel), List.mem_of_getElem? (i := 190) (by decide +kernel)⟩
theorem lw_p9 : lw_okq (⟨"SoftStairs$Rule", "letterNumber", "(C)I"⟩, 6) := ⟨⟨by decide +kernel, by decide +kernel⟩, List.mem_of_getElem? (i := 121) (by decide +kernel), List.mem_of_getElem? (i := 198) (by decide +kernel), List.mem_of_getElem? (i := 199) (by decide +kernel)⟩
theorem lw_p10 : lw_okq (⟨"SoftStairs$Rule", "holding", "(I)J"⟩, 6) := ⟨⟨by decide +kernel, by decide +kernel⟩, List.mem_of_getElem? (i := 121) (by decide +kernel), List.mem_of_getElem? (i := 384) (by decide +kernel), List.mem_of_getElem? (i := 385) (by decide +kernel)⟩
theorem lw_p11 : lw_okq (⟨"SoftStairs$Rule", "partHolds", "(IIJ)Z"⟩, 6) := ⟨⟨by decide +kernel, by decide +kernel⟩, List.mem_of_getElem? (i := 121) (by decide +kernel), List.mem_of_getElem? (i := 388) (by decide +kernel), List.mem_of_getElem? (i := 389) (by decide +kernel)⟩
theorem lw_p12 : lw_okq (⟨"SoftStairs$Rule", "isIn", "(JI)Z"⟩, 6) := ⟨⟨by decide +kernel, by decide +kernel⟩, List.mem_of_getElem? (i := 121) (by decide +kernel), List.mem_of_getElem? (i := 392) (by decide +kernel), List.mem_of_getElem? (i := 393) (by decide +kernel)⟩
theorem lw_p13 : lw_okq (⟨"SoftStairs$Rule", "letterHolds", "(II)Z"⟩, 6) := ⟨⟨by decide +kernel, by decide +kernel⟩, List.mem_of_getElem? (i := 121) (by decide +kernel), List.mem_of_getElem? (i := 396) (by decide +kernel), List.mem_of_getElem? (i := 397) (by decide +kernel)⟩
theorem lw_p14 : lw_okq (⟨"SoftStairs$Stairs", "countDisagreements", "()V"⟩, 18) := ⟨⟨by decide +kernel, by decide +kernel⟩, List.mem_of_getElem? (i := 201) (by decide +kernel), List.mem_of_getElem? (i := 410) (by decide +kernel), List.mem_of_getElem? (i := 411) (by decide +kernel)⟩
theorem lw_p15 : lw_okq (⟨"SoftStairs$Stairs", "wantedSpeed", "(I)I"⟩, 18) := ⟨⟨by decide +kernel, by decide +kernel⟩, List.mem_of_getElem? (i := 201) (by decide +kernel), List.mem_of_getElem? (i := 415) (by decide +kernel), List.mem_of_getElem? (i := 416) (by decide +kernel)⟩
def lw_privs_1 : List (MethodName × Nat) := [(⟨"SoftStairs$Reader", "take", "(CLSoftStairs$Rule;)V"⟩, 4), (⟨"SoftStairs$Reader", "keepWaiting", "(C)V"⟩, 4), (⟨"SoftStairs$Reader", "joinWaiting", "(ILSoftStairs$Rule;)V"⟩, 4), (⟨"SoftStairs$Reader", "strength", "(C)I"⟩, 4), (⟨"SoftStairs$Reader", "joinFree", "(CLSoftStairs$Rule;)V"⟩, 4), (⟨"SoftStairs$Reader", "takeFree", "()I"⟩, 4), (⟨"SoftStairs$Rule", "depthOf", "(I)I"⟩, 6), (⟨"SoftStairs$Rule", "add", "(CIII)I"⟩, 6), (⟨"SoftStairs$Reader", "keepFree", "(I)V"⟩, 4), (⟨"SoftStairs$Rule", "letterNumber", "(C)I"⟩, 6), (⟨"SoftStairs$Rule", "holding", "(I)J"⟩, 6), (⟨"SoftStairs$Rule", "partHolds", "(IIJ)Z"⟩, 6), (⟨"SoftStairs$Rule", "isIn", "(JI)Z"⟩, 6), (⟨"SoftStairs$Rule", "letterHolds", "(II)Z"⟩, 6), (⟨"SoftStairs$Stairs", "countDisagreements", "()V"⟩, 18), (⟨"SoftStairs$Stairs", "wantedSpeed", "(I)I"⟩, 18)]
theorem lw_r1 : ∀ q ∈ lw_privs_1, lw_okq q := List.forall_mem_cons.mpr ⟨lw_p0, List.forall_mem_cons.mpr ⟨lw_p1, List.forall_mem_cons.mpr ⟨lw_p2, List.forall_mem_cons.mpr ⟨lw_p3, List.forall_mem_cons.mpr ⟨lw_p4, List.forall_mem_cons.mpr ⟨lw_p5, List.forall_mem_cons.mpr ⟨lw_p6, List.forall_mem_cons.mpr ⟨lw_p7, List.forall_mem_cons.mpr ⟨lw_p8, List.forall_mem_cons.mpr ⟨lw_p9, List.forall_mem_cons.mpr ⟨lw_p10, List.forall_mem_cons.mpr ⟨lw_p11, List.forall_mem_cons.mpr ⟨lw_p12, List.forall_mem_cons.mpr ⟨lw_p13, List.forall_mem_cons.mpr ⟨lw_p14, List.forall_mem_cons.mpr ⟨lw_p15, fun _ h => absurd h List.not_mem_nil⟩⟩⟩⟩⟩⟩⟩⟩⟩⟩⟩⟩⟩⟩⟩⟩
theorem lw_p16 : lw_okq (⟨"SoftStairs$Stairs", "isInDoubt", "()Z"⟩, 18) := ⟨⟨by decide +kernel, by decide +kernel⟩, List.mem_of_getElem? (i := 201) (by decide +kernel), List.mem_of_getElem? (i := 419) (by decide +kernel), List.mem_of_getElem? (i := 420) (by decide +kernel)⟩
theorem lw_p17 : lw_okq (⟨"SoftStairs$Stairs", "changeSpeed", "(II)V"⟩, 18) := ⟨⟨by decide +kernel, by decide +kernel⟩, List.mem_of_getElem? (i := 201) (by decide +kernel), List.mem_of_getElem? (i := 424) (by decide +kernel), List.mem_of_getElem? (i := 425) (by decide +kernel)⟩
theorem lw_p18 : lw_okq (⟨"SoftStairs$Stairs", "carryPeople", "()V"⟩, 18) := ⟨⟨by decide +kernel, by decide +kernel⟩, List.mem_of_getElem? (i := 201) (by decide +kernel), List.mem_of_getElem? (i := 432) (by decide +kernel), List.mem_of_getElem? (i := 433) (by decide +kernel)⟩
theorem lw_p19 : lw_okq (⟨"SoftStairs$Rule", "lookedAtFrom", "(IJ)J"⟩, 6) := ⟨⟨by decide +kernel, by decide +kernel⟩, List.mem_of_getElem? (i := 121) (by decide +kernel), List.mem_of_getElem? (i := 461) (by decide +kernel), List.mem_of_getElem? (i := 462) (by decide +kernel)⟩
theorem lw_p20 : lw_okq (⟨"SoftStairs$Stairs", "settingCounted", "(I)I"⟩, 18) := ⟨⟨by decide +kernel, by decide +kernel⟩, List.mem_of_getElem? (i := 201) (by decide +kernel), List.mem_of_getElem? (i := 479) (by decide +kernel), List.mem_of_getElem? (i := 480) (by decide +kernel)⟩
theorem lw_p21 : lw_okq (⟨"SoftStairs", "wayWith", "(I)I"⟩, 7) := ⟨⟨by decide +kernel, by decide +kernel⟩, List.mem_of_getElem? (i := 17) (by decide +kernel), List.mem_of_getElem? (i := 487) (by decide +kernel), List.mem_of_getElem? (i := 488) (by decide +kernel)⟩
theorem lw_p22 : lw_okq (⟨"SoftStairs$Pad", "beginsPart", "(C)Z"⟩, 2) := ⟨⟨by decide +kernel, by decide +kernel⟩, List.mem_of_getElem? (i := 25) (by decide +kernel), List.mem_of_getElem? (i := 552) (by decide +kernel), List.mem_of_getElem? (i := 553) (by decide +kernel)⟩
theorem lw_p23 : lw_okq (⟨"SoftStairs$Pad", "isLetter", "(C)Z"⟩, 2) := ⟨⟨by decide +kernel, by decide +kernel⟩, List.mem_of_getElem? (i := 25) (by decide +kernel), List.mem_of_getElem? (i := 556) (by decide +kernel), List.mem_of_getElem? (i := 557) (by decide +kernel)⟩
theorem lw_p24 : lw_okq (⟨"SoftStairs$Pad", "followsPart", "(CI)Z"⟩, 2) := ⟨⟨by decide +kernel, by decide +kernel⟩, List.mem_of_getElem? (i := 25) (by decide +kernel), List.mem_of_getElem? (i := 560) (by decide +kernel), List.mem_of_getElem? (i := 561) (by decide +kernel)⟩
theorem lw_p25 : lw_okq (⟨"SoftStairsModel", "record", "()V"⟩, 14) := ⟨⟨by decide +kernel, by decide +kernel⟩, List.mem_of_getElem? (i := 584) (by decide +kernel), List.mem_of_getElem? (i := 648) (by decide +kernel), List.mem_of_getElem? (i := 649) (by decide +kernel)⟩
theorem lw_p26 : lw_okq (⟨"SoftStairsModel", "workOut", "(I)V"⟩, 14) := ⟨⟨by decide +kernel, by decide +kernel⟩, List.mem_of_getElem? (i := 584) (by decide +kernel), List.mem_of_getElem? (i := 656) (by decide +kernel), List.mem_of_getElem? (i := 657) (by decide +kernel)⟩
theorem lw_p27 : lw_okq (⟨"SoftStairsModel", "push", "(I)V"⟩, 14) := ⟨⟨by decide +kernel, by decide +kernel⟩, List.mem_of_getElem? (i := 584) (by decide +kernel), List.mem_of_getElem? (i := 660) (by decide +kernel), List.mem_of_getElem? (i := 661) (by decide +kernel)⟩
theorem lw_p28 : lw_okq (⟨"SoftStairsModel", "joinAll", "(I)V"⟩, 14) := ⟨⟨by decide +kernel, by decide +kernel⟩, List.mem_of_getElem? (i := 584) (by decide +kernel), List.mem_of_getElem? (i := 664) (by decide +kernel), List.mem_of_getElem? (i := 665) (by decide +kernel)⟩
theorem lw_p29 : lw_okq (⟨"SoftStairsModel", "join", "()V"⟩, 14) := ⟨⟨by decide +kernel, by decide +kernel⟩, List.mem_of_getElem? (i := 584) (by decide +kernel), List.mem_of_getElem? (i := 671) (by decide +kernel), List.mem_of_getElem? (i := 672) (by decide +kernel)⟩
theorem lw_p30 : lw_okq (⟨"SoftStairsModel", "parts", "()I"⟩, 14) := ⟨⟨by decide +kernel, by decide +kernel⟩, List.mem_of_getElem? (i := 584) (by decide +kernel), List.mem_of_getElem? (i := 678) (by decide +kernel), List.mem_of_getElem? (i := 679) (by decide +kernel)⟩
theorem lw_p31 : lw_okq (⟨"SoftStairsModel", "letters", "()I"⟩, 14) := ⟨⟨by decide +kernel, by decide +kernel⟩, List.mem_of_getElem? (i := 584) (by decide +kernel), List.mem_of_getElem? (i := 682) (by decide +kernel), List.mem_of_getElem? (i := 683) (by decide +kernel)⟩
def lw_privs_2 : List (MethodName × Nat) := [(⟨"SoftStairs$Stairs", "isInDoubt", "()Z"⟩, 18), (⟨"SoftStairs$Stairs", "changeSpeed", "(II)V"⟩, 18), (⟨"SoftStairs$Stairs", "carryPeople", "()V"⟩, 18), (⟨"SoftStairs$Rule", "lookedAtFrom", "(IJ)J"⟩, 6), (⟨"SoftStairs$Stairs", "settingCounted", "(I)I"⟩, 18), (⟨"SoftStairs", "wayWith", "(I)I"⟩, 7), (⟨"SoftStairs$Pad", "beginsPart", "(C)Z"⟩, 2), (⟨"SoftStairs$Pad", "isLetter", "(C)Z"⟩, 2), (⟨"SoftStairs$Pad", "followsPart", "(CI)Z"⟩, 2), (⟨"SoftStairsModel", "record", "()V"⟩, 14), (⟨"SoftStairsModel", "workOut", "(I)V"⟩, 14), (⟨"SoftStairsModel", "push", "(I)V"⟩, 14), (⟨"SoftStairsModel", "joinAll", "(I)V"⟩, 14), (⟨"SoftStairsModel", "join", "()V"⟩, 14), (⟨"SoftStairsModel", "parts", "()I"⟩, 14), (⟨"SoftStairsModel", "letters", "()I"⟩, 14)]
theorem lw_r2 : ∀ q ∈ lw_privs_2, lw_okq q := List.forall_mem_cons.mpr ⟨lw_p16, List.forall_mem_cons.mpr ⟨lw_p17, List.forall_mem_cons.mpr ⟨lw_p18, List.forall_mem_cons.mpr ⟨lw_p19, List.forall_mem_cons.mpr ⟨lw_p20, List.forall_mem_cons.mpr ⟨lw_p21, List.forall_mem_cons.mpr ⟨lw_p22, List.forall_mem_cons.mpr ⟨lw_p23, List.forall_mem_cons.mpr ⟨lw_p24, List.forall_mem_cons.mpr ⟨lw_p25, List.forall_mem_cons.mpr ⟨lw_p26, List.forall_mem_cons.mpr ⟨lw_p27, List.forall_mem_cons.mpr ⟨lw_p28, List.forall_mem_cons.mpr ⟨lw_p29, List.forall_mem_cons.mpr ⟨lw_p30, List.forall_mem_cons.mpr ⟨lw_p31, fun _ h => absurd h List.not_mem_nil⟩⟩⟩⟩⟩⟩⟩⟩⟩⟩⟩⟩⟩⟩⟩⟩
theorem lw_p32 : lw_okq (⟨"SoftStairsModel", "halt", "(I)V"⟩, 14) := ⟨⟨by decide +kernel, by decide +kernel⟩, List.mem_of_getElem? (i := 584) (by decide +kernel), List.mem_of_getElem? (i := 714) (by decide +kernel), List.mem_of_getElem? (i := 715) (by decide +kernel)⟩
theorem lw_p33 : lw_okq (⟨"SoftStairsModel", "loadNow", "()I"⟩, 14) := ⟨⟨by decide +kernel, by decide +kernel⟩, List.mem_of_getElem? (i := 584) (by decide +kernel), List.mem_of_getElem? (i := 718) (by decide +kernel), List.mem_of_getElem? (i := 719) (by decide +kernel)⟩
theorem lw_p34 : lw_okq (⟨"SoftStairsModel", "weight", "(I)I"⟩, 14) := ⟨⟨by decide +kernel, by decide +kernel⟩, List.mem_of_getElem? (i := 584) (by decide +kernel), List.mem_of_getElem? (i := 722) (by decide +kernel), List.mem_of_getElem? (i := 723) (by decide +kernel)⟩
theorem lw_p35 : lw_okq (⟨"SoftStairsModel", "holdsNow", "()Z"⟩, 14) := ⟨⟨by decide +kernel, by decide +kernel⟩, List.mem_of_getElem? (i := 584) (by decide +kernel), List.mem_of_getElem? (i := 730) (by decide +kernel), List.mem_of_getElem? (i := 731) (by decide +kernel)⟩
theorem lw_p36 : lw_okq (⟨"SoftStairsModel", "holdsWith", "(I)Z"⟩, 14) := ⟨⟨by decide +kernel, by decide +kernel⟩, List.mem_of_getElem? (i := 584) (by decide +kernel), List.mem_of_getElem? (i := 734) (by decide +kernel), List.mem_of_getElem? (i := 735) (by decide +kernel)⟩
theorem lw_p37 : lw_okq (⟨"SoftStairsModel", "goTick", "()V"⟩, 14) := ⟨⟨by decide +kernel, by decide +kernel⟩, List.mem_of_getElem? (i := 584) (by decide +kernel), List.mem_of_getElem? (i := 743) (by decide +kernel), List.mem_of_getElem? (i := 744) (by decide +kernel)⟩
theorem lw_p38 : lw_okq (⟨"SoftStairsModel", "disagrees", "(I)Z"⟩, 14) := ⟨⟨by decide +kernel, by decide +kernel⟩, List.mem_of_getElem? (i := 584) (by decide +kernel), List.mem_of_getElem? (i := 747) (by decide +kernel), List.mem_of_getElem? (i := 748) (by decide +kernel)⟩
theorem lw_p39 : lw_okq (⟨"SoftStairsModel", "wanted", "()I"⟩, 14) := ⟨⟨by decide +kernel, by decide +kernel⟩, List.mem_of_getElem? (i := 584) (by decide +kernel), List.mem_of_getElem? (i := 751) (by decide +kernel), List.mem_of_getElem? (i := 752) (by decide +kernel)⟩
theorem lw_p40 : lw_okq (⟨"SoftStairsModel", "isSlow", "()Z"⟩, 14) := ⟨⟨by decide +kernel, by decide +kernel⟩, List.mem_of_getElem? (i := 584) (by decide +kernel), List.mem_of_getElem? (i := 755) (by decide +kernel), List.mem_of_getElem? (i := 756) (by decide +kernel)⟩
theorem lw_p41 : lw_okq (⟨"SoftStairsModel", "carry", "()V"⟩, 14) := ⟨⟨by decide +kernel, by decide +kernel⟩, List.mem_of_getElem? (i := 584) (by decide +kernel), List.mem_of_getElem? (i := 759) (by decide +kernel), List.mem_of_getElem? (i := 760) (by decide +kernel)⟩
theorem lw_p42 : lw_okq (⟨"SoftStairsModel", "placeOf", "(I)I"⟩, 14) := ⟨⟨by decide +kernel, by decide +kernel⟩, List.mem_of_getElem? (i := 584) (by decide +kernel), List.mem_of_getElem? (i := 763) (by decide +kernel), List.mem_of_getElem? (i := 764) (by decide +kernel)⟩
theorem lw_p43 : lw_okq (⟨"SoftStairsModel", "wayWith", "(I)I"⟩, 14) := ⟨⟨by decide +kernel, by decide +kernel⟩, List.mem_of_getElem? (i := 584) (by decide +kernel), List.mem_of_getElem? (i := 787) (by decide +kernel), List.mem_of_getElem? (i := 788) (by decide +kernel)⟩
theorem lw_p44 : lw_okq (⟨"SoftStairsModel", "putAside", "()V"⟩, 14) := ⟨⟨by decide +kernel, by decide +kernel⟩, List.mem_of_getElem? (i := 584) (by decide +kernel), List.mem_of_getElem? (i := 791) (by decide +kernel), List.mem_of_getElem? (i := 792) (by decide +kernel)⟩
theorem lw_p45 : lw_okq (⟨"SoftStairsModel", "bringBack", "()V"⟩, 14) := ⟨⟨by decide +kernel, by decide +kernel⟩, List.mem_of_getElem? (i := 584) (by decide +kernel), List.mem_of_getElem? (i := 795) (by decide +kernel), List.mem_of_getElem? (i := 796) (by decide +kernel)⟩
def lw_privs_3 : List (MethodName × Nat) := [(⟨"SoftStairsModel", "halt", "(I)V"⟩, 14), (⟨"SoftStairsModel", "loadNow", "()I"⟩, 14), (⟨"SoftStairsModel", "weight", "(I)I"⟩, 14), (⟨"SoftStairsModel", "holdsNow", "()Z"⟩, 14), (⟨"SoftStairsModel", "holdsWith", "(I)Z"⟩, 14), (⟨"SoftStairsModel", "goTick", "()V"⟩, 14), (⟨"SoftStairsModel", "disagrees", "(I)Z"⟩, 14), (⟨"SoftStairsModel", "wanted", "()I"⟩, 14), (⟨"SoftStairsModel", "isSlow", "()Z"⟩, 14), (⟨"SoftStairsModel", "carry", "()V"⟩, 14), (⟨"SoftStairsModel", "placeOf", "(I)I"⟩, 14), (⟨"SoftStairsModel", "wayWith", "(I)I"⟩, 14), (⟨"SoftStairsModel", "putAside", "()V"⟩, 14), (⟨"SoftStairsModel", "bringBack", "()V"⟩, 14)]
theorem lw_r3 : ∀ q ∈ lw_privs_3, lw_okq q := List.forall_mem_cons.mpr ⟨lw_p32, List.forall_mem_cons.mpr ⟨lw_p33, List.forall_mem_cons.mpr ⟨lw_p34, List.forall_mem_cons.mpr ⟨lw_p35, List.forall_mem_cons.mpr ⟨lw_p36, List.forall_mem_cons.mpr ⟨lw_p37, List.forall_mem_cons.mpr ⟨lw_p38, List.forall_mem_cons.mpr ⟨lw_p39, List.forall_mem_cons.mpr ⟨lw_p40, List.forall_mem_cons.mpr ⟨lw_p41, List.forall_mem_cons.mpr ⟨lw_p42, List.forall_mem_cons.mpr ⟨lw_p43, List.forall_mem_cons.mpr ⟨lw_p44, List.forall_mem_cons.mpr ⟨lw_p45, fun _ h => absurd h List.not_mem_nil⟩⟩⟩⟩⟩⟩⟩⟩⟩⟩⟩⟩⟩⟩
def lw_privs : List (MethodName × Nat) := lw_privs_1 ++ (lw_privs_2 ++ (lw_privs_3))
def lw_tbl : List Cond := k2_sels lw_privs ++ tables_1
theorem lw_privs_ok : ∀ q ∈ lw_privs, lw_okq q := by
  show ∀ q ∈ lw_privs_1 ++ (lw_privs_2 ++ (lw_privs_3)), lw_okq q
  exact List.forall_mem_append.mpr ⟨lw_r1, List.forall_mem_append.mpr ⟨lw_r2, lw_r3⟩⟩
-- ===== end of PART A; then your names; then what follows =====
end
section
def RX0 : String := "SoftStairs$History"
def TX0 : u_T := fun k => match k with
  | 0 => ("SoftStairs$History", "states", "[LSoftStairs$Stairs;", true)
  | 1 => ("SoftStairs$History", "latest", "I", false)
  | _ => ("SoftStairs$History", "length", "I", false)
def tyX0 : Nat → FieldType := fun k => match k with
  | 0 => .array (.object "SoftStairs$Stairs")
  | 1 => .int
  | _ => .int
theorem nmX0 : ∀ a, a < 3 → ∀ b, b < 3 → a ≠ b → (TX0 a).2.1 ≠ (TX0 b).2.1 := by decide +kernel
theorem tyX0_ok : ∀ k, k < 3 → parseFieldDescriptor (TX0 k).2.2.1 = some (tyX0 k) := by decide +kernel
abbrev cX0_init : ByteArray := prog_2_method_1_code
def yX0_init : MethodName := ⟨RX0, "<init>", "(LSoftStairs$Rule;)V"⟩
abbrev cX0_record : ByteArray := prog_2_method_2_code
def yX0_record : MethodName := ⟨RX0, "record", "(LSoftStairs$Stairs;)V"⟩
abbrev cX0_takeBack : ByteArray := prog_2_method_3_code
def yX0_takeBack : MethodName := ⟨RX0, "takeBack", "(LSoftStairs$Stairs;)V"⟩
def RX1 : String := "SoftStairs$Pad"
def TX1 : u_T := fun k => match k with
  | 0 => ("SoftStairs$Pad", "text", "[C", true)
  | _ => ("SoftStairs$Pad", "length", "I", false)
def tyX1 : Nat → FieldType := fun k => match k with
  | 0 => .array .char
  | _ => .int
theorem nmX1 : ∀ a, a < 2 → ∀ b, b < 2 → a ≠ b → (TX1 a).2.1 ≠ (TX1 b).2.1 := by decide +kernel
theorem tyX1_ok : ∀ k, k < 2 → parseFieldDescriptor (TX1 k).2.2.1 = some (tyX1 k) := by decide +kernel
abbrev cX1_init : ByteArray := prog_3_method_1_code
def yX1_init : MethodName := ⟨RX1, "<init>", "()V"⟩
abbrev cX1_charactersIn : ByteArray := prog_3_method_2_code
def yX1_charactersIn : MethodName := ⟨RX1, "charactersIn", "(J)I"⟩
abbrev cX1_append : ByteArray := prog_3_method_3_code
def yX1_append : MethodName := ⟨RX1, "append", "(JI)V"⟩
abbrev cX1_findFault : ByteArray := prog_3_method_4_code
def yX1_findFault : MethodName := ⟨RX1, "findFault", "()I"⟩
abbrev cX1_beginsPart : ByteArray := prog_3_method_5_code
def yX1_beginsPart : MethodName := ⟨RX1, "beginsPart", "(C)Z"⟩
abbrev cX1_followsPart : ByteArray := prog_3_method_6_code
def yX1_followsPart : MethodName := ⟨RX1, "followsPart", "(CI)Z"⟩
abbrev cX1_isLetter : ByteArray := prog_3_method_7_code
def yX1_isLetter : MethodName := ⟨RX1, "isLetter", "(C)Z"⟩
def RX2 : String := "SoftStairs$Reader"
def TX2 : u_T := fun k => match k with
  | 0 => ("SoftStairs$Reader", "waiting", "[C", true)
  | 1 => ("SoftStairs$Reader", "free", "[I", true)
  | 2 => ("SoftStairs$Reader", "waitingSigns", "I", false)
  | _ => ("SoftStairs$Reader", "freeParts", "I", false)
def tyX2 : Nat → FieldType := fun k => match k with
  | 0 => .array .char
  | 1 => .array .int
  | 2 => .int
  | _ => .int
theorem nmX2 : ∀ a, a < 4 → ∀ b, b < 4 → a ≠ b → (TX2 a).2.1 ≠ (TX2 b).2.1 := by decide +kernel
theorem tyX2_ok : ∀ k, k < 4 → parseFieldDescriptor (TX2 k).2.2.1 = some (tyX2 k) := by decide +kernel
abbrev cX2_init : ByteArray := prog_4_method_1_code
def yX2_init : MethodName := ⟨RX2, "<init>", "()V"⟩
abbrev cX2_read : ByteArray := prog_4_method_2_code
def yX2_read : MethodName := ⟨RX2, "read", "([CI)LSoftStairs$Rule;"⟩
abbrev cX2_take : ByteArray := prog_4_method_3_code
def yX2_take : MethodName := ⟨RX2, "take", "(CLSoftStairs$Rule;)V"⟩
abbrev cX2_strength : ByteArray := prog_4_method_4_code
def yX2_strength : MethodName := ⟨RX2, "strength", "(C)I"⟩
abbrev cX2_joinWaiting : ByteArray := prog_4_method_5_code
def yX2_joinWaiting : MethodName := ⟨RX2, "joinWaiting", "(ILSoftStairs$Rule;)V"⟩
abbrev cX2_joinFree : ByteArray := prog_4_method_6_code
def yX2_joinFree : MethodName := ⟨RX2, "joinFree", "(CLSoftStairs$Rule;)V"⟩
abbrev cX2_keepWaiting : ByteArray := prog_4_method_7_code
def yX2_keepWaiting : MethodName := ⟨RX2, "keepWaiting", "(C)V"⟩
abbrev cX2_keepFree : ByteArray := prog_4_method_8_code
def yX2_keepFree : MethodName := ⟨RX2, "keepFree", "(I)V"⟩
abbrev cX2_takeFree : ByteArray := prog_4_method_9_code
def yX2_takeFree : MethodName := ⟨RX2, "takeFree", "()I"⟩
def RX3 : String := "SoftStairs$Rule"
def TX3 : u_T := fun k => match k with
  | 0 => ("SoftStairs$Rule", "signs", "[C", true)
  | 1 => ("SoftStairs$Rule", "firsts", "[I", true)
  | 2 => ("SoftStairs$Rule", "seconds", "[I", true)
  | 3 => ("SoftStairs$Rule", "depths", "[I", true)
  | 4 => ("SoftStairs$Rule", "parts", "I", false)
  | _ => ("SoftStairs$Rule", "letters", "I", false)
def tyX3 : Nat → FieldType := fun k => match k with
  | 0 => .array .char
  | 1 => .array .int
  | 2 => .array .int
  | 3 => .array .int
  | 4 => .int
  | _ => .int
theorem nmX3 : ∀ a, a < 6 → ∀ b, b < 6 → a ≠ b → (TX3 a).2.1 ≠ (TX3 b).2.1 := by decide +kernel
theorem tyX3_ok : ∀ k, k < 6 → parseFieldDescriptor (TX3 k).2.2.1 = some (tyX3 k) := by decide +kernel
abbrev cX3_init : ByteArray := prog_5_method_1_code
def yX3_init : MethodName := ⟨RX3, "<init>", "()V"⟩
abbrev cX3_addLetter : ByteArray := prog_5_method_2_code
def yX3_addLetter : MethodName := ⟨RX3, "addLetter", "(C)I"⟩
abbrev cX3_addJoint : ByteArray := prog_5_method_3_code
def yX3_addJoint : MethodName := ⟨RX3, "addJoint", "(CII)I"⟩
abbrev cX3_add : ByteArray := prog_5_method_4_code
def yX3_add : MethodName := ⟨RX3, "add", "(CIII)I"⟩
abbrev cX3_depthOf : ByteArray := prog_5_method_5_code
def yX3_depthOf : MethodName := ⟨RX3, "depthOf", "(I)I"⟩
abbrev cX3_depth : ByteArray := prog_5_method_6_code
def yX3_depth : MethodName := ⟨RX3, "depth", "()I"⟩
abbrev cX3_holds : ByteArray := prog_5_method_7_code
def yX3_holds : MethodName := ⟨RX3, "holds", "(I)Z"⟩
abbrev cX3_lookedAt : ByteArray := prog_5_method_8_code
def yX3_lookedAt : MethodName := ⟨RX3, "lookedAt", "(I)I"⟩
abbrev cX3_lookedAtFrom : ByteArray := prog_5_method_9_code
def yX3_lookedAtFrom : MethodName := ⟨RX3, "lookedAtFrom", "(IJ)J"⟩
abbrev cX3_holding : ByteArray := prog_5_method_10_code
def yX3_holding : MethodName := ⟨RX3, "holding", "(I)J"⟩
abbrev cX3_partHolds : ByteArray := prog_5_method_11_code
def yX3_partHolds : MethodName := ⟨RX3, "partHolds", "(IIJ)Z"⟩
abbrev cX3_letterHolds : ByteArray := prog_5_method_12_code
def yX3_letterHolds : MethodName := ⟨RX3, "letterHolds", "(II)Z"⟩
abbrev cX3_letterNumber : ByteArray := prog_5_method_13_code
def yX3_letterNumber : MethodName := ⟨RX3, "letterNumber", "(C)I"⟩
abbrev cX3_isIn : ByteArray := prog_5_method_14_code
def yX3_isIn : MethodName := ⟨RX3, "isIn", "(JI)Z"⟩
def RX4 : String := "SoftStairs$Stairs"
def TX4 : u_T := fun k => match k with
  | 0 => ("SoftStairs$Stairs", "settings", "[I", true)
  | 1 => ("SoftStairs$Stairs", "places", "[I", true)
  | 2 => ("SoftStairs$Stairs", "weights", "[I", true)
  | 3 => ("SoftStairs$Stairs", "cameAt", "[I", true)
  | 4 => ("SoftStairs$Stairs", "disagreed", "[I", true)
  | 5 => ("SoftStairs$Stairs", "kept", "[I", true)
  | 6 => ("SoftStairs$Stairs", "rule", "LSoftStairs$Rule;", false)
  | 7 => ("SoftStairs$Stairs", "people", "I", false)
  | 8 => ("SoftStairs$Stairs", "sensors", "I", false)
  | 9 => ("SoftStairs$Stairs", "mode", "I", false)
  | 10 => ("SoftStairs$Stairs", "tick", "I", false)
  | 11 => ("SoftStairs$Stairs", "speed", "I", false)
  | 12 => ("SoftStairs$Stairs", "offPeople", "I", false)
  | 13 => ("SoftStairs$Stairs", "offWeight", "I", false)
  | 14 => ("SoftStairs$Stairs", "stops", "I", false)
  | 15 => ("SoftStairs$Stairs", "emptyTicks", "I", false)
  | 16 => ("SoftStairs$Stairs", "units", "I", false)
  | _ => ("SoftStairs$Stairs", "greatestChange", "I", false)
def tyX4 : Nat → FieldType := fun k => match k with
  | 0 => .array .int
  | 1 => .array .int
  | 2 => .array .int
  | 3 => .array .int
  | 4 => .array .int
  | 5 => .array .int
  | 6 => .object "SoftStairs$Rule"
  | 7 => .int
  | 8 => .int
  | 9 => .int
  | 10 => .int
  | 11 => .int
  | 12 => .int
  | 13 => .int
  | 14 => .int
  | 15 => .int
  | 16 => .int
  | _ => .int
theorem nmX4 : ∀ a, a < 18 → ∀ b, b < 18 → a ≠ b → (TX4 a).2.1 ≠ (TX4 b).2.1 := by decide +kernel
theorem tyX4_ok : ∀ k, k < 18 → parseFieldDescriptor (TX4 k).2.2.1 = some (tyX4 k) := by decide +kernel
abbrev cX4_init : ByteArray := prog_6_method_1_code
def yX4_init : MethodName := ⟨RX4, "<init>", "(LSoftStairs$Rule;)V"⟩
abbrev cX4_copy : ByteArray := prog_6_method_2_code
def yX4_copy : MethodName := ⟨RX4, "copy", "(LSoftStairs$Stairs;)V"⟩
abbrev cX4_number : ByteArray := prog_6_method_3_code
def yX4_number : MethodName := ⟨RX4, "number", "(I)I"⟩
abbrev cX4_settingCounted : ByteArray := prog_6_method_4_code
def yX4_settingCounted : MethodName := ⟨RX4, "settingCounted", "(I)I"⟩
abbrev cX4_totalWeight : ByteArray := prog_6_method_5_code
def yX4_totalWeight : MethodName := ⟨RX4, "totalWeight", "()I"⟩
abbrev cX4_stepOn : ByteArray := prog_6_method_6_code
def yX4_stepOn : MethodName := ⟨RX4, "stepOn", "(I)V"⟩
abbrev cX4_complains : ByteArray := prog_6_method_7_code
def yX4_complains : MethodName := ⟨RX4, "complains", "(II)I"⟩
abbrev cX4_setComplaint : ByteArray := prog_6_method_8_code
def yX4_setComplaint : MethodName := ⟨RX4, "setComplaint", "(III)V"⟩
abbrev cX4_ruleHolds : ByteArray := prog_6_method_9_code
def yX4_ruleHolds : MethodName := ⟨RX4, "ruleHolds", "()Z"⟩
abbrev cX4_beginStop : ByteArray := prog_6_method_10_code
def yX4_beginStop : MethodName := ⟨RX4, "beginStop", "(I)V"⟩
abbrev cX4_passTick : ByteArray := prog_6_method_11_code
def yX4_passTick : MethodName := ⟨RX4, "passTick", "(Z)V"⟩
abbrev cX4_countDisagreements : ByteArray := prog_6_method_12_code
def yX4_countDisagreements : MethodName := ⟨RX4, "countDisagreements", "()V"⟩
abbrev cX4_wantedSpeed : ByteArray := prog_6_method_13_code
def yX4_wantedSpeed : MethodName := ⟨RX4, "wantedSpeed", "(I)I"⟩
abbrev cX4_isInDoubt : ByteArray := prog_6_method_14_code
def yX4_isInDoubt : MethodName := ⟨RX4, "isInDoubt", "()Z"⟩
abbrev cX4_changeSpeed : ByteArray := prog_6_method_15_code
def yX4_changeSpeed : MethodName := ⟨RX4, "changeSpeed", "(II)V"⟩
abbrev cX4_carryPeople : ByteArray := prog_6_method_16_code
def yX4_carryPeople : MethodName := ⟨RX4, "carryPeople", "()V"⟩
abbrev cX4_unitsUntilStopped : ByteArray := prog_6_method_17_code
def yX4_unitsUntilStopped : MethodName := ⟨RX4, "unitsUntilStopped", "()I"⟩
abbrev cX4_ticksUntilEmpty : ByteArray := prog_6_method_18_code
def yX4_ticksUntilEmpty : MethodName := ⟨RX4, "ticksUntilEmpty", "()I"⟩
def RX5 : String := "SoftStairs"
def TX5 : u_T := fun k => match k with
  | 0 => ("SoftStairs", "pad", "LSoftStairs$Pad;", true)
  | 1 => ("SoftStairs", "reader", "LSoftStairs$Reader;", true)
  | 2 => ("SoftStairs", "now", "LSoftStairs$Stairs;", true)
  | 3 => ("SoftStairs", "trial", "LSoftStairs$Stairs;", true)
  | 4 => ("SoftStairs", "history", "LSoftStairs$History;", true)
  | 5 => ("SoftStairs", "slots", "[LSoftStairs$Stairs;", true)
  | _ => ("SoftStairs", "saved", "[Z", true)
def tyX5 : Nat → FieldType := fun k => match k with
  | 0 => .object "SoftStairs$Pad"
  | 1 => .object "SoftStairs$Reader"
  | 2 => .object "SoftStairs$Stairs"
  | 3 => .object "SoftStairs$Stairs"
  | 4 => .object "SoftStairs$History"
  | 5 => .array (.object "SoftStairs$Stairs")
  | _ => .array .boolean
theorem nmX5 : ∀ a, a < 7 → ∀ b, b < 7 → a ≠ b → (TX5 a).2.1 ≠ (TX5 b).2.1 := by decide +kernel
theorem tyX5_ok : ∀ k, k < 7 → parseFieldDescriptor (TX5 k).2.2.1 = some (tyX5 k) := by decide +kernel
abbrev cX5_init : ByteArray := prog_1_method_1_code
def yX5_init : MethodName := ⟨RX5, "<init>", "()V"⟩
abbrev cX5_set : ByteArray := prog_1_method_2_code
def yX5_set : MethodName := ⟨RX5, "set", "(II)I"⟩
abbrev cX5_come : ByteArray := prog_1_method_3_code
def yX5_come : MethodName := ⟨RX5, "come", "(I)I"⟩
abbrev cX5_sense : ByteArray := prog_1_method_4_code
def yX5_sense : MethodName := ⟨RX5, "sense", "(III)I"⟩
abbrev cX5_stop : ByteArray := prog_1_method_5_code
def yX5_stop : MethodName := ⟨RX5, "stop", "()I"⟩
abbrev cX5_restart : ByteArray := prog_1_method_6_code
def yX5_restart : MethodName := ⟨RX5, "restart", "()I"⟩
abbrev cX5_pass : ByteArray := prog_1_method_7_code
def yX5_pass : MethodName := ⟨RX5, "pass", "(I)I"⟩
abbrev cX5_of : ByteArray := prog_1_method_8_code
def yX5_of : MethodName := ⟨RX5, "of", "(II)I"⟩
abbrev cX5_ofSpot : ByteArray := prog_1_method_9_code
def yX5_ofSpot : MethodName := ⟨RX5, "ofSpot", "(II)I"⟩
abbrev cX5_ofStop : ByteArray := prog_1_method_10_code
def yX5_ofStop : MethodName := ⟨RX5, "ofStop", "(II)I"⟩
abbrev cX5_rule : ByteArray := prog_1_method_11_code
def yX5_rule : MethodName := ⟨RX5, "rule", "(I)I"⟩
abbrev cX5_count : ByteArray := prog_1_method_12_code
def yX5_count : MethodName := ⟨RX5, "count", "(I)I"⟩
abbrev cX5_way : ByteArray := prog_1_method_13_code
def yX5_way : MethodName := ⟨RX5, "way", "()I"⟩
abbrev cX5_emptyIn : ByteArray := prog_1_method_14_code
def yX5_emptyIn : MethodName := ⟨RX5, "emptyIn", "()I"⟩
abbrev cX5_leastRamp : ByteArray := prog_1_method_15_code
def yX5_leastRamp : MethodName := ⟨RX5, "leastRamp", "(I)I"⟩
abbrev cX5_wouldHold : ByteArray := prog_1_method_16_code
def yX5_wouldHold : MethodName := ⟨RX5, "wouldHold", "(I)I"⟩
abbrev cX5_fewest : ByteArray := prog_1_method_17_code
def yX5_fewest : MethodName := ⟨RX5, "fewest", "()I"⟩
abbrev cX5_wayWith : ByteArray := prog_1_method_18_code
def yX5_wayWith : MethodName := ⟨RX5, "wayWith", "(I)I"⟩
abbrev cX5_put : ByteArray := prog_1_method_19_code
def yX5_put : MethodName := ⟨RX5, "put", "(J)I"⟩
abbrev cX5_wipe : ByteArray := prog_1_method_20_code
def yX5_wipe : MethodName := ⟨RX5, "wipe", "()I"⟩
abbrev cX5_fault : ByteArray := prog_1_method_21_code
def yX5_fault : MethodName := ⟨RX5, "fault", "()I"⟩
abbrev cX5_load : ByteArray := prog_1_method_22_code
def yX5_load : MethodName := ⟨RX5, "load", "()I"⟩
abbrev cX5_undo : ByteArray := prog_1_method_23_code
def yX5_undo : MethodName := ⟨RX5, "undo", "()I"⟩
abbrev cX5_save : ByteArray := prog_1_method_24_code
def yX5_save : MethodName := ⟨RX5, "save", "(I)I"⟩
abbrev cX5_restore : ByteArray := prog_1_method_25_code
def yX5_restore : MethodName := ⟨RX5, "restore", "(I)I"⟩
def RX6 : String := "SoftStairsModel"
def TX6 : u_T := fun k => match k with
  | 0 => ("SoftStairsModel", "z", "[I", true)
  | 1 => ("SoftStairsModel", "past", "[I", true)
  | 2 => ("SoftStairsModel", "slots", "[I", true)
  | 3 => ("SoftStairsModel", "isSaved", "[Z", true)
  | 4 => ("SoftStairsModel", "pastMany", "I", false)
  | 5 => ("SoftStairsModel", "spare", "[I", true)
  | 6 => ("SoftStairsModel", "pad", "[C", true)
  | 7 => ("SoftStairsModel", "typed", "I", false)
  | 8 => ("SoftStairsModel", "holds", "[Z", true)
  | 9 => ("SoftStairsModel", "deep", "[I", true)
  | 10 => ("SoftStairsModel", "looked", "[I", true)
  | 11 => ("SoftStairsModel", "partMany", "I", false)
  | 12 => ("SoftStairsModel", "waiting", "[I", true)
  | _ => ("SoftStairsModel", "waitingMany", "I", false)
def tyX6 : Nat → FieldType := fun k => match k with
  | 0 => .array .int
  | 1 => .array .int
  | 2 => .array .int
  | 3 => .array .boolean
  | 4 => .int
  | 5 => .array .int
  | 6 => .array .char
  | 7 => .int
  | 8 => .array .boolean
  | 9 => .array .int
  | 10 => .array .int
  | 11 => .int
  | 12 => .array .int
  | _ => .int
theorem nmX6 : ∀ a, a < 14 → ∀ b, b < 14 → a ≠ b → (TX6 a).2.1 ≠ (TX6 b).2.1 := by decide +kernel
theorem tyX6_ok : ∀ k, k < 14 → parseFieldDescriptor (TX6 k).2.2.1 = some (tyX6 k) := by decide +kernel
abbrev cX6_init : ByteArray := prog_8_method_1_code
def yX6_init : MethodName := ⟨RX6, "<init>", "()V"⟩
abbrev cX6_in : ByteArray := prog_8_method_2_code
def yX6_in : MethodName := ⟨RX6, "in", "(III)Z"⟩
abbrev cX6_record : ByteArray := prog_8_method_3_code
def yX6_record : MethodName := ⟨RX6, "record", "()V"⟩
abbrev cX6_undo : ByteArray := prog_8_method_4_code
def yX6_undo : MethodName := ⟨RX6, "undo", "()I"⟩
abbrev cX6_save : ByteArray := prog_8_method_5_code
def yX6_save : MethodName := ⟨RX6, "save", "(I)I"⟩
abbrev cX6_restore : ByteArray := prog_8_method_6_code
def yX6_restore : MethodName := ⟨RX6, "restore", "(I)I"⟩
abbrev cX6_putAside : ByteArray := prog_8_method_7_code
def yX6_putAside : MethodName := ⟨RX6, "putAside", "()V"⟩
abbrev cX6_bringBack : ByteArray := prog_8_method_8_code
def yX6_bringBack : MethodName := ⟨RX6, "bringBack", "()V"⟩
abbrev cX6_isSo : ByteArray := prog_8_method_9_code
def yX6_isSo : MethodName := ⟨RX6, "isSo", "(II)Z"⟩
abbrev cX6_join : ByteArray := prog_8_method_10_code
def yX6_join : MethodName := ⟨RX6, "join", "()V"⟩
abbrev cX6_strength : ByteArray := prog_8_method_11_code
def yX6_strength : MethodName := ⟨RX6, "strength", "(I)I"⟩
abbrev cX6_joinAll : ByteArray := prog_8_method_12_code
def yX6_joinAll : MethodName := ⟨RX6, "joinAll", "(I)V"⟩
abbrev cX6_push : ByteArray := prog_8_method_13_code
def yX6_push : MethodName := ⟨RX6, "push", "(I)V"⟩
abbrev cX6_workOut : ByteArray := prog_8_method_14_code
def yX6_workOut : MethodName := ⟨RX6, "workOut", "(I)V"⟩
abbrev cX6_holdsWith : ByteArray := prog_8_method_15_code
def yX6_holdsWith : MethodName := ⟨RX6, "holdsWith", "(I)Z"⟩
abbrev cX6_holdsNow : ByteArray := prog_8_method_16_code
def yX6_holdsNow : MethodName := ⟨RX6, "holdsNow", "()Z"⟩
abbrev cX6_isLetter : ByteArray := prog_8_method_17_code
def yX6_isLetter : MethodName := ⟨RX6, "isLetter", "(I)Z"⟩
abbrev cX6_parts : ByteArray := prog_8_method_18_code
def yX6_parts : MethodName := ⟨RX6, "parts", "()I"⟩
abbrev cX6_letters : ByteArray := prog_8_method_19_code
def yX6_letters : MethodName := ⟨RX6, "letters", "()I"⟩
abbrev cX6_rule : ByteArray := prog_8_method_20_code
def yX6_rule : MethodName := ⟨RX6, "rule", "(I)I"⟩
abbrev cX6_weight : ByteArray := prog_8_method_21_code
def yX6_weight : MethodName := ⟨RX6, "weight", "(I)I"⟩
abbrev cX6_placeOf : ByteArray := prog_8_method_22_code
def yX6_placeOf : MethodName := ⟨RX6, "placeOf", "(I)I"⟩
abbrev cX6_loadNow : ByteArray := prog_8_method_23_code
def yX6_loadNow : MethodName := ⟨RX6, "loadNow", "()I"⟩
abbrev cX6_carry : ByteArray := prog_8_method_24_code
def yX6_carry : MethodName := ⟨RX6, "carry", "()V"⟩
abbrev cX6_halt : ByteArray := prog_8_method_25_code
def yX6_halt : MethodName := ⟨RX6, "halt", "(I)V"⟩
abbrev cX6_disagrees : ByteArray := prog_8_method_26_code
def yX6_disagrees : MethodName := ⟨RX6, "disagrees", "(I)Z"⟩
abbrev cX6_isSlow : ByteArray := prog_8_method_27_code
def yX6_isSlow : MethodName := ⟨RX6, "isSlow", "()Z"⟩
abbrev cX6_wanted : ByteArray := prog_8_method_28_code
def yX6_wanted : MethodName := ⟨RX6, "wanted", "()I"⟩
abbrev cX6_goTick : ByteArray := prog_8_method_29_code
def yX6_goTick : MethodName := ⟨RX6, "goTick", "()V"⟩
abbrev cX6_leastOf : ByteArray := prog_8_method_30_code
def yX6_leastOf : MethodName := ⟨RX6, "leastOf", "(I)I"⟩
abbrev cX6_mostOf : ByteArray := prog_8_method_31_code
def yX6_mostOf : MethodName := ⟨RX6, "mostOf", "(I)I"⟩
abbrev cX6_set : ByteArray := prog_8_method_32_code
def yX6_set : MethodName := ⟨RX6, "set", "(II)I"⟩
abbrev cX6_come : ByteArray := prog_8_method_33_code
def yX6_come : MethodName := ⟨RX6, "come", "(I)I"⟩
abbrev cX6_isSpot : ByteArray := prog_8_method_34_code
def yX6_isSpot : MethodName := ⟨RX6, "isSpot", "(I)Z"⟩
abbrev cX6_sense : ByteArray := prog_8_method_35_code
def yX6_sense : MethodName := ⟨RX6, "sense", "(III)I"⟩
abbrev cX6_stop : ByteArray := prog_8_method_36_code
def yX6_stop : MethodName := ⟨RX6, "stop", "()I"⟩
abbrev cX6_restart : ByteArray := prog_8_method_37_code
def yX6_restart : MethodName := ⟨RX6, "restart", "()I"⟩
abbrev cX6_pass : ByteArray := prog_8_method_38_code
def yX6_pass : MethodName := ⟨RX6, "pass", "(I)I"⟩
abbrev cX6_of : ByteArray := prog_8_method_39_code
def yX6_of : MethodName := ⟨RX6, "of", "(II)I"⟩
abbrev cX6_ofSpot : ByteArray := prog_8_method_40_code
def yX6_ofSpot : MethodName := ⟨RX6, "ofSpot", "(II)I"⟩
abbrev cX6_ofStop : ByteArray := prog_8_method_41_code
def yX6_ofStop : MethodName := ⟨RX6, "ofStop", "(II)I"⟩
abbrev cX6_count : ByteArray := prog_8_method_42_code
def yX6_count : MethodName := ⟨RX6, "count", "(I)I"⟩
abbrev cX6_wayWith : ByteArray := prog_8_method_43_code
def yX6_wayWith : MethodName := ⟨RX6, "wayWith", "(I)I"⟩
abbrev cX6_way : ByteArray := prog_8_method_44_code
def yX6_way : MethodName := ⟨RX6, "way", "()I"⟩
abbrev cX6_emptyIn : ByteArray := prog_8_method_45_code
def yX6_emptyIn : MethodName := ⟨RX6, "emptyIn", "()I"⟩
abbrev cX6_leastRamp : ByteArray := prog_8_method_46_code
def yX6_leastRamp : MethodName := ⟨RX6, "leastRamp", "(I)I"⟩
abbrev cX6_wouldHold : ByteArray := prog_8_method_47_code
def yX6_wouldHold : MethodName := ⟨RX6, "wouldHold", "(I)I"⟩
abbrev cX6_bits : ByteArray := prog_8_method_48_code
def yX6_bits : MethodName := ⟨RX6, "bits", "(I)I"⟩
abbrev cX6_fewest : ByteArray := prog_8_method_49_code
def yX6_fewest : MethodName := ⟨RX6, "fewest", "()I"⟩
abbrev cX6_put : ByteArray := prog_8_method_50_code
def yX6_put : MethodName := ⟨RX6, "put", "(J)I"⟩
abbrev cX6_wipe : ByteArray := prog_8_method_51_code
def yX6_wipe : MethodName := ⟨RX6, "wipe", "()I"⟩
abbrev cX6_fault : ByteArray := prog_8_method_52_code
def yX6_fault : MethodName := ⟨RX6, "fault", "()I"⟩
abbrev cX6_load : ByteArray := prog_8_method_53_code
def yX6_load : MethodName := ⟨RX6, "load", "()I"⟩
def RJ6 : String := "java/lang/Integer"
def TJ6 : u_T := fun k => match k with
  | _ => ("", "", "", false)
def tyJ6 : Nat → FieldType := fun k => match k with
  | _ => .int
theorem nmJ6 : ∀ a, a < 0 → ∀ b, b < 0 → a ≠ b → (TJ6 a).2.1 ≠ (TJ6 b).2.1 := by decide +kernel
theorem tyJ6_ok : ∀ k, k < 0 → parseFieldDescriptor (TJ6 k).2.2.1 = some (tyJ6 k) := by decide +kernel
abbrev cJ6_bitCount_0f7a4 : ByteArray := prog_9_method_49_code
def yJ6_bitCount_0f7a4 : MethodName := ⟨RJ6, "bitCount", "(I)I"⟩
def RJ13 : String := "java/lang/Long"
def TJ13 : u_T := fun k => match k with
  | _ => ("", "", "", false)
def tyJ13 : Nat → FieldType := fun k => match k with
  | _ => .int
theorem nmJ13 : ∀ a, a < 0 → ∀ b, b < 0 → a ≠ b → (TJ13 a).2.1 ≠ (TJ13 b).2.1 := by decide +kernel
theorem tyJ13_ok : ∀ k, k < 0 → parseFieldDescriptor (TJ13 k).2.2.1 = some (tyJ13 k) := by decide +kernel
abbrev cJ13_bitCount_95d88 : ByteArray := prog_10_method_50_code
def yJ13_bitCount_95d88 : MethodName := ⟨RJ13, "bitCount", "(J)I"⟩
def RJ9 : String := "java/lang/Math"
def TJ9 : u_T := fun k => match k with
  | _ => ("", "", "", false)
def tyJ9 : Nat → FieldType := fun k => match k with
  | _ => .int
theorem nmJ9 : ∀ a, a < 0 → ∀ b, b < 0 → a ≠ b → (TJ9 a).2.1 ≠ (TJ9 b).2.1 := by decide +kernel
theorem tyJ9_ok : ∀ k, k < 0 → parseFieldDescriptor (TJ9 k).2.2.1 = some (tyJ9 k) := by decide +kernel
abbrev cJ9_abs_0f7a4 : ByteArray := prog_11_method_59_code
def yJ9_abs_0f7a4 : MethodName := ⟨RJ9, "abs", "(I)I"⟩
abbrev cJ9_max_7cf53 : ByteArray := prog_11_method_65_code
def yJ9_max_7cf53 : MethodName := ⟨RJ9, "max", "(II)I"⟩
abbrev cJ9_min_7cf53 : ByteArray := prog_11_method_69_code
def yJ9_min_7cf53 : MethodName := ⟨RJ9, "min", "(II)I"⟩
def RJ0 : String := "java/lang/String"
def TJ0 : u_T := fun k => match k with
  | _ => ("", "", "", false)
def tyJ0 : Nat → FieldType := fun k => match k with
  | _ => .int
theorem nmJ0 : ∀ a, a < 0 → ∀ b, b < 0 → a ≠ b → (TJ0 a).2.1 ≠ (TJ0 b).2.1 := by decide +kernel
theorem tyJ0_ok : ∀ k, k < 0 → parseFieldDescriptor (TJ0 k).2.2.1 = some (tyJ0 k) := by decide +kernel
abbrev cJ0_length_8abf5 : ByteArray := prog_12_method_54_code
def yJ0_length_8abf5 : MethodName := ⟨RJ0, "length", "()I"⟩
abbrev cJ0_toCharArray_70df3 : ByteArray := prog_12_method_129_code
def yJ0_toCharArray_70df3 : MethodName := ⟨RJ0, "toCharArray", "()[C"⟩
abbrev cJ0_coder_7d493 : ByteArray := prog_12_method_152_code
def yJ0_coder_7d493 : MethodName := ⟨RJ0, "coder", "()B"⟩
abbrev cJ0_isLatin1_aae02 : ByteArray := prog_12_method_154_code
def yJ0_isLatin1_aae02 : MethodName := ⟨RJ0, "isLatin1", "()Z"⟩
abbrev cJ0_checkBoundsOffCount_cabcc : ByteArray := prog_12_method_157_code
def yJ0_checkBoundsOffCount_cabcc : MethodName := ⟨RJ0, "checkBoundsOffCount", "(III)I"⟩
def RJ1 : String := "java/lang/StringLatin1"
def TJ1 : u_T := fun k => match k with
  | _ => ("", "", "", false)
def tyJ1 : Nat → FieldType := fun k => match k with
  | _ => .int
theorem nmJ1 : ∀ a, a < 0 → ∀ b, b < 0 → a ≠ b → (TJ1 a).2.1 ≠ (TJ1 b).2.1 := by decide +kernel
theorem tyJ1_ok : ∀ k, k < 0 → parseFieldDescriptor (TJ1 k).2.2.1 = some (tyJ1 k) := by decide +kernel
abbrev cJ1_toChars_9d188 : ByteArray := prog_13_method_9_code
def yJ1_toChars_9d188 : MethodName := ⟨RJ1, "toChars", "([B)[C"⟩
abbrev cJ1_inflate_03870 : ByteArray := prog_13_method_49_code
def yJ1_inflate_03870 : MethodName := ⟨RJ1, "inflate", "([BI[CII)V"⟩
def RJ2 : String := "java/lang/StringUTF16"
def TJ2 : u_T := fun k => match k with
  | _ => ("", "", "", false)
def tyJ2 : Nat → FieldType := fun k => match k with
  | _ => .int
theorem nmJ2 : ∀ a, a < 0 → ∀ b, b < 0 → a ≠ b → (TJ2 a).2.1 ≠ (TJ2 b).2.1 := by decide +kernel
theorem tyJ2_ok : ∀ k, k < 0 → parseFieldDescriptor (TJ2 k).2.2.1 = some (tyJ2 k) := by decide +kernel
abbrev cJ2_getChar_3b067 : ByteArray := prog_14_method_5_code
def yJ2_getChar_3b067 : MethodName := ⟨RJ2, "getChar", "([BI)C"⟩
abbrev cJ2_length_9d52b : ByteArray := prog_14_method_6_code
def yJ2_length_9d52b : MethodName := ⟨RJ2, "length", "([B)I"⟩
abbrev cJ2_toChars_9d188 : ByteArray := prog_14_method_13_code
def yJ2_toChars_9d188 : MethodName := ⟨RJ2, "toChars", "([B)[C"⟩
abbrev cJ2_getChars_a1a8b : ByteArray := prog_14_method_26_code
def yJ2_getChars_a1a8b : MethodName := ⟨RJ2, "getChars", "([BII[CI)V"⟩
abbrev cJ2_checkBoundsOffCount_d044e : ByteArray := prog_14_method_94_code
def yJ2_checkBoundsOffCount_d044e : MethodName := ⟨RJ2, "checkBoundsOffCount", "(II[B)V"⟩
def RJ10 : String := "java/lang/System"
def TJ10 : u_T := fun k => match k with
  | _ => ("", "", "", false)
def tyJ10 : Nat → FieldType := fun k => match k with
  | _ => .int
theorem nmJ10 : ∀ a, a < 0 → ∀ b, b < 0 → a ≠ b → (TJ10 a).2.1 ≠ (TJ10 b).2.1 := by decide +kernel
theorem tyJ10_ok : ∀ k, k < 0 → parseFieldDescriptor (TJ10 k).2.2.1 = some (tyJ10 k) := by decide +kernel
def RJ3 : String := "jdk/internal/util/Preconditions"
def TJ3 : u_T := fun k => match k with
  | _ => ("", "", "", false)
def tyJ3 : Nat → FieldType := fun k => match k with
  | _ => .int
theorem nmJ3 : ∀ a, a < 0 → ∀ b, b < 0 → a ≠ b → (TJ3 a).2.1 ≠ (TJ3 b).2.1 := by decide +kernel
theorem tyJ3_ok : ∀ k, k < 0 → parseFieldDescriptor (TJ3 k).2.2.1 = some (tyJ3 k) := by decide +kernel
abbrev cJ3_checkFromIndexSize_8c36e : ByteArray := prog_16_method_13_code
def yJ3_checkFromIndexSize_8c36e : MethodName := ⟨RJ3, "checkFromIndexSize", "(IIILjava/util/function/BiFunction;)I"⟩
def RL : String := "SoftStairsLaw"
abbrev cL_law : ByteArray := code
def yL_law : MethodName := ⟨RL, "law", "([I)Z"⟩
abbrev vwCl : List vw_C := [(RX0, TX0, 3), (RX1, TX1, 2), (RX2, TX2, 4), (RX3, TX3, 6), (RX4, TX4, 18), (RX5, TX5, 7), (RX6, TX6, 14)]
end
section
theorem dX0_init_0 : decode cX0_init 0 = .ok (.aload_n 0, 1) := by decide +kernel
theorem dX0_init_1 : decode cX0_init 1 = .ok (.invokespecial 3, 3) := by decide +kernel
theorem dX0_init_4 : decode cX0_init 4 = .ok (.aload_n 0, 1) := by decide +kernel
theorem dX0_init_5 : decode cX0_init 5 = .ok (.bipush 6, 2) := by decide +kernel
theorem dX0_init_7 : decode cX0_init 7 = .ok (.anewarray 9, 3) := by decide +kernel
theorem dX0_init_10 : decode cX0_init 10 = .ok (.putfield 11, 3) := by decide +kernel
theorem dX0_init_13 : decode cX0_init 13 = .ok (.iconst 0, 1) := by decide +kernel
theorem dX0_init_14 : decode cX0_init 14 = .ok (.istore_n 2, 1) := by decide +kernel
theorem dX0_init_15 : decode cX0_init 15 = .ok (.iload_n 2, 1) := by decide +kernel
theorem dX0_init_16 : decode cX0_init 16 = .ok (.bipush 6, 2) := by decide +kernel
theorem dX0_init_18 : decode cX0_init 18 = .ok (.if_icmp .ge 23, 3) := by decide +kernel
theorem dX0_init_21 : decode cX0_init 21 = .ok (.aload_n 0, 1) := by decide +kernel
theorem dX0_init_22 : decode cX0_init 22 = .ok (.getfield 11, 3) := by decide +kernel
theorem dX0_init_25 : decode cX0_init 25 = .ok (.iload_n 2, 1) := by decide +kernel
theorem dX0_init_26 : decode cX0_init 26 = .ok (.new 9, 3) := by decide +kernel
theorem dX0_init_29 : decode cX0_init 29 = .ok (.dup, 1) := by decide +kernel
theorem dX0_init_30 : decode cX0_init 30 = .ok (.aload_n 1, 1) := by decide +kernel
theorem dX0_init_31 : decode cX0_init 31 = .ok (.invokespecial 17, 3) := by decide +kernel
theorem dX0_init_34 : decode cX0_init 34 = .ok (.aastore, 1) := by decide +kernel
theorem dX0_init_35 : decode cX0_init 35 = .ok (.iinc 2 1, 3) := by decide +kernel
theorem dX0_init_38 : decode cX0_init 38 = .ok (.goto (-23), 3) := by decide +kernel
theorem dX0_init_41 : decode cX0_init 41 = .ok (.return_, 1) := by decide +kernel
theorem dX0_record_0 : decode cX0_record 0 = .ok (.aload_n 0, 1) := by decide +kernel
theorem dX0_record_1 : decode cX0_record 1 = .ok (.aload_n 0, 1) := by decide +kernel
theorem dX0_record_2 : decode cX0_record 2 = .ok (.getfield 20, 3) := by decide +kernel
theorem dX0_record_5 : decode cX0_record 5 = .ok (.iconst 1, 1) := by decide +kernel
theorem dX0_record_6 : decode cX0_record 6 = .ok (.iadd, 1) := by decide +kernel
theorem dX0_record_7 : decode cX0_record 7 = .ok (.bipush 6, 2) := by decide +kernel
theorem dX0_record_9 : decode cX0_record 9 = .ok (.if_icmp .ge 12, 3) := by decide +kernel
theorem dX0_record_12 : decode cX0_record 12 = .ok (.aload_n 0, 1) := by decide +kernel
theorem dX0_record_13 : decode cX0_record 13 = .ok (.getfield 20, 3) := by decide +kernel
theorem dX0_record_16 : decode cX0_record 16 = .ok (.iconst 1, 1) := by decide +kernel
theorem dX0_record_17 : decode cX0_record 17 = .ok (.iadd, 1) := by decide +kernel
theorem dX0_record_18 : decode cX0_record 18 = .ok (.goto 4, 3) := by decide +kernel
theorem dX0_record_21 : decode cX0_record 21 = .ok (.iconst 0, 1) := by decide +kernel
theorem dX0_record_22 : decode cX0_record 22 = .ok (.putfield 20, 3) := by decide +kernel
theorem dX0_record_25 : decode cX0_record 25 = .ok (.aload_n 0, 1) := by decide +kernel
theorem dX0_record_26 : decode cX0_record 26 = .ok (.getfield 11, 3) := by decide +kernel
theorem dX0_record_29 : decode cX0_record 29 = .ok (.aload_n 0, 1) := by decide +kernel
theorem dX0_record_30 : decode cX0_record 30 = .ok (.getfield 20, 3) := by decide +kernel
theorem dX0_record_33 : decode cX0_record 33 = .ok (.aaload, 1) := by decide +kernel
theorem dX0_record_34 : decode cX0_record 34 = .ok (.aload_n 1, 1) := by decide +kernel
theorem dX0_record_35 : decode cX0_record 35 = .ok (.invokevirtual 24, 3) := by decide +kernel
theorem dX0_record_38 : decode cX0_record 38 = .ok (.aload_n 0, 1) := by decide +kernel
theorem dX0_record_39 : decode cX0_record 39 = .ok (.bipush 6, 2) := by decide +kernel
theorem dX0_record_41 : decode cX0_record 41 = .ok (.aload_n 0, 1) := by decide +kernel
theorem dX0_record_42 : decode cX0_record 42 = .ok (.getfield 28, 3) := by decide +kernel
theorem dX0_record_45 : decode cX0_record 45 = .ok (.iconst 1, 1) := by decide +kernel
theorem dX0_record_46 : decode cX0_record 46 = .ok (.iadd, 1) := by decide +kernel
theorem dX0_record_47 : decode cX0_record 47 = .ok (.invokestatic 31, 3) := by decide +kernel
theorem dX0_record_50 : decode cX0_record 50 = .ok (.putfield 28, 3) := by decide +kernel
theorem dX0_record_53 : decode cX0_record 53 = .ok (.return_, 1) := by decide +kernel
theorem dX0_takeBack_0 : decode cX0_takeBack 0 = .ok (.aload_n 1, 1) := by decide +kernel
theorem dX0_takeBack_1 : decode cX0_takeBack 1 = .ok (.aload_n 0, 1) := by decide +kernel
theorem dX0_takeBack_2 : decode cX0_takeBack 2 = .ok (.getfield 11, 3) := by decide +kernel
theorem dX0_takeBack_5 : decode cX0_takeBack 5 = .ok (.aload_n 0, 1) := by decide +kernel
theorem dX0_takeBack_6 : decode cX0_takeBack 6 = .ok (.getfield 20, 3) := by decide +kernel
theorem dX0_takeBack_9 : decode cX0_takeBack 9 = .ok (.aaload, 1) := by decide +kernel
theorem dX0_takeBack_10 : decode cX0_takeBack 10 = .ok (.invokevirtual 24, 3) := by decide +kernel
theorem dX0_takeBack_13 : decode cX0_takeBack 13 = .ok (.aload_n 0, 1) := by decide +kernel
theorem dX0_takeBack_14 : decode cX0_takeBack 14 = .ok (.aload_n 0, 1) := by decide +kernel
theorem dX0_takeBack_15 : decode cX0_takeBack 15 = .ok (.getfield 20, 3) := by decide +kernel
theorem dX0_takeBack_18 : decode cX0_takeBack 18 = .ok (.ifCond .le 12, 3) := by decide +kernel
theorem dX0_takeBack_21 : decode cX0_takeBack 21 = .ok (.aload_n 0, 1) := by decide +kernel
theorem dX0_takeBack_22 : decode cX0_takeBack 22 = .ok (.getfield 20, 3) := by decide +kernel
theorem dX0_takeBack_25 : decode cX0_takeBack 25 = .ok (.iconst 1, 1) := by decide +kernel
theorem dX0_takeBack_26 : decode cX0_takeBack 26 = .ok (.isub, 1) := by decide +kernel
theorem dX0_takeBack_27 : decode cX0_takeBack 27 = .ok (.goto 4, 3) := by decide +kernel
theorem dX0_takeBack_30 : decode cX0_takeBack 30 = .ok (.iconst 5, 1) := by decide +kernel
theorem dX0_takeBack_31 : decode cX0_takeBack 31 = .ok (.putfield 20, 3) := by decide +kernel
theorem dX0_takeBack_34 : decode cX0_takeBack 34 = .ok (.aload_n 0, 1) := by decide +kernel
theorem dX0_takeBack_35 : decode cX0_takeBack 35 = .ok (.dup, 1) := by decide +kernel
theorem dX0_takeBack_36 : decode cX0_takeBack 36 = .ok (.getfield 28, 3) := by decide +kernel
theorem dX0_takeBack_39 : decode cX0_takeBack 39 = .ok (.iconst 1, 1) := by decide +kernel
theorem dX0_takeBack_40 : decode cX0_takeBack 40 = .ok (.isub, 1) := by decide +kernel
theorem dX0_takeBack_41 : decode cX0_takeBack 41 = .ok (.putfield 28, 3) := by decide +kernel
theorem dX0_takeBack_44 : decode cX0_takeBack 44 = .ok (.return_, 1) := by decide +kernel
theorem dX1_init_0 : decode cX1_init 0 = .ok (.aload_n 0, 1) := by decide +kernel
theorem dX1_init_1 : decode cX1_init 1 = .ok (.invokespecial 3, 3) := by decide +kernel
theorem dX1_init_4 : decode cX1_init 4 = .ok (.aload_n 0, 1) := by decide +kernel
theorem dX1_init_5 : decode cX1_init 5 = .ok (.bipush 60, 2) := by decide +kernel
theorem dX1_init_7 : decode cX1_init 7 = .ok (.newarray .char, 2) := by decide +kernel
theorem dX1_init_9 : decode cX1_init 9 = .ok (.putfield 9, 3) := by decide +kernel
theorem dX1_init_12 : decode cX1_init 12 = .ok (.return_, 1) := by decide +kernel
theorem dX1_charactersIn_0 : decode cX1_charactersIn 0 = .ok (.lload_n 1, 1) := by decide +kernel
theorem dX1_charactersIn_1 : decode cX1_charactersIn 1 = .ok (.lstore_n 3, 1) := by decide +kernel
theorem dX1_charactersIn_2 : decode cX1_charactersIn 2 = .ok (.iconst 0, 1) := by decide +kernel
theorem dX1_charactersIn_3 : decode cX1_charactersIn 3 = .ok (.istore 5, 2) := by decide +kernel
theorem dX1_charactersIn_5 : decode cX1_charactersIn 5 = .ok (.iload 5, 2) := by decide +kernel
theorem dX1_charactersIn_7 : decode cX1_charactersIn 7 = .ok (.bipush 8, 2) := by decide +kernel
theorem dX1_charactersIn_9 : decode cX1_charactersIn 9 = .ok (.if_icmp .ge 47, 3) := by decide +kernel
theorem dX1_charactersIn_12 : decode cX1_charactersIn 12 = .ok (.lload_n 3, 1) := by decide +kernel
theorem dX1_charactersIn_13 : decode cX1_charactersIn 13 = .ok (.lconst 0, 1) := by decide +kernel
theorem dX1_charactersIn_14 : decode cX1_charactersIn 14 = .ok (.lcmp, 1) := by decide +kernel
theorem dX1_charactersIn_15 : decode cX1_charactersIn 15 = .ok (.ifCond .eq 41, 3) := by decide +kernel
theorem dX1_charactersIn_18 : decode cX1_charactersIn 18 = .ok (.lload_n 3, 1) := by decide +kernel
theorem dX1_charactersIn_19 : decode cX1_charactersIn 19 = .ok (.ldc2_w 15, 3) := by decide +kernel
theorem dX1_charactersIn_22 : decode cX1_charactersIn 22 = .ok (.land, 1) := by decide +kernel
theorem dX1_charactersIn_23 : decode cX1_charactersIn 23 = .ok (.lstore 6, 2) := by decide +kernel
theorem dX1_charactersIn_25 : decode cX1_charactersIn 25 = .ok (.lload 6, 2) := by decide +kernel
theorem dX1_charactersIn_27 : decode cX1_charactersIn 27 = .ok (.ldc2_w 17, 3) := by decide +kernel
theorem dX1_charactersIn_30 : decode cX1_charactersIn 30 = .ok (.lcmp, 1) := by decide +kernel
theorem dX1_charactersIn_31 : decode cX1_charactersIn 31 = .ok (.ifCond .lt 12, 3) := by decide +kernel
theorem dX1_charactersIn_34 : decode cX1_charactersIn 34 = .ok (.lload 6, 2) := by decide +kernel
theorem dX1_charactersIn_36 : decode cX1_charactersIn 36 = .ok (.ldc2_w 19, 3) := by decide +kernel
theorem dX1_charactersIn_39 : decode cX1_charactersIn 39 = .ok (.lcmp, 1) := by decide +kernel
theorem dX1_charactersIn_40 : decode cX1_charactersIn 40 = .ok (.ifCond .le 5, 3) := by decide +kernel
theorem dX1_charactersIn_43 : decode cX1_charactersIn 43 = .ok (.iconst 0, 1) := by decide +kernel
theorem dX1_charactersIn_44 : decode cX1_charactersIn 44 = .ok (.ireturn, 1) := by decide +kernel
theorem dX1_charactersIn_45 : decode cX1_charactersIn 45 = .ok (.lload_n 3, 1) := by decide +kernel
theorem dX1_charactersIn_46 : decode cX1_charactersIn 46 = .ok (.bipush 8, 2) := by decide +kernel
theorem dX1_charactersIn_48 : decode cX1_charactersIn 48 = .ok (.lushr, 1) := by decide +kernel
theorem dX1_charactersIn_49 : decode cX1_charactersIn 49 = .ok (.lstore_n 3, 1) := by decide +kernel
theorem dX1_charactersIn_50 : decode cX1_charactersIn 50 = .ok (.iinc 5 1, 3) := by decide +kernel
theorem dX1_charactersIn_53 : decode cX1_charactersIn 53 = .ok (.goto (-48), 3) := by decide +kernel
theorem dX1_charactersIn_56 : decode cX1_charactersIn 56 = .ok (.iload 5, 2) := by decide +kernel
theorem dX1_charactersIn_58 : decode cX1_charactersIn 58 = .ok (.ireturn, 1) := by decide +kernel
theorem dX1_append_0 : decode cX1_append 0 = .ok (.iload_n 3, 1) := by decide +kernel
theorem dX1_append_1 : decode cX1_append 1 = .ok (.iconst 1, 1) := by decide +kernel
theorem dX1_append_2 : decode cX1_append 2 = .ok (.isub, 1) := by decide +kernel
theorem dX1_append_3 : decode cX1_append 3 = .ok (.istore 4, 2) := by decide +kernel
theorem dX1_append_5 : decode cX1_append 5 = .ok (.iload 4, 2) := by decide +kernel
theorem dX1_append_7 : decode cX1_append 7 = .ok (.ifCond .lt 50, 3) := by decide +kernel
theorem dX1_append_10 : decode cX1_append 10 = .ok (.aload_n 0, 1) := by decide +kernel
theorem dX1_append_11 : decode cX1_append 11 = .ok (.getfield 21, 3) := by decide +kernel
theorem dX1_append_14 : decode cX1_append 14 = .ok (.bipush 60, 2) := by decide +kernel
theorem dX1_append_16 : decode cX1_append 16 = .ok (.if_icmp .ge 41, 3) := by decide +kernel
theorem dX1_append_19 : decode cX1_append 19 = .ok (.aload_n 0, 1) := by decide +kernel
theorem dX1_append_20 : decode cX1_append 20 = .ok (.getfield 9, 3) := by decide +kernel
theorem dX1_append_23 : decode cX1_append 23 = .ok (.aload_n 0, 1) := by decide +kernel
theorem dX1_append_24 : decode cX1_append 24 = .ok (.getfield 21, 3) := by decide +kernel
theorem dX1_append_27 : decode cX1_append 27 = .ok (.lload_n 1, 1) := by decide +kernel
theorem dX1_append_28 : decode cX1_append 28 = .ok (.bipush 8, 2) := by decide +kernel
theorem dX1_append_30 : decode cX1_append 30 = .ok (.iload 4, 2) := by decide +kernel
theorem dX1_append_32 : decode cX1_append 32 = .ok (.imul, 1) := by decide +kernel
theorem dX1_append_33 : decode cX1_append 33 = .ok (.lushr, 1) := by decide +kernel
theorem dX1_append_34 : decode cX1_append 34 = .ok (.ldc2_w 15, 3) := by decide +kernel
theorem dX1_append_37 : decode cX1_append 37 = .ok (.land, 1) := by decide +kernel
theorem dX1_append_38 : decode cX1_append 38 = .ok (.l2i, 1) := by decide +kernel
theorem dX1_append_39 : decode cX1_append 39 = .ok (.i2c, 1) := by decide +kernel
theorem dX1_append_40 : decode cX1_append 40 = .ok (.castore, 1) := by decide +kernel
theorem dX1_append_41 : decode cX1_append 41 = .ok (.aload_n 0, 1) := by decide +kernel
theorem dX1_append_42 : decode cX1_append 42 = .ok (.dup, 1) := by decide +kernel
theorem dX1_append_43 : decode cX1_append 43 = .ok (.getfield 21, 3) := by decide +kernel
theorem dX1_append_46 : decode cX1_append 46 = .ok (.iconst 1, 1) := by decide +kernel
theorem dX1_append_47 : decode cX1_append 47 = .ok (.iadd, 1) := by decide +kernel
theorem dX1_append_48 : decode cX1_append 48 = .ok (.putfield 21, 3) := by decide +kernel
theorem dX1_append_51 : decode cX1_append 51 = .ok (.iinc 4 (-1), 3) := by decide +kernel
theorem dX1_append_54 : decode cX1_append 54 = .ok (.goto (-49), 3) := by decide +kernel
theorem dX1_append_57 : decode cX1_append 57 = .ok (.return_, 1) := by decide +kernel
theorem dX1_findFault_0 : decode cX1_findFault 0 = .ok (.iconst 1, 1) := by decide +kernel
theorem dX1_findFault_1 : decode cX1_findFault 1 = .ok (.istore_n 1, 1) := by decide +kernel
theorem dX1_findFault_2 : decode cX1_findFault 2 = .ok (.iconst 0, 1) := by decide +kernel
theorem dX1_findFault_3 : decode cX1_findFault 3 = .ok (.istore_n 2, 1) := by decide +kernel
theorem dX1_findFault_4 : decode cX1_findFault 4 = .ok (.iconst 0, 1) := by decide +kernel
theorem dX1_findFault_5 : decode cX1_findFault 5 = .ok (.istore_n 3, 1) := by decide +kernel
theorem dX1_findFault_6 : decode cX1_findFault 6 = .ok (.iload_n 3, 1) := by decide +kernel
theorem dX1_findFault_7 : decode cX1_findFault 7 = .ok (.aload_n 0, 1) := by decide +kernel
theorem dX1_findFault_8 : decode cX1_findFault 8 = .ok (.getfield 21, 3) := by decide +kernel
theorem dX1_findFault_11 : decode cX1_findFault 11 = .ok (.if_icmp .ge 94, 3) := by decide +kernel
theorem dX1_findFault_14 : decode cX1_findFault 14 = .ok (.iload_n 3, 1) := by decide +kernel
theorem dX1_findFault_15 : decode cX1_findFault 15 = .ok (.bipush 60, 2) := by decide +kernel
theorem dX1_findFault_17 : decode cX1_findFault 17 = .ok (.if_icmp .ge 88, 3) := by decide +kernel
theorem dX1_findFault_20 : decode cX1_findFault 20 = .ok (.aload_n 0, 1) := by decide +kernel
theorem dX1_findFault_21 : decode cX1_findFault 21 = .ok (.getfield 9, 3) := by decide +kernel
theorem dX1_findFault_24 : decode cX1_findFault 24 = .ok (.iload_n 3, 1) := by decide +kernel
theorem dX1_findFault_25 : decode cX1_findFault 25 = .ok (.caload, 1) := by decide +kernel
theorem dX1_findFault_26 : decode cX1_findFault 26 = .ok (.istore 4, 2) := by decide +kernel
theorem dX1_findFault_28 : decode cX1_findFault 28 = .ok (.iload_n 1, 1) := by decide +kernel
theorem dX1_findFault_29 : decode cX1_findFault 29 = .ok (.ifCond .eq 15, 3) := by decide +kernel
theorem dX1_findFault_32 : decode cX1_findFault 32 = .ok (.aload_n 0, 1) := by decide +kernel
theorem dX1_findFault_33 : decode cX1_findFault 33 = .ok (.iload 4, 2) := by decide +kernel
theorem dX1_findFault_35 : decode cX1_findFault 35 = .ok (.invokevirtual 25, 3) := by decide +kernel
theorem dX1_findFault_38 : decode cX1_findFault 38 = .ok (.ifCond .ne 18, 3) := by decide +kernel
theorem dX1_findFault_41 : decode cX1_findFault 41 = .ok (.goto 13, 3) := by decide +kernel
theorem dX1_findFault_44 : decode cX1_findFault 44 = .ok (.aload_n 0, 1) := by decide +kernel
theorem dX1_findFault_45 : decode cX1_findFault 45 = .ok (.iload 4, 2) := by decide +kernel
theorem dX1_findFault_47 : decode cX1_findFault 47 = .ok (.iload_n 2, 1) := by decide +kernel
theorem dX1_findFault_48 : decode cX1_findFault 48 = .ok (.invokevirtual 29, 3) := by decide +kernel
theorem dX1_findFault_51 : decode cX1_findFault 51 = .ok (.ifCond .ne 5, 3) := by decide +kernel
theorem dX1_findFault_54 : decode cX1_findFault 54 = .ok (.iload_n 3, 1) := by decide +kernel
theorem dX1_findFault_55 : decode cX1_findFault 55 = .ok (.ireturn, 1) := by decide +kernel
theorem dX1_findFault_56 : decode cX1_findFault 56 = .ok (.iload 4, 2) := by decide +kernel
theorem dX1_findFault_58 : decode cX1_findFault 58 = .ok (.bipush 40, 2) := by decide +kernel
theorem dX1_findFault_60 : decode cX1_findFault 60 = .ok (.if_icmp .ne 9, 3) := by decide +kernel
theorem dX1_findFault_63 : decode cX1_findFault 63 = .ok (.iinc 2 1, 3) := by decide +kernel
theorem dX1_findFault_66 : decode cX1_findFault 66 = .ok (.goto 33, 3) := by decide +kernel
theorem dX1_findFault_69 : decode cX1_findFault 69 = .ok (.iload 4, 2) := by decide +kernel
theorem dX1_findFault_71 : decode cX1_findFault 71 = .ok (.bipush 41, 2) := by decide +kernel
theorem dX1_findFault_73 : decode cX1_findFault 73 = .ok (.if_icmp .ne 9, 3) := by decide +kernel
theorem dX1_findFault_76 : decode cX1_findFault 76 = .ok (.iinc 2 (-1), 3) := by decide +kernel
theorem dX1_findFault_79 : decode cX1_findFault 79 = .ok (.goto 20, 3) := by decide +kernel
theorem dX1_findFault_82 : decode cX1_findFault 82 = .ok (.iload 4, 2) := by decide +kernel
theorem dX1_findFault_84 : decode cX1_findFault 84 = .ok (.bipush 33, 2) := by decide +kernel
theorem dX1_findFault_86 : decode cX1_findFault 86 = .ok (.if_icmp .eq 13, 3) := by decide +kernel
theorem dX1_findFault_89 : decode cX1_findFault 89 = .ok (.iload_n 1, 1) := by decide +kernel
theorem dX1_findFault_90 : decode cX1_findFault 90 = .ok (.ifCond .ne 7, 3) := by decide +kernel
theorem dX1_findFault_93 : decode cX1_findFault 93 = .ok (.iconst 1, 1) := by decide +kernel
theorem dX1_findFault_94 : decode cX1_findFault 94 = .ok (.goto 4, 3) := by decide +kernel
theorem dX1_findFault_97 : decode cX1_findFault 97 = .ok (.iconst 0, 1) := by decide +kernel
theorem dX1_findFault_98 : decode cX1_findFault 98 = .ok (.istore_n 1, 1) := by decide +kernel
theorem dX1_findFault_99 : decode cX1_findFault 99 = .ok (.iinc 3 1, 3) := by decide +kernel
theorem dX1_findFault_102 : decode cX1_findFault 102 = .ok (.goto (-96), 3) := by decide +kernel
theorem dX1_findFault_105 : decode cX1_findFault 105 = .ok (.iload_n 1, 1) := by decide +kernel
theorem dX1_findFault_106 : decode cX1_findFault 106 = .ok (.ifCond .ne 7, 3) := by decide +kernel
theorem dX1_findFault_109 : decode cX1_findFault 109 = .ok (.iload_n 2, 1) := by decide +kernel
theorem dX1_findFault_110 : decode cX1_findFault 110 = .ok (.ifCond .le 10, 3) := by decide +kernel
theorem dX1_findFault_113 : decode cX1_findFault 113 = .ok (.aload_n 0, 1) := by decide +kernel
theorem dX1_findFault_114 : decode cX1_findFault 114 = .ok (.getfield 21, 3) := by decide +kernel
theorem dX1_findFault_117 : decode cX1_findFault 117 = .ok (.goto 5, 3) := by decide +kernel
theorem dX1_findFault_120 : decode cX1_findFault 120 = .ok (.bipush (-6), 2) := by decide +kernel
theorem dX1_findFault_122 : decode cX1_findFault 122 = .ok (.ireturn, 1) := by decide +kernel
theorem dX1_beginsPart_0 : decode cX1_beginsPart 0 = .ok (.iload_n 1, 1) := by decide +kernel
theorem dX1_beginsPart_1 : decode cX1_beginsPart 1 = .ok (.bipush 40, 2) := by decide +kernel
theorem dX1_beginsPart_3 : decode cX1_beginsPart 3 = .ok (.if_icmp .eq 17, 3) := by decide +kernel
theorem dX1_beginsPart_6 : decode cX1_beginsPart 6 = .ok (.iload_n 1, 1) := by decide +kernel
theorem dX1_beginsPart_7 : decode cX1_beginsPart 7 = .ok (.bipush 33, 2) := by decide +kernel
theorem dX1_beginsPart_9 : decode cX1_beginsPart 9 = .ok (.if_icmp .eq 11, 3) := by decide +kernel
theorem dX1_beginsPart_12 : decode cX1_beginsPart 12 = .ok (.aload_n 0, 1) := by decide +kernel
theorem dX1_beginsPart_13 : decode cX1_beginsPart 13 = .ok (.iload_n 1, 1) := by decide +kernel
theorem dX1_beginsPart_14 : decode cX1_beginsPart 14 = .ok (.invokevirtual 33, 3) := by decide +kernel
theorem dX1_beginsPart_17 : decode cX1_beginsPart 17 = .ok (.ifCond .eq 7, 3) := by decide +kernel
theorem dX1_beginsPart_20 : decode cX1_beginsPart 20 = .ok (.iconst 1, 1) := by decide +kernel
theorem dX1_beginsPart_21 : decode cX1_beginsPart 21 = .ok (.goto 4, 3) := by decide +kernel
theorem dX1_beginsPart_24 : decode cX1_beginsPart 24 = .ok (.iconst 0, 1) := by decide +kernel
theorem dX1_beginsPart_25 : decode cX1_beginsPart 25 = .ok (.ireturn, 1) := by decide +kernel
theorem dX1_followsPart_0 : decode cX1_followsPart 0 = .ok (.iload_n 1, 1) := by decide +kernel
theorem dX1_followsPart_1 : decode cX1_followsPart 1 = .ok (.bipush 38, 2) := by decide +kernel
theorem dX1_followsPart_3 : decode cX1_followsPart 3 = .ok (.if_icmp .eq 19, 3) := by decide +kernel
theorem dX1_followsPart_6 : decode cX1_followsPart 6 = .ok (.iload_n 1, 1) := by decide +kernel
theorem dX1_followsPart_7 : decode cX1_followsPart 7 = .ok (.bipush 124, 2) := by decide +kernel
theorem dX1_followsPart_9 : decode cX1_followsPart 9 = .ok (.if_icmp .eq 13, 3) := by decide +kernel
theorem dX1_followsPart_12 : decode cX1_followsPart 12 = .ok (.iload_n 1, 1) := by decide +kernel
theorem dX1_followsPart_13 : decode cX1_followsPart 13 = .ok (.bipush 41, 2) := by decide +kernel
theorem dX1_followsPart_15 : decode cX1_followsPart 15 = .ok (.if_icmp .ne 11, 3) := by decide +kernel
theorem dX1_followsPart_18 : decode cX1_followsPart 18 = .ok (.iload_n 2, 1) := by decide +kernel
theorem dX1_followsPart_19 : decode cX1_followsPart 19 = .ok (.ifCond .le 7, 3) := by decide +kernel
theorem dX1_followsPart_22 : decode cX1_followsPart 22 = .ok (.iconst 1, 1) := by decide +kernel
theorem dX1_followsPart_23 : decode cX1_followsPart 23 = .ok (.goto 4, 3) := by decide +kernel
theorem dX1_followsPart_26 : decode cX1_followsPart 26 = .ok (.iconst 0, 1) := by decide +kernel
theorem dX1_followsPart_27 : decode cX1_followsPart 27 = .ok (.ireturn, 1) := by decide +kernel
theorem dX1_isLetter_0 : decode cX1_isLetter 0 = .ok (.iload_n 1, 1) := by decide +kernel
theorem dX1_isLetter_1 : decode cX1_isLetter 1 = .ok (.bipush 97, 2) := by decide +kernel
theorem dX1_isLetter_3 : decode cX1_isLetter 3 = .ok (.if_icmp .lt 9, 3) := by decide +kernel
theorem dX1_isLetter_6 : decode cX1_isLetter 6 = .ok (.iload_n 1, 1) := by decide +kernel
theorem dX1_isLetter_7 : decode cX1_isLetter 7 = .ok (.bipush 100, 2) := by decide +kernel
theorem dX1_isLetter_9 : decode cX1_isLetter 9 = .ok (.if_icmp .le 15, 3) := by decide +kernel
theorem dX1_isLetter_12 : decode cX1_isLetter 12 = .ok (.iload_n 1, 1) := by decide +kernel
theorem dX1_isLetter_13 : decode cX1_isLetter 13 = .ok (.bipush 65, 2) := by decide +kernel
theorem dX1_isLetter_15 : decode cX1_isLetter 15 = .ok (.if_icmp .lt 13, 3) := by decide +kernel
theorem dX1_isLetter_18 : decode cX1_isLetter 18 = .ok (.iload_n 1, 1) := by decide +kernel
theorem dX1_isLetter_19 : decode cX1_isLetter 19 = .ok (.bipush 68, 2) := by decide +kernel
theorem dX1_isLetter_21 : decode cX1_isLetter 21 = .ok (.if_icmp .gt 7, 3) := by decide +kernel
theorem dX1_isLetter_24 : decode cX1_isLetter 24 = .ok (.iconst 1, 1) := by decide +kernel
theorem dX1_isLetter_25 : decode cX1_isLetter 25 = .ok (.goto 4, 3) := by decide +kernel
theorem dX1_isLetter_28 : decode cX1_isLetter 28 = .ok (.iconst 0, 1) := by decide +kernel
theorem dX1_isLetter_29 : decode cX1_isLetter 29 = .ok (.ireturn, 1) := by decide +kernel
theorem dX2_init_0 : decode cX2_init 0 = .ok (.aload_n 0, 1) := by decide +kernel
theorem dX2_init_1 : decode cX2_init 1 = .ok (.invokespecial 3, 3) := by decide +kernel
theorem dX2_init_4 : decode cX2_init 4 = .ok (.aload_n 0, 1) := by decide +kernel
theorem dX2_init_5 : decode cX2_init 5 = .ok (.bipush 60, 2) := by decide +kernel
theorem dX2_init_7 : decode cX2_init 7 = .ok (.newarray .char, 2) := by decide +kernel
theorem dX2_init_9 : decode cX2_init 9 = .ok (.putfield 9, 3) := by decide +kernel
theorem dX2_init_12 : decode cX2_init 12 = .ok (.aload_n 0, 1) := by decide +kernel
theorem dX2_init_13 : decode cX2_init 13 = .ok (.bipush 60, 2) := by decide +kernel
theorem dX2_init_15 : decode cX2_init 15 = .ok (.newarray .int, 2) := by decide +kernel
theorem dX2_init_17 : decode cX2_init 17 = .ok (.putfield 15, 3) := by decide +kernel
theorem dX2_init_20 : decode cX2_init 20 = .ok (.return_, 1) := by decide +kernel
theorem dX2_read_0 : decode cX2_read 0 = .ok (.new 19, 3) := by decide +kernel
theorem dX2_read_3 : decode cX2_read 3 = .ok (.dup, 1) := by decide +kernel
theorem dX2_read_4 : decode cX2_read 4 = .ok (.invokespecial 21, 3) := by decide +kernel
theorem dX2_read_7 : decode cX2_read 7 = .ok (.astore_n 3, 1) := by decide +kernel
theorem dX2_read_8 : decode cX2_read 8 = .ok (.aload_n 0, 1) := by decide +kernel
theorem dX2_read_9 : decode cX2_read 9 = .ok (.iconst 0, 1) := by decide +kernel
theorem dX2_read_10 : decode cX2_read 10 = .ok (.putfield 22, 3) := by decide +kernel
theorem dX2_read_13 : decode cX2_read 13 = .ok (.aload_n 0, 1) := by decide +kernel
theorem dX2_read_14 : decode cX2_read 14 = .ok (.iconst 0, 1) := by decide +kernel
theorem dX2_read_15 : decode cX2_read 15 = .ok (.putfield 26, 3) := by decide +kernel
theorem dX2_read_18 : decode cX2_read 18 = .ok (.iconst 0, 1) := by decide +kernel
theorem dX2_read_19 : decode cX2_read 19 = .ok (.istore 4, 2) := by decide +kernel
theorem dX2_read_21 : decode cX2_read 21 = .ok (.iload 4, 2) := by decide +kernel
theorem dX2_read_23 : decode cX2_read 23 = .ok (.iload_n 2, 1) := by decide +kernel
theorem dX2_read_24 : decode cX2_read 24 = .ok (.if_icmp .ge 25, 3) := by decide +kernel
theorem dX2_read_27 : decode cX2_read 27 = .ok (.iload 4, 2) := by decide +kernel
theorem dX2_read_29 : decode cX2_read 29 = .ok (.aload_n 1, 1) := by decide +kernel
theorem dX2_read_30 : decode cX2_read 30 = .ok (.arraylength, 1) := by decide +kernel
theorem dX2_read_31 : decode cX2_read 31 = .ok (.if_icmp .ge 18, 3) := by decide +kernel
theorem dX2_read_34 : decode cX2_read 34 = .ok (.aload_n 0, 1) := by decide +kernel
theorem dX2_read_35 : decode cX2_read 35 = .ok (.aload_n 1, 1) := by decide +kernel
theorem dX2_read_36 : decode cX2_read 36 = .ok (.iload 4, 2) := by decide +kernel
theorem dX2_read_38 : decode cX2_read 38 = .ok (.caload, 1) := by decide +kernel
theorem dX2_read_39 : decode cX2_read 39 = .ok (.aload_n 3, 1) := by decide +kernel
theorem dX2_read_40 : decode cX2_read 40 = .ok (.invokevirtual 29, 3) := by decide +kernel
theorem dX2_read_43 : decode cX2_read 43 = .ok (.iinc 4 1, 3) := by decide +kernel
theorem dX2_read_46 : decode cX2_read 46 = .ok (.goto (-25), 3) := by decide +kernel
theorem dX2_read_49 : decode cX2_read 49 = .ok (.aload_n 0, 1) := by decide +kernel
theorem dX2_read_50 : decode cX2_read 50 = .ok (.iconst 1, 1) := by decide +kernel
theorem dX2_read_51 : decode cX2_read 51 = .ok (.aload_n 3, 1) := by decide +kernel
theorem dX2_read_52 : decode cX2_read 52 = .ok (.invokevirtual 33, 3) := by decide +kernel
theorem dX2_read_55 : decode cX2_read 55 = .ok (.aload_n 3, 1) := by decide +kernel
theorem dX2_read_56 : decode cX2_read 56 = .ok (.areturn, 1) := by decide +kernel
theorem dX2_take_0 : decode cX2_take 0 = .ok (.iload_n 1, 1) := by decide +kernel
theorem dX2_take_1 : decode cX2_take 1 = .ok (.lookupswitch 100 #[(33, 51), (38, 82), (40, 51), (41, 59), (124, 82)], 51) := by decide +kernel
theorem dX2_take_52 : decode cX2_take 52 = .ok (.aload_n 0, 1) := by decide +kernel
theorem dX2_take_53 : decode cX2_take 53 = .ok (.iload_n 1, 1) := by decide +kernel
theorem dX2_take_54 : decode cX2_take 54 = .ok (.invokevirtual 37, 3) := by decide +kernel
theorem dX2_take_57 : decode cX2_take 57 = .ok (.goto 53, 3) := by decide +kernel
theorem dX2_take_60 : decode cX2_take 60 = .ok (.aload_n 0, 1) := by decide +kernel
theorem dX2_take_61 : decode cX2_take 61 = .ok (.iconst 1, 1) := by decide +kernel
theorem dX2_take_62 : decode cX2_take 62 = .ok (.aload_n 2, 1) := by decide +kernel
theorem dX2_take_63 : decode cX2_take 63 = .ok (.invokevirtual 33, 3) := by decide +kernel
theorem dX2_take_66 : decode cX2_take 66 = .ok (.aload_n 0, 1) := by decide +kernel
theorem dX2_take_67 : decode cX2_take 67 = .ok (.iconst 0, 1) := by decide +kernel
theorem dX2_take_68 : decode cX2_take 68 = .ok (.aload_n 0, 1) := by decide +kernel
theorem dX2_take_69 : decode cX2_take 69 = .ok (.getfield 22, 3) := by decide +kernel
theorem dX2_take_72 : decode cX2_take 72 = .ok (.iconst 1, 1) := by decide +kernel
theorem dX2_take_73 : decode cX2_take 73 = .ok (.isub, 1) := by decide +kernel
theorem dX2_take_74 : decode cX2_take 74 = .ok (.invokestatic 41, 3) := by decide +kernel
theorem dX2_take_77 : decode cX2_take 77 = .ok (.putfield 22, 3) := by decide +kernel
theorem dX2_take_80 : decode cX2_take 80 = .ok (.goto 30, 3) := by decide +kernel
theorem dX2_take_83 : decode cX2_take 83 = .ok (.aload_n 0, 1) := by decide +kernel
theorem dX2_take_84 : decode cX2_take 84 = .ok (.aload_n 0, 1) := by decide +kernel
theorem dX2_take_85 : decode cX2_take 85 = .ok (.iload_n 1, 1) := by decide +kernel
theorem dX2_take_86 : decode cX2_take 86 = .ok (.invokevirtual 47, 3) := by decide +kernel
theorem dX2_take_89 : decode cX2_take 89 = .ok (.aload_n 2, 1) := by decide +kernel
theorem dX2_take_90 : decode cX2_take 90 = .ok (.invokevirtual 33, 3) := by decide +kernel
theorem dX2_take_93 : decode cX2_take 93 = .ok (.aload_n 0, 1) := by decide +kernel
theorem dX2_take_94 : decode cX2_take 94 = .ok (.iload_n 1, 1) := by decide +kernel
theorem dX2_take_95 : decode cX2_take 95 = .ok (.invokevirtual 37, 3) := by decide +kernel
theorem dX2_take_98 : decode cX2_take 98 = .ok (.goto 12, 3) := by decide +kernel
theorem dX2_take_101 : decode cX2_take 101 = .ok (.aload_n 0, 1) := by decide +kernel
theorem dX2_take_102 : decode cX2_take 102 = .ok (.aload_n 2, 1) := by decide +kernel
theorem dX2_take_103 : decode cX2_take 103 = .ok (.iload_n 1, 1) := by decide +kernel
theorem dX2_take_104 : decode cX2_take 104 = .ok (.invokevirtual 51, 3) := by decide +kernel
theorem dX2_take_107 : decode cX2_take 107 = .ok (.invokevirtual 54, 3) := by decide +kernel
theorem dX2_take_110 : decode cX2_take 110 = .ok (.return_, 1) := by decide +kernel
theorem dX2_strength_0 : decode cX2_strength 0 = .ok (.iload_n 1, 1) := by decide +kernel
theorem dX2_strength_1 : decode cX2_strength 1 = .ok (.lookupswitch 41 #[(33, 35), (38, 37), (124, 39)], 35) := by decide +kernel
theorem dX2_strength_36 : decode cX2_strength 36 = .ok (.iconst 3, 1) := by decide +kernel
theorem dX2_strength_37 : decode cX2_strength 37 = .ok (.ireturn, 1) := by decide +kernel
theorem dX2_strength_38 : decode cX2_strength 38 = .ok (.iconst 2, 1) := by decide +kernel
theorem dX2_strength_39 : decode cX2_strength 39 = .ok (.ireturn, 1) := by decide +kernel
theorem dX2_strength_40 : decode cX2_strength 40 = .ok (.iconst 1, 1) := by decide +kernel
theorem dX2_strength_41 : decode cX2_strength 41 = .ok (.ireturn, 1) := by decide +kernel
theorem dX2_strength_42 : decode cX2_strength 42 = .ok (.iconst 0, 1) := by decide +kernel
theorem dX2_strength_43 : decode cX2_strength 43 = .ok (.ireturn, 1) := by decide +kernel
theorem dX2_joinWaiting_0 : decode cX2_joinWaiting 0 = .ok (.aload_n 0, 1) := by decide +kernel
theorem dX2_joinWaiting_1 : decode cX2_joinWaiting 1 = .ok (.getfield 22, 3) := by decide +kernel
theorem dX2_joinWaiting_4 : decode cX2_joinWaiting 4 = .ok (.ifCond .le 51, 3) := by decide +kernel
theorem dX2_joinWaiting_7 : decode cX2_joinWaiting 7 = .ok (.aload_n 0, 1) := by decide +kernel
theorem dX2_joinWaiting_8 : decode cX2_joinWaiting 8 = .ok (.aload_n 0, 1) := by decide +kernel
theorem dX2_joinWaiting_9 : decode cX2_joinWaiting 9 = .ok (.getfield 9, 3) := by decide +kernel
theorem dX2_joinWaiting_12 : decode cX2_joinWaiting 12 = .ok (.aload_n 0, 1) := by decide +kernel
theorem dX2_joinWaiting_13 : decode cX2_joinWaiting 13 = .ok (.getfield 22, 3) := by decide +kernel
theorem dX2_joinWaiting_16 : decode cX2_joinWaiting 16 = .ok (.iconst 1, 1) := by decide +kernel
theorem dX2_joinWaiting_17 : decode cX2_joinWaiting 17 = .ok (.isub, 1) := by decide +kernel
theorem dX2_joinWaiting_18 : decode cX2_joinWaiting 18 = .ok (.caload, 1) := by decide +kernel
theorem dX2_joinWaiting_19 : decode cX2_joinWaiting 19 = .ok (.invokevirtual 47, 3) := by decide +kernel
theorem dX2_joinWaiting_22 : decode cX2_joinWaiting 22 = .ok (.iload_n 1, 1) := by decide +kernel
theorem dX2_joinWaiting_23 : decode cX2_joinWaiting 23 = .ok (.if_icmp .lt 32, 3) := by decide +kernel
theorem dX2_joinWaiting_26 : decode cX2_joinWaiting 26 = .ok (.aload_n 0, 1) := by decide +kernel
theorem dX2_joinWaiting_27 : decode cX2_joinWaiting 27 = .ok (.aload_n 0, 1) := by decide +kernel
theorem dX2_joinWaiting_28 : decode cX2_joinWaiting 28 = .ok (.getfield 9, 3) := by decide +kernel
theorem dX2_joinWaiting_31 : decode cX2_joinWaiting 31 = .ok (.aload_n 0, 1) := by decide +kernel
theorem dX2_joinWaiting_32 : decode cX2_joinWaiting 32 = .ok (.getfield 22, 3) := by decide +kernel
theorem dX2_joinWaiting_35 : decode cX2_joinWaiting 35 = .ok (.iconst 1, 1) := by decide +kernel
theorem dX2_joinWaiting_36 : decode cX2_joinWaiting 36 = .ok (.isub, 1) := by decide +kernel
theorem dX2_joinWaiting_37 : decode cX2_joinWaiting 37 = .ok (.caload, 1) := by decide +kernel
theorem dX2_joinWaiting_38 : decode cX2_joinWaiting 38 = .ok (.aload_n 2, 1) := by decide +kernel
theorem dX2_joinWaiting_39 : decode cX2_joinWaiting 39 = .ok (.invokevirtual 58, 3) := by decide +kernel
theorem dX2_joinWaiting_42 : decode cX2_joinWaiting 42 = .ok (.aload_n 0, 1) := by decide +kernel
theorem dX2_joinWaiting_43 : decode cX2_joinWaiting 43 = .ok (.dup, 1) := by decide +kernel
theorem dX2_joinWaiting_44 : decode cX2_joinWaiting 44 = .ok (.getfield 22, 3) := by decide +kernel
theorem dX2_joinWaiting_47 : decode cX2_joinWaiting 47 = .ok (.iconst 1, 1) := by decide +kernel
theorem dX2_joinWaiting_48 : decode cX2_joinWaiting 48 = .ok (.isub, 1) := by decide +kernel
theorem dX2_joinWaiting_49 : decode cX2_joinWaiting 49 = .ok (.putfield 22, 3) := by decide +kernel
theorem dX2_joinWaiting_52 : decode cX2_joinWaiting 52 = .ok (.goto (-52), 3) := by decide +kernel
theorem dX2_joinWaiting_55 : decode cX2_joinWaiting 55 = .ok (.return_, 1) := by decide +kernel
theorem dX2_joinFree_0 : decode cX2_joinFree 0 = .ok (.aload_n 0, 1) := by decide +kernel
theorem dX2_joinFree_1 : decode cX2_joinFree 1 = .ok (.invokevirtual 61, 3) := by decide +kernel
theorem dX2_joinFree_4 : decode cX2_joinFree 4 = .ok (.istore_n 3, 1) := by decide +kernel
theorem dX2_joinFree_5 : decode cX2_joinFree 5 = .ok (.iload_n 1, 1) := by decide +kernel
theorem dX2_joinFree_6 : decode cX2_joinFree 6 = .ok (.bipush 33, 2) := by decide +kernel
theorem dX2_joinFree_8 : decode cX2_joinFree 8 = .ok (.if_icmp .ne 7, 3) := by decide +kernel
theorem dX2_joinFree_11 : decode cX2_joinFree 11 = .ok (.iload_n 3, 1) := by decide +kernel
theorem dX2_joinFree_12 : decode cX2_joinFree 12 = .ok (.goto 7, 3) := by decide +kernel
theorem dX2_joinFree_15 : decode cX2_joinFree 15 = .ok (.aload_n 0, 1) := by decide +kernel
theorem dX2_joinFree_16 : decode cX2_joinFree 16 = .ok (.invokevirtual 61, 3) := by decide +kernel
theorem dX2_joinFree_19 : decode cX2_joinFree 19 = .ok (.istore 4, 2) := by decide +kernel
theorem dX2_joinFree_21 : decode cX2_joinFree 21 = .ok (.aload_n 0, 1) := by decide +kernel
theorem dX2_joinFree_22 : decode cX2_joinFree 22 = .ok (.aload_n 2, 1) := by decide +kernel
theorem dX2_joinFree_23 : decode cX2_joinFree 23 = .ok (.iload_n 1, 1) := by decide +kernel
theorem dX2_joinFree_24 : decode cX2_joinFree 24 = .ok (.iload 4, 2) := by decide +kernel
theorem dX2_joinFree_26 : decode cX2_joinFree 26 = .ok (.iload_n 3, 1) := by decide +kernel
theorem dX2_joinFree_27 : decode cX2_joinFree 27 = .ok (.invokevirtual 65, 3) := by decide +kernel
theorem dX2_joinFree_30 : decode cX2_joinFree 30 = .ok (.invokevirtual 54, 3) := by decide +kernel
theorem dX2_joinFree_33 : decode cX2_joinFree 33 = .ok (.return_, 1) := by decide +kernel
theorem dX2_keepWaiting_0 : decode cX2_keepWaiting 0 = .ok (.aload_n 0, 1) := by decide +kernel
theorem dX2_keepWaiting_1 : decode cX2_keepWaiting 1 = .ok (.getfield 22, 3) := by decide +kernel
theorem dX2_keepWaiting_4 : decode cX2_keepWaiting 4 = .ok (.bipush 60, 2) := by decide +kernel
theorem dX2_keepWaiting_6 : decode cX2_keepWaiting 6 = .ok (.if_icmp .ge 23, 3) := by decide +kernel
theorem dX2_keepWaiting_9 : decode cX2_keepWaiting 9 = .ok (.aload_n 0, 1) := by decide +kernel
theorem dX2_keepWaiting_10 : decode cX2_keepWaiting 10 = .ok (.getfield 9, 3) := by decide +kernel
theorem dX2_keepWaiting_13 : decode cX2_keepWaiting 13 = .ok (.aload_n 0, 1) := by decide +kernel
theorem dX2_keepWaiting_14 : decode cX2_keepWaiting 14 = .ok (.getfield 22, 3) := by decide +kernel
theorem dX2_keepWaiting_17 : decode cX2_keepWaiting 17 = .ok (.iload_n 1, 1) := by decide +kernel
theorem dX2_keepWaiting_18 : decode cX2_keepWaiting 18 = .ok (.castore, 1) := by decide +kernel
theorem dX2_keepWaiting_19 : decode cX2_keepWaiting 19 = .ok (.aload_n 0, 1) := by decide +kernel
theorem dX2_keepWaiting_20 : decode cX2_keepWaiting 20 = .ok (.dup, 1) := by decide +kernel
theorem dX2_keepWaiting_21 : decode cX2_keepWaiting 21 = .ok (.getfield 22, 3) := by decide +kernel
theorem dX2_keepWaiting_24 : decode cX2_keepWaiting 24 = .ok (.iconst 1, 1) := by decide +kernel
theorem dX2_keepWaiting_25 : decode cX2_keepWaiting 25 = .ok (.iadd, 1) := by decide +kernel
theorem dX2_keepWaiting_26 : decode cX2_keepWaiting 26 = .ok (.putfield 22, 3) := by decide +kernel
theorem dX2_keepWaiting_29 : decode cX2_keepWaiting 29 = .ok (.return_, 1) := by decide +kernel
theorem dX2_keepFree_0 : decode cX2_keepFree 0 = .ok (.aload_n 0, 1) := by decide +kernel
theorem dX2_keepFree_1 : decode cX2_keepFree 1 = .ok (.getfield 26, 3) := by decide +kernel
theorem dX2_keepFree_4 : decode cX2_keepFree 4 = .ok (.bipush 60, 2) := by decide +kernel
theorem dX2_keepFree_6 : decode cX2_keepFree 6 = .ok (.if_icmp .ge 23, 3) := by decide +kernel
theorem dX2_keepFree_9 : decode cX2_keepFree 9 = .ok (.aload_n 0, 1) := by decide +kernel
theorem dX2_keepFree_10 : decode cX2_keepFree 10 = .ok (.getfield 15, 3) := by decide +kernel
theorem dX2_keepFree_13 : decode cX2_keepFree 13 = .ok (.aload_n 0, 1) := by decide +kernel
theorem dX2_keepFree_14 : decode cX2_keepFree 14 = .ok (.getfield 26, 3) := by decide +kernel
theorem dX2_keepFree_17 : decode cX2_keepFree 17 = .ok (.iload_n 1, 1) := by decide +kernel
theorem dX2_keepFree_18 : decode cX2_keepFree 18 = .ok (.iastore, 1) := by decide +kernel
theorem dX2_keepFree_19 : decode cX2_keepFree 19 = .ok (.aload_n 0, 1) := by decide +kernel
theorem dX2_keepFree_20 : decode cX2_keepFree 20 = .ok (.dup, 1) := by decide +kernel
theorem dX2_keepFree_21 : decode cX2_keepFree 21 = .ok (.getfield 26, 3) := by decide +kernel
theorem dX2_keepFree_24 : decode cX2_keepFree 24 = .ok (.iconst 1, 1) := by decide +kernel
theorem dX2_keepFree_25 : decode cX2_keepFree 25 = .ok (.iadd, 1) := by decide +kernel
theorem dX2_keepFree_26 : decode cX2_keepFree 26 = .ok (.putfield 26, 3) := by decide +kernel
theorem dX2_keepFree_29 : decode cX2_keepFree 29 = .ok (.return_, 1) := by decide +kernel
theorem dX2_takeFree_0 : decode cX2_takeFree 0 = .ok (.aload_n 0, 1) := by decide +kernel
theorem dX2_takeFree_1 : decode cX2_takeFree 1 = .ok (.getfield 26, 3) := by decide +kernel
theorem dX2_takeFree_4 : decode cX2_takeFree 4 = .ok (.ifCond .ne 5, 3) := by decide +kernel
theorem dX2_takeFree_7 : decode cX2_takeFree 7 = .ok (.iconst 0, 1) := by decide +kernel
theorem dX2_takeFree_8 : decode cX2_takeFree 8 = .ok (.ireturn, 1) := by decide +kernel
theorem dX2_takeFree_9 : decode cX2_takeFree 9 = .ok (.aload_n 0, 1) := by decide +kernel
theorem dX2_takeFree_10 : decode cX2_takeFree 10 = .ok (.dup, 1) := by decide +kernel
theorem dX2_takeFree_11 : decode cX2_takeFree 11 = .ok (.getfield 26, 3) := by decide +kernel
theorem dX2_takeFree_14 : decode cX2_takeFree 14 = .ok (.iconst 1, 1) := by decide +kernel
theorem dX2_takeFree_15 : decode cX2_takeFree 15 = .ok (.isub, 1) := by decide +kernel
theorem dX2_takeFree_16 : decode cX2_takeFree 16 = .ok (.putfield 26, 3) := by decide +kernel
theorem dX2_takeFree_19 : decode cX2_takeFree 19 = .ok (.aload_n 0, 1) := by decide +kernel
theorem dX2_takeFree_20 : decode cX2_takeFree 20 = .ok (.getfield 15, 3) := by decide +kernel
theorem dX2_takeFree_23 : decode cX2_takeFree 23 = .ok (.aload_n 0, 1) := by decide +kernel
theorem dX2_takeFree_24 : decode cX2_takeFree 24 = .ok (.getfield 26, 3) := by decide +kernel
theorem dX2_takeFree_27 : decode cX2_takeFree 27 = .ok (.iaload, 1) := by decide +kernel
theorem dX2_takeFree_28 : decode cX2_takeFree 28 = .ok (.ireturn, 1) := by decide +kernel
theorem dX3_init_0 : decode cX3_init 0 = .ok (.aload_n 0, 1) := by decide +kernel
theorem dX3_init_1 : decode cX3_init 1 = .ok (.invokespecial 3, 3) := by decide +kernel
theorem dX3_init_4 : decode cX3_init 4 = .ok (.aload_n 0, 1) := by decide +kernel
theorem dX3_init_5 : decode cX3_init 5 = .ok (.bipush 60, 2) := by decide +kernel
theorem dX3_init_7 : decode cX3_init 7 = .ok (.newarray .char, 2) := by decide +kernel
theorem dX3_init_9 : decode cX3_init 9 = .ok (.putfield 9, 3) := by decide +kernel
theorem dX3_init_12 : decode cX3_init 12 = .ok (.aload_n 0, 1) := by decide +kernel
theorem dX3_init_13 : decode cX3_init 13 = .ok (.bipush 60, 2) := by decide +kernel
theorem dX3_init_15 : decode cX3_init 15 = .ok (.newarray .int, 2) := by decide +kernel
theorem dX3_init_17 : decode cX3_init 17 = .ok (.putfield 15, 3) := by decide +kernel
theorem dX3_init_20 : decode cX3_init 20 = .ok (.aload_n 0, 1) := by decide +kernel
theorem dX3_init_21 : decode cX3_init 21 = .ok (.bipush 60, 2) := by decide +kernel
theorem dX3_init_23 : decode cX3_init 23 = .ok (.newarray .int, 2) := by decide +kernel
theorem dX3_init_25 : decode cX3_init 25 = .ok (.putfield 19, 3) := by decide +kernel
theorem dX3_init_28 : decode cX3_init 28 = .ok (.aload_n 0, 1) := by decide +kernel
theorem dX3_init_29 : decode cX3_init 29 = .ok (.bipush 60, 2) := by decide +kernel
theorem dX3_init_31 : decode cX3_init 31 = .ok (.newarray .int, 2) := by decide +kernel
theorem dX3_init_33 : decode cX3_init 33 = .ok (.putfield 22, 3) := by decide +kernel
theorem dX3_init_36 : decode cX3_init 36 = .ok (.return_, 1) := by decide +kernel
theorem dX3_addLetter_0 : decode cX3_addLetter 0 = .ok (.aload_n 0, 1) := by decide +kernel
theorem dX3_addLetter_1 : decode cX3_addLetter 1 = .ok (.dup, 1) := by decide +kernel
theorem dX3_addLetter_2 : decode cX3_addLetter 2 = .ok (.getfield 25, 3) := by decide +kernel
theorem dX3_addLetter_5 : decode cX3_addLetter 5 = .ok (.iconst 1, 1) := by decide +kernel
theorem dX3_addLetter_6 : decode cX3_addLetter 6 = .ok (.aload_n 0, 1) := by decide +kernel
theorem dX3_addLetter_7 : decode cX3_addLetter 7 = .ok (.iload_n 1, 1) := by decide +kernel
theorem dX3_addLetter_8 : decode cX3_addLetter 8 = .ok (.invokevirtual 29, 3) := by decide +kernel
theorem dX3_addLetter_11 : decode cX3_addLetter 11 = .ok (.ishl, 1) := by decide +kernel
theorem dX3_addLetter_12 : decode cX3_addLetter 12 = .ok (.ior, 1) := by decide +kernel
theorem dX3_addLetter_13 : decode cX3_addLetter 13 = .ok (.putfield 25, 3) := by decide +kernel
theorem dX3_addLetter_16 : decode cX3_addLetter 16 = .ok (.aload_n 0, 1) := by decide +kernel
theorem dX3_addLetter_17 : decode cX3_addLetter 17 = .ok (.iload_n 1, 1) := by decide +kernel
theorem dX3_addLetter_18 : decode cX3_addLetter 18 = .ok (.iconst 0, 1) := by decide +kernel
theorem dX3_addLetter_19 : decode cX3_addLetter 19 = .ok (.iconst 0, 1) := by decide +kernel
theorem dX3_addLetter_20 : decode cX3_addLetter 20 = .ok (.iconst 1, 1) := by decide +kernel
theorem dX3_addLetter_21 : decode cX3_addLetter 21 = .ok (.invokevirtual 33, 3) := by decide +kernel
theorem dX3_addLetter_24 : decode cX3_addLetter 24 = .ok (.ireturn, 1) := by decide +kernel
theorem dX3_addJoint_0 : decode cX3_addJoint 0 = .ok (.aload_n 0, 1) := by decide +kernel
theorem dX3_addJoint_1 : decode cX3_addJoint 1 = .ok (.iload_n 2, 1) := by decide +kernel
theorem dX3_addJoint_2 : decode cX3_addJoint 2 = .ok (.invokevirtual 37, 3) := by decide +kernel
theorem dX3_addJoint_5 : decode cX3_addJoint 5 = .ok (.aload_n 0, 1) := by decide +kernel
theorem dX3_addJoint_6 : decode cX3_addJoint 6 = .ok (.iload_n 3, 1) := by decide +kernel
theorem dX3_addJoint_7 : decode cX3_addJoint 7 = .ok (.invokevirtual 37, 3) := by decide +kernel
theorem dX3_addJoint_10 : decode cX3_addJoint 10 = .ok (.invokestatic 41, 3) := by decide +kernel
theorem dX3_addJoint_13 : decode cX3_addJoint 13 = .ok (.istore 4, 2) := by decide +kernel
theorem dX3_addJoint_15 : decode cX3_addJoint 15 = .ok (.aload_n 0, 1) := by decide +kernel
theorem dX3_addJoint_16 : decode cX3_addJoint 16 = .ok (.iload_n 1, 1) := by decide +kernel
theorem dX3_addJoint_17 : decode cX3_addJoint 17 = .ok (.iload_n 2, 1) := by decide +kernel
theorem dX3_addJoint_18 : decode cX3_addJoint 18 = .ok (.iload_n 3, 1) := by decide +kernel
theorem dX3_addJoint_19 : decode cX3_addJoint 19 = .ok (.iconst 1, 1) := by decide +kernel
theorem dX3_addJoint_20 : decode cX3_addJoint 20 = .ok (.iload 4, 2) := by decide +kernel
theorem dX3_addJoint_22 : decode cX3_addJoint 22 = .ok (.iadd, 1) := by decide +kernel
theorem dX3_addJoint_23 : decode cX3_addJoint 23 = .ok (.invokevirtual 33, 3) := by decide +kernel
theorem dX3_addJoint_26 : decode cX3_addJoint 26 = .ok (.ireturn, 1) := by decide +kernel
theorem dX3_add_0 : decode cX3_add 0 = .ok (.aload_n 0, 1) := by decide +kernel
theorem dX3_add_1 : decode cX3_add 1 = .ok (.getfield 47, 3) := by decide +kernel
theorem dX3_add_4 : decode cX3_add 4 = .ok (.bipush 60, 2) := by decide +kernel
theorem dX3_add_6 : decode cX3_add 6 = .ok (.if_icmp .lt 5, 3) := by decide +kernel
theorem dX3_add_9 : decode cX3_add 9 = .ok (.iconst 0, 1) := by decide +kernel
theorem dX3_add_10 : decode cX3_add 10 = .ok (.ireturn, 1) := by decide +kernel
theorem dX3_add_11 : decode cX3_add 11 = .ok (.aload_n 0, 1) := by decide +kernel
theorem dX3_add_12 : decode cX3_add 12 = .ok (.getfield 9, 3) := by decide +kernel
theorem dX3_add_15 : decode cX3_add 15 = .ok (.aload_n 0, 1) := by decide +kernel
theorem dX3_add_16 : decode cX3_add 16 = .ok (.getfield 47, 3) := by decide +kernel
theorem dX3_add_19 : decode cX3_add 19 = .ok (.iload_n 1, 1) := by decide +kernel
theorem dX3_add_20 : decode cX3_add 20 = .ok (.castore, 1) := by decide +kernel
theorem dX3_add_21 : decode cX3_add 21 = .ok (.aload_n 0, 1) := by decide +kernel
theorem dX3_add_22 : decode cX3_add 22 = .ok (.getfield 15, 3) := by decide +kernel
theorem dX3_add_25 : decode cX3_add 25 = .ok (.aload_n 0, 1) := by decide +kernel
theorem dX3_add_26 : decode cX3_add 26 = .ok (.getfield 47, 3) := by decide +kernel
theorem dX3_add_29 : decode cX3_add 29 = .ok (.iload_n 2, 1) := by decide +kernel
theorem dX3_add_30 : decode cX3_add 30 = .ok (.iastore, 1) := by decide +kernel
theorem dX3_add_31 : decode cX3_add 31 = .ok (.aload_n 0, 1) := by decide +kernel
theorem dX3_add_32 : decode cX3_add 32 = .ok (.getfield 19, 3) := by decide +kernel
theorem dX3_add_35 : decode cX3_add 35 = .ok (.aload_n 0, 1) := by decide +kernel
theorem dX3_add_36 : decode cX3_add 36 = .ok (.getfield 47, 3) := by decide +kernel
theorem dX3_add_39 : decode cX3_add 39 = .ok (.iload_n 3, 1) := by decide +kernel
theorem dX3_add_40 : decode cX3_add 40 = .ok (.iastore, 1) := by decide +kernel
theorem dX3_add_41 : decode cX3_add 41 = .ok (.aload_n 0, 1) := by decide +kernel
theorem dX3_add_42 : decode cX3_add 42 = .ok (.getfield 22, 3) := by decide +kernel
theorem dX3_add_45 : decode cX3_add 45 = .ok (.aload_n 0, 1) := by decide +kernel
theorem dX3_add_46 : decode cX3_add 46 = .ok (.getfield 47, 3) := by decide +kernel
theorem dX3_add_49 : decode cX3_add 49 = .ok (.iload 4, 2) := by decide +kernel
theorem dX3_add_51 : decode cX3_add 51 = .ok (.iastore, 1) := by decide +kernel
theorem dX3_add_52 : decode cX3_add 52 = .ok (.aload_n 0, 1) := by decide +kernel
theorem dX3_add_53 : decode cX3_add 53 = .ok (.dup, 1) := by decide +kernel
theorem dX3_add_54 : decode cX3_add 54 = .ok (.getfield 47, 3) := by decide +kernel
theorem dX3_add_57 : decode cX3_add 57 = .ok (.iconst 1, 1) := by decide +kernel
theorem dX3_add_58 : decode cX3_add 58 = .ok (.iadd, 1) := by decide +kernel
theorem dX3_add_59 : decode cX3_add 59 = .ok (.putfield 47, 3) := by decide +kernel
theorem dX3_add_62 : decode cX3_add 62 = .ok (.aload_n 0, 1) := by decide +kernel
theorem dX3_add_63 : decode cX3_add 63 = .ok (.getfield 47, 3) := by decide +kernel
theorem dX3_add_66 : decode cX3_add 66 = .ok (.iconst 1, 1) := by decide +kernel
theorem dX3_add_67 : decode cX3_add 67 = .ok (.isub, 1) := by decide +kernel
theorem dX3_add_68 : decode cX3_add 68 = .ok (.ireturn, 1) := by decide +kernel
theorem dX3_depthOf_0 : decode cX3_depthOf 0 = .ok (.iload_n 1, 1) := by decide +kernel
theorem dX3_depthOf_1 : decode cX3_depthOf 1 = .ok (.ifCond .lt 26, 3) := by decide +kernel
theorem dX3_depthOf_4 : decode cX3_depthOf 4 = .ok (.iload_n 1, 1) := by decide +kernel
theorem dX3_depthOf_5 : decode cX3_depthOf 5 = .ok (.aload_n 0, 1) := by decide +kernel
theorem dX3_depthOf_6 : decode cX3_depthOf 6 = .ok (.getfield 47, 3) := by decide +kernel
theorem dX3_depthOf_9 : decode cX3_depthOf 9 = .ok (.if_icmp .ge 18, 3) := by decide +kernel
theorem dX3_depthOf_12 : decode cX3_depthOf 12 = .ok (.iload_n 1, 1) := by decide +kernel
theorem dX3_depthOf_13 : decode cX3_depthOf 13 = .ok (.bipush 60, 2) := by decide +kernel
theorem dX3_depthOf_15 : decode cX3_depthOf 15 = .ok (.if_icmp .ge 12, 3) := by decide +kernel
theorem dX3_depthOf_18 : decode cX3_depthOf 18 = .ok (.aload_n 0, 1) := by decide +kernel
theorem dX3_depthOf_19 : decode cX3_depthOf 19 = .ok (.getfield 22, 3) := by decide +kernel
theorem dX3_depthOf_22 : decode cX3_depthOf 22 = .ok (.iload_n 1, 1) := by decide +kernel
theorem dX3_depthOf_23 : decode cX3_depthOf 23 = .ok (.iaload, 1) := by decide +kernel
theorem dX3_depthOf_24 : decode cX3_depthOf 24 = .ok (.goto 4, 3) := by decide +kernel
theorem dX3_depthOf_27 : decode cX3_depthOf 27 = .ok (.iconst 0, 1) := by decide +kernel
theorem dX3_depthOf_28 : decode cX3_depthOf 28 = .ok (.ireturn, 1) := by decide +kernel
theorem dX3_depth_0 : decode cX3_depth 0 = .ok (.aload_n 0, 1) := by decide +kernel
theorem dX3_depth_1 : decode cX3_depth 1 = .ok (.aload_n 0, 1) := by decide +kernel
theorem dX3_depth_2 : decode cX3_depth 2 = .ok (.getfield 47, 3) := by decide +kernel
theorem dX3_depth_5 : decode cX3_depth 5 = .ok (.iconst 1, 1) := by decide +kernel
theorem dX3_depth_6 : decode cX3_depth 6 = .ok (.isub, 1) := by decide +kernel
theorem dX3_depth_7 : decode cX3_depth 7 = .ok (.invokevirtual 37, 3) := by decide +kernel
theorem dX3_depth_10 : decode cX3_depth 10 = .ok (.ireturn, 1) := by decide +kernel
theorem dX3_holds_0 : decode cX3_holds 0 = .ok (.aload_n 0, 1) := by decide +kernel
theorem dX3_holds_1 : decode cX3_holds 1 = .ok (.aload_n 0, 1) := by decide +kernel
theorem dX3_holds_2 : decode cX3_holds 2 = .ok (.iload_n 1, 1) := by decide +kernel
theorem dX3_holds_3 : decode cX3_holds 3 = .ok (.invokevirtual 50, 3) := by decide +kernel
theorem dX3_holds_6 : decode cX3_holds 6 = .ok (.aload_n 0, 1) := by decide +kernel
theorem dX3_holds_7 : decode cX3_holds 7 = .ok (.getfield 47, 3) := by decide +kernel
theorem dX3_holds_10 : decode cX3_holds 10 = .ok (.iconst 1, 1) := by decide +kernel
theorem dX3_holds_11 : decode cX3_holds 11 = .ok (.isub, 1) := by decide +kernel
theorem dX3_holds_12 : decode cX3_holds 12 = .ok (.invokevirtual 54, 3) := by decide +kernel
theorem dX3_holds_15 : decode cX3_holds 15 = .ok (.ireturn, 1) := by decide +kernel
theorem dX3_lookedAt_0 : decode cX3_lookedAt 0 = .ok (.aload_n 0, 1) := by decide +kernel
theorem dX3_lookedAt_1 : decode cX3_lookedAt 1 = .ok (.iload_n 1, 1) := by decide +kernel
theorem dX3_lookedAt_2 : decode cX3_lookedAt 2 = .ok (.invokevirtual 50, 3) := by decide +kernel
theorem dX3_lookedAt_5 : decode cX3_lookedAt 5 = .ok (.lstore_n 2, 1) := by decide +kernel
theorem dX3_lookedAt_6 : decode cX3_lookedAt 6 = .ok (.lconst 1, 1) := by decide +kernel
theorem dX3_lookedAt_7 : decode cX3_lookedAt 7 = .ok (.aload_n 0, 1) := by decide +kernel
theorem dX3_lookedAt_8 : decode cX3_lookedAt 8 = .ok (.getfield 47, 3) := by decide +kernel
theorem dX3_lookedAt_11 : decode cX3_lookedAt 11 = .ok (.iconst 1, 1) := by decide +kernel
theorem dX3_lookedAt_12 : decode cX3_lookedAt 12 = .ok (.isub, 1) := by decide +kernel
theorem dX3_lookedAt_13 : decode cX3_lookedAt 13 = .ok (.lshl, 1) := by decide +kernel
theorem dX3_lookedAt_14 : decode cX3_lookedAt 14 = .ok (.lstore 4, 2) := by decide +kernel
theorem dX3_lookedAt_16 : decode cX3_lookedAt 16 = .ok (.aload_n 0, 1) := by decide +kernel
theorem dX3_lookedAt_17 : decode cX3_lookedAt 17 = .ok (.getfield 47, 3) := by decide +kernel
theorem dX3_lookedAt_20 : decode cX3_lookedAt 20 = .ok (.bipush 60, 2) := by decide +kernel
theorem dX3_lookedAt_22 : decode cX3_lookedAt 22 = .ok (.invokestatic 58, 3) := by decide +kernel
theorem dX3_lookedAt_25 : decode cX3_lookedAt 25 = .ok (.iconst 1, 1) := by decide +kernel
theorem dX3_lookedAt_26 : decode cX3_lookedAt 26 = .ok (.isub, 1) := by decide +kernel
theorem dX3_lookedAt_27 : decode cX3_lookedAt 27 = .ok (.istore 6, 2) := by decide +kernel
theorem dX3_lookedAt_29 : decode cX3_lookedAt 29 = .ok (.iload 6, 2) := by decide +kernel
theorem dX3_lookedAt_31 : decode cX3_lookedAt 31 = .ok (.ifCond .lt 32, 3) := by decide +kernel
theorem dX3_lookedAt_34 : decode cX3_lookedAt 34 = .ok (.aload_n 0, 1) := by decide +kernel
theorem dX3_lookedAt_35 : decode cX3_lookedAt 35 = .ok (.lload 4, 2) := by decide +kernel
theorem dX3_lookedAt_37 : decode cX3_lookedAt 37 = .ok (.iload 6, 2) := by decide +kernel
theorem dX3_lookedAt_39 : decode cX3_lookedAt 39 = .ok (.invokevirtual 54, 3) := by decide +kernel
theorem dX3_lookedAt_42 : decode cX3_lookedAt 42 = .ok (.ifCond .eq 15, 3) := by decide +kernel
theorem dX3_lookedAt_45 : decode cX3_lookedAt 45 = .ok (.lload 4, 2) := by decide +kernel
theorem dX3_lookedAt_47 : decode cX3_lookedAt 47 = .ok (.aload_n 0, 1) := by decide +kernel
theorem dX3_lookedAt_48 : decode cX3_lookedAt 48 = .ok (.iload 6, 2) := by decide +kernel
theorem dX3_lookedAt_50 : decode cX3_lookedAt 50 = .ok (.lload_n 2, 1) := by decide +kernel
theorem dX3_lookedAt_51 : decode cX3_lookedAt 51 = .ok (.invokevirtual 61, 3) := by decide +kernel
theorem dX3_lookedAt_54 : decode cX3_lookedAt 54 = .ok (.lor, 1) := by decide +kernel
theorem dX3_lookedAt_55 : decode cX3_lookedAt 55 = .ok (.lstore 4, 2) := by decide +kernel
theorem dX3_lookedAt_57 : decode cX3_lookedAt 57 = .ok (.iinc 6 (-1), 3) := by decide +kernel
theorem dX3_lookedAt_60 : decode cX3_lookedAt 60 = .ok (.goto (-31), 3) := by decide +kernel
theorem dX3_lookedAt_63 : decode cX3_lookedAt 63 = .ok (.lload 4, 2) := by decide +kernel
theorem dX3_lookedAt_65 : decode cX3_lookedAt 65 = .ok (.invokestatic 65, 3) := by decide +kernel
theorem dX3_lookedAt_68 : decode cX3_lookedAt 68 = .ok (.ireturn, 1) := by decide +kernel
theorem dX3_lookedAtFrom_0 : decode cX3_lookedAtFrom 0 = .ok (.lconst 1, 1) := by decide +kernel
theorem dX3_lookedAtFrom_1 : decode cX3_lookedAtFrom 1 = .ok (.aload_n 0, 1) := by decide +kernel
theorem dX3_lookedAtFrom_2 : decode cX3_lookedAtFrom 2 = .ok (.getfield 15, 3) := by decide +kernel
theorem dX3_lookedAtFrom_5 : decode cX3_lookedAtFrom 5 = .ok (.iload_n 1, 1) := by decide +kernel
theorem dX3_lookedAtFrom_6 : decode cX3_lookedAtFrom 6 = .ok (.iaload, 1) := by decide +kernel
theorem dX3_lookedAtFrom_7 : decode cX3_lookedAtFrom 7 = .ok (.lshl, 1) := by decide +kernel
theorem dX3_lookedAtFrom_8 : decode cX3_lookedAtFrom 8 = .ok (.lstore 4, 2) := by decide +kernel
theorem dX3_lookedAtFrom_10 : decode cX3_lookedAtFrom 10 = .ok (.lconst 1, 1) := by decide +kernel
theorem dX3_lookedAtFrom_11 : decode cX3_lookedAtFrom 11 = .ok (.aload_n 0, 1) := by decide +kernel
theorem dX3_lookedAtFrom_12 : decode cX3_lookedAtFrom 12 = .ok (.getfield 19, 3) := by decide +kernel
theorem dX3_lookedAtFrom_15 : decode cX3_lookedAtFrom 15 = .ok (.iload_n 1, 1) := by decide +kernel
theorem dX3_lookedAtFrom_16 : decode cX3_lookedAtFrom 16 = .ok (.iaload, 1) := by decide +kernel
theorem dX3_lookedAtFrom_17 : decode cX3_lookedAtFrom 17 = .ok (.lshl, 1) := by decide +kernel
theorem dX3_lookedAtFrom_18 : decode cX3_lookedAtFrom 18 = .ok (.lstore 6, 2) := by decide +kernel
theorem dX3_lookedAtFrom_20 : decode cX3_lookedAtFrom 20 = .ok (.lload_n 2, 1) := by decide +kernel
theorem dX3_lookedAtFrom_21 : decode cX3_lookedAtFrom 21 = .ok (.lload 4, 2) := by decide +kernel
theorem dX3_lookedAtFrom_23 : decode cX3_lookedAtFrom 23 = .ok (.land, 1) := by decide +kernel
theorem dX3_lookedAtFrom_24 : decode cX3_lookedAtFrom 24 = .ok (.lconst 0, 1) := by decide +kernel
theorem dX3_lookedAtFrom_25 : decode cX3_lookedAtFrom 25 = .ok (.lcmp, 1) := by decide +kernel
theorem dX3_lookedAtFrom_26 : decode cX3_lookedAtFrom 26 = .ok (.ifCond .eq 7, 3) := by decide +kernel
theorem dX3_lookedAtFrom_29 : decode cX3_lookedAtFrom 29 = .ok (.iconst 1, 1) := by decide +kernel
theorem dX3_lookedAtFrom_30 : decode cX3_lookedAtFrom 30 = .ok (.goto 4, 3) := by decide +kernel
theorem dX3_lookedAtFrom_33 : decode cX3_lookedAtFrom 33 = .ok (.iconst 0, 1) := by decide +kernel
theorem dX3_lookedAtFrom_34 : decode cX3_lookedAtFrom 34 = .ok (.istore 8, 2) := by decide +kernel
theorem dX3_lookedAtFrom_36 : decode cX3_lookedAtFrom 36 = .ok (.aload_n 0, 1) := by decide +kernel
theorem dX3_lookedAtFrom_37 : decode cX3_lookedAtFrom 37 = .ok (.getfield 9, 3) := by decide +kernel
theorem dX3_lookedAtFrom_40 : decode cX3_lookedAtFrom 40 = .ok (.iload_n 1, 1) := by decide +kernel
theorem dX3_lookedAtFrom_41 : decode cX3_lookedAtFrom 41 = .ok (.caload, 1) := by decide +kernel
theorem dX3_lookedAtFrom_42 : decode cX3_lookedAtFrom 42 = .ok (.lookupswitch 69 #[(33, 34), (38, 37), (124, 53)], 34) := by decide +kernel
theorem dX3_lookedAtFrom_76 : decode cX3_lookedAtFrom 76 = .ok (.lload 4, 2) := by decide +kernel
theorem dX3_lookedAtFrom_78 : decode cX3_lookedAtFrom 78 = .ok (.lreturn, 1) := by decide +kernel
theorem dX3_lookedAtFrom_79 : decode cX3_lookedAtFrom 79 = .ok (.iload 8, 2) := by decide +kernel
theorem dX3_lookedAtFrom_81 : decode cX3_lookedAtFrom 81 = .ok (.ifCond .eq 11, 3) := by decide +kernel
theorem dX3_lookedAtFrom_84 : decode cX3_lookedAtFrom 84 = .ok (.lload 4, 2) := by decide +kernel
theorem dX3_lookedAtFrom_86 : decode cX3_lookedAtFrom 86 = .ok (.lload 6, 2) := by decide +kernel
theorem dX3_lookedAtFrom_88 : decode cX3_lookedAtFrom 88 = .ok (.lor, 1) := by decide +kernel
theorem dX3_lookedAtFrom_89 : decode cX3_lookedAtFrom 89 = .ok (.goto 5, 3) := by decide +kernel
theorem dX3_lookedAtFrom_92 : decode cX3_lookedAtFrom 92 = .ok (.lload 4, 2) := by decide +kernel
theorem dX3_lookedAtFrom_94 : decode cX3_lookedAtFrom 94 = .ok (.lreturn, 1) := by decide +kernel
theorem dX3_lookedAtFrom_95 : decode cX3_lookedAtFrom 95 = .ok (.iload 8, 2) := by decide +kernel
theorem dX3_lookedAtFrom_97 : decode cX3_lookedAtFrom 97 = .ok (.ifCond .eq 8, 3) := by decide +kernel
theorem dX3_lookedAtFrom_100 : decode cX3_lookedAtFrom 100 = .ok (.lload 4, 2) := by decide +kernel
theorem dX3_lookedAtFrom_102 : decode cX3_lookedAtFrom 102 = .ok (.goto 8, 3) := by decide +kernel
theorem dX3_lookedAtFrom_105 : decode cX3_lookedAtFrom 105 = .ok (.lload 4, 2) := by decide +kernel
theorem dX3_lookedAtFrom_107 : decode cX3_lookedAtFrom 107 = .ok (.lload 6, 2) := by decide +kernel
theorem dX3_lookedAtFrom_109 : decode cX3_lookedAtFrom 109 = .ok (.lor, 1) := by decide +kernel
theorem dX3_lookedAtFrom_110 : decode cX3_lookedAtFrom 110 = .ok (.lreturn, 1) := by decide +kernel
theorem dX3_lookedAtFrom_111 : decode cX3_lookedAtFrom 111 = .ok (.lconst 0, 1) := by decide +kernel
theorem dX3_lookedAtFrom_112 : decode cX3_lookedAtFrom 112 = .ok (.lreturn, 1) := by decide +kernel
theorem dX3_holding_0 : decode cX3_holding 0 = .ok (.lconst 0, 1) := by decide +kernel
theorem dX3_holding_1 : decode cX3_holding 1 = .ok (.lstore_n 2, 1) := by decide +kernel
theorem dX3_holding_2 : decode cX3_holding 2 = .ok (.iconst 0, 1) := by decide +kernel
theorem dX3_holding_3 : decode cX3_holding 3 = .ok (.istore 4, 2) := by decide +kernel
theorem dX3_holding_5 : decode cX3_holding 5 = .ok (.iload 4, 2) := by decide +kernel
theorem dX3_holding_7 : decode cX3_holding 7 = .ok (.aload_n 0, 1) := by decide +kernel
theorem dX3_holding_8 : decode cX3_holding 8 = .ok (.getfield 47, 3) := by decide +kernel
theorem dX3_holding_11 : decode cX3_holding 11 = .ok (.if_icmp .ge 34, 3) := by decide +kernel
theorem dX3_holding_14 : decode cX3_holding 14 = .ok (.iload 4, 2) := by decide +kernel
theorem dX3_holding_16 : decode cX3_holding 16 = .ok (.bipush 60, 2) := by decide +kernel
theorem dX3_holding_18 : decode cX3_holding 18 = .ok (.if_icmp .ge 27, 3) := by decide +kernel
theorem dX3_holding_21 : decode cX3_holding 21 = .ok (.aload_n 0, 1) := by decide +kernel
theorem dX3_holding_22 : decode cX3_holding 22 = .ok (.iload 4, 2) := by decide +kernel
theorem dX3_holding_24 : decode cX3_holding 24 = .ok (.iload_n 1, 1) := by decide +kernel
theorem dX3_holding_25 : decode cX3_holding 25 = .ok (.lload_n 2, 1) := by decide +kernel
theorem dX3_holding_26 : decode cX3_holding 26 = .ok (.invokevirtual 71, 3) := by decide +kernel
theorem dX3_holding_29 : decode cX3_holding 29 = .ok (.ifCond .eq 10, 3) := by decide +kernel
theorem dX3_holding_32 : decode cX3_holding 32 = .ok (.lload_n 2, 1) := by decide +kernel
theorem dX3_holding_33 : decode cX3_holding 33 = .ok (.lconst 1, 1) := by decide +kernel
theorem dX3_holding_34 : decode cX3_holding 34 = .ok (.iload 4, 2) := by decide +kernel
theorem dX3_holding_36 : decode cX3_holding 36 = .ok (.lshl, 1) := by decide +kernel
theorem dX3_holding_37 : decode cX3_holding 37 = .ok (.lor, 1) := by decide +kernel
theorem dX3_holding_38 : decode cX3_holding 38 = .ok (.lstore_n 2, 1) := by decide +kernel
theorem dX3_holding_39 : decode cX3_holding 39 = .ok (.iinc 4 1, 3) := by decide +kernel
theorem dX3_holding_42 : decode cX3_holding 42 = .ok (.goto (-37), 3) := by decide +kernel
theorem dX3_holding_45 : decode cX3_holding 45 = .ok (.lload_n 2, 1) := by decide +kernel
theorem dX3_holding_46 : decode cX3_holding 46 = .ok (.lreturn, 1) := by decide +kernel
theorem dX3_partHolds_0 : decode cX3_partHolds 0 = .ok (.aload_n 0, 1) := by decide +kernel
theorem dX3_partHolds_1 : decode cX3_partHolds 1 = .ok (.lload_n 3, 1) := by decide +kernel
theorem dX3_partHolds_2 : decode cX3_partHolds 2 = .ok (.aload_n 0, 1) := by decide +kernel
theorem dX3_partHolds_3 : decode cX3_partHolds 3 = .ok (.getfield 15, 3) := by decide +kernel
theorem dX3_partHolds_6 : decode cX3_partHolds 6 = .ok (.iload_n 1, 1) := by decide +kernel
theorem dX3_partHolds_7 : decode cX3_partHolds 7 = .ok (.iaload, 1) := by decide +kernel
theorem dX3_partHolds_8 : decode cX3_partHolds 8 = .ok (.invokevirtual 54, 3) := by decide +kernel
theorem dX3_partHolds_11 : decode cX3_partHolds 11 = .ok (.istore 5, 2) := by decide +kernel
theorem dX3_partHolds_13 : decode cX3_partHolds 13 = .ok (.aload_n 0, 1) := by decide +kernel
theorem dX3_partHolds_14 : decode cX3_partHolds 14 = .ok (.lload_n 3, 1) := by decide +kernel
theorem dX3_partHolds_15 : decode cX3_partHolds 15 = .ok (.aload_n 0, 1) := by decide +kernel
theorem dX3_partHolds_16 : decode cX3_partHolds 16 = .ok (.getfield 19, 3) := by decide +kernel
theorem dX3_partHolds_19 : decode cX3_partHolds 19 = .ok (.iload_n 1, 1) := by decide +kernel
theorem dX3_partHolds_20 : decode cX3_partHolds 20 = .ok (.iaload, 1) := by decide +kernel
theorem dX3_partHolds_21 : decode cX3_partHolds 21 = .ok (.invokevirtual 54, 3) := by decide +kernel
theorem dX3_partHolds_24 : decode cX3_partHolds 24 = .ok (.istore 6, 2) := by decide +kernel
theorem dX3_partHolds_26 : decode cX3_partHolds 26 = .ok (.aload_n 0, 1) := by decide +kernel
theorem dX3_partHolds_27 : decode cX3_partHolds 27 = .ok (.getfield 9, 3) := by decide +kernel
theorem dX3_partHolds_30 : decode cX3_partHolds 30 = .ok (.iload_n 1, 1) := by decide +kernel
theorem dX3_partHolds_31 : decode cX3_partHolds 31 = .ok (.caload, 1) := by decide +kernel
theorem dX3_partHolds_32 : decode cX3_partHolds 32 = .ok (.lookupswitch 79 #[(33, 36), (38, 47), (124, 63)], 36) := by decide +kernel
theorem dX3_partHolds_68 : decode cX3_partHolds 68 = .ok (.iload 5, 2) := by decide +kernel
theorem dX3_partHolds_70 : decode cX3_partHolds 70 = .ok (.ifCond .ne 7, 3) := by decide +kernel
theorem dX3_partHolds_73 : decode cX3_partHolds 73 = .ok (.iconst 1, 1) := by decide +kernel
theorem dX3_partHolds_74 : decode cX3_partHolds 74 = .ok (.goto 4, 3) := by decide +kernel
theorem dX3_partHolds_77 : decode cX3_partHolds 77 = .ok (.iconst 0, 1) := by decide +kernel
theorem dX3_partHolds_78 : decode cX3_partHolds 78 = .ok (.ireturn, 1) := by decide +kernel
theorem dX3_partHolds_79 : decode cX3_partHolds 79 = .ok (.iload 5, 2) := by decide +kernel
theorem dX3_partHolds_81 : decode cX3_partHolds 81 = .ok (.ifCond .eq 12, 3) := by decide +kernel
theorem dX3_partHolds_84 : decode cX3_partHolds 84 = .ok (.iload 6, 2) := by decide +kernel
theorem dX3_partHolds_86 : decode cX3_partHolds 86 = .ok (.ifCond .eq 7, 3) := by decide +kernel
theorem dX3_partHolds_89 : decode cX3_partHolds 89 = .ok (.iconst 1, 1) := by decide +kernel
theorem dX3_partHolds_90 : decode cX3_partHolds 90 = .ok (.goto 4, 3) := by decide +kernel
theorem dX3_partHolds_93 : decode cX3_partHolds 93 = .ok (.iconst 0, 1) := by decide +kernel
theorem dX3_partHolds_94 : decode cX3_partHolds 94 = .ok (.ireturn, 1) := by decide +kernel
theorem dX3_partHolds_95 : decode cX3_partHolds 95 = .ok (.iload 5, 2) := by decide +kernel
theorem dX3_partHolds_97 : decode cX3_partHolds 97 = .ok (.ifCond .ne 8, 3) := by decide +kernel
theorem dX3_partHolds_100 : decode cX3_partHolds 100 = .ok (.iload 6, 2) := by decide +kernel
theorem dX3_partHolds_102 : decode cX3_partHolds 102 = .ok (.ifCond .eq 7, 3) := by decide +kernel
theorem dX3_partHolds_105 : decode cX3_partHolds 105 = .ok (.iconst 1, 1) := by decide +kernel
theorem dX3_partHolds_106 : decode cX3_partHolds 106 = .ok (.goto 4, 3) := by decide +kernel
theorem dX3_partHolds_109 : decode cX3_partHolds 109 = .ok (.iconst 0, 1) := by decide +kernel
theorem dX3_partHolds_110 : decode cX3_partHolds 110 = .ok (.ireturn, 1) := by decide +kernel
theorem dX3_partHolds_111 : decode cX3_partHolds 111 = .ok (.aload_n 0, 1) := by decide +kernel
theorem dX3_partHolds_112 : decode cX3_partHolds 112 = .ok (.aload_n 0, 1) := by decide +kernel
theorem dX3_partHolds_113 : decode cX3_partHolds 113 = .ok (.aload_n 0, 1) := by decide +kernel
theorem dX3_partHolds_114 : decode cX3_partHolds 114 = .ok (.getfield 9, 3) := by decide +kernel
theorem dX3_partHolds_117 : decode cX3_partHolds 117 = .ok (.iload_n 1, 1) := by decide +kernel
theorem dX3_partHolds_118 : decode cX3_partHolds 118 = .ok (.caload, 1) := by decide +kernel
theorem dX3_partHolds_119 : decode cX3_partHolds 119 = .ok (.invokevirtual 29, 3) := by decide +kernel
theorem dX3_partHolds_122 : decode cX3_partHolds 122 = .ok (.iload_n 2, 1) := by decide +kernel
theorem dX3_partHolds_123 : decode cX3_partHolds 123 = .ok (.invokevirtual 75, 3) := by decide +kernel
theorem dX3_partHolds_126 : decode cX3_partHolds 126 = .ok (.ireturn, 1) := by decide +kernel
theorem dX3_letterHolds_0 : decode cX3_letterHolds 0 = .ok (.iload_n 1, 1) := by decide +kernel
theorem dX3_letterHolds_1 : decode cX3_letterHolds 1 = .ok (.iconst 4, 1) := by decide +kernel
theorem dX3_letterHolds_2 : decode cX3_letterHolds 2 = .ok (.irem, 1) := by decide +kernel
theorem dX3_letterHolds_3 : decode cX3_letterHolds 3 = .ok (.istore_n 3, 1) := by decide +kernel
theorem dX3_letterHolds_4 : decode cX3_letterHolds 4 = .ok (.iload_n 2, 1) := by decide +kernel
theorem dX3_letterHolds_5 : decode cX3_letterHolds 5 = .ok (.iconst 2, 1) := by decide +kernel
theorem dX3_letterHolds_6 : decode cX3_letterHolds 6 = .ok (.iload_n 3, 1) := by decide +kernel
theorem dX3_letterHolds_7 : decode cX3_letterHolds 7 = .ok (.imul, 1) := by decide +kernel
theorem dX3_letterHolds_8 : decode cX3_letterHolds 8 = .ok (.ishr, 1) := by decide +kernel
theorem dX3_letterHolds_9 : decode cX3_letterHolds 9 = .ok (.iconst 3, 1) := by decide +kernel
theorem dX3_letterHolds_10 : decode cX3_letterHolds 10 = .ok (.iand, 1) := by decide +kernel
theorem dX3_letterHolds_11 : decode cX3_letterHolds 11 = .ok (.istore 4, 2) := by decide +kernel
theorem dX3_letterHolds_13 : decode cX3_letterHolds 13 = .ok (.iload_n 1, 1) := by decide +kernel
theorem dX3_letterHolds_14 : decode cX3_letterHolds 14 = .ok (.iconst 4, 1) := by decide +kernel
theorem dX3_letterHolds_15 : decode cX3_letterHolds 15 = .ok (.if_icmp .ge 16, 3) := by decide +kernel
theorem dX3_letterHolds_18 : decode cX3_letterHolds 18 = .ok (.iload 4, 2) := by decide +kernel
theorem dX3_letterHolds_20 : decode cX3_letterHolds 20 = .ok (.ifCond .eq 7, 3) := by decide +kernel
theorem dX3_letterHolds_23 : decode cX3_letterHolds 23 = .ok (.iconst 1, 1) := by decide +kernel
theorem dX3_letterHolds_24 : decode cX3_letterHolds 24 = .ok (.goto 18, 3) := by decide +kernel
theorem dX3_letterHolds_27 : decode cX3_letterHolds 27 = .ok (.iconst 0, 1) := by decide +kernel
theorem dX3_letterHolds_28 : decode cX3_letterHolds 28 = .ok (.goto 14, 3) := by decide +kernel
theorem dX3_letterHolds_31 : decode cX3_letterHolds 31 = .ok (.iload 4, 2) := by decide +kernel
theorem dX3_letterHolds_33 : decode cX3_letterHolds 33 = .ok (.iconst 3, 1) := by decide +kernel
theorem dX3_letterHolds_34 : decode cX3_letterHolds 34 = .ok (.if_icmp .ne 7, 3) := by decide +kernel
theorem dX3_letterHolds_37 : decode cX3_letterHolds 37 = .ok (.iconst 1, 1) := by decide +kernel
theorem dX3_letterHolds_38 : decode cX3_letterHolds 38 = .ok (.goto 4, 3) := by decide +kernel
theorem dX3_letterHolds_41 : decode cX3_letterHolds 41 = .ok (.iconst 0, 1) := by decide +kernel
theorem dX3_letterHolds_42 : decode cX3_letterHolds 42 = .ok (.ireturn, 1) := by decide +kernel
theorem dX3_letterNumber_0 : decode cX3_letterNumber 0 = .ok (.iload_n 1, 1) := by decide +kernel
theorem dX3_letterNumber_1 : decode cX3_letterNumber 1 = .ok (.bipush 97, 2) := by decide +kernel
theorem dX3_letterNumber_3 : decode cX3_letterNumber 3 = .ok (.if_icmp .lt 10, 3) := by decide +kernel
theorem dX3_letterNumber_6 : decode cX3_letterNumber 6 = .ok (.iload_n 1, 1) := by decide +kernel
theorem dX3_letterNumber_7 : decode cX3_letterNumber 7 = .ok (.bipush 97, 2) := by decide +kernel
theorem dX3_letterNumber_9 : decode cX3_letterNumber 9 = .ok (.isub, 1) := by decide +kernel
theorem dX3_letterNumber_10 : decode cX3_letterNumber 10 = .ok (.goto 9, 3) := by decide +kernel
theorem dX3_letterNumber_13 : decode cX3_letterNumber 13 = .ok (.iload_n 1, 1) := by decide +kernel
theorem dX3_letterNumber_14 : decode cX3_letterNumber 14 = .ok (.bipush 65, 2) := by decide +kernel
theorem dX3_letterNumber_16 : decode cX3_letterNumber 16 = .ok (.isub, 1) := by decide +kernel
theorem dX3_letterNumber_17 : decode cX3_letterNumber 17 = .ok (.iconst 4, 1) := by decide +kernel
theorem dX3_letterNumber_18 : decode cX3_letterNumber 18 = .ok (.iadd, 1) := by decide +kernel
theorem dX3_letterNumber_19 : decode cX3_letterNumber 19 = .ok (.ireturn, 1) := by decide +kernel
theorem dX3_isIn_0 : decode cX3_isIn 0 = .ok (.lload_n 1, 1) := by decide +kernel
theorem dX3_isIn_1 : decode cX3_isIn 1 = .ok (.iload_n 3, 1) := by decide +kernel
theorem dX3_isIn_2 : decode cX3_isIn 2 = .ok (.lshr, 1) := by decide +kernel
theorem dX3_isIn_3 : decode cX3_isIn 3 = .ok (.lconst 1, 1) := by decide +kernel
theorem dX3_isIn_4 : decode cX3_isIn 4 = .ok (.land, 1) := by decide +kernel
theorem dX3_isIn_5 : decode cX3_isIn 5 = .ok (.lconst 0, 1) := by decide +kernel
theorem dX3_isIn_6 : decode cX3_isIn 6 = .ok (.lcmp, 1) := by decide +kernel
theorem dX3_isIn_7 : decode cX3_isIn 7 = .ok (.ifCond .eq 7, 3) := by decide +kernel
theorem dX3_isIn_10 : decode cX3_isIn 10 = .ok (.iconst 1, 1) := by decide +kernel
theorem dX3_isIn_11 : decode cX3_isIn 11 = .ok (.goto 4, 3) := by decide +kernel
theorem dX3_isIn_14 : decode cX3_isIn 14 = .ok (.iconst 0, 1) := by decide +kernel
theorem dX3_isIn_15 : decode cX3_isIn 15 = .ok (.ireturn, 1) := by decide +kernel
theorem dX4_init_0 : decode cX4_init 0 = .ok (.aload_n 0, 1) := by decide +kernel
theorem dX4_init_1 : decode cX4_init 1 = .ok (.invokespecial 3, 3) := by decide +kernel
theorem dX4_init_4 : decode cX4_init 4 = .ok (.aload_n 0, 1) := by decide +kernel
theorem dX4_init_5 : decode cX4_init 5 = .ok (.bipush 7, 2) := by decide +kernel
theorem dX4_init_7 : decode cX4_init 7 = .ok (.newarray .int, 2) := by decide +kernel
theorem dX4_init_9 : decode cX4_init 9 = .ok (.putfield 9, 3) := by decide +kernel
theorem dX4_init_12 : decode cX4_init 12 = .ok (.aload_n 0, 1) := by decide +kernel
theorem dX4_init_13 : decode cX4_init 13 = .ok (.bipush 20, 2) := by decide +kernel
theorem dX4_init_15 : decode cX4_init 15 = .ok (.newarray .int, 2) := by decide +kernel
theorem dX4_init_17 : decode cX4_init 17 = .ok (.putfield 15, 3) := by decide +kernel
theorem dX4_init_20 : decode cX4_init 20 = .ok (.aload_n 0, 1) := by decide +kernel
theorem dX4_init_21 : decode cX4_init 21 = .ok (.bipush 20, 2) := by decide +kernel
theorem dX4_init_23 : decode cX4_init 23 = .ok (.newarray .int, 2) := by decide +kernel
theorem dX4_init_25 : decode cX4_init 25 = .ok (.putfield 18, 3) := by decide +kernel
theorem dX4_init_28 : decode cX4_init 28 = .ok (.aload_n 0, 1) := by decide +kernel
theorem dX4_init_29 : decode cX4_init 29 = .ok (.bipush 20, 2) := by decide +kernel
theorem dX4_init_31 : decode cX4_init 31 = .ok (.newarray .int, 2) := by decide +kernel
theorem dX4_init_33 : decode cX4_init 33 = .ok (.putfield 21, 3) := by decide +kernel
theorem dX4_init_36 : decode cX4_init 36 = .ok (.aload_n 0, 1) := by decide +kernel
theorem dX4_init_37 : decode cX4_init 37 = .ok (.iconst 4, 1) := by decide +kernel
theorem dX4_init_38 : decode cX4_init 38 = .ok (.newarray .int, 2) := by decide +kernel
theorem dX4_init_40 : decode cX4_init 40 = .ok (.putfield 24, 3) := by decide +kernel
theorem dX4_init_43 : decode cX4_init 43 = .ok (.aload_n 0, 1) := by decide +kernel
theorem dX4_init_44 : decode cX4_init 44 = .ok (.bipush 30, 2) := by decide +kernel
theorem dX4_init_46 : decode cX4_init 46 = .ok (.newarray .int, 2) := by decide +kernel
theorem dX4_init_48 : decode cX4_init 48 = .ok (.putfield 27, 3) := by decide +kernel
theorem dX4_init_51 : decode cX4_init 51 = .ok (.aload_n 0, 1) := by decide +kernel
theorem dX4_init_52 : decode cX4_init 52 = .ok (.iconst 0, 1) := by decide +kernel
theorem dX4_init_53 : decode cX4_init 53 = .ok (.putfield 30, 3) := by decide +kernel
theorem dX4_init_56 : decode cX4_init 56 = .ok (.aload_n 0, 1) := by decide +kernel
theorem dX4_init_57 : decode cX4_init 57 = .ok (.aload_n 1, 1) := by decide +kernel
theorem dX4_init_58 : decode cX4_init 58 = .ok (.putfield 34, 3) := by decide +kernel
theorem dX4_init_61 : decode cX4_init 61 = .ok (.getstatic 38, 3) := by decide +kernel
theorem dX4_init_64 : decode cX4_init 64 = .ok (.iconst 0, 1) := by decide +kernel
theorem dX4_init_65 : decode cX4_init 65 = .ok (.aload_n 0, 1) := by decide +kernel
theorem dX4_init_66 : decode cX4_init 66 = .ok (.getfield 9, 3) := by decide +kernel
theorem dX4_init_69 : decode cX4_init 69 = .ok (.iconst 0, 1) := by decide +kernel
theorem dX4_init_70 : decode cX4_init 70 = .ok (.bipush 7, 2) := by decide +kernel
theorem dX4_init_72 : decode cX4_init 72 = .ok (.invokestatic 41, 3) := by decide +kernel
theorem dX4_init_75 : decode cX4_init 75 = .ok (.return_, 1) := by decide +kernel
theorem dX4_copy_0 : decode cX4_copy 0 = .ok (.aload_n 1, 1) := by decide +kernel
theorem dX4_copy_1 : decode cX4_copy 1 = .ok (.getfield 9, 3) := by decide +kernel
theorem dX4_copy_4 : decode cX4_copy 4 = .ok (.iconst 0, 1) := by decide +kernel
theorem dX4_copy_5 : decode cX4_copy 5 = .ok (.aload_n 0, 1) := by decide +kernel
theorem dX4_copy_6 : decode cX4_copy 6 = .ok (.getfield 9, 3) := by decide +kernel
theorem dX4_copy_9 : decode cX4_copy 9 = .ok (.iconst 0, 1) := by decide +kernel
theorem dX4_copy_10 : decode cX4_copy 10 = .ok (.bipush 7, 2) := by decide +kernel
theorem dX4_copy_12 : decode cX4_copy 12 = .ok (.invokestatic 41, 3) := by decide +kernel
theorem dX4_copy_15 : decode cX4_copy 15 = .ok (.aload_n 1, 1) := by decide +kernel
theorem dX4_copy_16 : decode cX4_copy 16 = .ok (.getfield 15, 3) := by decide +kernel
theorem dX4_copy_19 : decode cX4_copy 19 = .ok (.iconst 0, 1) := by decide +kernel
theorem dX4_copy_20 : decode cX4_copy 20 = .ok (.aload_n 0, 1) := by decide +kernel
theorem dX4_copy_21 : decode cX4_copy 21 = .ok (.getfield 15, 3) := by decide +kernel
theorem dX4_copy_24 : decode cX4_copy 24 = .ok (.iconst 0, 1) := by decide +kernel
theorem dX4_copy_25 : decode cX4_copy 25 = .ok (.bipush 20, 2) := by decide +kernel
theorem dX4_copy_27 : decode cX4_copy 27 = .ok (.invokestatic 41, 3) := by decide +kernel
theorem dX4_copy_30 : decode cX4_copy 30 = .ok (.aload_n 1, 1) := by decide +kernel
theorem dX4_copy_31 : decode cX4_copy 31 = .ok (.getfield 18, 3) := by decide +kernel
theorem dX4_copy_34 : decode cX4_copy 34 = .ok (.iconst 0, 1) := by decide +kernel
theorem dX4_copy_35 : decode cX4_copy 35 = .ok (.aload_n 0, 1) := by decide +kernel
theorem dX4_copy_36 : decode cX4_copy 36 = .ok (.getfield 18, 3) := by decide +kernel
theorem dX4_copy_39 : decode cX4_copy 39 = .ok (.iconst 0, 1) := by decide +kernel
theorem dX4_copy_40 : decode cX4_copy 40 = .ok (.bipush 20, 2) := by decide +kernel
theorem dX4_copy_42 : decode cX4_copy 42 = .ok (.invokestatic 41, 3) := by decide +kernel
theorem dX4_copy_45 : decode cX4_copy 45 = .ok (.aload_n 1, 1) := by decide +kernel
theorem dX4_copy_46 : decode cX4_copy 46 = .ok (.getfield 21, 3) := by decide +kernel
theorem dX4_copy_49 : decode cX4_copy 49 = .ok (.iconst 0, 1) := by decide +kernel
theorem dX4_copy_50 : decode cX4_copy 50 = .ok (.aload_n 0, 1) := by decide +kernel
theorem dX4_copy_51 : decode cX4_copy 51 = .ok (.getfield 21, 3) := by decide +kernel
theorem dX4_copy_54 : decode cX4_copy 54 = .ok (.iconst 0, 1) := by decide +kernel
theorem dX4_copy_55 : decode cX4_copy 55 = .ok (.bipush 20, 2) := by decide +kernel
theorem dX4_copy_57 : decode cX4_copy 57 = .ok (.invokestatic 41, 3) := by decide +kernel
theorem dX4_copy_60 : decode cX4_copy 60 = .ok (.aload_n 1, 1) := by decide +kernel
theorem dX4_copy_61 : decode cX4_copy 61 = .ok (.getfield 24, 3) := by decide +kernel
theorem dX4_copy_64 : decode cX4_copy 64 = .ok (.iconst 0, 1) := by decide +kernel
theorem dX4_copy_65 : decode cX4_copy 65 = .ok (.aload_n 0, 1) := by decide +kernel
theorem dX4_copy_66 : decode cX4_copy 66 = .ok (.getfield 24, 3) := by decide +kernel
theorem dX4_copy_69 : decode cX4_copy 69 = .ok (.iconst 0, 1) := by decide +kernel
theorem dX4_copy_70 : decode cX4_copy 70 = .ok (.iconst 4, 1) := by decide +kernel
theorem dX4_copy_71 : decode cX4_copy 71 = .ok (.invokestatic 41, 3) := by decide +kernel
theorem dX4_copy_74 : decode cX4_copy 74 = .ok (.aload_n 1, 1) := by decide +kernel
theorem dX4_copy_75 : decode cX4_copy 75 = .ok (.getfield 27, 3) := by decide +kernel
theorem dX4_copy_78 : decode cX4_copy 78 = .ok (.iconst 0, 1) := by decide +kernel
theorem dX4_copy_79 : decode cX4_copy 79 = .ok (.aload_n 0, 1) := by decide +kernel
theorem dX4_copy_80 : decode cX4_copy 80 = .ok (.getfield 27, 3) := by decide +kernel
theorem dX4_copy_83 : decode cX4_copy 83 = .ok (.iconst 0, 1) := by decide +kernel
theorem dX4_copy_84 : decode cX4_copy 84 = .ok (.bipush 30, 2) := by decide +kernel
theorem dX4_copy_86 : decode cX4_copy 86 = .ok (.invokestatic 41, 3) := by decide +kernel
theorem dX4_copy_89 : decode cX4_copy 89 = .ok (.aload_n 0, 1) := by decide +kernel
theorem dX4_copy_90 : decode cX4_copy 90 = .ok (.aload_n 1, 1) := by decide +kernel
theorem dX4_copy_91 : decode cX4_copy 91 = .ok (.getfield 34, 3) := by decide +kernel
theorem dX4_copy_94 : decode cX4_copy 94 = .ok (.putfield 34, 3) := by decide +kernel
theorem dX4_copy_97 : decode cX4_copy 97 = .ok (.aload_n 0, 1) := by decide +kernel
theorem dX4_copy_98 : decode cX4_copy 98 = .ok (.aload_n 1, 1) := by decide +kernel
theorem dX4_copy_99 : decode cX4_copy 99 = .ok (.getfield 47, 3) := by decide +kernel
theorem dX4_copy_102 : decode cX4_copy 102 = .ok (.putfield 47, 3) := by decide +kernel
theorem dX4_copy_105 : decode cX4_copy 105 = .ok (.aload_n 0, 1) := by decide +kernel
theorem dX4_copy_106 : decode cX4_copy 106 = .ok (.aload_n 1, 1) := by decide +kernel
theorem dX4_copy_107 : decode cX4_copy 107 = .ok (.getfield 50, 3) := by decide +kernel
theorem dX4_copy_110 : decode cX4_copy 110 = .ok (.putfield 50, 3) := by decide +kernel
theorem dX4_copy_113 : decode cX4_copy 113 = .ok (.aload_n 0, 1) := by decide +kernel
theorem dX4_copy_114 : decode cX4_copy 114 = .ok (.aload_n 1, 1) := by decide +kernel
theorem dX4_copy_115 : decode cX4_copy 115 = .ok (.getfield 30, 3) := by decide +kernel
theorem dX4_copy_118 : decode cX4_copy 118 = .ok (.putfield 30, 3) := by decide +kernel
theorem dX4_copy_121 : decode cX4_copy 121 = .ok (.aload_n 0, 1) := by decide +kernel
theorem dX4_copy_122 : decode cX4_copy 122 = .ok (.aload_n 1, 1) := by decide +kernel
theorem dX4_copy_123 : decode cX4_copy 123 = .ok (.getfield 53, 3) := by decide +kernel
theorem dX4_copy_126 : decode cX4_copy 126 = .ok (.putfield 53, 3) := by decide +kernel
theorem dX4_copy_129 : decode cX4_copy 129 = .ok (.aload_n 0, 1) := by decide +kernel
theorem dX4_copy_130 : decode cX4_copy 130 = .ok (.aload_n 1, 1) := by decide +kernel
theorem dX4_copy_131 : decode cX4_copy 131 = .ok (.getfield 56, 3) := by decide +kernel
theorem dX4_copy_134 : decode cX4_copy 134 = .ok (.putfield 56, 3) := by decide +kernel
theorem dX4_copy_137 : decode cX4_copy 137 = .ok (.aload_n 0, 1) := by decide +kernel
theorem dX4_copy_138 : decode cX4_copy 138 = .ok (.aload_n 1, 1) := by decide +kernel
theorem dX4_copy_139 : decode cX4_copy 139 = .ok (.getfield 59, 3) := by decide +kernel
theorem dX4_copy_142 : decode cX4_copy 142 = .ok (.putfield 59, 3) := by decide +kernel
theorem dX4_copy_145 : decode cX4_copy 145 = .ok (.aload_n 0, 1) := by decide +kernel
theorem dX4_copy_146 : decode cX4_copy 146 = .ok (.aload_n 1, 1) := by decide +kernel
theorem dX4_copy_147 : decode cX4_copy 147 = .ok (.getfield 62, 3) := by decide +kernel
theorem dX4_copy_150 : decode cX4_copy 150 = .ok (.putfield 62, 3) := by decide +kernel
theorem dX4_copy_153 : decode cX4_copy 153 = .ok (.aload_n 0, 1) := by decide +kernel
theorem dX4_copy_154 : decode cX4_copy 154 = .ok (.aload_n 1, 1) := by decide +kernel
theorem dX4_copy_155 : decode cX4_copy 155 = .ok (.getfield 65, 3) := by decide +kernel
theorem dX4_copy_158 : decode cX4_copy 158 = .ok (.putfield 65, 3) := by decide +kernel
theorem dX4_copy_161 : decode cX4_copy 161 = .ok (.aload_n 0, 1) := by decide +kernel
theorem dX4_copy_162 : decode cX4_copy 162 = .ok (.aload_n 1, 1) := by decide +kernel
theorem dX4_copy_163 : decode cX4_copy 163 = .ok (.getfield 68, 3) := by decide +kernel
theorem dX4_copy_166 : decode cX4_copy 166 = .ok (.putfield 68, 3) := by decide +kernel
theorem dX4_copy_169 : decode cX4_copy 169 = .ok (.aload_n 0, 1) := by decide +kernel
theorem dX4_copy_170 : decode cX4_copy 170 = .ok (.aload_n 1, 1) := by decide +kernel
theorem dX4_copy_171 : decode cX4_copy 171 = .ok (.getfield 71, 3) := by decide +kernel
theorem dX4_copy_174 : decode cX4_copy 174 = .ok (.putfield 71, 3) := by decide +kernel
theorem dX4_copy_177 : decode cX4_copy 177 = .ok (.aload_n 0, 1) := by decide +kernel
theorem dX4_copy_178 : decode cX4_copy 178 = .ok (.aload_n 1, 1) := by decide +kernel
theorem dX4_copy_179 : decode cX4_copy 179 = .ok (.getfield 74, 3) := by decide +kernel
theorem dX4_copy_182 : decode cX4_copy 182 = .ok (.putfield 74, 3) := by decide +kernel
theorem dX4_copy_185 : decode cX4_copy 185 = .ok (.return_, 1) := by decide +kernel
theorem dX4_number_0 : decode cX4_number 0 = .ok (.iload_n 1, 1) := by decide +kernel
theorem dX4_number_1 : decode cX4_number 1 = .ok (.tableswitch 114 0 10 #[59, 64, 69, 74, 79, 84, 89, 94, 99, 104, 109], 59) := by decide +kernel
theorem dX4_number_60 : decode cX4_number 60 = .ok (.aload_n 0, 1) := by decide +kernel
theorem dX4_number_61 : decode cX4_number 61 = .ok (.getfield 53, 3) := by decide +kernel
theorem dX4_number_64 : decode cX4_number 64 = .ok (.ireturn, 1) := by decide +kernel
theorem dX4_number_65 : decode cX4_number 65 = .ok (.aload_n 0, 1) := by decide +kernel
theorem dX4_number_66 : decode cX4_number 66 = .ok (.getfield 47, 3) := by decide +kernel
theorem dX4_number_69 : decode cX4_number 69 = .ok (.ireturn, 1) := by decide +kernel
theorem dX4_number_70 : decode cX4_number 70 = .ok (.aload_n 0, 1) := by decide +kernel
theorem dX4_number_71 : decode cX4_number 71 = .ok (.invokevirtual 77, 3) := by decide +kernel
theorem dX4_number_74 : decode cX4_number 74 = .ok (.ireturn, 1) := by decide +kernel
theorem dX4_number_75 : decode cX4_number 75 = .ok (.aload_n 0, 1) := by decide +kernel
theorem dX4_number_76 : decode cX4_number 76 = .ok (.getfield 56, 3) := by decide +kernel
theorem dX4_number_79 : decode cX4_number 79 = .ok (.ireturn, 1) := by decide +kernel
theorem dX4_number_80 : decode cX4_number 80 = .ok (.aload_n 0, 1) := by decide +kernel
theorem dX4_number_81 : decode cX4_number 81 = .ok (.getfield 30, 3) := by decide +kernel
theorem dX4_number_84 : decode cX4_number 84 = .ok (.ireturn, 1) := by decide +kernel
theorem dX4_number_85 : decode cX4_number 85 = .ok (.aload_n 0, 1) := by decide +kernel
theorem dX4_number_86 : decode cX4_number 86 = .ok (.getfield 59, 3) := by decide +kernel
theorem dX4_number_89 : decode cX4_number 89 = .ok (.ireturn, 1) := by decide +kernel
theorem dX4_number_90 : decode cX4_number 90 = .ok (.aload_n 0, 1) := by decide +kernel
theorem dX4_number_91 : decode cX4_number 91 = .ok (.getfield 62, 3) := by decide +kernel
theorem dX4_number_94 : decode cX4_number 94 = .ok (.ireturn, 1) := by decide +kernel
theorem dX4_number_95 : decode cX4_number 95 = .ok (.aload_n 0, 1) := by decide +kernel
theorem dX4_number_96 : decode cX4_number 96 = .ok (.getfield 65, 3) := by decide +kernel
theorem dX4_number_99 : decode cX4_number 99 = .ok (.ireturn, 1) := by decide +kernel
theorem dX4_number_100 : decode cX4_number 100 = .ok (.aload_n 0, 1) := by decide +kernel
theorem dX4_number_101 : decode cX4_number 101 = .ok (.getfield 68, 3) := by decide +kernel
theorem dX4_number_104 : decode cX4_number 104 = .ok (.ireturn, 1) := by decide +kernel
theorem dX4_number_105 : decode cX4_number 105 = .ok (.aload_n 0, 1) := by decide +kernel
theorem dX4_number_106 : decode cX4_number 106 = .ok (.getfield 71, 3) := by decide +kernel
theorem dX4_number_109 : decode cX4_number 109 = .ok (.ireturn, 1) := by decide +kernel
theorem dX4_number_110 : decode cX4_number 110 = .ok (.aload_n 0, 1) := by decide +kernel
theorem dX4_number_111 : decode cX4_number 111 = .ok (.getfield 74, 3) := by decide +kernel
theorem dX4_number_114 : decode cX4_number 114 = .ok (.ireturn, 1) := by decide +kernel
theorem dX4_number_115 : decode cX4_number 115 = .ok (.aload_n 0, 1) := by decide +kernel
theorem dX4_number_116 : decode cX4_number 116 = .ok (.iload_n 1, 1) := by decide +kernel
theorem dX4_number_117 : decode cX4_number 117 = .ok (.bipush 11, 2) := by decide +kernel
theorem dX4_number_119 : decode cX4_number 119 = .ok (.isub, 1) := by decide +kernel
theorem dX4_number_120 : decode cX4_number 120 = .ok (.invokevirtual 81, 3) := by decide +kernel
theorem dX4_number_123 : decode cX4_number 123 = .ok (.ireturn, 1) := by decide +kernel
theorem dX4_settingCounted_0 : decode cX4_settingCounted 0 = .ok (.iload_n 1, 1) := by decide +kernel
theorem dX4_settingCounted_1 : decode cX4_settingCounted 1 = .ok (.ifCond .lt 18, 3) := by decide +kernel
theorem dX4_settingCounted_4 : decode cX4_settingCounted 4 = .ok (.iload_n 1, 1) := by decide +kernel
theorem dX4_settingCounted_5 : decode cX4_settingCounted 5 = .ok (.bipush 7, 2) := by decide +kernel
theorem dX4_settingCounted_7 : decode cX4_settingCounted 7 = .ok (.if_icmp .ge 12, 3) := by decide +kernel
theorem dX4_settingCounted_10 : decode cX4_settingCounted 10 = .ok (.aload_n 0, 1) := by decide +kernel
theorem dX4_settingCounted_11 : decode cX4_settingCounted 11 = .ok (.getfield 9, 3) := by decide +kernel
theorem dX4_settingCounted_14 : decode cX4_settingCounted 14 = .ok (.iload_n 1, 1) := by decide +kernel
theorem dX4_settingCounted_15 : decode cX4_settingCounted 15 = .ok (.iaload, 1) := by decide +kernel
theorem dX4_settingCounted_16 : decode cX4_settingCounted 16 = .ok (.goto 5, 3) := by decide +kernel
theorem dX4_settingCounted_19 : decode cX4_settingCounted 19 = .ok (.bipush (-2), 2) := by decide +kernel
theorem dX4_settingCounted_21 : decode cX4_settingCounted 21 = .ok (.ireturn, 1) := by decide +kernel
theorem dX4_totalWeight_0 : decode cX4_totalWeight 0 = .ok (.iconst 0, 1) := by decide +kernel
theorem dX4_totalWeight_1 : decode cX4_totalWeight 1 = .ok (.istore_n 1, 1) := by decide +kernel
theorem dX4_totalWeight_2 : decode cX4_totalWeight 2 = .ok (.iconst 0, 1) := by decide +kernel
theorem dX4_totalWeight_3 : decode cX4_totalWeight 3 = .ok (.istore_n 2, 1) := by decide +kernel
theorem dX4_totalWeight_4 : decode cX4_totalWeight 4 = .ok (.iload_n 2, 1) := by decide +kernel
theorem dX4_totalWeight_5 : decode cX4_totalWeight 5 = .ok (.aload_n 0, 1) := by decide +kernel
theorem dX4_totalWeight_6 : decode cX4_totalWeight 6 = .ok (.getfield 47, 3) := by decide +kernel
theorem dX4_totalWeight_9 : decode cX4_totalWeight 9 = .ok (.if_icmp .ge 24, 3) := by decide +kernel
theorem dX4_totalWeight_12 : decode cX4_totalWeight 12 = .ok (.iload_n 2, 1) := by decide +kernel
theorem dX4_totalWeight_13 : decode cX4_totalWeight 13 = .ok (.bipush 20, 2) := by decide +kernel
theorem dX4_totalWeight_15 : decode cX4_totalWeight 15 = .ok (.if_icmp .ge 18, 3) := by decide +kernel
theorem dX4_totalWeight_18 : decode cX4_totalWeight 18 = .ok (.iload_n 1, 1) := by decide +kernel
theorem dX4_totalWeight_19 : decode cX4_totalWeight 19 = .ok (.aload_n 0, 1) := by decide +kernel
theorem dX4_totalWeight_20 : decode cX4_totalWeight 20 = .ok (.getfield 18, 3) := by decide +kernel
theorem dX4_totalWeight_23 : decode cX4_totalWeight 23 = .ok (.iload_n 2, 1) := by decide +kernel
theorem dX4_totalWeight_24 : decode cX4_totalWeight 24 = .ok (.iaload, 1) := by decide +kernel
theorem dX4_totalWeight_25 : decode cX4_totalWeight 25 = .ok (.iadd, 1) := by decide +kernel
theorem dX4_totalWeight_26 : decode cX4_totalWeight 26 = .ok (.istore_n 1, 1) := by decide +kernel
theorem dX4_totalWeight_27 : decode cX4_totalWeight 27 = .ok (.iinc 2 1, 3) := by decide +kernel
theorem dX4_totalWeight_30 : decode cX4_totalWeight 30 = .ok (.goto (-26), 3) := by decide +kernel
theorem dX4_totalWeight_33 : decode cX4_totalWeight 33 = .ok (.iload_n 1, 1) := by decide +kernel
theorem dX4_totalWeight_34 : decode cX4_totalWeight 34 = .ok (.ireturn, 1) := by decide +kernel
theorem dX4_stepOn_0 : decode cX4_stepOn 0 = .ok (.aload_n 0, 1) := by decide +kernel
theorem dX4_stepOn_1 : decode cX4_stepOn 1 = .ok (.getfield 47, 3) := by decide +kernel
theorem dX4_stepOn_4 : decode cX4_stepOn 4 = .ok (.bipush 20, 2) := by decide +kernel
theorem dX4_stepOn_6 : decode cX4_stepOn 6 = .ok (.if_icmp .lt 4, 3) := by decide +kernel
theorem dX4_stepOn_9 : decode cX4_stepOn 9 = .ok (.return_, 1) := by decide +kernel
theorem dX4_stepOn_10 : decode cX4_stepOn 10 = .ok (.aload_n 0, 1) := by decide +kernel
theorem dX4_stepOn_11 : decode cX4_stepOn 11 = .ok (.getfield 15, 3) := by decide +kernel
theorem dX4_stepOn_14 : decode cX4_stepOn 14 = .ok (.aload_n 0, 1) := by decide +kernel
theorem dX4_stepOn_15 : decode cX4_stepOn 15 = .ok (.getfield 47, 3) := by decide +kernel
theorem dX4_stepOn_18 : decode cX4_stepOn 18 = .ok (.iconst 0, 1) := by decide +kernel
theorem dX4_stepOn_19 : decode cX4_stepOn 19 = .ok (.iastore, 1) := by decide +kernel
theorem dX4_stepOn_20 : decode cX4_stepOn 20 = .ok (.aload_n 0, 1) := by decide +kernel
theorem dX4_stepOn_21 : decode cX4_stepOn 21 = .ok (.getfield 18, 3) := by decide +kernel
theorem dX4_stepOn_24 : decode cX4_stepOn 24 = .ok (.aload_n 0, 1) := by decide +kernel
theorem dX4_stepOn_25 : decode cX4_stepOn 25 = .ok (.getfield 47, 3) := by decide +kernel
theorem dX4_stepOn_28 : decode cX4_stepOn 28 = .ok (.iload_n 1, 1) := by decide +kernel
theorem dX4_stepOn_29 : decode cX4_stepOn 29 = .ok (.iastore, 1) := by decide +kernel
theorem dX4_stepOn_30 : decode cX4_stepOn 30 = .ok (.aload_n 0, 1) := by decide +kernel
theorem dX4_stepOn_31 : decode cX4_stepOn 31 = .ok (.getfield 21, 3) := by decide +kernel
theorem dX4_stepOn_34 : decode cX4_stepOn 34 = .ok (.aload_n 0, 1) := by decide +kernel
theorem dX4_stepOn_35 : decode cX4_stepOn 35 = .ok (.getfield 47, 3) := by decide +kernel
theorem dX4_stepOn_38 : decode cX4_stepOn 38 = .ok (.aload_n 0, 1) := by decide +kernel
theorem dX4_stepOn_39 : decode cX4_stepOn 39 = .ok (.getfield 53, 3) := by decide +kernel
theorem dX4_stepOn_42 : decode cX4_stepOn 42 = .ok (.iastore, 1) := by decide +kernel
theorem dX4_stepOn_43 : decode cX4_stepOn 43 = .ok (.aload_n 0, 1) := by decide +kernel
theorem dX4_stepOn_44 : decode cX4_stepOn 44 = .ok (.dup, 1) := by decide +kernel
theorem dX4_stepOn_45 : decode cX4_stepOn 45 = .ok (.getfield 47, 3) := by decide +kernel
theorem dX4_stepOn_48 : decode cX4_stepOn 48 = .ok (.iconst 1, 1) := by decide +kernel
theorem dX4_stepOn_49 : decode cX4_stepOn 49 = .ok (.iadd, 1) := by decide +kernel
theorem dX4_stepOn_50 : decode cX4_stepOn 50 = .ok (.putfield 47, 3) := by decide +kernel
theorem dX4_stepOn_53 : decode cX4_stepOn 53 = .ok (.return_, 1) := by decide +kernel
theorem dX4_complains_0 : decode cX4_complains 0 = .ok (.aload_n 0, 1) := by decide +kernel
theorem dX4_complains_1 : decode cX4_complains 1 = .ok (.getfield 50, 3) := by decide +kernel
theorem dX4_complains_4 : decode cX4_complains 4 = .ok (.iconst 2, 1) := by decide +kernel
theorem dX4_complains_5 : decode cX4_complains 5 = .ok (.iload_n 1, 1) := by decide +kernel
theorem dX4_complains_6 : decode cX4_complains 6 = .ok (.imul, 1) := by decide +kernel
theorem dX4_complains_7 : decode cX4_complains 7 = .ok (.iload_n 2, 1) := by decide +kernel
theorem dX4_complains_8 : decode cX4_complains 8 = .ok (.iadd, 1) := by decide +kernel
theorem dX4_complains_9 : decode cX4_complains 9 = .ok (.ishr, 1) := by decide +kernel
theorem dX4_complains_10 : decode cX4_complains 10 = .ok (.iconst 1, 1) := by decide +kernel
theorem dX4_complains_11 : decode cX4_complains 11 = .ok (.iand, 1) := by decide +kernel
theorem dX4_complains_12 : decode cX4_complains 12 = .ok (.ireturn, 1) := by decide +kernel
theorem dX4_setComplaint_0 : decode cX4_setComplaint 0 = .ok (.iconst 2, 1) := by decide +kernel
theorem dX4_setComplaint_1 : decode cX4_setComplaint 1 = .ok (.iload_n 1, 1) := by decide +kernel
theorem dX4_setComplaint_2 : decode cX4_setComplaint 2 = .ok (.imul, 1) := by decide +kernel
theorem dX4_setComplaint_3 : decode cX4_setComplaint 3 = .ok (.iload_n 2, 1) := by decide +kernel
theorem dX4_setComplaint_4 : decode cX4_setComplaint 4 = .ok (.iadd, 1) := by decide +kernel
theorem dX4_setComplaint_5 : decode cX4_setComplaint 5 = .ok (.istore 4, 2) := by decide +kernel
theorem dX4_setComplaint_7 : decode cX4_setComplaint 7 = .ok (.aload_n 0, 1) := by decide +kernel
theorem dX4_setComplaint_8 : decode cX4_setComplaint 8 = .ok (.aload_n 0, 1) := by decide +kernel
theorem dX4_setComplaint_9 : decode cX4_setComplaint 9 = .ok (.getfield 50, 3) := by decide +kernel
theorem dX4_setComplaint_12 : decode cX4_setComplaint 12 = .ok (.iconst 1, 1) := by decide +kernel
theorem dX4_setComplaint_13 : decode cX4_setComplaint 13 = .ok (.iload 4, 2) := by decide +kernel
theorem dX4_setComplaint_15 : decode cX4_setComplaint 15 = .ok (.ishl, 1) := by decide +kernel
theorem dX4_setComplaint_16 : decode cX4_setComplaint 16 = .ok (.iconst (-1), 1) := by decide +kernel
theorem dX4_setComplaint_17 : decode cX4_setComplaint 17 = .ok (.ixor, 1) := by decide +kernel
theorem dX4_setComplaint_18 : decode cX4_setComplaint 18 = .ok (.iand, 1) := by decide +kernel
theorem dX4_setComplaint_19 : decode cX4_setComplaint 19 = .ok (.iload_n 3, 1) := by decide +kernel
theorem dX4_setComplaint_20 : decode cX4_setComplaint 20 = .ok (.iload 4, 2) := by decide +kernel
theorem dX4_setComplaint_22 : decode cX4_setComplaint 22 = .ok (.ishl, 1) := by decide +kernel
theorem dX4_setComplaint_23 : decode cX4_setComplaint 23 = .ok (.ior, 1) := by decide +kernel
theorem dX4_setComplaint_24 : decode cX4_setComplaint 24 = .ok (.putfield 50, 3) := by decide +kernel
theorem dX4_setComplaint_27 : decode cX4_setComplaint 27 = .ok (.return_, 1) := by decide +kernel
theorem dX4_ruleHolds_0 : decode cX4_ruleHolds 0 = .ok (.aload_n 0, 1) := by decide +kernel
theorem dX4_ruleHolds_1 : decode cX4_ruleHolds 1 = .ok (.getfield 34, 3) := by decide +kernel
theorem dX4_ruleHolds_4 : decode cX4_ruleHolds 4 = .ok (.aload_n 0, 1) := by decide +kernel
theorem dX4_ruleHolds_5 : decode cX4_ruleHolds 5 = .ok (.getfield 50, 3) := by decide +kernel
theorem dX4_ruleHolds_8 : decode cX4_ruleHolds 8 = .ok (.invokevirtual 85, 3) := by decide +kernel
theorem dX4_ruleHolds_11 : decode cX4_ruleHolds 11 = .ok (.ireturn, 1) := by decide +kernel
theorem dX4_beginStop_0 : decode cX4_beginStop 0 = .ok (.aload_n 0, 1) := by decide +kernel
theorem dX4_beginStop_1 : decode cX4_beginStop 1 = .ok (.iconst 1, 1) := by decide +kernel
theorem dX4_beginStop_2 : decode cX4_beginStop 2 = .ok (.putfield 30, 3) := by decide +kernel
theorem dX4_beginStop_5 : decode cX4_beginStop 5 = .ok (.aload_n 0, 1) := by decide +kernel
theorem dX4_beginStop_6 : decode cX4_beginStop 6 = .ok (.dup, 1) := by decide +kernel
theorem dX4_beginStop_7 : decode cX4_beginStop 7 = .ok (.getfield 65, 3) := by decide +kernel
theorem dX4_beginStop_10 : decode cX4_beginStop 10 = .ok (.iconst 1, 1) := by decide +kernel
theorem dX4_beginStop_11 : decode cX4_beginStop 11 = .ok (.iadd, 1) := by decide +kernel
theorem dX4_beginStop_12 : decode cX4_beginStop 12 = .ok (.putfield 65, 3) := by decide +kernel
theorem dX4_beginStop_15 : decode cX4_beginStop 15 = .ok (.aload_n 0, 1) := by decide +kernel
theorem dX4_beginStop_16 : decode cX4_beginStop 16 = .ok (.getfield 27, 3) := by decide +kernel
theorem dX4_beginStop_19 : decode cX4_beginStop 19 = .ok (.iconst 0, 1) := by decide +kernel
theorem dX4_beginStop_20 : decode cX4_beginStop 20 = .ok (.aload_n 0, 1) := by decide +kernel
theorem dX4_beginStop_21 : decode cX4_beginStop 21 = .ok (.getfield 27, 3) := by decide +kernel
theorem dX4_beginStop_24 : decode cX4_beginStop 24 = .ok (.iconst 5, 1) := by decide +kernel
theorem dX4_beginStop_25 : decode cX4_beginStop 25 = .ok (.bipush 25, 2) := by decide +kernel
theorem dX4_beginStop_27 : decode cX4_beginStop 27 = .ok (.invokestatic 41, 3) := by decide +kernel
theorem dX4_beginStop_30 : decode cX4_beginStop 30 = .ok (.aload_n 0, 1) := by decide +kernel
theorem dX4_beginStop_31 : decode cX4_beginStop 31 = .ok (.getfield 27, 3) := by decide +kernel
theorem dX4_beginStop_34 : decode cX4_beginStop 34 = .ok (.iconst 0, 1) := by decide +kernel
theorem dX4_beginStop_35 : decode cX4_beginStop 35 = .ok (.aload_n 0, 1) := by decide +kernel
theorem dX4_beginStop_36 : decode cX4_beginStop 36 = .ok (.getfield 53, 3) := by decide +kernel
theorem dX4_beginStop_39 : decode cX4_beginStop 39 = .ok (.iastore, 1) := by decide +kernel
theorem dX4_beginStop_40 : decode cX4_beginStop 40 = .ok (.aload_n 0, 1) := by decide +kernel
theorem dX4_beginStop_41 : decode cX4_beginStop 41 = .ok (.getfield 27, 3) := by decide +kernel
theorem dX4_beginStop_44 : decode cX4_beginStop 44 = .ok (.iconst 1, 1) := by decide +kernel
theorem dX4_beginStop_45 : decode cX4_beginStop 45 = .ok (.aload_n 0, 1) := by decide +kernel
theorem dX4_beginStop_46 : decode cX4_beginStop 46 = .ok (.getfield 56, 3) := by decide +kernel
theorem dX4_beginStop_49 : decode cX4_beginStop 49 = .ok (.iastore, 1) := by decide +kernel
theorem dX4_beginStop_50 : decode cX4_beginStop 50 = .ok (.aload_n 0, 1) := by decide +kernel
theorem dX4_beginStop_51 : decode cX4_beginStop 51 = .ok (.getfield 27, 3) := by decide +kernel
theorem dX4_beginStop_54 : decode cX4_beginStop 54 = .ok (.iconst 2, 1) := by decide +kernel
theorem dX4_beginStop_55 : decode cX4_beginStop 55 = .ok (.aload_n 0, 1) := by decide +kernel
theorem dX4_beginStop_56 : decode cX4_beginStop 56 = .ok (.invokevirtual 77, 3) := by decide +kernel
theorem dX4_beginStop_59 : decode cX4_beginStop 59 = .ok (.iastore, 1) := by decide +kernel
theorem dX4_beginStop_60 : decode cX4_beginStop 60 = .ok (.aload_n 0, 1) := by decide +kernel
theorem dX4_beginStop_61 : decode cX4_beginStop 61 = .ok (.getfield 27, 3) := by decide +kernel
theorem dX4_beginStop_64 : decode cX4_beginStop 64 = .ok (.iconst 3, 1) := by decide +kernel
theorem dX4_beginStop_65 : decode cX4_beginStop 65 = .ok (.aload_n 0, 1) := by decide +kernel
theorem dX4_beginStop_66 : decode cX4_beginStop 66 = .ok (.getfield 50, 3) := by decide +kernel
theorem dX4_beginStop_69 : decode cX4_beginStop 69 = .ok (.iastore, 1) := by decide +kernel
theorem dX4_beginStop_70 : decode cX4_beginStop 70 = .ok (.aload_n 0, 1) := by decide +kernel
theorem dX4_beginStop_71 : decode cX4_beginStop 71 = .ok (.getfield 27, 3) := by decide +kernel
theorem dX4_beginStop_74 : decode cX4_beginStop 74 = .ok (.iconst 4, 1) := by decide +kernel
theorem dX4_beginStop_75 : decode cX4_beginStop 75 = .ok (.iload_n 1, 1) := by decide +kernel
theorem dX4_beginStop_76 : decode cX4_beginStop 76 = .ok (.iastore, 1) := by decide +kernel
theorem dX4_beginStop_77 : decode cX4_beginStop 77 = .ok (.return_, 1) := by decide +kernel
theorem dX4_passTick_0 : decode cX4_passTick 0 = .ok (.aload_n 0, 1) := by decide +kernel
theorem dX4_passTick_1 : decode cX4_passTick 1 = .ok (.getfield 30, 3) := by decide +kernel
theorem dX4_passTick_4 : decode cX4_passTick 4 = .ok (.ifCond .ne 12, 3) := by decide +kernel
theorem dX4_passTick_7 : decode cX4_passTick 7 = .ok (.iload_n 1, 1) := by decide +kernel
theorem dX4_passTick_8 : decode cX4_passTick 8 = .ok (.ifCond .eq 8, 3) := by decide +kernel
theorem dX4_passTick_11 : decode cX4_passTick 11 = .ok (.aload_n 0, 1) := by decide +kernel
theorem dX4_passTick_12 : decode cX4_passTick 12 = .ok (.iconst 0, 1) := by decide +kernel
theorem dX4_passTick_13 : decode cX4_passTick 13 = .ok (.invokevirtual 91, 3) := by decide +kernel
theorem dX4_passTick_16 : decode cX4_passTick 16 = .ok (.aload_n 0, 1) := by decide +kernel
theorem dX4_passTick_17 : decode cX4_passTick 17 = .ok (.invokevirtual 95, 3) := by decide +kernel
theorem dX4_passTick_20 : decode cX4_passTick 20 = .ok (.aload_n 0, 1) := by decide +kernel
theorem dX4_passTick_21 : decode cX4_passTick 21 = .ok (.invokevirtual 77, 3) := by decide +kernel
theorem dX4_passTick_24 : decode cX4_passTick 24 = .ok (.istore_n 2, 1) := by decide +kernel
theorem dX4_passTick_25 : decode cX4_passTick 25 = .ok (.aload_n 0, 1) := by decide +kernel
theorem dX4_passTick_26 : decode cX4_passTick 26 = .ok (.aload_n 0, 1) := by decide +kernel
theorem dX4_passTick_27 : decode cX4_passTick 27 = .ok (.iload_n 2, 1) := by decide +kernel
theorem dX4_passTick_28 : decode cX4_passTick 28 = .ok (.invokevirtual 98, 3) := by decide +kernel
theorem dX4_passTick_31 : decode cX4_passTick 31 = .ok (.iload_n 2, 1) := by decide +kernel
theorem dX4_passTick_32 : decode cX4_passTick 32 = .ok (.invokevirtual 101, 3) := by decide +kernel
theorem dX4_passTick_35 : decode cX4_passTick 35 = .ok (.aload_n 0, 1) := by decide +kernel
theorem dX4_passTick_36 : decode cX4_passTick 36 = .ok (.invokevirtual 105, 3) := by decide +kernel
theorem dX4_passTick_39 : decode cX4_passTick 39 = .ok (.aload_n 0, 1) := by decide +kernel
theorem dX4_passTick_40 : decode cX4_passTick 40 = .ok (.getfield 30, 3) := by decide +kernel
theorem dX4_passTick_43 : decode cX4_passTick 43 = .ok (.iconst 1, 1) := by decide +kernel
theorem dX4_passTick_44 : decode cX4_passTick 44 = .ok (.if_icmp .ne 15, 3) := by decide +kernel
theorem dX4_passTick_47 : decode cX4_passTick 47 = .ok (.aload_n 0, 1) := by decide +kernel
theorem dX4_passTick_48 : decode cX4_passTick 48 = .ok (.getfield 56, 3) := by decide +kernel
theorem dX4_passTick_51 : decode cX4_passTick 51 = .ok (.ifCond .ne 8, 3) := by decide +kernel
theorem dX4_passTick_54 : decode cX4_passTick 54 = .ok (.aload_n 0, 1) := by decide +kernel
theorem dX4_passTick_55 : decode cX4_passTick 55 = .ok (.iconst 2, 1) := by decide +kernel
theorem dX4_passTick_56 : decode cX4_passTick 56 = .ok (.putfield 30, 3) := by decide +kernel
theorem dX4_passTick_59 : decode cX4_passTick 59 = .ok (.aload_n 0, 1) := by decide +kernel
theorem dX4_passTick_60 : decode cX4_passTick 60 = .ok (.aload_n 0, 1) := by decide +kernel
theorem dX4_passTick_61 : decode cX4_passTick 61 = .ok (.getfield 47, 3) := by decide +kernel
theorem dX4_passTick_64 : decode cX4_passTick 64 = .ok (.ifCond .ne 12, 3) := by decide +kernel
theorem dX4_passTick_67 : decode cX4_passTick 67 = .ok (.aload_n 0, 1) := by decide +kernel
theorem dX4_passTick_68 : decode cX4_passTick 68 = .ok (.getfield 68, 3) := by decide +kernel
theorem dX4_passTick_71 : decode cX4_passTick 71 = .ok (.iconst 1, 1) := by decide +kernel
theorem dX4_passTick_72 : decode cX4_passTick 72 = .ok (.iadd, 1) := by decide +kernel
theorem dX4_passTick_73 : decode cX4_passTick 73 = .ok (.goto 4, 3) := by decide +kernel
theorem dX4_passTick_76 : decode cX4_passTick 76 = .ok (.iconst 0, 1) := by decide +kernel
theorem dX4_passTick_77 : decode cX4_passTick 77 = .ok (.putfield 68, 3) := by decide +kernel
theorem dX4_passTick_80 : decode cX4_passTick 80 = .ok (.aload_n 0, 1) := by decide +kernel
theorem dX4_passTick_81 : decode cX4_passTick 81 = .ok (.dup, 1) := by decide +kernel
theorem dX4_passTick_82 : decode cX4_passTick 82 = .ok (.getfield 53, 3) := by decide +kernel
theorem dX4_passTick_85 : decode cX4_passTick 85 = .ok (.iconst 1, 1) := by decide +kernel
theorem dX4_passTick_86 : decode cX4_passTick 86 = .ok (.iadd, 1) := by decide +kernel
theorem dX4_passTick_87 : decode cX4_passTick 87 = .ok (.putfield 53, 3) := by decide +kernel
theorem dX4_passTick_90 : decode cX4_passTick 90 = .ok (.return_, 1) := by decide +kernel
theorem dX4_countDisagreements_0 : decode cX4_countDisagreements 0 = .ok (.iconst 0, 1) := by decide +kernel
theorem dX4_countDisagreements_1 : decode cX4_countDisagreements 1 = .ok (.istore_n 1, 1) := by decide +kernel
theorem dX4_countDisagreements_2 : decode cX4_countDisagreements 2 = .ok (.iload_n 1, 1) := by decide +kernel
theorem dX4_countDisagreements_3 : decode cX4_countDisagreements 3 = .ok (.iconst 4, 1) := by decide +kernel
theorem dX4_countDisagreements_4 : decode cX4_countDisagreements 4 = .ok (.if_icmp .ge 52, 3) := by decide +kernel
theorem dX4_countDisagreements_7 : decode cX4_countDisagreements 7 = .ok (.aload_n 0, 1) := by decide +kernel
theorem dX4_countDisagreements_8 : decode cX4_countDisagreements 8 = .ok (.iload_n 1, 1) := by decide +kernel
theorem dX4_countDisagreements_9 : decode cX4_countDisagreements 9 = .ok (.iconst 0, 1) := by decide +kernel
theorem dX4_countDisagreements_10 : decode cX4_countDisagreements 10 = .ok (.invokevirtual 108, 3) := by decide +kernel
theorem dX4_countDisagreements_13 : decode cX4_countDisagreements 13 = .ok (.aload_n 0, 1) := by decide +kernel
theorem dX4_countDisagreements_14 : decode cX4_countDisagreements 14 = .ok (.iload_n 1, 1) := by decide +kernel
theorem dX4_countDisagreements_15 : decode cX4_countDisagreements 15 = .ok (.iconst 1, 1) := by decide +kernel
theorem dX4_countDisagreements_16 : decode cX4_countDisagreements 16 = .ok (.invokevirtual 108, 3) := by decide +kernel
theorem dX4_countDisagreements_19 : decode cX4_countDisagreements 19 = .ok (.if_icmp .eq 7, 3) := by decide +kernel
theorem dX4_countDisagreements_22 : decode cX4_countDisagreements 22 = .ok (.iconst 1, 1) := by decide +kernel
theorem dX4_countDisagreements_23 : decode cX4_countDisagreements 23 = .ok (.goto 4, 3) := by decide +kernel
theorem dX4_countDisagreements_26 : decode cX4_countDisagreements 26 = .ok (.iconst 0, 1) := by decide +kernel
theorem dX4_countDisagreements_27 : decode cX4_countDisagreements 27 = .ok (.istore_n 2, 1) := by decide +kernel
theorem dX4_countDisagreements_28 : decode cX4_countDisagreements 28 = .ok (.aload_n 0, 1) := by decide +kernel
theorem dX4_countDisagreements_29 : decode cX4_countDisagreements 29 = .ok (.getfield 24, 3) := by decide +kernel
theorem dX4_countDisagreements_32 : decode cX4_countDisagreements 32 = .ok (.iload_n 1, 1) := by decide +kernel
theorem dX4_countDisagreements_33 : decode cX4_countDisagreements 33 = .ok (.iload_n 2, 1) := by decide +kernel
theorem dX4_countDisagreements_34 : decode cX4_countDisagreements 34 = .ok (.ifCond .eq 14, 3) := by decide +kernel
theorem dX4_countDisagreements_37 : decode cX4_countDisagreements 37 = .ok (.aload_n 0, 1) := by decide +kernel
theorem dX4_countDisagreements_38 : decode cX4_countDisagreements 38 = .ok (.getfield 24, 3) := by decide +kernel
theorem dX4_countDisagreements_41 : decode cX4_countDisagreements 41 = .ok (.iload_n 1, 1) := by decide +kernel
theorem dX4_countDisagreements_42 : decode cX4_countDisagreements 42 = .ok (.iaload, 1) := by decide +kernel
theorem dX4_countDisagreements_43 : decode cX4_countDisagreements 43 = .ok (.iconst 1, 1) := by decide +kernel
theorem dX4_countDisagreements_44 : decode cX4_countDisagreements 44 = .ok (.iadd, 1) := by decide +kernel
theorem dX4_countDisagreements_45 : decode cX4_countDisagreements 45 = .ok (.goto 4, 3) := by decide +kernel
theorem dX4_countDisagreements_48 : decode cX4_countDisagreements 48 = .ok (.iconst 0, 1) := by decide +kernel
theorem dX4_countDisagreements_49 : decode cX4_countDisagreements 49 = .ok (.iastore, 1) := by decide +kernel
theorem dX4_countDisagreements_50 : decode cX4_countDisagreements 50 = .ok (.iinc 1 1, 3) := by decide +kernel
theorem dX4_countDisagreements_53 : decode cX4_countDisagreements 53 = .ok (.goto (-51), 3) := by decide +kernel
theorem dX4_countDisagreements_56 : decode cX4_countDisagreements 56 = .ok (.return_, 1) := by decide +kernel
theorem dX4_wantedSpeed_0 : decode cX4_wantedSpeed 0 = .ok (.aload_n 0, 1) := by decide +kernel
theorem dX4_wantedSpeed_1 : decode cX4_wantedSpeed 1 = .ok (.getfield 30, 3) := by decide +kernel
theorem dX4_wantedSpeed_4 : decode cX4_wantedSpeed 4 = .ok (.ifCond .eq 5, 3) := by decide +kernel
theorem dX4_wantedSpeed_7 : decode cX4_wantedSpeed 7 = .ok (.iconst 0, 1) := by decide +kernel
theorem dX4_wantedSpeed_8 : decode cX4_wantedSpeed 8 = .ok (.ireturn, 1) := by decide +kernel
theorem dX4_wantedSpeed_9 : decode cX4_wantedSpeed 9 = .ok (.aload_n 0, 1) := by decide +kernel
theorem dX4_wantedSpeed_10 : decode cX4_wantedSpeed 10 = .ok (.getfield 47, 3) := by decide +kernel
theorem dX4_wantedSpeed_13 : decode cX4_wantedSpeed 13 = .ok (.ifCond .ne 22, 3) := by decide +kernel
theorem dX4_wantedSpeed_16 : decode cX4_wantedSpeed 16 = .ok (.aload_n 0, 1) := by decide +kernel
theorem dX4_wantedSpeed_17 : decode cX4_wantedSpeed 17 = .ok (.getfield 68, 3) := by decide +kernel
theorem dX4_wantedSpeed_20 : decode cX4_wantedSpeed 20 = .ok (.iconst 1, 1) := by decide +kernel
theorem dX4_wantedSpeed_21 : decode cX4_wantedSpeed 21 = .ok (.iadd, 1) := by decide +kernel
theorem dX4_wantedSpeed_22 : decode cX4_wantedSpeed 22 = .ok (.aload_n 0, 1) := by decide +kernel
theorem dX4_wantedSpeed_23 : decode cX4_wantedSpeed 23 = .ok (.getfield 9, 3) := by decide +kernel
theorem dX4_wantedSpeed_26 : decode cX4_wantedSpeed 26 = .ok (.iconst 3, 1) := by decide +kernel
theorem dX4_wantedSpeed_27 : decode cX4_wantedSpeed 27 = .ok (.iaload, 1) := by decide +kernel
theorem dX4_wantedSpeed_28 : decode cX4_wantedSpeed 28 = .ok (.if_icmp .le 7, 3) := by decide +kernel
theorem dX4_wantedSpeed_31 : decode cX4_wantedSpeed 31 = .ok (.iconst 1, 1) := by decide +kernel
theorem dX4_wantedSpeed_32 : decode cX4_wantedSpeed 32 = .ok (.goto 4, 3) := by decide +kernel
theorem dX4_wantedSpeed_35 : decode cX4_wantedSpeed 35 = .ok (.iconst 0, 1) := by decide +kernel
theorem dX4_wantedSpeed_36 : decode cX4_wantedSpeed 36 = .ok (.istore_n 2, 1) := by decide +kernel
theorem dX4_wantedSpeed_37 : decode cX4_wantedSpeed 37 = .ok (.iload_n 2, 1) := by decide +kernel
theorem dX4_wantedSpeed_38 : decode cX4_wantedSpeed 38 = .ok (.ifCond .ne 10, 3) := by decide +kernel
theorem dX4_wantedSpeed_41 : decode cX4_wantedSpeed 41 = .ok (.aload_n 0, 1) := by decide +kernel
theorem dX4_wantedSpeed_42 : decode cX4_wantedSpeed 42 = .ok (.invokevirtual 112, 3) := by decide +kernel
theorem dX4_wantedSpeed_45 : decode cX4_wantedSpeed 45 = .ok (.ifCond .eq 10, 3) := by decide +kernel
theorem dX4_wantedSpeed_48 : decode cX4_wantedSpeed 48 = .ok (.aload_n 0, 1) := by decide +kernel
theorem dX4_wantedSpeed_49 : decode cX4_wantedSpeed 49 = .ok (.getfield 9, 3) := by decide +kernel
theorem dX4_wantedSpeed_52 : decode cX4_wantedSpeed 52 = .ok (.iconst 1, 1) := by decide +kernel
theorem dX4_wantedSpeed_53 : decode cX4_wantedSpeed 53 = .ok (.iaload, 1) := by decide +kernel
theorem dX4_wantedSpeed_54 : decode cX4_wantedSpeed 54 = .ok (.ireturn, 1) := by decide +kernel
theorem dX4_wantedSpeed_55 : decode cX4_wantedSpeed 55 = .ok (.iconst 1, 1) := by decide +kernel
theorem dX4_wantedSpeed_56 : decode cX4_wantedSpeed 56 = .ok (.aload_n 0, 1) := by decide +kernel
theorem dX4_wantedSpeed_57 : decode cX4_wantedSpeed 57 = .ok (.getfield 9, 3) := by decide +kernel
theorem dX4_wantedSpeed_60 : decode cX4_wantedSpeed 60 = .ok (.iconst 5, 1) := by decide +kernel
theorem dX4_wantedSpeed_61 : decode cX4_wantedSpeed 61 = .ok (.iaload, 1) := by decide +kernel
theorem dX4_wantedSpeed_62 : decode cX4_wantedSpeed 62 = .ok (.invokestatic 116, 3) := by decide +kernel
theorem dX4_wantedSpeed_65 : decode cX4_wantedSpeed 65 = .ok (.istore_n 3, 1) := by decide +kernel
theorem dX4_wantedSpeed_66 : decode cX4_wantedSpeed 66 = .ok (.aload_n 0, 1) := by decide +kernel
theorem dX4_wantedSpeed_67 : decode cX4_wantedSpeed 67 = .ok (.getfield 9, 3) := by decide +kernel
theorem dX4_wantedSpeed_70 : decode cX4_wantedSpeed 70 = .ok (.iconst 1, 1) := by decide +kernel
theorem dX4_wantedSpeed_71 : decode cX4_wantedSpeed 71 = .ok (.iaload, 1) := by decide +kernel
theorem dX4_wantedSpeed_72 : decode cX4_wantedSpeed 72 = .ok (.aload_n 0, 1) := by decide +kernel
theorem dX4_wantedSpeed_73 : decode cX4_wantedSpeed 73 = .ok (.getfield 9, 3) := by decide +kernel
theorem dX4_wantedSpeed_76 : decode cX4_wantedSpeed 76 = .ok (.iconst 0, 1) := by decide +kernel
theorem dX4_wantedSpeed_77 : decode cX4_wantedSpeed 77 = .ok (.iaload, 1) := by decide +kernel
theorem dX4_wantedSpeed_78 : decode cX4_wantedSpeed 78 = .ok (.iload_n 1, 1) := by decide +kernel
theorem dX4_wantedSpeed_79 : decode cX4_wantedSpeed 79 = .ok (.iload_n 3, 1) := by decide +kernel
theorem dX4_wantedSpeed_80 : decode cX4_wantedSpeed 80 = .ok (.idiv, 1) := by decide +kernel
theorem dX4_wantedSpeed_81 : decode cX4_wantedSpeed 81 = .ok (.isub, 1) := by decide +kernel
theorem dX4_wantedSpeed_82 : decode cX4_wantedSpeed 82 = .ok (.invokestatic 116, 3) := by decide +kernel
theorem dX4_wantedSpeed_85 : decode cX4_wantedSpeed 85 = .ok (.ireturn, 1) := by decide +kernel
theorem dX4_isInDoubt_0 : decode cX4_isInDoubt 0 = .ok (.iconst 0, 1) := by decide +kernel
theorem dX4_isInDoubt_1 : decode cX4_isInDoubt 1 = .ok (.istore_n 1, 1) := by decide +kernel
theorem dX4_isInDoubt_2 : decode cX4_isInDoubt 2 = .ok (.iload_n 1, 1) := by decide +kernel
theorem dX4_isInDoubt_3 : decode cX4_isInDoubt 3 = .ok (.iconst 4, 1) := by decide +kernel
theorem dX4_isInDoubt_4 : decode cX4_isInDoubt 4 = .ok (.if_icmp .ge 26, 3) := by decide +kernel
theorem dX4_isInDoubt_7 : decode cX4_isInDoubt 7 = .ok (.aload_n 0, 1) := by decide +kernel
theorem dX4_isInDoubt_8 : decode cX4_isInDoubt 8 = .ok (.getfield 24, 3) := by decide +kernel
theorem dX4_isInDoubt_11 : decode cX4_isInDoubt 11 = .ok (.iload_n 1, 1) := by decide +kernel
theorem dX4_isInDoubt_12 : decode cX4_isInDoubt 12 = .ok (.iaload, 1) := by decide +kernel
theorem dX4_isInDoubt_13 : decode cX4_isInDoubt 13 = .ok (.aload_n 0, 1) := by decide +kernel
theorem dX4_isInDoubt_14 : decode cX4_isInDoubt 14 = .ok (.getfield 9, 3) := by decide +kernel
theorem dX4_isInDoubt_17 : decode cX4_isInDoubt 17 = .ok (.iconst 4, 1) := by decide +kernel
theorem dX4_isInDoubt_18 : decode cX4_isInDoubt 18 = .ok (.iaload, 1) := by decide +kernel
theorem dX4_isInDoubt_19 : decode cX4_isInDoubt 19 = .ok (.if_icmp .le 5, 3) := by decide +kernel
theorem dX4_isInDoubt_22 : decode cX4_isInDoubt 22 = .ok (.iconst 1, 1) := by decide +kernel
theorem dX4_isInDoubt_23 : decode cX4_isInDoubt 23 = .ok (.ireturn, 1) := by decide +kernel
theorem dX4_isInDoubt_24 : decode cX4_isInDoubt 24 = .ok (.iinc 1 1, 3) := by decide +kernel
theorem dX4_isInDoubt_27 : decode cX4_isInDoubt 27 = .ok (.goto (-25), 3) := by decide +kernel
theorem dX4_isInDoubt_30 : decode cX4_isInDoubt 30 = .ok (.iconst 0, 1) := by decide +kernel
theorem dX4_isInDoubt_31 : decode cX4_isInDoubt 31 = .ok (.ireturn, 1) := by decide +kernel
theorem dX4_changeSpeed_0 : decode cX4_changeSpeed 0 = .ok (.aload_n 0, 1) := by decide +kernel
theorem dX4_changeSpeed_1 : decode cX4_changeSpeed 1 = .ok (.getfield 9, 3) := by decide +kernel
theorem dX4_changeSpeed_4 : decode cX4_changeSpeed 4 = .ok (.iconst 2, 1) := by decide +kernel
theorem dX4_changeSpeed_5 : decode cX4_changeSpeed 5 = .ok (.iaload, 1) := by decide +kernel
theorem dX4_changeSpeed_6 : decode cX4_changeSpeed 6 = .ok (.istore_n 3, 1) := by decide +kernel
theorem dX4_changeSpeed_7 : decode cX4_changeSpeed 7 = .ok (.iload_n 2, 1) := by decide +kernel
theorem dX4_changeSpeed_8 : decode cX4_changeSpeed 8 = .ok (.aload_n 0, 1) := by decide +kernel
theorem dX4_changeSpeed_9 : decode cX4_changeSpeed 9 = .ok (.getfield 9, 3) := by decide +kernel
theorem dX4_changeSpeed_12 : decode cX4_changeSpeed 12 = .ok (.bipush 6, 2) := by decide +kernel
theorem dX4_changeSpeed_14 : decode cX4_changeSpeed 14 = .ok (.iaload, 1) := by decide +kernel
theorem dX4_changeSpeed_15 : decode cX4_changeSpeed 15 = .ok (.if_icmp .le 11, 3) := by decide +kernel
theorem dX4_changeSpeed_18 : decode cX4_changeSpeed 18 = .ok (.iload_n 3, 1) := by decide +kernel
theorem dX4_changeSpeed_19 : decode cX4_changeSpeed 19 = .ok (.iconst 1, 1) := by decide +kernel
theorem dX4_changeSpeed_20 : decode cX4_changeSpeed 20 = .ok (.iadd, 1) := by decide +kernel
theorem dX4_changeSpeed_21 : decode cX4_changeSpeed 21 = .ok (.iconst 2, 1) := by decide +kernel
theorem dX4_changeSpeed_22 : decode cX4_changeSpeed 22 = .ok (.idiv, 1) := by decide +kernel
theorem dX4_changeSpeed_23 : decode cX4_changeSpeed 23 = .ok (.goto 4, 3) := by decide +kernel
theorem dX4_changeSpeed_26 : decode cX4_changeSpeed 26 = .ok (.iload_n 3, 1) := by decide +kernel
theorem dX4_changeSpeed_27 : decode cX4_changeSpeed 27 = .ok (.istore 4, 2) := by decide +kernel
theorem dX4_changeSpeed_29 : decode cX4_changeSpeed 29 = .ok (.iload 4, 2) := by decide +kernel
theorem dX4_changeSpeed_31 : decode cX4_changeSpeed 31 = .ok (.ineg, 1) := by decide +kernel
theorem dX4_changeSpeed_32 : decode cX4_changeSpeed 32 = .ok (.iload 4, 2) := by decide +kernel
theorem dX4_changeSpeed_34 : decode cX4_changeSpeed 34 = .ok (.iload_n 1, 1) := by decide +kernel
theorem dX4_changeSpeed_35 : decode cX4_changeSpeed 35 = .ok (.aload_n 0, 1) := by decide +kernel
theorem dX4_changeSpeed_36 : decode cX4_changeSpeed 36 = .ok (.getfield 56, 3) := by decide +kernel
theorem dX4_changeSpeed_39 : decode cX4_changeSpeed 39 = .ok (.isub, 1) := by decide +kernel
theorem dX4_changeSpeed_40 : decode cX4_changeSpeed 40 = .ok (.invokestatic 121, 3) := by decide +kernel
theorem dX4_changeSpeed_43 : decode cX4_changeSpeed 43 = .ok (.invokestatic 116, 3) := by decide +kernel
theorem dX4_changeSpeed_46 : decode cX4_changeSpeed 46 = .ok (.istore 5, 2) := by decide +kernel
theorem dX4_changeSpeed_48 : decode cX4_changeSpeed 48 = .ok (.aload_n 0, 1) := by decide +kernel
theorem dX4_changeSpeed_49 : decode cX4_changeSpeed 49 = .ok (.dup, 1) := by decide +kernel
theorem dX4_changeSpeed_50 : decode cX4_changeSpeed 50 = .ok (.getfield 56, 3) := by decide +kernel
theorem dX4_changeSpeed_53 : decode cX4_changeSpeed 53 = .ok (.iload 5, 2) := by decide +kernel
theorem dX4_changeSpeed_55 : decode cX4_changeSpeed 55 = .ok (.iadd, 1) := by decide +kernel
theorem dX4_changeSpeed_56 : decode cX4_changeSpeed 56 = .ok (.putfield 56, 3) := by decide +kernel
theorem dX4_changeSpeed_59 : decode cX4_changeSpeed 59 = .ok (.aload_n 0, 1) := by decide +kernel
theorem dX4_changeSpeed_60 : decode cX4_changeSpeed 60 = .ok (.aload_n 0, 1) := by decide +kernel
theorem dX4_changeSpeed_61 : decode cX4_changeSpeed 61 = .ok (.getfield 74, 3) := by decide +kernel
theorem dX4_changeSpeed_64 : decode cX4_changeSpeed 64 = .ok (.iload 5, 2) := by decide +kernel
theorem dX4_changeSpeed_66 : decode cX4_changeSpeed 66 = .ok (.invokestatic 124, 3) := by decide +kernel
theorem dX4_changeSpeed_69 : decode cX4_changeSpeed 69 = .ok (.invokestatic 116, 3) := by decide +kernel
theorem dX4_changeSpeed_72 : decode cX4_changeSpeed 72 = .ok (.putfield 74, 3) := by decide +kernel
theorem dX4_changeSpeed_75 : decode cX4_changeSpeed 75 = .ok (.return_, 1) := by decide +kernel
theorem dX4_carryPeople_0 : decode cX4_carryPeople 0 = .ok (.iconst 0, 1) := by decide +kernel
theorem dX4_carryPeople_1 : decode cX4_carryPeople 1 = .ok (.istore_n 1, 1) := by decide +kernel
theorem dX4_carryPeople_2 : decode cX4_carryPeople 2 = .ok (.iconst 0, 1) := by decide +kernel
theorem dX4_carryPeople_3 : decode cX4_carryPeople 3 = .ok (.istore_n 2, 1) := by decide +kernel
theorem dX4_carryPeople_4 : decode cX4_carryPeople 4 = .ok (.iload_n 2, 1) := by decide +kernel
theorem dX4_carryPeople_5 : decode cX4_carryPeople 5 = .ok (.aload_n 0, 1) := by decide +kernel
theorem dX4_carryPeople_6 : decode cX4_carryPeople 6 = .ok (.getfield 47, 3) := by decide +kernel
theorem dX4_carryPeople_9 : decode cX4_carryPeople 9 = .ok (.if_icmp .ge 96, 3) := by decide +kernel
theorem dX4_carryPeople_12 : decode cX4_carryPeople 12 = .ok (.iload_n 2, 1) := by decide +kernel
theorem dX4_carryPeople_13 : decode cX4_carryPeople 13 = .ok (.bipush 20, 2) := by decide +kernel
theorem dX4_carryPeople_15 : decode cX4_carryPeople 15 = .ok (.if_icmp .ge 90, 3) := by decide +kernel
theorem dX4_carryPeople_18 : decode cX4_carryPeople 18 = .ok (.aload_n 0, 1) := by decide +kernel
theorem dX4_carryPeople_19 : decode cX4_carryPeople 19 = .ok (.getfield 15, 3) := by decide +kernel
theorem dX4_carryPeople_22 : decode cX4_carryPeople 22 = .ok (.iload_n 2, 1) := by decide +kernel
theorem dX4_carryPeople_23 : decode cX4_carryPeople 23 = .ok (.iaload, 1) := by decide +kernel
theorem dX4_carryPeople_24 : decode cX4_carryPeople 24 = .ok (.aload_n 0, 1) := by decide +kernel
theorem dX4_carryPeople_25 : decode cX4_carryPeople 25 = .ok (.getfield 56, 3) := by decide +kernel
theorem dX4_carryPeople_28 : decode cX4_carryPeople 28 = .ok (.iadd, 1) := by decide +kernel
theorem dX4_carryPeople_29 : decode cX4_carryPeople 29 = .ok (.istore_n 3, 1) := by decide +kernel
theorem dX4_carryPeople_30 : decode cX4_carryPeople 30 = .ok (.iload_n 3, 1) := by decide +kernel
theorem dX4_carryPeople_31 : decode cX4_carryPeople 31 = .ok (.sipush 1000, 3) := by decide +kernel
theorem dX4_carryPeople_34 : decode cX4_carryPeople 34 = .ok (.if_icmp .lt 31, 3) := by decide +kernel
theorem dX4_carryPeople_37 : decode cX4_carryPeople 37 = .ok (.aload_n 0, 1) := by decide +kernel
theorem dX4_carryPeople_38 : decode cX4_carryPeople 38 = .ok (.dup, 1) := by decide +kernel
theorem dX4_carryPeople_39 : decode cX4_carryPeople 39 = .ok (.getfield 59, 3) := by decide +kernel
theorem dX4_carryPeople_42 : decode cX4_carryPeople 42 = .ok (.iconst 1, 1) := by decide +kernel
theorem dX4_carryPeople_43 : decode cX4_carryPeople 43 = .ok (.iadd, 1) := by decide +kernel
theorem dX4_carryPeople_44 : decode cX4_carryPeople 44 = .ok (.putfield 59, 3) := by decide +kernel
theorem dX4_carryPeople_47 : decode cX4_carryPeople 47 = .ok (.aload_n 0, 1) := by decide +kernel
theorem dX4_carryPeople_48 : decode cX4_carryPeople 48 = .ok (.dup, 1) := by decide +kernel
theorem dX4_carryPeople_49 : decode cX4_carryPeople 49 = .ok (.getfield 62, 3) := by decide +kernel
theorem dX4_carryPeople_52 : decode cX4_carryPeople 52 = .ok (.aload_n 0, 1) := by decide +kernel
theorem dX4_carryPeople_53 : decode cX4_carryPeople 53 = .ok (.getfield 18, 3) := by decide +kernel
theorem dX4_carryPeople_56 : decode cX4_carryPeople 56 = .ok (.iload_n 2, 1) := by decide +kernel
theorem dX4_carryPeople_57 : decode cX4_carryPeople 57 = .ok (.iaload, 1) := by decide +kernel
theorem dX4_carryPeople_58 : decode cX4_carryPeople 58 = .ok (.iadd, 1) := by decide +kernel
theorem dX4_carryPeople_59 : decode cX4_carryPeople 59 = .ok (.putfield 62, 3) := by decide +kernel
theorem dX4_carryPeople_62 : decode cX4_carryPeople 62 = .ok (.goto 37, 3) := by decide +kernel
theorem dX4_carryPeople_65 : decode cX4_carryPeople 65 = .ok (.aload_n 0, 1) := by decide +kernel
theorem dX4_carryPeople_66 : decode cX4_carryPeople 66 = .ok (.getfield 15, 3) := by decide +kernel
theorem dX4_carryPeople_69 : decode cX4_carryPeople 69 = .ok (.iload_n 1, 1) := by decide +kernel
theorem dX4_carryPeople_70 : decode cX4_carryPeople 70 = .ok (.iload_n 3, 1) := by decide +kernel
theorem dX4_carryPeople_71 : decode cX4_carryPeople 71 = .ok (.iastore, 1) := by decide +kernel
theorem dX4_carryPeople_72 : decode cX4_carryPeople 72 = .ok (.aload_n 0, 1) := by decide +kernel
theorem dX4_carryPeople_73 : decode cX4_carryPeople 73 = .ok (.getfield 18, 3) := by decide +kernel
theorem dX4_carryPeople_76 : decode cX4_carryPeople 76 = .ok (.iload_n 1, 1) := by decide +kernel
theorem dX4_carryPeople_77 : decode cX4_carryPeople 77 = .ok (.aload_n 0, 1) := by decide +kernel
theorem dX4_carryPeople_78 : decode cX4_carryPeople 78 = .ok (.getfield 18, 3) := by decide +kernel
theorem dX4_carryPeople_81 : decode cX4_carryPeople 81 = .ok (.iload_n 2, 1) := by decide +kernel
theorem dX4_carryPeople_82 : decode cX4_carryPeople 82 = .ok (.iaload, 1) := by decide +kernel
theorem dX4_carryPeople_83 : decode cX4_carryPeople 83 = .ok (.iastore, 1) := by decide +kernel
theorem dX4_carryPeople_84 : decode cX4_carryPeople 84 = .ok (.aload_n 0, 1) := by decide +kernel
theorem dX4_carryPeople_85 : decode cX4_carryPeople 85 = .ok (.getfield 21, 3) := by decide +kernel
theorem dX4_carryPeople_88 : decode cX4_carryPeople 88 = .ok (.iload_n 1, 1) := by decide +kernel
theorem dX4_carryPeople_89 : decode cX4_carryPeople 89 = .ok (.aload_n 0, 1) := by decide +kernel
theorem dX4_carryPeople_90 : decode cX4_carryPeople 90 = .ok (.getfield 21, 3) := by decide +kernel
theorem dX4_carryPeople_93 : decode cX4_carryPeople 93 = .ok (.iload_n 2, 1) := by decide +kernel
theorem dX4_carryPeople_94 : decode cX4_carryPeople 94 = .ok (.iaload, 1) := by decide +kernel
theorem dX4_carryPeople_95 : decode cX4_carryPeople 95 = .ok (.iastore, 1) := by decide +kernel
theorem dX4_carryPeople_96 : decode cX4_carryPeople 96 = .ok (.iinc 1 1, 3) := by decide +kernel
theorem dX4_carryPeople_99 : decode cX4_carryPeople 99 = .ok (.iinc 2 1, 3) := by decide +kernel
theorem dX4_carryPeople_102 : decode cX4_carryPeople 102 = .ok (.goto (-98), 3) := by decide +kernel
theorem dX4_carryPeople_105 : decode cX4_carryPeople 105 = .ok (.aload_n 0, 1) := by decide +kernel
theorem dX4_carryPeople_106 : decode cX4_carryPeople 106 = .ok (.iload_n 1, 1) := by decide +kernel
theorem dX4_carryPeople_107 : decode cX4_carryPeople 107 = .ok (.putfield 47, 3) := by decide +kernel
theorem dX4_carryPeople_110 : decode cX4_carryPeople 110 = .ok (.aload_n 0, 1) := by decide +kernel
theorem dX4_carryPeople_111 : decode cX4_carryPeople 111 = .ok (.dup, 1) := by decide +kernel
theorem dX4_carryPeople_112 : decode cX4_carryPeople 112 = .ok (.getfield 71, 3) := by decide +kernel
theorem dX4_carryPeople_115 : decode cX4_carryPeople 115 = .ok (.aload_n 0, 1) := by decide +kernel
theorem dX4_carryPeople_116 : decode cX4_carryPeople 116 = .ok (.getfield 56, 3) := by decide +kernel
theorem dX4_carryPeople_119 : decode cX4_carryPeople 119 = .ok (.iadd, 1) := by decide +kernel
theorem dX4_carryPeople_120 : decode cX4_carryPeople 120 = .ok (.putfield 71, 3) := by decide +kernel
theorem dX4_carryPeople_123 : decode cX4_carryPeople 123 = .ok (.return_, 1) := by decide +kernel
theorem dX4_unitsUntilStopped_0 : decode cX4_unitsUntilStopped 0 = .ok (.aload_n 0, 1) := by decide +kernel
theorem dX4_unitsUntilStopped_1 : decode cX4_unitsUntilStopped 1 = .ok (.getfield 71, 3) := by decide +kernel
theorem dX4_unitsUntilStopped_4 : decode cX4_unitsUntilStopped 4 = .ok (.istore_n 1, 1) := by decide +kernel
theorem dX4_unitsUntilStopped_5 : decode cX4_unitsUntilStopped 5 = .ok (.aload_n 0, 1) := by decide +kernel
theorem dX4_unitsUntilStopped_6 : decode cX4_unitsUntilStopped 6 = .ok (.getfield 30, 3) := by decide +kernel
theorem dX4_unitsUntilStopped_9 : decode cX4_unitsUntilStopped 9 = .ok (.ifCond .ne 8, 3) := by decide +kernel
theorem dX4_unitsUntilStopped_12 : decode cX4_unitsUntilStopped 12 = .ok (.aload_n 0, 1) := by decide +kernel
theorem dX4_unitsUntilStopped_13 : decode cX4_unitsUntilStopped 13 = .ok (.iconst 1, 1) := by decide +kernel
theorem dX4_unitsUntilStopped_14 : decode cX4_unitsUntilStopped 14 = .ok (.putfield 30, 3) := by decide +kernel
theorem dX4_unitsUntilStopped_17 : decode cX4_unitsUntilStopped 17 = .ok (.iconst 0, 1) := by decide +kernel
theorem dX4_unitsUntilStopped_18 : decode cX4_unitsUntilStopped 18 = .ok (.istore_n 2, 1) := by decide +kernel
theorem dX4_unitsUntilStopped_19 : decode cX4_unitsUntilStopped 19 = .ok (.iload_n 2, 1) := by decide +kernel
theorem dX4_unitsUntilStopped_20 : decode cX4_unitsUntilStopped 20 = .ok (.sipush 3000, 3) := by decide +kernel
theorem dX4_unitsUntilStopped_23 : decode cX4_unitsUntilStopped 23 = .ok (.if_icmp .ge 22, 3) := by decide +kernel
theorem dX4_unitsUntilStopped_26 : decode cX4_unitsUntilStopped 26 = .ok (.aload_n 0, 1) := by decide +kernel
theorem dX4_unitsUntilStopped_27 : decode cX4_unitsUntilStopped 27 = .ok (.getfield 30, 3) := by decide +kernel
theorem dX4_unitsUntilStopped_30 : decode cX4_unitsUntilStopped 30 = .ok (.iconst 1, 1) := by decide +kernel
theorem dX4_unitsUntilStopped_31 : decode cX4_unitsUntilStopped 31 = .ok (.if_icmp .ne 14, 3) := by decide +kernel
theorem dX4_unitsUntilStopped_34 : decode cX4_unitsUntilStopped 34 = .ok (.aload_n 0, 1) := by decide +kernel
theorem dX4_unitsUntilStopped_35 : decode cX4_unitsUntilStopped 35 = .ok (.iconst 0, 1) := by decide +kernel
theorem dX4_unitsUntilStopped_36 : decode cX4_unitsUntilStopped 36 = .ok (.invokevirtual 127, 3) := by decide +kernel
theorem dX4_unitsUntilStopped_39 : decode cX4_unitsUntilStopped 39 = .ok (.iinc 2 1, 3) := by decide +kernel
theorem dX4_unitsUntilStopped_42 : decode cX4_unitsUntilStopped 42 = .ok (.goto (-23), 3) := by decide +kernel
theorem dX4_unitsUntilStopped_45 : decode cX4_unitsUntilStopped 45 = .ok (.aload_n 0, 1) := by decide +kernel
theorem dX4_unitsUntilStopped_46 : decode cX4_unitsUntilStopped 46 = .ok (.getfield 71, 3) := by decide +kernel
theorem dX4_unitsUntilStopped_49 : decode cX4_unitsUntilStopped 49 = .ok (.iload_n 1, 1) := by decide +kernel
theorem dX4_unitsUntilStopped_50 : decode cX4_unitsUntilStopped 50 = .ok (.isub, 1) := by decide +kernel
theorem dX4_unitsUntilStopped_51 : decode cX4_unitsUntilStopped 51 = .ok (.ireturn, 1) := by decide +kernel
theorem dX4_ticksUntilEmpty_0 : decode cX4_ticksUntilEmpty 0 = .ok (.aload_n 0, 1) := by decide +kernel
theorem dX4_ticksUntilEmpty_1 : decode cX4_ticksUntilEmpty 1 = .ok (.invokevirtual 131, 3) := by decide +kernel
theorem dX4_ticksUntilEmpty_4 : decode cX4_ticksUntilEmpty 4 = .ok (.istore_n 1, 1) := by decide +kernel
theorem dX4_ticksUntilEmpty_5 : decode cX4_ticksUntilEmpty 5 = .ok (.iconst 0, 1) := by decide +kernel
theorem dX4_ticksUntilEmpty_6 : decode cX4_ticksUntilEmpty 6 = .ok (.istore_n 2, 1) := by decide +kernel
theorem dX4_ticksUntilEmpty_7 : decode cX4_ticksUntilEmpty 7 = .ok (.iload_n 2, 1) := by decide +kernel
theorem dX4_ticksUntilEmpty_8 : decode cX4_ticksUntilEmpty 8 = .ok (.sipush 3000, 3) := by decide +kernel
theorem dX4_ticksUntilEmpty_11 : decode cX4_ticksUntilEmpty 11 = .ok (.if_icmp .ge 29, 3) := by decide +kernel
theorem dX4_ticksUntilEmpty_14 : decode cX4_ticksUntilEmpty 14 = .ok (.aload_n 0, 1) := by decide +kernel
theorem dX4_ticksUntilEmpty_15 : decode cX4_ticksUntilEmpty 15 = .ok (.getfield 47, 3) := by decide +kernel
theorem dX4_ticksUntilEmpty_18 : decode cX4_ticksUntilEmpty 18 = .ok (.ifCond .le 22, 3) := by decide +kernel
theorem dX4_ticksUntilEmpty_21 : decode cX4_ticksUntilEmpty 21 = .ok (.aload_n 0, 1) := by decide +kernel
theorem dX4_ticksUntilEmpty_22 : decode cX4_ticksUntilEmpty 22 = .ok (.getfield 30, 3) := by decide +kernel
theorem dX4_ticksUntilEmpty_25 : decode cX4_ticksUntilEmpty 25 = .ok (.iconst 2, 1) := by decide +kernel
theorem dX4_ticksUntilEmpty_26 : decode cX4_ticksUntilEmpty 26 = .ok (.if_icmp .eq 14, 3) := by decide +kernel
theorem dX4_ticksUntilEmpty_29 : decode cX4_ticksUntilEmpty 29 = .ok (.aload_n 0, 1) := by decide +kernel
theorem dX4_ticksUntilEmpty_30 : decode cX4_ticksUntilEmpty 30 = .ok (.iload_n 1, 1) := by decide +kernel
theorem dX4_ticksUntilEmpty_31 : decode cX4_ticksUntilEmpty 31 = .ok (.invokevirtual 127, 3) := by decide +kernel
theorem dX4_ticksUntilEmpty_34 : decode cX4_ticksUntilEmpty 34 = .ok (.iinc 2 1, 3) := by decide +kernel
theorem dX4_ticksUntilEmpty_37 : decode cX4_ticksUntilEmpty 37 = .ok (.goto (-30), 3) := by decide +kernel
theorem dX4_ticksUntilEmpty_40 : decode cX4_ticksUntilEmpty 40 = .ok (.aload_n 0, 1) := by decide +kernel
theorem dX4_ticksUntilEmpty_41 : decode cX4_ticksUntilEmpty 41 = .ok (.getfield 47, 3) := by decide +kernel
theorem dX4_ticksUntilEmpty_44 : decode cX4_ticksUntilEmpty 44 = .ok (.ifCond .ne 7, 3) := by decide +kernel
theorem dX4_ticksUntilEmpty_47 : decode cX4_ticksUntilEmpty 47 = .ok (.iload_n 2, 1) := by decide +kernel
theorem dX4_ticksUntilEmpty_48 : decode cX4_ticksUntilEmpty 48 = .ok (.goto 5, 3) := by decide +kernel
theorem dX4_ticksUntilEmpty_51 : decode cX4_ticksUntilEmpty 51 = .ok (.bipush (-6), 2) := by decide +kernel
theorem dX4_ticksUntilEmpty_53 : decode cX4_ticksUntilEmpty 53 = .ok (.ireturn, 1) := by decide +kernel
theorem dX5_init_0 : decode cX5_init 0 = .ok (.aload_n 0, 1) := by decide +kernel
theorem dX5_init_1 : decode cX5_init 1 = .ok (.invokespecial 1, 3) := by decide +kernel
theorem dX5_init_4 : decode cX5_init 4 = .ok (.aload_n 0, 1) := by decide +kernel
theorem dX5_init_5 : decode cX5_init 5 = .ok (.new 7, 3) := by decide +kernel
theorem dX5_init_8 : decode cX5_init 8 = .ok (.dup, 1) := by decide +kernel
theorem dX5_init_9 : decode cX5_init 9 = .ok (.invokespecial 9, 3) := by decide +kernel
theorem dX5_init_12 : decode cX5_init 12 = .ok (.putfield 10, 3) := by decide +kernel
theorem dX5_init_15 : decode cX5_init 15 = .ok (.aload_n 0, 1) := by decide +kernel
theorem dX5_init_16 : decode cX5_init 16 = .ok (.new 16, 3) := by decide +kernel
theorem dX5_init_19 : decode cX5_init 19 = .ok (.dup, 1) := by decide +kernel
theorem dX5_init_20 : decode cX5_init 20 = .ok (.invokespecial 18, 3) := by decide +kernel
theorem dX5_init_23 : decode cX5_init 23 = .ok (.putfield 19, 3) := by decide +kernel
theorem dX5_init_26 : decode cX5_init 26 = .ok (.aload_n 0, 1) := by decide +kernel
theorem dX5_init_27 : decode cX5_init 27 = .ok (.iconst 2, 1) := by decide +kernel
theorem dX5_init_28 : decode cX5_init 28 = .ok (.anewarray 23, 3) := by decide +kernel
theorem dX5_init_31 : decode cX5_init 31 = .ok (.putfield 25, 3) := by decide +kernel
theorem dX5_init_34 : decode cX5_init 34 = .ok (.aload_n 0, 1) := by decide +kernel
theorem dX5_init_35 : decode cX5_init 35 = .ok (.iconst 2, 1) := by decide +kernel
theorem dX5_init_36 : decode cX5_init 36 = .ok (.newarray .boolean, 2) := by decide +kernel
theorem dX5_init_38 : decode cX5_init 38 = .ok (.putfield 29, 3) := by decide +kernel
theorem dX5_init_41 : decode cX5_init 41 = .ok (.aload_n 0, 1) := by decide +kernel
theorem dX5_init_42 : decode cX5_init 42 = .ok (.getfield 19, 3) := by decide +kernel
theorem dX5_init_45 : decode cX5_init 45 = .ok (.ldc 33, 2) := by decide +kernel
theorem dX5_init_47 : decode cX5_init 47 = .ok (.invokevirtual 35, 3) := by decide +kernel
theorem dX5_init_50 : decode cX5_init 50 = .ok (.ldc 33, 2) := by decide +kernel
theorem dX5_init_52 : decode cX5_init 52 = .ok (.invokevirtual 41, 3) := by decide +kernel
theorem dX5_init_55 : decode cX5_init 55 = .ok (.invokevirtual 45, 3) := by decide +kernel
theorem dX5_init_58 : decode cX5_init 58 = .ok (.astore_n 1, 1) := by decide +kernel
theorem dX5_init_59 : decode cX5_init 59 = .ok (.aload_n 0, 1) := by decide +kernel
theorem dX5_init_60 : decode cX5_init 60 = .ok (.new 23, 3) := by decide +kernel
theorem dX5_init_63 : decode cX5_init 63 = .ok (.dup, 1) := by decide +kernel
theorem dX5_init_64 : decode cX5_init 64 = .ok (.aload_n 1, 1) := by decide +kernel
theorem dX5_init_65 : decode cX5_init 65 = .ok (.invokespecial 49, 3) := by decide +kernel
theorem dX5_init_68 : decode cX5_init 68 = .ok (.putfield 52, 3) := by decide +kernel
theorem dX5_init_71 : decode cX5_init 71 = .ok (.aload_n 0, 1) := by decide +kernel
theorem dX5_init_72 : decode cX5_init 72 = .ok (.new 23, 3) := by decide +kernel
theorem dX5_init_75 : decode cX5_init 75 = .ok (.dup, 1) := by decide +kernel
theorem dX5_init_76 : decode cX5_init 76 = .ok (.aload_n 1, 1) := by decide +kernel
theorem dX5_init_77 : decode cX5_init 77 = .ok (.invokespecial 49, 3) := by decide +kernel
theorem dX5_init_80 : decode cX5_init 80 = .ok (.putfield 56, 3) := by decide +kernel
theorem dX5_init_83 : decode cX5_init 83 = .ok (.aload_n 0, 1) := by decide +kernel
theorem dX5_init_84 : decode cX5_init 84 = .ok (.new 59, 3) := by decide +kernel
theorem dX5_init_87 : decode cX5_init 87 = .ok (.dup, 1) := by decide +kernel
theorem dX5_init_88 : decode cX5_init 88 = .ok (.aload_n 1, 1) := by decide +kernel
theorem dX5_init_89 : decode cX5_init 89 = .ok (.invokespecial 61, 3) := by decide +kernel
theorem dX5_init_92 : decode cX5_init 92 = .ok (.putfield 62, 3) := by decide +kernel
theorem dX5_init_95 : decode cX5_init 95 = .ok (.iconst 0, 1) := by decide +kernel
theorem dX5_init_96 : decode cX5_init 96 = .ok (.istore_n 2, 1) := by decide +kernel
theorem dX5_init_97 : decode cX5_init 97 = .ok (.iload_n 2, 1) := by decide +kernel
theorem dX5_init_98 : decode cX5_init 98 = .ok (.iconst 2, 1) := by decide +kernel
theorem dX5_init_99 : decode cX5_init 99 = .ok (.if_icmp .ge 23, 3) := by decide +kernel
theorem dX5_init_102 : decode cX5_init 102 = .ok (.aload_n 0, 1) := by decide +kernel
theorem dX5_init_103 : decode cX5_init 103 = .ok (.getfield 25, 3) := by decide +kernel
theorem dX5_init_106 : decode cX5_init 106 = .ok (.iload_n 2, 1) := by decide +kernel
theorem dX5_init_107 : decode cX5_init 107 = .ok (.new 23, 3) := by decide +kernel
theorem dX5_init_110 : decode cX5_init 110 = .ok (.dup, 1) := by decide +kernel
theorem dX5_init_111 : decode cX5_init 111 = .ok (.aload_n 1, 1) := by decide +kernel
theorem dX5_init_112 : decode cX5_init 112 = .ok (.invokespecial 49, 3) := by decide +kernel
theorem dX5_init_115 : decode cX5_init 115 = .ok (.aastore, 1) := by decide +kernel
theorem dX5_init_116 : decode cX5_init 116 = .ok (.iinc 2 1, 3) := by decide +kernel
theorem dX5_init_119 : decode cX5_init 119 = .ok (.goto (-22), 3) := by decide +kernel
theorem dX5_init_122 : decode cX5_init 122 = .ok (.return_, 1) := by decide +kernel
theorem dX5_set_0 : decode cX5_set 0 = .ok (.iload_n 1, 1) := by decide +kernel
theorem dX5_set_1 : decode cX5_set 1 = .ok (.ifCond .lt 9, 3) := by decide +kernel
theorem dX5_set_4 : decode cX5_set 4 = .ok (.iload_n 1, 1) := by decide +kernel
theorem dX5_set_5 : decode cX5_set 5 = .ok (.bipush 7, 2) := by decide +kernel
theorem dX5_set_7 : decode cX5_set 7 = .ok (.if_icmp .lt 6, 3) := by decide +kernel
theorem dX5_set_10 : decode cX5_set 10 = .ok (.bipush (-2), 2) := by decide +kernel
theorem dX5_set_12 : decode cX5_set 12 = .ok (.ireturn, 1) := by decide +kernel
theorem dX5_set_13 : decode cX5_set 13 = .ok (.iload_n 2, 1) := by decide +kernel
theorem dX5_set_14 : decode cX5_set 14 = .ok (.getstatic 66, 3) := by decide +kernel
theorem dX5_set_17 : decode cX5_set 17 = .ok (.iload_n 1, 1) := by decide +kernel
theorem dX5_set_18 : decode cX5_set 18 = .ok (.iaload, 1) := by decide +kernel
theorem dX5_set_19 : decode cX5_set 19 = .ok (.if_icmp .lt 12, 3) := by decide +kernel
theorem dX5_set_22 : decode cX5_set 22 = .ok (.iload_n 2, 1) := by decide +kernel
theorem dX5_set_23 : decode cX5_set 23 = .ok (.getstatic 70, 3) := by decide +kernel
theorem dX5_set_26 : decode cX5_set 26 = .ok (.iload_n 1, 1) := by decide +kernel
theorem dX5_set_27 : decode cX5_set 27 = .ok (.iaload, 1) := by decide +kernel
theorem dX5_set_28 : decode cX5_set 28 = .ok (.if_icmp .le 6, 3) := by decide +kernel
theorem dX5_set_31 : decode cX5_set 31 = .ok (.bipush (-2), 2) := by decide +kernel
theorem dX5_set_33 : decode cX5_set 33 = .ok (.ireturn, 1) := by decide +kernel
theorem dX5_set_34 : decode cX5_set 34 = .ok (.aload_n 0, 1) := by decide +kernel
theorem dX5_set_35 : decode cX5_set 35 = .ok (.getfield 62, 3) := by decide +kernel
theorem dX5_set_38 : decode cX5_set 38 = .ok (.aload_n 0, 1) := by decide +kernel
theorem dX5_set_39 : decode cX5_set 39 = .ok (.getfield 52, 3) := by decide +kernel
theorem dX5_set_42 : decode cX5_set 42 = .ok (.invokevirtual 73, 3) := by decide +kernel
theorem dX5_set_45 : decode cX5_set 45 = .ok (.aload_n 0, 1) := by decide +kernel
theorem dX5_set_46 : decode cX5_set 46 = .ok (.getfield 52, 3) := by decide +kernel
theorem dX5_set_49 : decode cX5_set 49 = .ok (.getfield 77, 3) := by decide +kernel
theorem dX5_set_52 : decode cX5_set 52 = .ok (.iload_n 1, 1) := by decide +kernel
theorem dX5_set_53 : decode cX5_set 53 = .ok (.iaload, 1) := by decide +kernel
theorem dX5_set_54 : decode cX5_set 54 = .ok (.istore_n 3, 1) := by decide +kernel
theorem dX5_set_55 : decode cX5_set 55 = .ok (.aload_n 0, 1) := by decide +kernel
theorem dX5_set_56 : decode cX5_set 56 = .ok (.getfield 52, 3) := by decide +kernel
theorem dX5_set_59 : decode cX5_set 59 = .ok (.getfield 77, 3) := by decide +kernel
theorem dX5_set_62 : decode cX5_set 62 = .ok (.iload_n 1, 1) := by decide +kernel
theorem dX5_set_63 : decode cX5_set 63 = .ok (.iload_n 2, 1) := by decide +kernel
theorem dX5_set_64 : decode cX5_set 64 = .ok (.iastore, 1) := by decide +kernel
theorem dX5_set_65 : decode cX5_set 65 = .ok (.iload_n 3, 1) := by decide +kernel
theorem dX5_set_66 : decode cX5_set 66 = .ok (.ireturn, 1) := by decide +kernel
theorem dX5_come_0 : decode cX5_come 0 = .ok (.iload_n 1, 1) := by decide +kernel
theorem dX5_come_1 : decode cX5_come 1 = .ok (.iconst 1, 1) := by decide +kernel
theorem dX5_come_2 : decode cX5_come 2 = .ok (.if_icmp .lt 10, 3) := by decide +kernel
theorem dX5_come_5 : decode cX5_come 5 = .ok (.iload_n 1, 1) := by decide +kernel
theorem dX5_come_6 : decode cX5_come 6 = .ok (.sipush 200, 3) := by decide +kernel
theorem dX5_come_9 : decode cX5_come 9 = .ok (.if_icmp .le 6, 3) := by decide +kernel
theorem dX5_come_12 : decode cX5_come 12 = .ok (.bipush (-2), 2) := by decide +kernel
theorem dX5_come_14 : decode cX5_come 14 = .ok (.ireturn, 1) := by decide +kernel
theorem dX5_come_15 : decode cX5_come 15 = .ok (.aload_n 0, 1) := by decide +kernel
theorem dX5_come_16 : decode cX5_come 16 = .ok (.getfield 52, 3) := by decide +kernel
theorem dX5_come_19 : decode cX5_come 19 = .ok (.getfield 80, 3) := by decide +kernel
theorem dX5_come_22 : decode cX5_come 22 = .ok (.bipush 20, 2) := by decide +kernel
theorem dX5_come_24 : decode cX5_come 24 = .ok (.if_icmp .lt 6, 3) := by decide +kernel
theorem dX5_come_27 : decode cX5_come 27 = .ok (.bipush (-4), 2) := by decide +kernel
theorem dX5_come_29 : decode cX5_come 29 = .ok (.ireturn, 1) := by decide +kernel
theorem dX5_come_30 : decode cX5_come 30 = .ok (.aload_n 0, 1) := by decide +kernel
theorem dX5_come_31 : decode cX5_come 31 = .ok (.getfield 52, 3) := by decide +kernel
theorem dX5_come_34 : decode cX5_come 34 = .ok (.getfield 84, 3) := by decide +kernel
theorem dX5_come_37 : decode cX5_come 37 = .ok (.ifCond .eq 6, 3) := by decide +kernel
theorem dX5_come_40 : decode cX5_come 40 = .ok (.bipush (-5), 2) := by decide +kernel
theorem dX5_come_42 : decode cX5_come 42 = .ok (.ireturn, 1) := by decide +kernel
theorem dX5_come_43 : decode cX5_come 43 = .ok (.aload_n 0, 1) := by decide +kernel
theorem dX5_come_44 : decode cX5_come 44 = .ok (.getfield 62, 3) := by decide +kernel
theorem dX5_come_47 : decode cX5_come 47 = .ok (.aload_n 0, 1) := by decide +kernel
theorem dX5_come_48 : decode cX5_come 48 = .ok (.getfield 52, 3) := by decide +kernel
theorem dX5_come_51 : decode cX5_come 51 = .ok (.invokevirtual 73, 3) := by decide +kernel
theorem dX5_come_54 : decode cX5_come 54 = .ok (.aload_n 0, 1) := by decide +kernel
theorem dX5_come_55 : decode cX5_come 55 = .ok (.getfield 52, 3) := by decide +kernel
theorem dX5_come_58 : decode cX5_come 58 = .ok (.iload_n 1, 1) := by decide +kernel
theorem dX5_come_59 : decode cX5_come 59 = .ok (.invokevirtual 87, 3) := by decide +kernel
theorem dX5_come_62 : decode cX5_come 62 = .ok (.aload_n 0, 1) := by decide +kernel
theorem dX5_come_63 : decode cX5_come 63 = .ok (.getfield 52, 3) := by decide +kernel
theorem dX5_come_66 : decode cX5_come 66 = .ok (.getfield 80, 3) := by decide +kernel
theorem dX5_come_69 : decode cX5_come 69 = .ok (.ireturn, 1) := by decide +kernel
theorem dX5_sense_0 : decode cX5_sense 0 = .ok (.iload_n 1, 1) := by decide +kernel
theorem dX5_sense_1 : decode cX5_sense 1 = .ok (.ifCond .lt 17, 3) := by decide +kernel
theorem dX5_sense_4 : decode cX5_sense 4 = .ok (.iload_n 1, 1) := by decide +kernel
theorem dX5_sense_5 : decode cX5_sense 5 = .ok (.iconst 4, 1) := by decide +kernel
theorem dX5_sense_6 : decode cX5_sense 6 = .ok (.if_icmp .ge 12, 3) := by decide +kernel
theorem dX5_sense_9 : decode cX5_sense 9 = .ok (.iload_n 2, 1) := by decide +kernel
theorem dX5_sense_10 : decode cX5_sense 10 = .ok (.ifCond .lt 8, 3) := by decide +kernel
theorem dX5_sense_13 : decode cX5_sense 13 = .ok (.iload_n 2, 1) := by decide +kernel
theorem dX5_sense_14 : decode cX5_sense 14 = .ok (.iconst 2, 1) := by decide +kernel
theorem dX5_sense_15 : decode cX5_sense 15 = .ok (.if_icmp .lt 5, 3) := by decide +kernel
theorem dX5_sense_18 : decode cX5_sense 18 = .ok (.iconst (-1), 1) := by decide +kernel
theorem dX5_sense_19 : decode cX5_sense 19 = .ok (.ireturn, 1) := by decide +kernel
theorem dX5_sense_20 : decode cX5_sense 20 = .ok (.iload_n 3, 1) := by decide +kernel
theorem dX5_sense_21 : decode cX5_sense 21 = .ok (.ifCond .eq 11, 3) := by decide +kernel
theorem dX5_sense_24 : decode cX5_sense 24 = .ok (.iload_n 3, 1) := by decide +kernel
theorem dX5_sense_25 : decode cX5_sense 25 = .ok (.iconst 1, 1) := by decide +kernel
theorem dX5_sense_26 : decode cX5_sense 26 = .ok (.if_icmp .eq 6, 3) := by decide +kernel
theorem dX5_sense_29 : decode cX5_sense 29 = .ok (.bipush (-2), 2) := by decide +kernel
theorem dX5_sense_31 : decode cX5_sense 31 = .ok (.ireturn, 1) := by decide +kernel
theorem dX5_sense_32 : decode cX5_sense 32 = .ok (.aload_n 0, 1) := by decide +kernel
theorem dX5_sense_33 : decode cX5_sense 33 = .ok (.getfield 62, 3) := by decide +kernel
theorem dX5_sense_36 : decode cX5_sense 36 = .ok (.aload_n 0, 1) := by decide +kernel
theorem dX5_sense_37 : decode cX5_sense 37 = .ok (.getfield 52, 3) := by decide +kernel
theorem dX5_sense_40 : decode cX5_sense 40 = .ok (.invokevirtual 73, 3) := by decide +kernel
theorem dX5_sense_43 : decode cX5_sense 43 = .ok (.aload_n 0, 1) := by decide +kernel
theorem dX5_sense_44 : decode cX5_sense 44 = .ok (.getfield 52, 3) := by decide +kernel
theorem dX5_sense_47 : decode cX5_sense 47 = .ok (.iload_n 1, 1) := by decide +kernel
theorem dX5_sense_48 : decode cX5_sense 48 = .ok (.iload_n 2, 1) := by decide +kernel
theorem dX5_sense_49 : decode cX5_sense 49 = .ok (.invokevirtual 91, 3) := by decide +kernel
theorem dX5_sense_52 : decode cX5_sense 52 = .ok (.istore 4, 2) := by decide +kernel
theorem dX5_sense_54 : decode cX5_sense 54 = .ok (.aload_n 0, 1) := by decide +kernel
theorem dX5_sense_55 : decode cX5_sense 55 = .ok (.getfield 52, 3) := by decide +kernel
theorem dX5_sense_58 : decode cX5_sense 58 = .ok (.iload_n 1, 1) := by decide +kernel
theorem dX5_sense_59 : decode cX5_sense 59 = .ok (.iload_n 2, 1) := by decide +kernel
theorem dX5_sense_60 : decode cX5_sense 60 = .ok (.iload_n 3, 1) := by decide +kernel
theorem dX5_sense_61 : decode cX5_sense 61 = .ok (.invokevirtual 95, 3) := by decide +kernel
theorem dX5_sense_64 : decode cX5_sense 64 = .ok (.iload 4, 2) := by decide +kernel
theorem dX5_sense_66 : decode cX5_sense 66 = .ok (.ireturn, 1) := by decide +kernel
theorem dX5_stop_0 : decode cX5_stop 0 = .ok (.aload_n 0, 1) := by decide +kernel
theorem dX5_stop_1 : decode cX5_stop 1 = .ok (.getfield 52, 3) := by decide +kernel
theorem dX5_stop_4 : decode cX5_stop 4 = .ok (.getfield 84, 3) := by decide +kernel
theorem dX5_stop_7 : decode cX5_stop 7 = .ok (.ifCond .eq 6, 3) := by decide +kernel
theorem dX5_stop_10 : decode cX5_stop 10 = .ok (.bipush (-5), 2) := by decide +kernel
theorem dX5_stop_12 : decode cX5_stop 12 = .ok (.ireturn, 1) := by decide +kernel
theorem dX5_stop_13 : decode cX5_stop 13 = .ok (.aload_n 0, 1) := by decide +kernel
theorem dX5_stop_14 : decode cX5_stop 14 = .ok (.getfield 62, 3) := by decide +kernel
theorem dX5_stop_17 : decode cX5_stop 17 = .ok (.aload_n 0, 1) := by decide +kernel
theorem dX5_stop_18 : decode cX5_stop 18 = .ok (.getfield 52, 3) := by decide +kernel
theorem dX5_stop_21 : decode cX5_stop 21 = .ok (.invokevirtual 73, 3) := by decide +kernel
theorem dX5_stop_24 : decode cX5_stop 24 = .ok (.aload_n 0, 1) := by decide +kernel
theorem dX5_stop_25 : decode cX5_stop 25 = .ok (.getfield 52, 3) := by decide +kernel
theorem dX5_stop_28 : decode cX5_stop 28 = .ok (.iconst 1, 1) := by decide +kernel
theorem dX5_stop_29 : decode cX5_stop 29 = .ok (.invokevirtual 99, 3) := by decide +kernel
theorem dX5_stop_32 : decode cX5_stop 32 = .ok (.aload_n 0, 1) := by decide +kernel
theorem dX5_stop_33 : decode cX5_stop 33 = .ok (.getfield 52, 3) := by decide +kernel
theorem dX5_stop_36 : decode cX5_stop 36 = .ok (.getfield 102, 3) := by decide +kernel
theorem dX5_stop_39 : decode cX5_stop 39 = .ok (.ireturn, 1) := by decide +kernel
theorem dX5_restart_0 : decode cX5_restart 0 = .ok (.aload_n 0, 1) := by decide +kernel
theorem dX5_restart_1 : decode cX5_restart 1 = .ok (.getfield 52, 3) := by decide +kernel
theorem dX5_restart_4 : decode cX5_restart 4 = .ok (.getfield 84, 3) := by decide +kernel
theorem dX5_restart_7 : decode cX5_restart 7 = .ok (.iconst 2, 1) := by decide +kernel
theorem dX5_restart_8 : decode cX5_restart 8 = .ok (.if_icmp .ne 13, 3) := by decide +kernel
theorem dX5_restart_11 : decode cX5_restart 11 = .ok (.aload_n 0, 1) := by decide +kernel
theorem dX5_restart_12 : decode cX5_restart 12 = .ok (.getfield 52, 3) := by decide +kernel
theorem dX5_restart_15 : decode cX5_restart 15 = .ok (.invokevirtual 105, 3) := by decide +kernel
theorem dX5_restart_18 : decode cX5_restart 18 = .ok (.ifCond .eq 6, 3) := by decide +kernel
theorem dX5_restart_21 : decode cX5_restart 21 = .ok (.bipush (-5), 2) := by decide +kernel
theorem dX5_restart_23 : decode cX5_restart 23 = .ok (.ireturn, 1) := by decide +kernel
theorem dX5_restart_24 : decode cX5_restart 24 = .ok (.aload_n 0, 1) := by decide +kernel
theorem dX5_restart_25 : decode cX5_restart 25 = .ok (.getfield 62, 3) := by decide +kernel
theorem dX5_restart_28 : decode cX5_restart 28 = .ok (.aload_n 0, 1) := by decide +kernel
theorem dX5_restart_29 : decode cX5_restart 29 = .ok (.getfield 52, 3) := by decide +kernel
theorem dX5_restart_32 : decode cX5_restart 32 = .ok (.invokevirtual 73, 3) := by decide +kernel
theorem dX5_restart_35 : decode cX5_restart 35 = .ok (.aload_n 0, 1) := by decide +kernel
theorem dX5_restart_36 : decode cX5_restart 36 = .ok (.getfield 52, 3) := by decide +kernel
theorem dX5_restart_39 : decode cX5_restart 39 = .ok (.iconst 0, 1) := by decide +kernel
theorem dX5_restart_40 : decode cX5_restart 40 = .ok (.putfield 84, 3) := by decide +kernel
theorem dX5_restart_43 : decode cX5_restart 43 = .ok (.aload_n 0, 1) := by decide +kernel
theorem dX5_restart_44 : decode cX5_restart 44 = .ok (.getfield 52, 3) := by decide +kernel
theorem dX5_restart_47 : decode cX5_restart 47 = .ok (.getfield 80, 3) := by decide +kernel
theorem dX5_restart_50 : decode cX5_restart 50 = .ok (.ireturn, 1) := by decide +kernel
theorem dX5_pass_0 : decode cX5_pass 0 = .ok (.iload_n 1, 1) := by decide +kernel
theorem dX5_pass_1 : decode cX5_pass 1 = .ok (.iconst 1, 1) := by decide +kernel
theorem dX5_pass_2 : decode cX5_pass 2 = .ok (.if_icmp .lt 10, 3) := by decide +kernel
theorem dX5_pass_5 : decode cX5_pass 5 = .ok (.iload_n 1, 1) := by decide +kernel
theorem dX5_pass_6 : decode cX5_pass 6 = .ok (.sipush 999, 3) := by decide +kernel
theorem dX5_pass_9 : decode cX5_pass 9 = .ok (.if_icmp .le 6, 3) := by decide +kernel
theorem dX5_pass_12 : decode cX5_pass 12 = .ok (.bipush (-2), 2) := by decide +kernel
theorem dX5_pass_14 : decode cX5_pass 14 = .ok (.ireturn, 1) := by decide +kernel
theorem dX5_pass_15 : decode cX5_pass 15 = .ok (.aload_n 0, 1) := by decide +kernel
theorem dX5_pass_16 : decode cX5_pass 16 = .ok (.getfield 52, 3) := by decide +kernel
theorem dX5_pass_19 : decode cX5_pass 19 = .ok (.getfield 109, 3) := by decide +kernel
theorem dX5_pass_22 : decode cX5_pass 22 = .ok (.ldc 112, 2) := by decide +kernel
theorem dX5_pass_24 : decode cX5_pass 24 = .ok (.iload_n 1, 1) := by decide +kernel
theorem dX5_pass_25 : decode cX5_pass 25 = .ok (.isub, 1) := by decide +kernel
theorem dX5_pass_26 : decode cX5_pass 26 = .ok (.if_icmp .le 6, 3) := by decide +kernel
theorem dX5_pass_29 : decode cX5_pass 29 = .ok (.bipush (-4), 2) := by decide +kernel
theorem dX5_pass_31 : decode cX5_pass 31 = .ok (.ireturn, 1) := by decide +kernel
theorem dX5_pass_32 : decode cX5_pass 32 = .ok (.aload_n 0, 1) := by decide +kernel
theorem dX5_pass_33 : decode cX5_pass 33 = .ok (.getfield 62, 3) := by decide +kernel
theorem dX5_pass_36 : decode cX5_pass 36 = .ok (.aload_n 0, 1) := by decide +kernel
theorem dX5_pass_37 : decode cX5_pass 37 = .ok (.getfield 52, 3) := by decide +kernel
theorem dX5_pass_40 : decode cX5_pass 40 = .ok (.invokevirtual 73, 3) := by decide +kernel
theorem dX5_pass_43 : decode cX5_pass 43 = .ok (.aload_n 0, 1) := by decide +kernel
theorem dX5_pass_44 : decode cX5_pass 44 = .ok (.getfield 52, 3) := by decide +kernel
theorem dX5_pass_47 : decode cX5_pass 47 = .ok (.invokevirtual 105, 3) := by decide +kernel
theorem dX5_pass_50 : decode cX5_pass 50 = .ok (.istore_n 2, 1) := by decide +kernel
theorem dX5_pass_51 : decode cX5_pass 51 = .ok (.iconst 0, 1) := by decide +kernel
theorem dX5_pass_52 : decode cX5_pass 52 = .ok (.istore_n 3, 1) := by decide +kernel
theorem dX5_pass_53 : decode cX5_pass 53 = .ok (.iload_n 3, 1) := by decide +kernel
theorem dX5_pass_54 : decode cX5_pass 54 = .ok (.iload_n 1, 1) := by decide +kernel
theorem dX5_pass_55 : decode cX5_pass 55 = .ok (.if_icmp .ge 17, 3) := by decide +kernel
theorem dX5_pass_58 : decode cX5_pass 58 = .ok (.aload_n 0, 1) := by decide +kernel
theorem dX5_pass_59 : decode cX5_pass 59 = .ok (.getfield 52, 3) := by decide +kernel
theorem dX5_pass_62 : decode cX5_pass 62 = .ok (.iload_n 2, 1) := by decide +kernel
theorem dX5_pass_63 : decode cX5_pass 63 = .ok (.invokevirtual 113, 3) := by decide +kernel
theorem dX5_pass_66 : decode cX5_pass 66 = .ok (.iinc 3 1, 3) := by decide +kernel
theorem dX5_pass_69 : decode cX5_pass 69 = .ok (.goto (-16), 3) := by decide +kernel
theorem dX5_pass_72 : decode cX5_pass 72 = .ok (.aload_n 0, 1) := by decide +kernel
theorem dX5_pass_73 : decode cX5_pass 73 = .ok (.getfield 52, 3) := by decide +kernel
theorem dX5_pass_76 : decode cX5_pass 76 = .ok (.getfield 109, 3) := by decide +kernel
theorem dX5_pass_79 : decode cX5_pass 79 = .ok (.ireturn, 1) := by decide +kernel
theorem dX5_of_0 : decode cX5_of 0 = .ok (.iload_n 1, 1) := by decide +kernel
theorem dX5_of_1 : decode cX5_of 1 = .ok (.ifCond .lt 20, 3) := by decide +kernel
theorem dX5_of_4 : decode cX5_of 4 = .ok (.iload_n 1, 1) := by decide +kernel
theorem dX5_of_5 : decode cX5_of 5 = .ok (.aload_n 0, 1) := by decide +kernel
theorem dX5_of_6 : decode cX5_of 6 = .ok (.getfield 52, 3) := by decide +kernel
theorem dX5_of_9 : decode cX5_of 9 = .ok (.getfield 80, 3) := by decide +kernel
theorem dX5_of_12 : decode cX5_of 12 = .ok (.if_icmp .ge 9, 3) := by decide +kernel
theorem dX5_of_15 : decode cX5_of 15 = .ok (.iload_n 1, 1) := by decide +kernel
theorem dX5_of_16 : decode cX5_of 16 = .ok (.bipush 20, 2) := by decide +kernel
theorem dX5_of_18 : decode cX5_of 18 = .ok (.if_icmp .lt 5, 3) := by decide +kernel
theorem dX5_of_21 : decode cX5_of 21 = .ok (.iconst (-1), 1) := by decide +kernel
theorem dX5_of_22 : decode cX5_of 22 = .ok (.ireturn, 1) := by decide +kernel
theorem dX5_of_23 : decode cX5_of 23 = .ok (.iload_n 2, 1) := by decide +kernel
theorem dX5_of_24 : decode cX5_of 24 = .ok (.tableswitch 66 0 2 #[28, 38, 48], 28) := by decide +kernel
theorem dX5_of_52 : decode cX5_of 52 = .ok (.aload_n 0, 1) := by decide +kernel
theorem dX5_of_53 : decode cX5_of 53 = .ok (.getfield 52, 3) := by decide +kernel
theorem dX5_of_56 : decode cX5_of 56 = .ok (.getfield 117, 3) := by decide +kernel
theorem dX5_of_59 : decode cX5_of 59 = .ok (.iload_n 1, 1) := by decide +kernel
theorem dX5_of_60 : decode cX5_of 60 = .ok (.iaload, 1) := by decide +kernel
theorem dX5_of_61 : decode cX5_of 61 = .ok (.ireturn, 1) := by decide +kernel
theorem dX5_of_62 : decode cX5_of 62 = .ok (.aload_n 0, 1) := by decide +kernel
theorem dX5_of_63 : decode cX5_of 63 = .ok (.getfield 52, 3) := by decide +kernel
theorem dX5_of_66 : decode cX5_of 66 = .ok (.getfield 120, 3) := by decide +kernel
theorem dX5_of_69 : decode cX5_of 69 = .ok (.iload_n 1, 1) := by decide +kernel
theorem dX5_of_70 : decode cX5_of 70 = .ok (.iaload, 1) := by decide +kernel
theorem dX5_of_71 : decode cX5_of 71 = .ok (.ireturn, 1) := by decide +kernel
theorem dX5_of_72 : decode cX5_of 72 = .ok (.aload_n 0, 1) := by decide +kernel
theorem dX5_of_73 : decode cX5_of 73 = .ok (.getfield 52, 3) := by decide +kernel
theorem dX5_of_76 : decode cX5_of 76 = .ok (.getfield 109, 3) := by decide +kernel
theorem dX5_of_79 : decode cX5_of 79 = .ok (.aload_n 0, 1) := by decide +kernel
theorem dX5_of_80 : decode cX5_of 80 = .ok (.getfield 52, 3) := by decide +kernel
theorem dX5_of_83 : decode cX5_of 83 = .ok (.getfield 123, 3) := by decide +kernel
theorem dX5_of_86 : decode cX5_of 86 = .ok (.iload_n 1, 1) := by decide +kernel
theorem dX5_of_87 : decode cX5_of 87 = .ok (.iaload, 1) := by decide +kernel
theorem dX5_of_88 : decode cX5_of 88 = .ok (.isub, 1) := by decide +kernel
theorem dX5_of_89 : decode cX5_of 89 = .ok (.ireturn, 1) := by decide +kernel
theorem dX5_of_90 : decode cX5_of 90 = .ok (.bipush (-2), 2) := by decide +kernel
theorem dX5_of_92 : decode cX5_of 92 = .ok (.ireturn, 1) := by decide +kernel
theorem dX5_ofSpot_0 : decode cX5_ofSpot 0 = .ok (.iload_n 1, 1) := by decide +kernel
theorem dX5_ofSpot_1 : decode cX5_ofSpot 1 = .ok (.ifCond .lt 8, 3) := by decide +kernel
theorem dX5_ofSpot_4 : decode cX5_ofSpot 4 = .ok (.iload_n 1, 1) := by decide +kernel
theorem dX5_ofSpot_5 : decode cX5_ofSpot 5 = .ok (.iconst 4, 1) := by decide +kernel
theorem dX5_ofSpot_6 : decode cX5_ofSpot 6 = .ok (.if_icmp .lt 5, 3) := by decide +kernel
theorem dX5_ofSpot_9 : decode cX5_ofSpot 9 = .ok (.iconst (-1), 1) := by decide +kernel
theorem dX5_ofSpot_10 : decode cX5_ofSpot 10 = .ok (.ireturn, 1) := by decide +kernel
theorem dX5_ofSpot_11 : decode cX5_ofSpot 11 = .ok (.iload_n 2, 1) := by decide +kernel
theorem dX5_ofSpot_12 : decode cX5_ofSpot 12 = .ok (.tableswitch 58 0 2 #[28, 38, 48], 28) := by decide +kernel
theorem dX5_ofSpot_40 : decode cX5_ofSpot 40 = .ok (.aload_n 0, 1) := by decide +kernel
theorem dX5_ofSpot_41 : decode cX5_ofSpot 41 = .ok (.getfield 52, 3) := by decide +kernel
theorem dX5_ofSpot_44 : decode cX5_ofSpot 44 = .ok (.iload_n 1, 1) := by decide +kernel
theorem dX5_ofSpot_45 : decode cX5_ofSpot 45 = .ok (.iconst 0, 1) := by decide +kernel
theorem dX5_ofSpot_46 : decode cX5_ofSpot 46 = .ok (.invokevirtual 91, 3) := by decide +kernel
theorem dX5_ofSpot_49 : decode cX5_ofSpot 49 = .ok (.ireturn, 1) := by decide +kernel
theorem dX5_ofSpot_50 : decode cX5_ofSpot 50 = .ok (.aload_n 0, 1) := by decide +kernel
theorem dX5_ofSpot_51 : decode cX5_ofSpot 51 = .ok (.getfield 52, 3) := by decide +kernel
theorem dX5_ofSpot_54 : decode cX5_ofSpot 54 = .ok (.iload_n 1, 1) := by decide +kernel
theorem dX5_ofSpot_55 : decode cX5_ofSpot 55 = .ok (.iconst 1, 1) := by decide +kernel
theorem dX5_ofSpot_56 : decode cX5_ofSpot 56 = .ok (.invokevirtual 91, 3) := by decide +kernel
theorem dX5_ofSpot_59 : decode cX5_ofSpot 59 = .ok (.ireturn, 1) := by decide +kernel
theorem dX5_ofSpot_60 : decode cX5_ofSpot 60 = .ok (.aload_n 0, 1) := by decide +kernel
theorem dX5_ofSpot_61 : decode cX5_ofSpot 61 = .ok (.getfield 52, 3) := by decide +kernel
theorem dX5_ofSpot_64 : decode cX5_ofSpot 64 = .ok (.getfield 126, 3) := by decide +kernel
theorem dX5_ofSpot_67 : decode cX5_ofSpot 67 = .ok (.iload_n 1, 1) := by decide +kernel
theorem dX5_ofSpot_68 : decode cX5_ofSpot 68 = .ok (.iaload, 1) := by decide +kernel
theorem dX5_ofSpot_69 : decode cX5_ofSpot 69 = .ok (.ireturn, 1) := by decide +kernel
theorem dX5_ofSpot_70 : decode cX5_ofSpot 70 = .ok (.bipush (-2), 2) := by decide +kernel
theorem dX5_ofSpot_72 : decode cX5_ofSpot 72 = .ok (.ireturn, 1) := by decide +kernel
theorem dX5_ofStop_0 : decode cX5_ofStop 0 = .ok (.iload_n 1, 1) := by decide +kernel
theorem dX5_ofStop_1 : decode cX5_ofStop 1 = .ok (.ifCond .lt 20, 3) := by decide +kernel
theorem dX5_ofStop_4 : decode cX5_ofStop 4 = .ok (.iload_n 1, 1) := by decide +kernel
theorem dX5_ofStop_5 : decode cX5_ofStop 5 = .ok (.aload_n 0, 1) := by decide +kernel
theorem dX5_ofStop_6 : decode cX5_ofStop 6 = .ok (.getfield 52, 3) := by decide +kernel
theorem dX5_ofStop_9 : decode cX5_ofStop 9 = .ok (.getfield 129, 3) := by decide +kernel
theorem dX5_ofStop_12 : decode cX5_ofStop 12 = .ok (.if_icmp .ge 9, 3) := by decide +kernel
theorem dX5_ofStop_15 : decode cX5_ofStop 15 = .ok (.iload_n 1, 1) := by decide +kernel
theorem dX5_ofStop_16 : decode cX5_ofStop 16 = .ok (.bipush 6, 2) := by decide +kernel
theorem dX5_ofStop_18 : decode cX5_ofStop 18 = .ok (.if_icmp .lt 5, 3) := by decide +kernel
theorem dX5_ofStop_21 : decode cX5_ofStop 21 = .ok (.iconst (-1), 1) := by decide +kernel
theorem dX5_ofStop_22 : decode cX5_ofStop 22 = .ok (.ireturn, 1) := by decide +kernel
theorem dX5_ofStop_23 : decode cX5_ofStop 23 = .ok (.iload_n 2, 1) := by decide +kernel
theorem dX5_ofStop_24 : decode cX5_ofStop 24 = .ok (.ifCond .lt 8, 3) := by decide +kernel
theorem dX5_ofStop_27 : decode cX5_ofStop 27 = .ok (.iload_n 2, 1) := by decide +kernel
theorem dX5_ofStop_28 : decode cX5_ofStop 28 = .ok (.iconst 5, 1) := by decide +kernel
theorem dX5_ofStop_29 : decode cX5_ofStop 29 = .ok (.if_icmp .lt 6, 3) := by decide +kernel
theorem dX5_ofStop_32 : decode cX5_ofStop 32 = .ok (.bipush (-2), 2) := by decide +kernel
theorem dX5_ofStop_34 : decode cX5_ofStop 34 = .ok (.ireturn, 1) := by decide +kernel
theorem dX5_ofStop_35 : decode cX5_ofStop 35 = .ok (.aload_n 0, 1) := by decide +kernel
theorem dX5_ofStop_36 : decode cX5_ofStop 36 = .ok (.getfield 52, 3) := by decide +kernel
theorem dX5_ofStop_39 : decode cX5_ofStop 39 = .ok (.getfield 132, 3) := by decide +kernel
theorem dX5_ofStop_42 : decode cX5_ofStop 42 = .ok (.iload_n 1, 1) := by decide +kernel
theorem dX5_ofStop_43 : decode cX5_ofStop 43 = .ok (.iconst 5, 1) := by decide +kernel
theorem dX5_ofStop_44 : decode cX5_ofStop 44 = .ok (.imul, 1) := by decide +kernel
theorem dX5_ofStop_45 : decode cX5_ofStop 45 = .ok (.iload_n 2, 1) := by decide +kernel
theorem dX5_ofStop_46 : decode cX5_ofStop 46 = .ok (.iadd, 1) := by decide +kernel
theorem dX5_ofStop_47 : decode cX5_ofStop 47 = .ok (.iaload, 1) := by decide +kernel
theorem dX5_ofStop_48 : decode cX5_ofStop 48 = .ok (.ireturn, 1) := by decide +kernel
theorem dX5_rule_0 : decode cX5_rule 0 = .ok (.iload_n 1, 1) := by decide +kernel
theorem dX5_rule_1 : decode cX5_rule 1 = .ok (.tableswitch 102 0 4 #[35, 46, 57, 73, 84], 35) := by decide +kernel
theorem dX5_rule_36 : decode cX5_rule 36 = .ok (.aload_n 0, 1) := by decide +kernel
theorem dX5_rule_37 : decode cX5_rule 37 = .ok (.getfield 52, 3) := by decide +kernel
theorem dX5_rule_40 : decode cX5_rule 40 = .ok (.getfield 135, 3) := by decide +kernel
theorem dX5_rule_43 : decode cX5_rule 43 = .ok (.getfield 139, 3) := by decide +kernel
theorem dX5_rule_46 : decode cX5_rule 46 = .ok (.ireturn, 1) := by decide +kernel
theorem dX5_rule_47 : decode cX5_rule 47 = .ok (.aload_n 0, 1) := by decide +kernel
theorem dX5_rule_48 : decode cX5_rule 48 = .ok (.getfield 52, 3) := by decide +kernel
theorem dX5_rule_51 : decode cX5_rule 51 = .ok (.getfield 135, 3) := by decide +kernel
theorem dX5_rule_54 : decode cX5_rule 54 = .ok (.invokevirtual 144, 3) := by decide +kernel
theorem dX5_rule_57 : decode cX5_rule 57 = .ok (.ireturn, 1) := by decide +kernel
theorem dX5_rule_58 : decode cX5_rule 58 = .ok (.aload_n 0, 1) := by decide +kernel
theorem dX5_rule_59 : decode cX5_rule 59 = .ok (.getfield 52, 3) := by decide +kernel
theorem dX5_rule_62 : decode cX5_rule 62 = .ok (.invokevirtual 105, 3) := by decide +kernel
theorem dX5_rule_65 : decode cX5_rule 65 = .ok (.ifCond .eq 7, 3) := by decide +kernel
theorem dX5_rule_68 : decode cX5_rule 68 = .ok (.iconst 1, 1) := by decide +kernel
theorem dX5_rule_69 : decode cX5_rule 69 = .ok (.goto 4, 3) := by decide +kernel
theorem dX5_rule_72 : decode cX5_rule 72 = .ok (.iconst 0, 1) := by decide +kernel
theorem dX5_rule_73 : decode cX5_rule 73 = .ok (.ireturn, 1) := by decide +kernel
theorem dX5_rule_74 : decode cX5_rule 74 = .ok (.aload_n 0, 1) := by decide +kernel
theorem dX5_rule_75 : decode cX5_rule 75 = .ok (.getfield 52, 3) := by decide +kernel
theorem dX5_rule_78 : decode cX5_rule 78 = .ok (.getfield 135, 3) := by decide +kernel
theorem dX5_rule_81 : decode cX5_rule 81 = .ok (.getfield 147, 3) := by decide +kernel
theorem dX5_rule_84 : decode cX5_rule 84 = .ok (.ireturn, 1) := by decide +kernel
theorem dX5_rule_85 : decode cX5_rule 85 = .ok (.aload_n 0, 1) := by decide +kernel
theorem dX5_rule_86 : decode cX5_rule 86 = .ok (.getfield 52, 3) := by decide +kernel
theorem dX5_rule_89 : decode cX5_rule 89 = .ok (.getfield 135, 3) := by decide +kernel
theorem dX5_rule_92 : decode cX5_rule 92 = .ok (.aload_n 0, 1) := by decide +kernel
theorem dX5_rule_93 : decode cX5_rule 93 = .ok (.getfield 52, 3) := by decide +kernel
theorem dX5_rule_96 : decode cX5_rule 96 = .ok (.getfield 150, 3) := by decide +kernel
theorem dX5_rule_99 : decode cX5_rule 99 = .ok (.invokevirtual 153, 3) := by decide +kernel
theorem dX5_rule_102 : decode cX5_rule 102 = .ok (.ireturn, 1) := by decide +kernel
theorem dX5_rule_103 : decode cX5_rule 103 = .ok (.bipush (-2), 2) := by decide +kernel
theorem dX5_rule_105 : decode cX5_rule 105 = .ok (.ireturn, 1) := by decide +kernel
theorem dX5_count_0 : decode cX5_count 0 = .ok (.iload_n 1, 1) := by decide +kernel
theorem dX5_count_1 : decode cX5_count 1 = .ok (.lookupswitch 43 #[(18, 27), (19, 35)], 27) := by decide +kernel
theorem dX5_count_28 : decode cX5_count 28 = .ok (.aload_n 0, 1) := by decide +kernel
theorem dX5_count_29 : decode cX5_count 29 = .ok (.getfield 10, 3) := by decide +kernel
theorem dX5_count_32 : decode cX5_count 32 = .ok (.getfield 157, 3) := by decide +kernel
theorem dX5_count_35 : decode cX5_count 35 = .ok (.ireturn, 1) := by decide +kernel
theorem dX5_count_36 : decode cX5_count 36 = .ok (.aload_n 0, 1) := by decide +kernel
theorem dX5_count_37 : decode cX5_count 37 = .ok (.getfield 62, 3) := by decide +kernel
theorem dX5_count_40 : decode cX5_count 40 = .ok (.getfield 159, 3) := by decide +kernel
theorem dX5_count_43 : decode cX5_count 43 = .ok (.ireturn, 1) := by decide +kernel
theorem dX5_count_44 : decode cX5_count 44 = .ok (.aload_n 0, 1) := by decide +kernel
theorem dX5_count_45 : decode cX5_count 45 = .ok (.getfield 52, 3) := by decide +kernel
theorem dX5_count_48 : decode cX5_count 48 = .ok (.iload_n 1, 1) := by decide +kernel
theorem dX5_count_49 : decode cX5_count 49 = .ok (.invokevirtual 160, 3) := by decide +kernel
theorem dX5_count_52 : decode cX5_count 52 = .ok (.ireturn, 1) := by decide +kernel
theorem dX5_way_0 : decode cX5_way 0 = .ok (.aload_n 0, 1) := by decide +kernel
theorem dX5_way_1 : decode cX5_way 1 = .ok (.aload_n 0, 1) := by decide +kernel
theorem dX5_way_2 : decode cX5_way 2 = .ok (.getfield 52, 3) := by decide +kernel
theorem dX5_way_5 : decode cX5_way 5 = .ok (.getfield 77, 3) := by decide +kernel
theorem dX5_way_8 : decode cX5_way 8 = .ok (.iconst 2, 1) := by decide +kernel
theorem dX5_way_9 : decode cX5_way 9 = .ok (.iaload, 1) := by decide +kernel
theorem dX5_way_10 : decode cX5_way 10 = .ok (.invokevirtual 163, 3) := by decide +kernel
theorem dX5_way_13 : decode cX5_way 13 = .ok (.ireturn, 1) := by decide +kernel
theorem dX5_emptyIn_0 : decode cX5_emptyIn 0 = .ok (.aload_n 0, 1) := by decide +kernel
theorem dX5_emptyIn_1 : decode cX5_emptyIn 1 = .ok (.getfield 56, 3) := by decide +kernel
theorem dX5_emptyIn_4 : decode cX5_emptyIn 4 = .ok (.aload_n 0, 1) := by decide +kernel
theorem dX5_emptyIn_5 : decode cX5_emptyIn 5 = .ok (.getfield 52, 3) := by decide +kernel
theorem dX5_emptyIn_8 : decode cX5_emptyIn 8 = .ok (.invokevirtual 166, 3) := by decide +kernel
theorem dX5_emptyIn_11 : decode cX5_emptyIn 11 = .ok (.aload_n 0, 1) := by decide +kernel
theorem dX5_emptyIn_12 : decode cX5_emptyIn 12 = .ok (.getfield 56, 3) := by decide +kernel
theorem dX5_emptyIn_15 : decode cX5_emptyIn 15 = .ok (.invokevirtual 169, 3) := by decide +kernel
theorem dX5_emptyIn_18 : decode cX5_emptyIn 18 = .ok (.ireturn, 1) := by decide +kernel
theorem dX5_leastRamp_0 : decode cX5_leastRamp 0 = .ok (.iload_n 1, 1) := by decide +kernel
theorem dX5_leastRamp_1 : decode cX5_leastRamp 1 = .ok (.ifCond .lt 10, 3) := by decide +kernel
theorem dX5_leastRamp_4 : decode cX5_leastRamp 4 = .ok (.iload_n 1, 1) := by decide +kernel
theorem dX5_leastRamp_5 : decode cX5_leastRamp 5 = .ok (.sipush 9999, 3) := by decide +kernel
theorem dX5_leastRamp_8 : decode cX5_leastRamp 8 = .ok (.if_icmp .le 6, 3) := by decide +kernel
theorem dX5_leastRamp_11 : decode cX5_leastRamp 11 = .ok (.bipush (-2), 2) := by decide +kernel
theorem dX5_leastRamp_13 : decode cX5_leastRamp 13 = .ok (.ireturn, 1) := by decide +kernel
theorem dX5_leastRamp_14 : decode cX5_leastRamp 14 = .ok (.getstatic 66, 3) := by decide +kernel
theorem dX5_leastRamp_17 : decode cX5_leastRamp 17 = .ok (.iconst 2, 1) := by decide +kernel
theorem dX5_leastRamp_18 : decode cX5_leastRamp 18 = .ok (.iaload, 1) := by decide +kernel
theorem dX5_leastRamp_19 : decode cX5_leastRamp 19 = .ok (.istore_n 2, 1) := by decide +kernel
theorem dX5_leastRamp_20 : decode cX5_leastRamp 20 = .ok (.iload_n 2, 1) := by decide +kernel
theorem dX5_leastRamp_21 : decode cX5_leastRamp 21 = .ok (.getstatic 70, 3) := by decide +kernel
theorem dX5_leastRamp_24 : decode cX5_leastRamp 24 = .ok (.iconst 2, 1) := by decide +kernel
theorem dX5_leastRamp_25 : decode cX5_leastRamp 25 = .ok (.iaload, 1) := by decide +kernel
theorem dX5_leastRamp_26 : decode cX5_leastRamp 26 = .ok (.if_icmp .gt 20, 3) := by decide +kernel
theorem dX5_leastRamp_29 : decode cX5_leastRamp 29 = .ok (.aload_n 0, 1) := by decide +kernel
theorem dX5_leastRamp_30 : decode cX5_leastRamp 30 = .ok (.iload_n 2, 1) := by decide +kernel
theorem dX5_leastRamp_31 : decode cX5_leastRamp 31 = .ok (.invokevirtual 163, 3) := by decide +kernel
theorem dX5_leastRamp_34 : decode cX5_leastRamp 34 = .ok (.iload_n 1, 1) := by decide +kernel
theorem dX5_leastRamp_35 : decode cX5_leastRamp 35 = .ok (.if_icmp .gt 5, 3) := by decide +kernel
theorem dX5_leastRamp_38 : decode cX5_leastRamp 38 = .ok (.iload_n 2, 1) := by decide +kernel
theorem dX5_leastRamp_39 : decode cX5_leastRamp 39 = .ok (.ireturn, 1) := by decide +kernel
theorem dX5_leastRamp_40 : decode cX5_leastRamp 40 = .ok (.iinc 2 1, 3) := by decide +kernel
theorem dX5_leastRamp_43 : decode cX5_leastRamp 43 = .ok (.goto (-23), 3) := by decide +kernel
theorem dX5_leastRamp_46 : decode cX5_leastRamp 46 = .ok (.bipush (-6), 2) := by decide +kernel
theorem dX5_leastRamp_48 : decode cX5_leastRamp 48 = .ok (.ireturn, 1) := by decide +kernel
theorem dX5_wouldHold_0 : decode cX5_wouldHold 0 = .ok (.iload_n 1, 1) := by decide +kernel
theorem dX5_wouldHold_1 : decode cX5_wouldHold 1 = .ok (.ifCond .lt 10, 3) := by decide +kernel
theorem dX5_wouldHold_4 : decode cX5_wouldHold 4 = .ok (.iload_n 1, 1) := by decide +kernel
theorem dX5_wouldHold_5 : decode cX5_wouldHold 5 = .ok (.sipush 256, 3) := by decide +kernel
theorem dX5_wouldHold_8 : decode cX5_wouldHold 8 = .ok (.if_icmp .lt 6, 3) := by decide +kernel
theorem dX5_wouldHold_11 : decode cX5_wouldHold 11 = .ok (.bipush (-2), 2) := by decide +kernel
theorem dX5_wouldHold_13 : decode cX5_wouldHold 13 = .ok (.ireturn, 1) := by decide +kernel
theorem dX5_wouldHold_14 : decode cX5_wouldHold 14 = .ok (.aload_n 0, 1) := by decide +kernel
theorem dX5_wouldHold_15 : decode cX5_wouldHold 15 = .ok (.getfield 52, 3) := by decide +kernel
theorem dX5_wouldHold_18 : decode cX5_wouldHold 18 = .ok (.getfield 135, 3) := by decide +kernel
theorem dX5_wouldHold_21 : decode cX5_wouldHold 21 = .ok (.iload_n 1, 1) := by decide +kernel
theorem dX5_wouldHold_22 : decode cX5_wouldHold 22 = .ok (.invokevirtual 172, 3) := by decide +kernel
theorem dX5_wouldHold_25 : decode cX5_wouldHold 25 = .ok (.ifCond .eq 7, 3) := by decide +kernel
theorem dX5_wouldHold_28 : decode cX5_wouldHold 28 = .ok (.iconst 1, 1) := by decide +kernel
theorem dX5_wouldHold_29 : decode cX5_wouldHold 29 = .ok (.goto 4, 3) := by decide +kernel
theorem dX5_wouldHold_32 : decode cX5_wouldHold 32 = .ok (.iconst 0, 1) := by decide +kernel
theorem dX5_wouldHold_33 : decode cX5_wouldHold 33 = .ok (.ireturn, 1) := by decide +kernel
theorem dX5_fewest_0 : decode cX5_fewest 0 = .ok (.bipush (-6), 2) := by decide +kernel
theorem dX5_fewest_2 : decode cX5_fewest 2 = .ok (.istore_n 1, 1) := by decide +kernel
theorem dX5_fewest_3 : decode cX5_fewest 3 = .ok (.iconst 0, 1) := by decide +kernel
theorem dX5_fewest_4 : decode cX5_fewest 4 = .ok (.istore_n 2, 1) := by decide +kernel
theorem dX5_fewest_5 : decode cX5_fewest 5 = .ok (.iload_n 2, 1) := by decide +kernel
theorem dX5_fewest_6 : decode cX5_fewest 6 = .ok (.sipush 256, 3) := by decide +kernel
theorem dX5_fewest_9 : decode cX5_fewest 9 = .ok (.if_icmp .ge 52, 3) := by decide +kernel
theorem dX5_fewest_12 : decode cX5_fewest 12 = .ok (.iload_n 1, 1) := by decide +kernel
theorem dX5_fewest_13 : decode cX5_fewest 13 = .ok (.bipush (-6), 2) := by decide +kernel
theorem dX5_fewest_15 : decode cX5_fewest 15 = .ok (.if_icmp .eq 14, 3) := by decide +kernel
theorem dX5_fewest_18 : decode cX5_fewest 18 = .ok (.iload_n 2, 1) := by decide +kernel
theorem dX5_fewest_19 : decode cX5_fewest 19 = .ok (.invokestatic 176, 3) := by decide +kernel
theorem dX5_fewest_22 : decode cX5_fewest 22 = .ok (.iload_n 1, 1) := by decide +kernel
theorem dX5_fewest_23 : decode cX5_fewest 23 = .ok (.invokestatic 176, 3) := by decide +kernel
theorem dX5_fewest_26 : decode cX5_fewest 26 = .ok (.if_icmp .ge 7, 3) := by decide +kernel
theorem dX5_fewest_29 : decode cX5_fewest 29 = .ok (.iconst 1, 1) := by decide +kernel
theorem dX5_fewest_30 : decode cX5_fewest 30 = .ok (.goto 4, 3) := by decide +kernel
theorem dX5_fewest_33 : decode cX5_fewest 33 = .ok (.iconst 0, 1) := by decide +kernel
theorem dX5_fewest_34 : decode cX5_fewest 34 = .ok (.istore_n 3, 1) := by decide +kernel
theorem dX5_fewest_35 : decode cX5_fewest 35 = .ok (.iload_n 3, 1) := by decide +kernel
theorem dX5_fewest_36 : decode cX5_fewest 36 = .ok (.ifCond .eq 19, 3) := by decide +kernel
theorem dX5_fewest_39 : decode cX5_fewest 39 = .ok (.aload_n 0, 1) := by decide +kernel
theorem dX5_fewest_40 : decode cX5_fewest 40 = .ok (.getfield 52, 3) := by decide +kernel
theorem dX5_fewest_43 : decode cX5_fewest 43 = .ok (.getfield 135, 3) := by decide +kernel
theorem dX5_fewest_46 : decode cX5_fewest 46 = .ok (.iload_n 2, 1) := by decide +kernel
theorem dX5_fewest_47 : decode cX5_fewest 47 = .ok (.invokevirtual 172, 3) := by decide +kernel
theorem dX5_fewest_50 : decode cX5_fewest 50 = .ok (.ifCond .eq 5, 3) := by decide +kernel
theorem dX5_fewest_53 : decode cX5_fewest 53 = .ok (.iload_n 2, 1) := by decide +kernel
theorem dX5_fewest_54 : decode cX5_fewest 54 = .ok (.istore_n 1, 1) := by decide +kernel
theorem dX5_fewest_55 : decode cX5_fewest 55 = .ok (.iinc 2 1, 3) := by decide +kernel
theorem dX5_fewest_58 : decode cX5_fewest 58 = .ok (.goto (-53), 3) := by decide +kernel
theorem dX5_fewest_61 : decode cX5_fewest 61 = .ok (.iload_n 1, 1) := by decide +kernel
theorem dX5_fewest_62 : decode cX5_fewest 62 = .ok (.ireturn, 1) := by decide +kernel
theorem dX5_wayWith_0 : decode cX5_wayWith 0 = .ok (.aload_n 0, 1) := by decide +kernel
theorem dX5_wayWith_1 : decode cX5_wayWith 1 = .ok (.getfield 56, 3) := by decide +kernel
theorem dX5_wayWith_4 : decode cX5_wayWith 4 = .ok (.aload_n 0, 1) := by decide +kernel
theorem dX5_wayWith_5 : decode cX5_wayWith 5 = .ok (.getfield 52, 3) := by decide +kernel
theorem dX5_wayWith_8 : decode cX5_wayWith 8 = .ok (.invokevirtual 166, 3) := by decide +kernel
theorem dX5_wayWith_11 : decode cX5_wayWith 11 = .ok (.aload_n 0, 1) := by decide +kernel
theorem dX5_wayWith_12 : decode cX5_wayWith 12 = .ok (.getfield 56, 3) := by decide +kernel
theorem dX5_wayWith_15 : decode cX5_wayWith 15 = .ok (.getfield 77, 3) := by decide +kernel
theorem dX5_wayWith_18 : decode cX5_wayWith 18 = .ok (.iconst 2, 1) := by decide +kernel
theorem dX5_wayWith_19 : decode cX5_wayWith 19 = .ok (.iload_n 1, 1) := by decide +kernel
theorem dX5_wayWith_20 : decode cX5_wayWith 20 = .ok (.iastore, 1) := by decide +kernel
theorem dX5_wayWith_21 : decode cX5_wayWith 21 = .ok (.aload_n 0, 1) := by decide +kernel
theorem dX5_wayWith_22 : decode cX5_wayWith 22 = .ok (.getfield 56, 3) := by decide +kernel
theorem dX5_wayWith_25 : decode cX5_wayWith 25 = .ok (.invokevirtual 181, 3) := by decide +kernel
theorem dX5_wayWith_28 : decode cX5_wayWith 28 = .ok (.ireturn, 1) := by decide +kernel
theorem dX5_put_0 : decode cX5_put 0 = .ok (.aload_n 0, 1) := by decide +kernel
theorem dX5_put_1 : decode cX5_put 1 = .ok (.getfield 10, 3) := by decide +kernel
theorem dX5_put_4 : decode cX5_put 4 = .ok (.lload_n 1, 1) := by decide +kernel
theorem dX5_put_5 : decode cX5_put 5 = .ok (.invokevirtual 184, 3) := by decide +kernel
theorem dX5_put_8 : decode cX5_put 8 = .ok (.istore_n 3, 1) := by decide +kernel
theorem dX5_put_9 : decode cX5_put 9 = .ok (.iload_n 3, 1) := by decide +kernel
theorem dX5_put_10 : decode cX5_put 10 = .ok (.ifCond .ne 6, 3) := by decide +kernel
theorem dX5_put_13 : decode cX5_put 13 = .ok (.bipush (-2), 2) := by decide +kernel
theorem dX5_put_15 : decode cX5_put 15 = .ok (.ireturn, 1) := by decide +kernel
theorem dX5_put_16 : decode cX5_put 16 = .ok (.iload_n 3, 1) := by decide +kernel
theorem dX5_put_17 : decode cX5_put 17 = .ok (.bipush 60, 2) := by decide +kernel
theorem dX5_put_19 : decode cX5_put 19 = .ok (.aload_n 0, 1) := by decide +kernel
theorem dX5_put_20 : decode cX5_put 20 = .ok (.getfield 10, 3) := by decide +kernel
theorem dX5_put_23 : decode cX5_put 23 = .ok (.getfield 157, 3) := by decide +kernel
theorem dX5_put_26 : decode cX5_put 26 = .ok (.isub, 1) := by decide +kernel
theorem dX5_put_27 : decode cX5_put 27 = .ok (.if_icmp .le 6, 3) := by decide +kernel
theorem dX5_put_30 : decode cX5_put 30 = .ok (.bipush (-4), 2) := by decide +kernel
theorem dX5_put_32 : decode cX5_put 32 = .ok (.ireturn, 1) := by decide +kernel
theorem dX5_put_33 : decode cX5_put 33 = .ok (.aload_n 0, 1) := by decide +kernel
theorem dX5_put_34 : decode cX5_put 34 = .ok (.getfield 10, 3) := by decide +kernel
theorem dX5_put_37 : decode cX5_put 37 = .ok (.lload_n 1, 1) := by decide +kernel
theorem dX5_put_38 : decode cX5_put 38 = .ok (.iload_n 3, 1) := by decide +kernel
theorem dX5_put_39 : decode cX5_put 39 = .ok (.invokevirtual 188, 3) := by decide +kernel
theorem dX5_put_42 : decode cX5_put 42 = .ok (.aload_n 0, 1) := by decide +kernel
theorem dX5_put_43 : decode cX5_put 43 = .ok (.getfield 10, 3) := by decide +kernel
theorem dX5_put_46 : decode cX5_put 46 = .ok (.getfield 157, 3) := by decide +kernel
theorem dX5_put_49 : decode cX5_put 49 = .ok (.ireturn, 1) := by decide +kernel
theorem dX5_wipe_0 : decode cX5_wipe 0 = .ok (.aload_n 0, 1) := by decide +kernel
theorem dX5_wipe_1 : decode cX5_wipe 1 = .ok (.getfield 10, 3) := by decide +kernel
theorem dX5_wipe_4 : decode cX5_wipe 4 = .ok (.getfield 157, 3) := by decide +kernel
theorem dX5_wipe_7 : decode cX5_wipe 7 = .ok (.istore_n 1, 1) := by decide +kernel
theorem dX5_wipe_8 : decode cX5_wipe 8 = .ok (.aload_n 0, 1) := by decide +kernel
theorem dX5_wipe_9 : decode cX5_wipe 9 = .ok (.getfield 10, 3) := by decide +kernel
theorem dX5_wipe_12 : decode cX5_wipe 12 = .ok (.iconst 0, 1) := by decide +kernel
theorem dX5_wipe_13 : decode cX5_wipe 13 = .ok (.putfield 157, 3) := by decide +kernel
theorem dX5_wipe_16 : decode cX5_wipe 16 = .ok (.iload_n 1, 1) := by decide +kernel
theorem dX5_wipe_17 : decode cX5_wipe 17 = .ok (.ireturn, 1) := by decide +kernel
theorem dX5_fault_0 : decode cX5_fault 0 = .ok (.aload_n 0, 1) := by decide +kernel
theorem dX5_fault_1 : decode cX5_fault 1 = .ok (.getfield 10, 3) := by decide +kernel
theorem dX5_fault_4 : decode cX5_fault 4 = .ok (.invokevirtual 192, 3) := by decide +kernel
theorem dX5_fault_7 : decode cX5_fault 7 = .ok (.ireturn, 1) := by decide +kernel
theorem dX5_load_0 : decode cX5_load 0 = .ok (.aload_n 0, 1) := by decide +kernel
theorem dX5_load_1 : decode cX5_load 1 = .ok (.getfield 10, 3) := by decide +kernel
theorem dX5_load_4 : decode cX5_load 4 = .ok (.invokevirtual 192, 3) := by decide +kernel
theorem dX5_load_7 : decode cX5_load 7 = .ok (.bipush (-6), 2) := by decide +kernel
theorem dX5_load_9 : decode cX5_load 9 = .ok (.if_icmp .eq 6, 3) := by decide +kernel
theorem dX5_load_12 : decode cX5_load 12 = .ok (.bipush (-3), 2) := by decide +kernel
theorem dX5_load_14 : decode cX5_load 14 = .ok (.ireturn, 1) := by decide +kernel
theorem dX5_load_15 : decode cX5_load 15 = .ok (.aload_n 0, 1) := by decide +kernel
theorem dX5_load_16 : decode cX5_load 16 = .ok (.getfield 62, 3) := by decide +kernel
theorem dX5_load_19 : decode cX5_load 19 = .ok (.aload_n 0, 1) := by decide +kernel
theorem dX5_load_20 : decode cX5_load 20 = .ok (.getfield 52, 3) := by decide +kernel
theorem dX5_load_23 : decode cX5_load 23 = .ok (.invokevirtual 73, 3) := by decide +kernel
theorem dX5_load_26 : decode cX5_load 26 = .ok (.aload_n 0, 1) := by decide +kernel
theorem dX5_load_27 : decode cX5_load 27 = .ok (.getfield 52, 3) := by decide +kernel
theorem dX5_load_30 : decode cX5_load 30 = .ok (.aload_n 0, 1) := by decide +kernel
theorem dX5_load_31 : decode cX5_load 31 = .ok (.getfield 19, 3) := by decide +kernel
theorem dX5_load_34 : decode cX5_load 34 = .ok (.aload_n 0, 1) := by decide +kernel
theorem dX5_load_35 : decode cX5_load 35 = .ok (.getfield 10, 3) := by decide +kernel
theorem dX5_load_38 : decode cX5_load 38 = .ok (.getfield 195, 3) := by decide +kernel
theorem dX5_load_41 : decode cX5_load 41 = .ok (.aload_n 0, 1) := by decide +kernel
theorem dX5_load_42 : decode cX5_load 42 = .ok (.getfield 10, 3) := by decide +kernel
theorem dX5_load_45 : decode cX5_load 45 = .ok (.getfield 157, 3) := by decide +kernel
theorem dX5_load_48 : decode cX5_load 48 = .ok (.invokevirtual 45, 3) := by decide +kernel
theorem dX5_load_51 : decode cX5_load 51 = .ok (.putfield 135, 3) := by decide +kernel
theorem dX5_load_54 : decode cX5_load 54 = .ok (.aload_n 0, 1) := by decide +kernel
theorem dX5_load_55 : decode cX5_load 55 = .ok (.getfield 10, 3) := by decide +kernel
theorem dX5_load_58 : decode cX5_load 58 = .ok (.iconst 0, 1) := by decide +kernel
theorem dX5_load_59 : decode cX5_load 59 = .ok (.putfield 157, 3) := by decide +kernel
theorem dX5_load_62 : decode cX5_load 62 = .ok (.aload_n 0, 1) := by decide +kernel
theorem dX5_load_63 : decode cX5_load 63 = .ok (.getfield 52, 3) := by decide +kernel
theorem dX5_load_66 : decode cX5_load 66 = .ok (.getfield 135, 3) := by decide +kernel
theorem dX5_load_69 : decode cX5_load 69 = .ok (.getfield 139, 3) := by decide +kernel
theorem dX5_load_72 : decode cX5_load 72 = .ok (.ireturn, 1) := by decide +kernel
theorem dX5_undo_0 : decode cX5_undo 0 = .ok (.aload_n 0, 1) := by decide +kernel
theorem dX5_undo_1 : decode cX5_undo 1 = .ok (.getfield 62, 3) := by decide +kernel
theorem dX5_undo_4 : decode cX5_undo 4 = .ok (.getfield 159, 3) := by decide +kernel
theorem dX5_undo_7 : decode cX5_undo 7 = .ok (.ifCond .ne 6, 3) := by decide +kernel
theorem dX5_undo_10 : decode cX5_undo 10 = .ok (.bipush (-5), 2) := by decide +kernel
theorem dX5_undo_12 : decode cX5_undo 12 = .ok (.ireturn, 1) := by decide +kernel
theorem dX5_undo_13 : decode cX5_undo 13 = .ok (.aload_n 0, 1) := by decide +kernel
theorem dX5_undo_14 : decode cX5_undo 14 = .ok (.getfield 62, 3) := by decide +kernel
theorem dX5_undo_17 : decode cX5_undo 17 = .ok (.aload_n 0, 1) := by decide +kernel
theorem dX5_undo_18 : decode cX5_undo 18 = .ok (.getfield 52, 3) := by decide +kernel
theorem dX5_undo_21 : decode cX5_undo 21 = .ok (.invokevirtual 199, 3) := by decide +kernel
theorem dX5_undo_24 : decode cX5_undo 24 = .ok (.aload_n 0, 1) := by decide +kernel
theorem dX5_undo_25 : decode cX5_undo 25 = .ok (.getfield 62, 3) := by decide +kernel
theorem dX5_undo_28 : decode cX5_undo 28 = .ok (.getfield 159, 3) := by decide +kernel
theorem dX5_undo_31 : decode cX5_undo 31 = .ok (.ireturn, 1) := by decide +kernel
theorem dX5_save_0 : decode cX5_save 0 = .ok (.iload_n 1, 1) := by decide +kernel
theorem dX5_save_1 : decode cX5_save 1 = .ok (.ifCond .lt 8, 3) := by decide +kernel
theorem dX5_save_4 : decode cX5_save 4 = .ok (.iload_n 1, 1) := by decide +kernel
theorem dX5_save_5 : decode cX5_save 5 = .ok (.iconst 2, 1) := by decide +kernel
theorem dX5_save_6 : decode cX5_save 6 = .ok (.if_icmp .lt 6, 3) := by decide +kernel
theorem dX5_save_9 : decode cX5_save 9 = .ok (.bipush (-2), 2) := by decide +kernel
theorem dX5_save_11 : decode cX5_save 11 = .ok (.ireturn, 1) := by decide +kernel
theorem dX5_save_12 : decode cX5_save 12 = .ok (.aload_n 0, 1) := by decide +kernel
theorem dX5_save_13 : decode cX5_save 13 = .ok (.getfield 25, 3) := by decide +kernel
theorem dX5_save_16 : decode cX5_save 16 = .ok (.iload_n 1, 1) := by decide +kernel
theorem dX5_save_17 : decode cX5_save 17 = .ok (.aaload, 1) := by decide +kernel
theorem dX5_save_18 : decode cX5_save 18 = .ok (.aload_n 0, 1) := by decide +kernel
theorem dX5_save_19 : decode cX5_save 19 = .ok (.getfield 52, 3) := by decide +kernel
theorem dX5_save_22 : decode cX5_save 22 = .ok (.invokevirtual 166, 3) := by decide +kernel
theorem dX5_save_25 : decode cX5_save 25 = .ok (.aload_n 0, 1) := by decide +kernel
theorem dX5_save_26 : decode cX5_save 26 = .ok (.getfield 29, 3) := by decide +kernel
theorem dX5_save_29 : decode cX5_save 29 = .ok (.iload_n 1, 1) := by decide +kernel
theorem dX5_save_30 : decode cX5_save 30 = .ok (.iconst 1, 1) := by decide +kernel
theorem dX5_save_31 : decode cX5_save 31 = .ok (.bastore, 1) := by decide +kernel
theorem dX5_save_32 : decode cX5_save 32 = .ok (.aload_n 0, 1) := by decide +kernel
theorem dX5_save_33 : decode cX5_save 33 = .ok (.getfield 52, 3) := by decide +kernel
theorem dX5_save_36 : decode cX5_save 36 = .ok (.getfield 80, 3) := by decide +kernel
theorem dX5_save_39 : decode cX5_save 39 = .ok (.ireturn, 1) := by decide +kernel
theorem dX5_restore_0 : decode cX5_restore 0 = .ok (.iload_n 1, 1) := by decide +kernel
theorem dX5_restore_1 : decode cX5_restore 1 = .ok (.ifCond .lt 8, 3) := by decide +kernel
theorem dX5_restore_4 : decode cX5_restore 4 = .ok (.iload_n 1, 1) := by decide +kernel
theorem dX5_restore_5 : decode cX5_restore 5 = .ok (.iconst 2, 1) := by decide +kernel
theorem dX5_restore_6 : decode cX5_restore 6 = .ok (.if_icmp .lt 6, 3) := by decide +kernel
theorem dX5_restore_9 : decode cX5_restore 9 = .ok (.bipush (-2), 2) := by decide +kernel
theorem dX5_restore_11 : decode cX5_restore 11 = .ok (.ireturn, 1) := by decide +kernel
theorem dX5_restore_12 : decode cX5_restore 12 = .ok (.aload_n 0, 1) := by decide +kernel
theorem dX5_restore_13 : decode cX5_restore 13 = .ok (.getfield 29, 3) := by decide +kernel
theorem dX5_restore_16 : decode cX5_restore 16 = .ok (.iload_n 1, 1) := by decide +kernel
theorem dX5_restore_17 : decode cX5_restore 17 = .ok (.baload, 1) := by decide +kernel
theorem dX5_restore_18 : decode cX5_restore 18 = .ok (.ifCond .ne 6, 3) := by decide +kernel
theorem dX5_restore_21 : decode cX5_restore 21 = .ok (.bipush (-5), 2) := by decide +kernel
theorem dX5_restore_23 : decode cX5_restore 23 = .ok (.ireturn, 1) := by decide +kernel
theorem dX5_restore_24 : decode cX5_restore 24 = .ok (.aload_n 0, 1) := by decide +kernel
theorem dX5_restore_25 : decode cX5_restore 25 = .ok (.getfield 62, 3) := by decide +kernel
theorem dX5_restore_28 : decode cX5_restore 28 = .ok (.aload_n 0, 1) := by decide +kernel
theorem dX5_restore_29 : decode cX5_restore 29 = .ok (.getfield 52, 3) := by decide +kernel
theorem dX5_restore_32 : decode cX5_restore 32 = .ok (.invokevirtual 73, 3) := by decide +kernel
theorem dX5_restore_35 : decode cX5_restore 35 = .ok (.aload_n 0, 1) := by decide +kernel
theorem dX5_restore_36 : decode cX5_restore 36 = .ok (.getfield 52, 3) := by decide +kernel
theorem dX5_restore_39 : decode cX5_restore 39 = .ok (.aload_n 0, 1) := by decide +kernel
theorem dX5_restore_40 : decode cX5_restore 40 = .ok (.getfield 25, 3) := by decide +kernel
theorem dX5_restore_43 : decode cX5_restore 43 = .ok (.iload_n 1, 1) := by decide +kernel
theorem dX5_restore_44 : decode cX5_restore 44 = .ok (.aaload, 1) := by decide +kernel
theorem dX5_restore_45 : decode cX5_restore 45 = .ok (.invokevirtual 166, 3) := by decide +kernel
theorem dX5_restore_48 : decode cX5_restore 48 = .ok (.aload_n 0, 1) := by decide +kernel
theorem dX5_restore_49 : decode cX5_restore 49 = .ok (.getfield 52, 3) := by decide +kernel
theorem dX5_restore_52 : decode cX5_restore 52 = .ok (.getfield 80, 3) := by decide +kernel
theorem dX5_restore_55 : decode cX5_restore 55 = .ok (.ireturn, 1) := by decide +kernel
theorem dJ6_bitCount_0f7a4_0 : decode cJ6_bitCount_0f7a4 0 = .ok (.iload_n 0, 1) := by decide +kernel
theorem dJ6_bitCount_0f7a4_1 : decode cJ6_bitCount_0f7a4 1 = .ok (.iload_n 0, 1) := by decide +kernel
theorem dJ6_bitCount_0f7a4_2 : decode cJ6_bitCount_0f7a4 2 = .ok (.iconst 1, 1) := by decide +kernel
theorem dJ6_bitCount_0f7a4_3 : decode cJ6_bitCount_0f7a4 3 = .ok (.iushr, 1) := by decide +kernel
theorem dJ6_bitCount_0f7a4_4 : decode cJ6_bitCount_0f7a4 4 = .ok (.ldc_w 265, 3) := by decide +kernel
theorem dJ6_bitCount_0f7a4_7 : decode cJ6_bitCount_0f7a4 7 = .ok (.iand, 1) := by decide +kernel
theorem dJ6_bitCount_0f7a4_8 : decode cJ6_bitCount_0f7a4 8 = .ok (.isub, 1) := by decide +kernel
theorem dJ6_bitCount_0f7a4_9 : decode cJ6_bitCount_0f7a4 9 = .ok (.istore_n 0, 1) := by decide +kernel
theorem dJ6_bitCount_0f7a4_10 : decode cJ6_bitCount_0f7a4 10 = .ok (.iload_n 0, 1) := by decide +kernel
theorem dJ6_bitCount_0f7a4_11 : decode cJ6_bitCount_0f7a4 11 = .ok (.ldc_w 266, 3) := by decide +kernel
theorem dJ6_bitCount_0f7a4_14 : decode cJ6_bitCount_0f7a4 14 = .ok (.iand, 1) := by decide +kernel
theorem dJ6_bitCount_0f7a4_15 : decode cJ6_bitCount_0f7a4 15 = .ok (.iload_n 0, 1) := by decide +kernel
theorem dJ6_bitCount_0f7a4_16 : decode cJ6_bitCount_0f7a4 16 = .ok (.iconst 2, 1) := by decide +kernel
theorem dJ6_bitCount_0f7a4_17 : decode cJ6_bitCount_0f7a4 17 = .ok (.iushr, 1) := by decide +kernel
theorem dJ6_bitCount_0f7a4_18 : decode cJ6_bitCount_0f7a4 18 = .ok (.ldc_w 266, 3) := by decide +kernel
theorem dJ6_bitCount_0f7a4_21 : decode cJ6_bitCount_0f7a4 21 = .ok (.iand, 1) := by decide +kernel
theorem dJ6_bitCount_0f7a4_22 : decode cJ6_bitCount_0f7a4 22 = .ok (.iadd, 1) := by decide +kernel
theorem dJ6_bitCount_0f7a4_23 : decode cJ6_bitCount_0f7a4 23 = .ok (.istore_n 0, 1) := by decide +kernel
theorem dJ6_bitCount_0f7a4_24 : decode cJ6_bitCount_0f7a4 24 = .ok (.iload_n 0, 1) := by decide +kernel
theorem dJ6_bitCount_0f7a4_25 : decode cJ6_bitCount_0f7a4 25 = .ok (.iload_n 0, 1) := by decide +kernel
theorem dJ6_bitCount_0f7a4_26 : decode cJ6_bitCount_0f7a4 26 = .ok (.iconst 4, 1) := by decide +kernel
theorem dJ6_bitCount_0f7a4_27 : decode cJ6_bitCount_0f7a4 27 = .ok (.iushr, 1) := by decide +kernel
theorem dJ6_bitCount_0f7a4_28 : decode cJ6_bitCount_0f7a4 28 = .ok (.iadd, 1) := by decide +kernel
theorem dJ6_bitCount_0f7a4_29 : decode cJ6_bitCount_0f7a4 29 = .ok (.ldc_w 267, 3) := by decide +kernel
theorem dJ6_bitCount_0f7a4_32 : decode cJ6_bitCount_0f7a4 32 = .ok (.iand, 1) := by decide +kernel
theorem dJ6_bitCount_0f7a4_33 : decode cJ6_bitCount_0f7a4 33 = .ok (.istore_n 0, 1) := by decide +kernel
theorem dJ6_bitCount_0f7a4_34 : decode cJ6_bitCount_0f7a4 34 = .ok (.iload_n 0, 1) := by decide +kernel
theorem dJ6_bitCount_0f7a4_35 : decode cJ6_bitCount_0f7a4 35 = .ok (.iload_n 0, 1) := by decide +kernel
theorem dJ6_bitCount_0f7a4_36 : decode cJ6_bitCount_0f7a4 36 = .ok (.bipush 8, 2) := by decide +kernel
theorem dJ6_bitCount_0f7a4_38 : decode cJ6_bitCount_0f7a4 38 = .ok (.iushr, 1) := by decide +kernel
theorem dJ6_bitCount_0f7a4_39 : decode cJ6_bitCount_0f7a4 39 = .ok (.iadd, 1) := by decide +kernel
theorem dJ6_bitCount_0f7a4_40 : decode cJ6_bitCount_0f7a4 40 = .ok (.istore_n 0, 1) := by decide +kernel
theorem dJ6_bitCount_0f7a4_41 : decode cJ6_bitCount_0f7a4 41 = .ok (.iload_n 0, 1) := by decide +kernel
theorem dJ6_bitCount_0f7a4_42 : decode cJ6_bitCount_0f7a4 42 = .ok (.iload_n 0, 1) := by decide +kernel
theorem dJ6_bitCount_0f7a4_43 : decode cJ6_bitCount_0f7a4 43 = .ok (.bipush 16, 2) := by decide +kernel
theorem dJ6_bitCount_0f7a4_45 : decode cJ6_bitCount_0f7a4 45 = .ok (.iushr, 1) := by decide +kernel
theorem dJ6_bitCount_0f7a4_46 : decode cJ6_bitCount_0f7a4 46 = .ok (.iadd, 1) := by decide +kernel
theorem dJ6_bitCount_0f7a4_47 : decode cJ6_bitCount_0f7a4 47 = .ok (.istore_n 0, 1) := by decide +kernel
theorem dJ6_bitCount_0f7a4_48 : decode cJ6_bitCount_0f7a4 48 = .ok (.iload_n 0, 1) := by decide +kernel
theorem dJ6_bitCount_0f7a4_49 : decode cJ6_bitCount_0f7a4 49 = .ok (.bipush 63, 2) := by decide +kernel
theorem dJ6_bitCount_0f7a4_51 : decode cJ6_bitCount_0f7a4 51 = .ok (.iand, 1) := by decide +kernel
theorem dJ6_bitCount_0f7a4_52 : decode cJ6_bitCount_0f7a4 52 = .ok (.ireturn, 1) := by decide +kernel
theorem dJ13_bitCount_95d88_0 : decode cJ13_bitCount_95d88 0 = .ok (.lload_n 0, 1) := by decide +kernel
theorem dJ13_bitCount_95d88_1 : decode cJ13_bitCount_95d88 1 = .ok (.lload_n 0, 1) := by decide +kernel
theorem dJ13_bitCount_95d88_2 : decode cJ13_bitCount_95d88 2 = .ok (.iconst 1, 1) := by decide +kernel
theorem dJ13_bitCount_95d88_3 : decode cJ13_bitCount_95d88 3 = .ok (.lushr, 1) := by decide +kernel
theorem dJ13_bitCount_95d88_4 : decode cJ13_bitCount_95d88 4 = .ok (.ldc2_w 314, 3) := by decide +kernel
theorem dJ13_bitCount_95d88_7 : decode cJ13_bitCount_95d88 7 = .ok (.land, 1) := by decide +kernel
theorem dJ13_bitCount_95d88_8 : decode cJ13_bitCount_95d88 8 = .ok (.lsub, 1) := by decide +kernel
theorem dJ13_bitCount_95d88_9 : decode cJ13_bitCount_95d88 9 = .ok (.lstore_n 0, 1) := by decide +kernel
theorem dJ13_bitCount_95d88_10 : decode cJ13_bitCount_95d88 10 = .ok (.lload_n 0, 1) := by decide +kernel
theorem dJ13_bitCount_95d88_11 : decode cJ13_bitCount_95d88 11 = .ok (.ldc2_w 316, 3) := by decide +kernel
theorem dJ13_bitCount_95d88_14 : decode cJ13_bitCount_95d88 14 = .ok (.land, 1) := by decide +kernel
theorem dJ13_bitCount_95d88_15 : decode cJ13_bitCount_95d88 15 = .ok (.lload_n 0, 1) := by decide +kernel
theorem dJ13_bitCount_95d88_16 : decode cJ13_bitCount_95d88 16 = .ok (.iconst 2, 1) := by decide +kernel
theorem dJ13_bitCount_95d88_17 : decode cJ13_bitCount_95d88 17 = .ok (.lushr, 1) := by decide +kernel
theorem dJ13_bitCount_95d88_18 : decode cJ13_bitCount_95d88 18 = .ok (.ldc2_w 316, 3) := by decide +kernel
theorem dJ13_bitCount_95d88_21 : decode cJ13_bitCount_95d88 21 = .ok (.land, 1) := by decide +kernel
theorem dJ13_bitCount_95d88_22 : decode cJ13_bitCount_95d88 22 = .ok (.ladd, 1) := by decide +kernel
theorem dJ13_bitCount_95d88_23 : decode cJ13_bitCount_95d88 23 = .ok (.lstore_n 0, 1) := by decide +kernel
theorem dJ13_bitCount_95d88_24 : decode cJ13_bitCount_95d88 24 = .ok (.lload_n 0, 1) := by decide +kernel
theorem dJ13_bitCount_95d88_25 : decode cJ13_bitCount_95d88 25 = .ok (.lload_n 0, 1) := by decide +kernel
theorem dJ13_bitCount_95d88_26 : decode cJ13_bitCount_95d88 26 = .ok (.iconst 4, 1) := by decide +kernel
theorem dJ13_bitCount_95d88_27 : decode cJ13_bitCount_95d88 27 = .ok (.lushr, 1) := by decide +kernel
theorem dJ13_bitCount_95d88_28 : decode cJ13_bitCount_95d88 28 = .ok (.ladd, 1) := by decide +kernel
theorem dJ13_bitCount_95d88_29 : decode cJ13_bitCount_95d88 29 = .ok (.ldc2_w 318, 3) := by decide +kernel
theorem dJ13_bitCount_95d88_32 : decode cJ13_bitCount_95d88 32 = .ok (.land, 1) := by decide +kernel
theorem dJ13_bitCount_95d88_33 : decode cJ13_bitCount_95d88 33 = .ok (.lstore_n 0, 1) := by decide +kernel
theorem dJ13_bitCount_95d88_34 : decode cJ13_bitCount_95d88 34 = .ok (.lload_n 0, 1) := by decide +kernel
theorem dJ13_bitCount_95d88_35 : decode cJ13_bitCount_95d88 35 = .ok (.lload_n 0, 1) := by decide +kernel
theorem dJ13_bitCount_95d88_36 : decode cJ13_bitCount_95d88 36 = .ok (.bipush 8, 2) := by decide +kernel
theorem dJ13_bitCount_95d88_38 : decode cJ13_bitCount_95d88 38 = .ok (.lushr, 1) := by decide +kernel
theorem dJ13_bitCount_95d88_39 : decode cJ13_bitCount_95d88 39 = .ok (.ladd, 1) := by decide +kernel
theorem dJ13_bitCount_95d88_40 : decode cJ13_bitCount_95d88 40 = .ok (.lstore_n 0, 1) := by decide +kernel
theorem dJ13_bitCount_95d88_41 : decode cJ13_bitCount_95d88 41 = .ok (.lload_n 0, 1) := by decide +kernel
theorem dJ13_bitCount_95d88_42 : decode cJ13_bitCount_95d88 42 = .ok (.lload_n 0, 1) := by decide +kernel
theorem dJ13_bitCount_95d88_43 : decode cJ13_bitCount_95d88 43 = .ok (.bipush 16, 2) := by decide +kernel
theorem dJ13_bitCount_95d88_45 : decode cJ13_bitCount_95d88 45 = .ok (.lushr, 1) := by decide +kernel
theorem dJ13_bitCount_95d88_46 : decode cJ13_bitCount_95d88 46 = .ok (.ladd, 1) := by decide +kernel
theorem dJ13_bitCount_95d88_47 : decode cJ13_bitCount_95d88 47 = .ok (.lstore_n 0, 1) := by decide +kernel
theorem dJ13_bitCount_95d88_48 : decode cJ13_bitCount_95d88 48 = .ok (.lload_n 0, 1) := by decide +kernel
theorem dJ13_bitCount_95d88_49 : decode cJ13_bitCount_95d88 49 = .ok (.lload_n 0, 1) := by decide +kernel
theorem dJ13_bitCount_95d88_50 : decode cJ13_bitCount_95d88 50 = .ok (.bipush 32, 2) := by decide +kernel
theorem dJ13_bitCount_95d88_52 : decode cJ13_bitCount_95d88 52 = .ok (.lushr, 1) := by decide +kernel
theorem dJ13_bitCount_95d88_53 : decode cJ13_bitCount_95d88 53 = .ok (.ladd, 1) := by decide +kernel
theorem dJ13_bitCount_95d88_54 : decode cJ13_bitCount_95d88 54 = .ok (.lstore_n 0, 1) := by decide +kernel
theorem dJ13_bitCount_95d88_55 : decode cJ13_bitCount_95d88 55 = .ok (.lload_n 0, 1) := by decide +kernel
theorem dJ13_bitCount_95d88_56 : decode cJ13_bitCount_95d88 56 = .ok (.l2i, 1) := by decide +kernel
theorem dJ13_bitCount_95d88_57 : decode cJ13_bitCount_95d88 57 = .ok (.bipush 127, 2) := by decide +kernel
theorem dJ13_bitCount_95d88_59 : decode cJ13_bitCount_95d88 59 = .ok (.iand, 1) := by decide +kernel
theorem dJ13_bitCount_95d88_60 : decode cJ13_bitCount_95d88 60 = .ok (.ireturn, 1) := by decide +kernel
theorem dJ9_abs_0f7a4_0 : decode cJ9_abs_0f7a4 0 = .ok (.iload_n 0, 1) := by decide +kernel
theorem dJ9_abs_0f7a4_1 : decode cJ9_abs_0f7a4 1 = .ok (.ifCond .ge 8, 3) := by decide +kernel
theorem dJ9_abs_0f7a4_4 : decode cJ9_abs_0f7a4 4 = .ok (.iload_n 0, 1) := by decide +kernel
theorem dJ9_abs_0f7a4_5 : decode cJ9_abs_0f7a4 5 = .ok (.ineg, 1) := by decide +kernel
theorem dJ9_abs_0f7a4_6 : decode cJ9_abs_0f7a4 6 = .ok (.goto 4, 3) := by decide +kernel
theorem dJ9_abs_0f7a4_9 : decode cJ9_abs_0f7a4 9 = .ok (.iload_n 0, 1) := by decide +kernel
theorem dJ9_abs_0f7a4_10 : decode cJ9_abs_0f7a4 10 = .ok (.ireturn, 1) := by decide +kernel
theorem dJ9_max_7cf53_0 : decode cJ9_max_7cf53 0 = .ok (.iload_n 0, 1) := by decide +kernel
theorem dJ9_max_7cf53_1 : decode cJ9_max_7cf53 1 = .ok (.iload_n 1, 1) := by decide +kernel
theorem dJ9_max_7cf53_2 : decode cJ9_max_7cf53 2 = .ok (.if_icmp .lt 7, 3) := by decide +kernel
theorem dJ9_max_7cf53_5 : decode cJ9_max_7cf53 5 = .ok (.iload_n 0, 1) := by decide +kernel
theorem dJ9_max_7cf53_6 : decode cJ9_max_7cf53 6 = .ok (.goto 4, 3) := by decide +kernel
theorem dJ9_max_7cf53_9 : decode cJ9_max_7cf53 9 = .ok (.iload_n 1, 1) := by decide +kernel
theorem dJ9_max_7cf53_10 : decode cJ9_max_7cf53 10 = .ok (.ireturn, 1) := by decide +kernel
theorem dJ9_min_7cf53_0 : decode cJ9_min_7cf53 0 = .ok (.iload_n 0, 1) := by decide +kernel
theorem dJ9_min_7cf53_1 : decode cJ9_min_7cf53 1 = .ok (.iload_n 1, 1) := by decide +kernel
theorem dJ9_min_7cf53_2 : decode cJ9_min_7cf53 2 = .ok (.if_icmp .gt 7, 3) := by decide +kernel
theorem dJ9_min_7cf53_5 : decode cJ9_min_7cf53 5 = .ok (.iload_n 0, 1) := by decide +kernel
theorem dJ9_min_7cf53_6 : decode cJ9_min_7cf53 6 = .ok (.goto 4, 3) := by decide +kernel
theorem dJ9_min_7cf53_9 : decode cJ9_min_7cf53 9 = .ok (.iload_n 1, 1) := by decide +kernel
theorem dJ9_min_7cf53_10 : decode cJ9_min_7cf53 10 = .ok (.ireturn, 1) := by decide +kernel
theorem dJ0_length_8abf5_0 : decode cJ0_length_8abf5 0 = .ok (.aload_n 0, 1) := by decide +kernel
theorem dJ0_length_8abf5_1 : decode cJ0_length_8abf5 1 = .ok (.getfield 9, 3) := by decide +kernel
theorem dJ0_length_8abf5_4 : decode cJ0_length_8abf5 4 = .ok (.arraylength, 1) := by decide +kernel
theorem dJ0_length_8abf5_5 : decode cJ0_length_8abf5 5 = .ok (.aload_n 0, 1) := by decide +kernel
theorem dJ0_length_8abf5_6 : decode cJ0_length_8abf5 6 = .ok (.invokevirtual 335, 3) := by decide +kernel
theorem dJ0_length_8abf5_9 : decode cJ0_length_8abf5 9 = .ok (.ishr, 1) := by decide +kernel
theorem dJ0_length_8abf5_10 : decode cJ0_length_8abf5 10 = .ok (.ireturn, 1) := by decide +kernel
theorem dJ0_toCharArray_70df3_0 : decode cJ0_toCharArray_70df3 0 = .ok (.aload_n 0, 1) := by decide +kernel
theorem dJ0_toCharArray_70df3_1 : decode cJ0_toCharArray_70df3 1 = .ok (.invokevirtual 492, 3) := by decide +kernel
theorem dJ0_toCharArray_70df3_4 : decode cJ0_toCharArray_70df3 4 = .ok (.ifCond .eq 13, 3) := by decide +kernel
theorem dJ0_toCharArray_70df3_7 : decode cJ0_toCharArray_70df3 7 = .ok (.aload_n 0, 1) := by decide +kernel
theorem dJ0_toCharArray_70df3_8 : decode cJ0_toCharArray_70df3 8 = .ok (.getfield 9, 3) := by decide +kernel
theorem dJ0_toCharArray_70df3_11 : decode cJ0_toCharArray_70df3 11 = .ok (.invokestatic 299, 3) := by decide +kernel
theorem dJ0_toCharArray_70df3_14 : decode cJ0_toCharArray_70df3 14 = .ok (.goto 10, 3) := by decide +kernel
theorem dJ0_toCharArray_70df3_17 : decode cJ0_toCharArray_70df3 17 = .ok (.aload_n 0, 1) := by decide +kernel
theorem dJ0_toCharArray_70df3_18 : decode cJ0_toCharArray_70df3 18 = .ok (.getfield 9, 3) := by decide +kernel
theorem dJ0_toCharArray_70df3_21 : decode cJ0_toCharArray_70df3 21 = .ok (.invokestatic 303, 3) := by decide +kernel
theorem dJ0_toCharArray_70df3_24 : decode cJ0_toCharArray_70df3 24 = .ok (.areturn, 1) := by decide +kernel
theorem dJ0_coder_7d493_0 : decode cJ0_coder_7d493 0 = .ok (.getstatic 38, 3) := by decide +kernel
theorem dJ0_coder_7d493_3 : decode cJ0_coder_7d493 3 = .ok (.ifCond .eq 10, 3) := by decide +kernel
theorem dJ0_coder_7d493_6 : decode cJ0_coder_7d493 6 = .ok (.aload_n 0, 1) := by decide +kernel
theorem dJ0_coder_7d493_7 : decode cJ0_coder_7d493 7 = .ok (.getfield 15, 3) := by decide +kernel
theorem dJ0_coder_7d493_10 : decode cJ0_coder_7d493 10 = .ok (.goto 4, 3) := by decide +kernel
theorem dJ0_coder_7d493_13 : decode cJ0_coder_7d493 13 = .ok (.iconst 1, 1) := by decide +kernel
theorem dJ0_coder_7d493_14 : decode cJ0_coder_7d493 14 = .ok (.ireturn, 1) := by decide +kernel
theorem dJ0_isLatin1_aae02_0 : decode cJ0_isLatin1_aae02 0 = .ok (.getstatic 38, 3) := by decide +kernel
theorem dJ0_isLatin1_aae02_3 : decode cJ0_isLatin1_aae02 3 = .ok (.ifCond .eq 14, 3) := by decide +kernel
theorem dJ0_isLatin1_aae02_6 : decode cJ0_isLatin1_aae02 6 = .ok (.aload_n 0, 1) := by decide +kernel
theorem dJ0_isLatin1_aae02_7 : decode cJ0_isLatin1_aae02 7 = .ok (.getfield 15, 3) := by decide +kernel
theorem dJ0_isLatin1_aae02_10 : decode cJ0_isLatin1_aae02 10 = .ok (.ifCond .ne 7, 3) := by decide +kernel
theorem dJ0_isLatin1_aae02_13 : decode cJ0_isLatin1_aae02 13 = .ok (.iconst 1, 1) := by decide +kernel
theorem dJ0_isLatin1_aae02_14 : decode cJ0_isLatin1_aae02 14 = .ok (.goto 4, 3) := by decide +kernel
theorem dJ0_isLatin1_aae02_17 : decode cJ0_isLatin1_aae02 17 = .ok (.iconst 0, 1) := by decide +kernel
theorem dJ0_isLatin1_aae02_18 : decode cJ0_isLatin1_aae02 18 = .ok (.ireturn, 1) := by decide +kernel
theorem dJ0_checkBoundsOffCount_cabcc_0 : decode cJ0_checkBoundsOffCount_cabcc 0 = .ok (.iload_n 0, 1) := by decide +kernel
theorem dJ0_checkBoundsOffCount_cabcc_1 : decode cJ0_checkBoundsOffCount_cabcc 1 = .ok (.iload_n 1, 1) := by decide +kernel
theorem dJ0_checkBoundsOffCount_cabcc_2 : decode cJ0_checkBoundsOffCount_cabcc 2 = .ok (.iload_n 2, 1) := by decide +kernel
theorem dJ0_checkBoundsOffCount_cabcc_3 : decode cJ0_checkBoundsOffCount_cabcc 3 = .ok (.getstatic 1053, 3) := by decide +kernel
theorem dJ0_checkBoundsOffCount_cabcc_6 : decode cJ0_checkBoundsOffCount_cabcc 6 = .ok (.invokestatic 1065, 3) := by decide +kernel
theorem dJ0_checkBoundsOffCount_cabcc_9 : decode cJ0_checkBoundsOffCount_cabcc 9 = .ok (.ireturn, 1) := by decide +kernel
theorem dJ1_toChars_9d188_0 : decode cJ1_toChars_9d188 0 = .ok (.aload_n 0, 1) := by decide +kernel
theorem dJ1_toChars_9d188_1 : decode cJ1_toChars_9d188 1 = .ok (.arraylength, 1) := by decide +kernel
theorem dJ1_toChars_9d188_2 : decode cJ1_toChars_9d188 2 = .ok (.newarray .char, 2) := by decide +kernel
theorem dJ1_toChars_9d188_4 : decode cJ1_toChars_9d188 4 = .ok (.astore_n 1, 1) := by decide +kernel
theorem dJ1_toChars_9d188_5 : decode cJ1_toChars_9d188 5 = .ok (.aload_n 0, 1) := by decide +kernel
theorem dJ1_toChars_9d188_6 : decode cJ1_toChars_9d188 6 = .ok (.iconst 0, 1) := by decide +kernel
theorem dJ1_toChars_9d188_7 : decode cJ1_toChars_9d188 7 = .ok (.aload_n 1, 1) := by decide +kernel
theorem dJ1_toChars_9d188_8 : decode cJ1_toChars_9d188 8 = .ok (.iconst 0, 1) := by decide +kernel
theorem dJ1_toChars_9d188_9 : decode cJ1_toChars_9d188 9 = .ok (.aload_n 0, 1) := by decide +kernel
theorem dJ1_toChars_9d188_10 : decode cJ1_toChars_9d188 10 = .ok (.arraylength, 1) := by decide +kernel
theorem dJ1_toChars_9d188_11 : decode cJ1_toChars_9d188 11 = .ok (.invokestatic 13, 3) := by decide +kernel
theorem dJ1_toChars_9d188_14 : decode cJ1_toChars_9d188 14 = .ok (.aload_n 1, 1) := by decide +kernel
theorem dJ1_toChars_9d188_15 : decode cJ1_toChars_9d188 15 = .ok (.areturn, 1) := by decide +kernel
theorem dJ1_inflate_03870_0 : decode cJ1_inflate_03870 0 = .ok (.iconst 0, 1) := by decide +kernel
theorem dJ1_inflate_03870_1 : decode cJ1_inflate_03870 1 = .ok (.istore 5, 2) := by decide +kernel
theorem dJ1_inflate_03870_3 : decode cJ1_inflate_03870 3 = .ok (.iload 5, 2) := by decide +kernel
theorem dJ1_inflate_03870_5 : decode cJ1_inflate_03870 5 = .ok (.iload 4, 2) := by decide +kernel
theorem dJ1_inflate_03870_7 : decode cJ1_inflate_03870 7 = .ok (.if_icmp .ge 26, 3) := by decide +kernel
theorem dJ1_inflate_03870_10 : decode cJ1_inflate_03870 10 = .ok (.aload_n 2, 1) := by decide +kernel
theorem dJ1_inflate_03870_11 : decode cJ1_inflate_03870 11 = .ok (.iload_n 3, 1) := by decide +kernel
theorem dJ1_inflate_03870_12 : decode cJ1_inflate_03870 12 = .ok (.iinc 3 1, 3) := by decide +kernel
theorem dJ1_inflate_03870_15 : decode cJ1_inflate_03870 15 = .ok (.aload_n 0, 1) := by decide +kernel
theorem dJ1_inflate_03870_16 : decode cJ1_inflate_03870 16 = .ok (.iload_n 1, 1) := by decide +kernel
theorem dJ1_inflate_03870_17 : decode cJ1_inflate_03870 17 = .ok (.iinc 1 1, 3) := by decide +kernel
theorem dJ1_inflate_03870_20 : decode cJ1_inflate_03870 20 = .ok (.baload, 1) := by decide +kernel
theorem dJ1_inflate_03870_21 : decode cJ1_inflate_03870 21 = .ok (.sipush 255, 3) := by decide +kernel
theorem dJ1_inflate_03870_24 : decode cJ1_inflate_03870 24 = .ok (.iand, 1) := by decide +kernel
theorem dJ1_inflate_03870_25 : decode cJ1_inflate_03870 25 = .ok (.i2c, 1) := by decide +kernel
theorem dJ1_inflate_03870_26 : decode cJ1_inflate_03870 26 = .ok (.castore, 1) := by decide +kernel
theorem dJ1_inflate_03870_27 : decode cJ1_inflate_03870 27 = .ok (.iinc 5 1, 3) := by decide +kernel
theorem dJ1_inflate_03870_30 : decode cJ1_inflate_03870 30 = .ok (.goto (-27), 3) := by decide +kernel
theorem dJ1_inflate_03870_33 : decode cJ1_inflate_03870 33 = .ok (.return_, 1) := by decide +kernel
theorem dJ2_getChar_3b067_0 : decode cJ2_getChar_3b067 0 = .ok (.getstatic 44, 3) := by decide +kernel
theorem dJ2_getChar_3b067_3 : decode cJ2_getChar_3b067 3 = .ok (.ifCond .ne 25, 3) := by decide +kernel
theorem dJ2_getChar_3b067_6 : decode cJ2_getChar_3b067 6 = .ok (.iload_n 1, 1) := by decide +kernel
theorem dJ2_getChar_3b067_7 : decode cJ2_getChar_3b067 7 = .ok (.ifCond .lt 11, 3) := by decide +kernel
theorem dJ2_getChar_3b067_10 : decode cJ2_getChar_3b067 10 = .ok (.iload_n 1, 1) := by decide +kernel
theorem dJ2_getChar_3b067_11 : decode cJ2_getChar_3b067 11 = .ok (.aload_n 0, 1) := by decide +kernel
theorem dJ2_getChar_3b067_12 : decode cJ2_getChar_3b067 12 = .ok (.invokestatic 48, 3) := by decide +kernel
theorem dJ2_getChar_3b067_15 : decode cJ2_getChar_3b067 15 = .ok (.if_icmp .lt 13, 3) := by decide +kernel
theorem dJ2_getChar_3b067_18 : decode cJ2_getChar_3b067 18 = .ok (.new 52, 3) := by decide +kernel
theorem dJ2_getChar_3b067_21 : decode cJ2_getChar_3b067 21 = .ok (.dup, 1) := by decide +kernel
theorem dJ2_getChar_3b067_22 : decode cJ2_getChar_3b067 22 = .ok (.ldc 54, 2) := by decide +kernel
theorem dJ2_getChar_3b067_24 : decode cJ2_getChar_3b067 24 = .ok (.invokespecial 56, 3) := by decide +kernel
theorem dJ2_getChar_3b067_27 : decode cJ2_getChar_3b067 27 = .ok (.athrow, 1) := by decide +kernel
theorem dJ2_getChar_3b067_28 : decode cJ2_getChar_3b067 28 = .ok (.iload_n 1, 1) := by decide +kernel
theorem dJ2_getChar_3b067_29 : decode cJ2_getChar_3b067 29 = .ok (.iconst 1, 1) := by decide +kernel
theorem dJ2_getChar_3b067_30 : decode cJ2_getChar_3b067 30 = .ok (.ishl, 1) := by decide +kernel
theorem dJ2_getChar_3b067_31 : decode cJ2_getChar_3b067 31 = .ok (.istore_n 1, 1) := by decide +kernel
theorem dJ2_getChar_3b067_32 : decode cJ2_getChar_3b067 32 = .ok (.aload_n 0, 1) := by decide +kernel
theorem dJ2_getChar_3b067_33 : decode cJ2_getChar_3b067 33 = .ok (.iload_n 1, 1) := by decide +kernel
theorem dJ2_getChar_3b067_34 : decode cJ2_getChar_3b067 34 = .ok (.iinc 1 1, 3) := by decide +kernel
theorem dJ2_getChar_3b067_37 : decode cJ2_getChar_3b067 37 = .ok (.baload, 1) := by decide +kernel
theorem dJ2_getChar_3b067_38 : decode cJ2_getChar_3b067 38 = .ok (.sipush 255, 3) := by decide +kernel
theorem dJ2_getChar_3b067_41 : decode cJ2_getChar_3b067 41 = .ok (.iand, 1) := by decide +kernel
theorem dJ2_getChar_3b067_42 : decode cJ2_getChar_3b067 42 = .ok (.getstatic 59, 3) := by decide +kernel
theorem dJ2_getChar_3b067_45 : decode cJ2_getChar_3b067 45 = .ok (.ishl, 1) := by decide +kernel
theorem dJ2_getChar_3b067_46 : decode cJ2_getChar_3b067 46 = .ok (.aload_n 0, 1) := by decide +kernel
theorem dJ2_getChar_3b067_47 : decode cJ2_getChar_3b067 47 = .ok (.iload_n 1, 1) := by decide +kernel
theorem dJ2_getChar_3b067_48 : decode cJ2_getChar_3b067 48 = .ok (.baload, 1) := by decide +kernel
theorem dJ2_getChar_3b067_49 : decode cJ2_getChar_3b067 49 = .ok (.sipush 255, 3) := by decide +kernel
theorem dJ2_getChar_3b067_52 : decode cJ2_getChar_3b067 52 = .ok (.iand, 1) := by decide +kernel
theorem dJ2_getChar_3b067_53 : decode cJ2_getChar_3b067 53 = .ok (.getstatic 63, 3) := by decide +kernel
theorem dJ2_getChar_3b067_56 : decode cJ2_getChar_3b067 56 = .ok (.ishl, 1) := by decide +kernel
theorem dJ2_getChar_3b067_57 : decode cJ2_getChar_3b067 57 = .ok (.ior, 1) := by decide +kernel
theorem dJ2_getChar_3b067_58 : decode cJ2_getChar_3b067 58 = .ok (.i2c, 1) := by decide +kernel
theorem dJ2_getChar_3b067_59 : decode cJ2_getChar_3b067 59 = .ok (.ireturn, 1) := by decide +kernel
theorem dJ2_length_9d52b_0 : decode cJ2_length_9d52b 0 = .ok (.aload_n 0, 1) := by decide +kernel
theorem dJ2_length_9d52b_1 : decode cJ2_length_9d52b 1 = .ok (.arraylength, 1) := by decide +kernel
theorem dJ2_length_9d52b_2 : decode cJ2_length_9d52b 2 = .ok (.iconst 1, 1) := by decide +kernel
theorem dJ2_length_9d52b_3 : decode cJ2_length_9d52b 3 = .ok (.ishr, 1) := by decide +kernel
theorem dJ2_length_9d52b_4 : decode cJ2_length_9d52b 4 = .ok (.ireturn, 1) := by decide +kernel
theorem dJ2_toChars_9d188_0 : decode cJ2_toChars_9d188 0 = .ok (.aload_n 0, 1) := by decide +kernel
theorem dJ2_toChars_9d188_1 : decode cJ2_toChars_9d188 1 = .ok (.arraylength, 1) := by decide +kernel
theorem dJ2_toChars_9d188_2 : decode cJ2_toChars_9d188 2 = .ok (.iconst 1, 1) := by decide +kernel
theorem dJ2_toChars_9d188_3 : decode cJ2_toChars_9d188 3 = .ok (.ishr, 1) := by decide +kernel
theorem dJ2_toChars_9d188_4 : decode cJ2_toChars_9d188 4 = .ok (.newarray .char, 2) := by decide +kernel
theorem dJ2_toChars_9d188_6 : decode cJ2_toChars_9d188 6 = .ok (.astore_n 1, 1) := by decide +kernel
theorem dJ2_toChars_9d188_7 : decode cJ2_toChars_9d188 7 = .ok (.aload_n 0, 1) := by decide +kernel
theorem dJ2_toChars_9d188_8 : decode cJ2_toChars_9d188 8 = .ok (.iconst 0, 1) := by decide +kernel
theorem dJ2_toChars_9d188_9 : decode cJ2_toChars_9d188 9 = .ok (.aload_n 1, 1) := by decide +kernel
theorem dJ2_toChars_9d188_10 : decode cJ2_toChars_9d188 10 = .ok (.arraylength, 1) := by decide +kernel
theorem dJ2_toChars_9d188_11 : decode cJ2_toChars_9d188 11 = .ok (.aload_n 1, 1) := by decide +kernel
theorem dJ2_toChars_9d188_12 : decode cJ2_toChars_9d188 12 = .ok (.iconst 0, 1) := by decide +kernel
theorem dJ2_toChars_9d188_13 : decode cJ2_toChars_9d188 13 = .ok (.invokestatic 103, 3) := by decide +kernel
theorem dJ2_toChars_9d188_16 : decode cJ2_toChars_9d188 16 = .ok (.aload_n 1, 1) := by decide +kernel
theorem dJ2_toChars_9d188_17 : decode cJ2_toChars_9d188 17 = .ok (.areturn, 1) := by decide +kernel
theorem dJ2_getChars_a1a8b_0 : decode cJ2_getChars_a1a8b 0 = .ok (.iload_n 1, 1) := by decide +kernel
theorem dJ2_getChars_a1a8b_1 : decode cJ2_getChars_a1a8b 1 = .ok (.iload_n 2, 1) := by decide +kernel
theorem dJ2_getChars_a1a8b_2 : decode cJ2_getChars_a1a8b 2 = .ok (.if_icmp .ge 11, 3) := by decide +kernel
theorem dJ2_getChars_a1a8b_5 : decode cJ2_getChars_a1a8b 5 = .ok (.iload_n 1, 1) := by decide +kernel
theorem dJ2_getChars_a1a8b_6 : decode cJ2_getChars_a1a8b 6 = .ok (.iload_n 2, 1) := by decide +kernel
theorem dJ2_getChars_a1a8b_7 : decode cJ2_getChars_a1a8b 7 = .ok (.iload_n 1, 1) := by decide +kernel
theorem dJ2_getChars_a1a8b_8 : decode cJ2_getChars_a1a8b 8 = .ok (.isub, 1) := by decide +kernel
theorem dJ2_getChars_a1a8b_9 : decode cJ2_getChars_a1a8b 9 = .ok (.aload_n 0, 1) := by decide +kernel
theorem dJ2_getChars_a1a8b_10 : decode cJ2_getChars_a1a8b 10 = .ok (.invokestatic 173, 3) := by decide +kernel
theorem dJ2_getChars_a1a8b_13 : decode cJ2_getChars_a1a8b 13 = .ok (.iload_n 1, 1) := by decide +kernel
theorem dJ2_getChars_a1a8b_14 : decode cJ2_getChars_a1a8b 14 = .ok (.istore 5, 2) := by decide +kernel
theorem dJ2_getChars_a1a8b_16 : decode cJ2_getChars_a1a8b 16 = .ok (.iload 5, 2) := by decide +kernel
theorem dJ2_getChars_a1a8b_18 : decode cJ2_getChars_a1a8b 18 = .ok (.iload_n 2, 1) := by decide +kernel
theorem dJ2_getChars_a1a8b_19 : decode cJ2_getChars_a1a8b 19 = .ok (.if_icmp .ge 22, 3) := by decide +kernel
theorem dJ2_getChars_a1a8b_22 : decode cJ2_getChars_a1a8b 22 = .ok (.aload_n 3, 1) := by decide +kernel
theorem dJ2_getChars_a1a8b_23 : decode cJ2_getChars_a1a8b 23 = .ok (.iload 4, 2) := by decide +kernel
theorem dJ2_getChars_a1a8b_25 : decode cJ2_getChars_a1a8b 25 = .ok (.iinc 4 1, 3) := by decide +kernel
theorem dJ2_getChars_a1a8b_28 : decode cJ2_getChars_a1a8b 28 = .ok (.aload_n 0, 1) := by decide +kernel
theorem dJ2_getChars_a1a8b_29 : decode cJ2_getChars_a1a8b 29 = .ok (.iload 5, 2) := by decide +kernel
theorem dJ2_getChars_a1a8b_31 : decode cJ2_getChars_a1a8b 31 = .ok (.invokestatic 71, 3) := by decide +kernel
theorem dJ2_getChars_a1a8b_34 : decode cJ2_getChars_a1a8b 34 = .ok (.castore, 1) := by decide +kernel
theorem dJ2_getChars_a1a8b_35 : decode cJ2_getChars_a1a8b 35 = .ok (.iinc 5 1, 3) := by decide +kernel
theorem dJ2_getChars_a1a8b_38 : decode cJ2_getChars_a1a8b 38 = .ok (.goto (-22), 3) := by decide +kernel
theorem dJ2_getChars_a1a8b_41 : decode cJ2_getChars_a1a8b 41 = .ok (.return_, 1) := by decide +kernel
theorem dJ2_checkBoundsOffCount_d044e_0 : decode cJ2_checkBoundsOffCount_d044e 0 = .ok (.iload_n 0, 1) := by decide +kernel
theorem dJ2_checkBoundsOffCount_d044e_1 : decode cJ2_checkBoundsOffCount_d044e 1 = .ok (.iload_n 1, 1) := by decide +kernel
theorem dJ2_checkBoundsOffCount_d044e_2 : decode cJ2_checkBoundsOffCount_d044e 2 = .ok (.aload_n 2, 1) := by decide +kernel
theorem dJ2_checkBoundsOffCount_d044e_3 : decode cJ2_checkBoundsOffCount_d044e 3 = .ok (.invokestatic 48, 3) := by decide +kernel
theorem dJ2_checkBoundsOffCount_d044e_6 : decode cJ2_checkBoundsOffCount_d044e 6 = .ok (.invokestatic 419, 3) := by decide +kernel
theorem dJ2_checkBoundsOffCount_d044e_9 : decode cJ2_checkBoundsOffCount_d044e 9 = .ok (.pop, 1) := by decide +kernel
theorem dJ2_checkBoundsOffCount_d044e_10 : decode cJ2_checkBoundsOffCount_d044e 10 = .ok (.return_, 1) := by decide +kernel
theorem dJ3_checkFromIndexSize_8c36e_0 : decode cJ3_checkFromIndexSize_8c36e 0 = .ok (.iload_n 2, 1) := by decide +kernel
theorem dJ3_checkFromIndexSize_8c36e_1 : decode cJ3_checkFromIndexSize_8c36e 1 = .ok (.iload_n 0, 1) := by decide +kernel
theorem dJ3_checkFromIndexSize_8c36e_2 : decode cJ3_checkFromIndexSize_8c36e 2 = .ok (.ior, 1) := by decide +kernel
theorem dJ3_checkFromIndexSize_8c36e_3 : decode cJ3_checkFromIndexSize_8c36e 3 = .ok (.iload_n 1, 1) := by decide +kernel
theorem dJ3_checkFromIndexSize_8c36e_4 : decode cJ3_checkFromIndexSize_8c36e 4 = .ok (.ior, 1) := by decide +kernel
theorem dJ3_checkFromIndexSize_8c36e_5 : decode cJ3_checkFromIndexSize_8c36e 5 = .ok (.ifCond .lt 10, 3) := by decide +kernel
theorem dJ3_checkFromIndexSize_8c36e_8 : decode cJ3_checkFromIndexSize_8c36e 8 = .ok (.iload_n 1, 1) := by decide +kernel
theorem dJ3_checkFromIndexSize_8c36e_9 : decode cJ3_checkFromIndexSize_8c36e 9 = .ok (.iload_n 2, 1) := by decide +kernel
theorem dJ3_checkFromIndexSize_8c36e_10 : decode cJ3_checkFromIndexSize_8c36e 10 = .ok (.iload_n 0, 1) := by decide +kernel
theorem dJ3_checkFromIndexSize_8c36e_11 : decode cJ3_checkFromIndexSize_8c36e 11 = .ok (.isub, 1) := by decide +kernel
theorem dJ3_checkFromIndexSize_8c36e_12 : decode cJ3_checkFromIndexSize_8c36e 12 = .ok (.if_icmp .le 11, 3) := by decide +kernel
theorem dJ3_checkFromIndexSize_8c36e_15 : decode cJ3_checkFromIndexSize_8c36e 15 = .ok (.aload_n 3, 1) := by decide +kernel
theorem dJ3_checkFromIndexSize_8c36e_16 : decode cJ3_checkFromIndexSize_8c36e 16 = .ok (.iload_n 0, 1) := by decide +kernel
theorem dJ3_checkFromIndexSize_8c36e_17 : decode cJ3_checkFromIndexSize_8c36e 17 = .ok (.iload_n 1, 1) := by decide +kernel
theorem dJ3_checkFromIndexSize_8c36e_18 : decode cJ3_checkFromIndexSize_8c36e 18 = .ok (.iload_n 2, 1) := by decide +kernel
theorem dJ3_checkFromIndexSize_8c36e_19 : decode cJ3_checkFromIndexSize_8c36e 19 = .ok (.invokestatic 103, 3) := by decide +kernel
theorem dJ3_checkFromIndexSize_8c36e_22 : decode cJ3_checkFromIndexSize_8c36e 22 = .ok (.athrow, 1) := by decide +kernel
theorem dJ3_checkFromIndexSize_8c36e_23 : decode cJ3_checkFromIndexSize_8c36e 23 = .ok (.iload_n 0, 1) := by decide +kernel
theorem dJ3_checkFromIndexSize_8c36e_24 : decode cJ3_checkFromIndexSize_8c36e 24 = .ok (.ireturn, 1) := by decide +kernel
end
section
theorem dX6_init_0 : decode cX6_init 0 = .ok (.aload_n 0, 1) := by decide +kernel
theorem dX6_init_1 : decode cX6_init 1 = .ok (.invokespecial 1, 3) := by decide +kernel
theorem dX6_init_4 : decode cX6_init 4 = .ok (.aload_n 0, 1) := by decide +kernel
theorem dX6_init_5 : decode cX6_init 5 = .ok (.sipush 173, 3) := by decide +kernel
theorem dX6_init_8 : decode cX6_init 8 = .ok (.newarray .int, 2) := by decide +kernel
theorem dX6_init_10 : decode cX6_init 10 = .ok (.putfield 7, 3) := by decide +kernel
theorem dX6_init_13 : decode cX6_init 13 = .ok (.aload_n 0, 1) := by decide +kernel
theorem dX6_init_14 : decode cX6_init 14 = .ok (.sipush 1038, 3) := by decide +kernel
theorem dX6_init_17 : decode cX6_init 17 = .ok (.newarray .int, 2) := by decide +kernel
theorem dX6_init_19 : decode cX6_init 19 = .ok (.putfield 13, 3) := by decide +kernel
theorem dX6_init_22 : decode cX6_init 22 = .ok (.aload_n 0, 1) := by decide +kernel
theorem dX6_init_23 : decode cX6_init 23 = .ok (.sipush 346, 3) := by decide +kernel
theorem dX6_init_26 : decode cX6_init 26 = .ok (.newarray .int, 2) := by decide +kernel
theorem dX6_init_28 : decode cX6_init 28 = .ok (.putfield 16, 3) := by decide +kernel
theorem dX6_init_31 : decode cX6_init 31 = .ok (.aload_n 0, 1) := by decide +kernel
theorem dX6_init_32 : decode cX6_init 32 = .ok (.iconst 2, 1) := by decide +kernel
theorem dX6_init_33 : decode cX6_init 33 = .ok (.newarray .boolean, 2) := by decide +kernel
theorem dX6_init_35 : decode cX6_init 35 = .ok (.putfield 19, 3) := by decide +kernel
theorem dX6_init_38 : decode cX6_init 38 = .ok (.aload_n 0, 1) := by decide +kernel
theorem dX6_init_39 : decode cX6_init 39 = .ok (.sipush 173, 3) := by decide +kernel
theorem dX6_init_42 : decode cX6_init 42 = .ok (.newarray .int, 2) := by decide +kernel
theorem dX6_init_44 : decode cX6_init 44 = .ok (.putfield 23, 3) := by decide +kernel
theorem dX6_init_47 : decode cX6_init 47 = .ok (.aload_n 0, 1) := by decide +kernel
theorem dX6_init_48 : decode cX6_init 48 = .ok (.bipush 60, 2) := by decide +kernel
theorem dX6_init_50 : decode cX6_init 50 = .ok (.newarray .char, 2) := by decide +kernel
theorem dX6_init_52 : decode cX6_init 52 = .ok (.putfield 26, 3) := by decide +kernel
theorem dX6_init_55 : decode cX6_init 55 = .ok (.aload_n 0, 1) := by decide +kernel
theorem dX6_init_56 : decode cX6_init 56 = .ok (.bipush 64, 2) := by decide +kernel
theorem dX6_init_58 : decode cX6_init 58 = .ok (.newarray .boolean, 2) := by decide +kernel
theorem dX6_init_60 : decode cX6_init 60 = .ok (.putfield 30, 3) := by decide +kernel
theorem dX6_init_63 : decode cX6_init 63 = .ok (.aload_n 0, 1) := by decide +kernel
theorem dX6_init_64 : decode cX6_init 64 = .ok (.bipush 64, 2) := by decide +kernel
theorem dX6_init_66 : decode cX6_init 66 = .ok (.newarray .int, 2) := by decide +kernel
theorem dX6_init_68 : decode cX6_init 68 = .ok (.putfield 33, 3) := by decide +kernel
theorem dX6_init_71 : decode cX6_init 71 = .ok (.aload_n 0, 1) := by decide +kernel
theorem dX6_init_72 : decode cX6_init 72 = .ok (.bipush 64, 2) := by decide +kernel
theorem dX6_init_74 : decode cX6_init 74 = .ok (.newarray .int, 2) := by decide +kernel
theorem dX6_init_76 : decode cX6_init 76 = .ok (.putfield 36, 3) := by decide +kernel
theorem dX6_init_79 : decode cX6_init 79 = .ok (.aload_n 0, 1) := by decide +kernel
theorem dX6_init_80 : decode cX6_init 80 = .ok (.bipush 64, 2) := by decide +kernel
theorem dX6_init_82 : decode cX6_init 82 = .ok (.newarray .int, 2) := by decide +kernel
theorem dX6_init_84 : decode cX6_init 84 = .ok (.putfield 39, 3) := by decide +kernel
theorem dX6_init_87 : decode cX6_init 87 = .ok (.aload_n 0, 1) := by decide +kernel
theorem dX6_init_88 : decode cX6_init 88 = .ok (.getfield 7, 3) := by decide +kernel
theorem dX6_init_91 : decode cX6_init 91 = .ok (.iconst 0, 1) := by decide +kernel
theorem dX6_init_92 : decode cX6_init 92 = .ok (.bipush 50, 2) := by decide +kernel
theorem dX6_init_94 : decode cX6_init 94 = .ok (.iastore, 1) := by decide +kernel
theorem dX6_init_95 : decode cX6_init 95 = .ok (.aload_n 0, 1) := by decide +kernel
theorem dX6_init_96 : decode cX6_init 96 = .ok (.getfield 7, 3) := by decide +kernel
theorem dX6_init_99 : decode cX6_init 99 = .ok (.iconst 1, 1) := by decide +kernel
theorem dX6_init_100 : decode cX6_init 100 = .ok (.bipush 10, 2) := by decide +kernel
theorem dX6_init_102 : decode cX6_init 102 = .ok (.iastore, 1) := by decide +kernel
theorem dX6_init_103 : decode cX6_init 103 = .ok (.aload_n 0, 1) := by decide +kernel
theorem dX6_init_104 : decode cX6_init 104 = .ok (.getfield 7, 3) := by decide +kernel
theorem dX6_init_107 : decode cX6_init 107 = .ok (.iconst 2, 1) := by decide +kernel
theorem dX6_init_108 : decode cX6_init 108 = .ok (.bipush 6, 2) := by decide +kernel
theorem dX6_init_110 : decode cX6_init 110 = .ok (.iastore, 1) := by decide +kernel
theorem dX6_init_111 : decode cX6_init 111 = .ok (.aload_n 0, 1) := by decide +kernel
theorem dX6_init_112 : decode cX6_init 112 = .ok (.getfield 7, 3) := by decide +kernel
theorem dX6_init_115 : decode cX6_init 115 = .ok (.iconst 3, 1) := by decide +kernel
theorem dX6_init_116 : decode cX6_init 116 = .ok (.bipush 20, 2) := by decide +kernel
theorem dX6_init_118 : decode cX6_init 118 = .ok (.iastore, 1) := by decide +kernel
theorem dX6_init_119 : decode cX6_init 119 = .ok (.aload_n 0, 1) := by decide +kernel
theorem dX6_init_120 : decode cX6_init 120 = .ok (.getfield 7, 3) := by decide +kernel
theorem dX6_init_123 : decode cX6_init 123 = .ok (.iconst 4, 1) := by decide +kernel
theorem dX6_init_124 : decode cX6_init 124 = .ok (.iconst 5, 1) := by decide +kernel
theorem dX6_init_125 : decode cX6_init 125 = .ok (.iastore, 1) := by decide +kernel
theorem dX6_init_126 : decode cX6_init 126 = .ok (.aload_n 0, 1) := by decide +kernel
theorem dX6_init_127 : decode cX6_init 127 = .ok (.getfield 7, 3) := by decide +kernel
theorem dX6_init_130 : decode cX6_init 130 = .ok (.iconst 5, 1) := by decide +kernel
theorem dX6_init_131 : decode cX6_init 131 = .ok (.bipush 100, 2) := by decide +kernel
theorem dX6_init_133 : decode cX6_init 133 = .ok (.iastore, 1) := by decide +kernel
theorem dX6_init_134 : decode cX6_init 134 = .ok (.aload_n 0, 1) := by decide +kernel
theorem dX6_init_135 : decode cX6_init 135 = .ok (.getfield 7, 3) := by decide +kernel
theorem dX6_init_138 : decode cX6_init 138 = .ok (.bipush 6, 2) := by decide +kernel
theorem dX6_init_140 : decode cX6_init 140 = .ok (.sipush 800, 3) := by decide +kernel
theorem dX6_init_143 : decode cX6_init 143 = .ok (.iastore, 1) := by decide +kernel
theorem dX6_init_144 : decode cX6_init 144 = .ok (.aload_n 0, 1) := by decide +kernel
theorem dX6_init_145 : decode cX6_init 145 = .ok (.getfield 7, 3) := by decide +kernel
theorem dX6_init_148 : decode cX6_init 148 = .ok (.bipush 22, 2) := by decide +kernel
theorem dX6_init_150 : decode cX6_init 150 = .ok (.bipush 7, 2) := by decide +kernel
theorem dX6_init_152 : decode cX6_init 152 = .ok (.iastore, 1) := by decide +kernel
theorem dX6_init_153 : decode cX6_init 153 = .ok (.iconst 0, 1) := by decide +kernel
theorem dX6_init_154 : decode cX6_init 154 = .ok (.istore_n 1, 1) := by decide +kernel
theorem dX6_init_155 : decode cX6_init 155 = .ok (.iload_n 1, 1) := by decide +kernel
theorem dX6_init_156 : decode cX6_init 156 = .ok (.bipush 7, 2) := by decide +kernel
theorem dX6_init_158 : decode cX6_init 158 = .ok (.if_icmp .ge 36, 3) := by decide +kernel
theorem dX6_init_161 : decode cX6_init 161 = .ok (.aload_n 0, 1) := by decide +kernel
theorem dX6_init_162 : decode cX6_init 162 = .ok (.getfield 7, 3) := by decide +kernel
theorem dX6_init_165 : decode cX6_init 165 = .ok (.bipush 23, 2) := by decide +kernel
theorem dX6_init_167 : decode cX6_init 167 = .ok (.iload_n 1, 1) := by decide +kernel
theorem dX6_init_168 : decode cX6_init 168 = .ok (.iadd, 1) := by decide +kernel
theorem dX6_init_169 : decode cX6_init 169 = .ok (.iload_n 1, 1) := by decide +kernel
theorem dX6_init_170 : decode cX6_init 170 = .ok (.iconst 2, 1) := by decide +kernel
theorem dX6_init_171 : decode cX6_init 171 = .ok (.irem, 1) := by decide +kernel
theorem dX6_init_172 : decode cX6_init 172 = .ok (.iconst 1, 1) := by decide +kernel
theorem dX6_init_173 : decode cX6_init 173 = .ok (.if_icmp .ne 8, 3) := by decide +kernel
theorem dX6_init_176 : decode cX6_init 176 = .ok (.bipush 124, 2) := by decide +kernel
theorem dX6_init_178 : decode cX6_init 178 = .ok (.goto 9, 3) := by decide +kernel
theorem dX6_init_181 : decode cX6_init 181 = .ok (.bipush 65, 2) := by decide +kernel
theorem dX6_init_183 : decode cX6_init 183 = .ok (.iload_n 1, 1) := by decide +kernel
theorem dX6_init_184 : decode cX6_init 184 = .ok (.iconst 2, 1) := by decide +kernel
theorem dX6_init_185 : decode cX6_init 185 = .ok (.idiv, 1) := by decide +kernel
theorem dX6_init_186 : decode cX6_init 186 = .ok (.iadd, 1) := by decide +kernel
theorem dX6_init_187 : decode cX6_init 187 = .ok (.iastore, 1) := by decide +kernel
theorem dX6_init_188 : decode cX6_init 188 = .ok (.iinc 1 1, 3) := by decide +kernel
theorem dX6_init_191 : decode cX6_init 191 = .ok (.goto (-36), 3) := by decide +kernel
theorem dX6_init_194 : decode cX6_init 194 = .ok (.return_, 1) := by decide +kernel
theorem dX6_in_0 : decode cX6_in 0 = .ok (.iload_n 0, 1) := by decide +kernel
theorem dX6_in_1 : decode cX6_in 1 = .ok (.iload_n 1, 1) := by decide +kernel
theorem dX6_in_2 : decode cX6_in 2 = .ok (.if_icmp .lt 12, 3) := by decide +kernel
theorem dX6_in_5 : decode cX6_in 5 = .ok (.iload_n 0, 1) := by decide +kernel
theorem dX6_in_6 : decode cX6_in 6 = .ok (.iload_n 2, 1) := by decide +kernel
theorem dX6_in_7 : decode cX6_in 7 = .ok (.if_icmp .gt 7, 3) := by decide +kernel
theorem dX6_in_10 : decode cX6_in 10 = .ok (.iconst 1, 1) := by decide +kernel
theorem dX6_in_11 : decode cX6_in 11 = .ok (.goto 4, 3) := by decide +kernel
theorem dX6_in_14 : decode cX6_in 14 = .ok (.iconst 0, 1) := by decide +kernel
theorem dX6_in_15 : decode cX6_in 15 = .ok (.ireturn, 1) := by decide +kernel
theorem dX6_record_0 : decode cX6_record 0 = .ok (.aload_n 0, 1) := by decide +kernel
theorem dX6_record_1 : decode cX6_record 1 = .ok (.getfield 42, 3) := by decide +kernel
theorem dX6_record_4 : decode cX6_record 4 = .ok (.bipush 6, 2) := by decide +kernel
theorem dX6_record_6 : decode cX6_record 6 = .ok (.if_icmp .ne 44, 3) := by decide +kernel
theorem dX6_record_9 : decode cX6_record 9 = .ok (.iconst 0, 1) := by decide +kernel
theorem dX6_record_10 : decode cX6_record 10 = .ok (.istore_n 1, 1) := by decide +kernel
theorem dX6_record_11 : decode cX6_record 11 = .ok (.iload_n 1, 1) := by decide +kernel
theorem dX6_record_12 : decode cX6_record 12 = .ok (.sipush 865, 3) := by decide +kernel
theorem dX6_record_15 : decode cX6_record 15 = .ok (.if_icmp .ge 25, 3) := by decide +kernel
theorem dX6_record_18 : decode cX6_record 18 = .ok (.aload_n 0, 1) := by decide +kernel
theorem dX6_record_19 : decode cX6_record 19 = .ok (.getfield 13, 3) := by decide +kernel
theorem dX6_record_22 : decode cX6_record 22 = .ok (.iload_n 1, 1) := by decide +kernel
theorem dX6_record_23 : decode cX6_record 23 = .ok (.aload_n 0, 1) := by decide +kernel
theorem dX6_record_24 : decode cX6_record 24 = .ok (.getfield 13, 3) := by decide +kernel
theorem dX6_record_27 : decode cX6_record 27 = .ok (.iload_n 1, 1) := by decide +kernel
theorem dX6_record_28 : decode cX6_record 28 = .ok (.sipush 173, 3) := by decide +kernel
theorem dX6_record_31 : decode cX6_record 31 = .ok (.iadd, 1) := by decide +kernel
theorem dX6_record_32 : decode cX6_record 32 = .ok (.iaload, 1) := by decide +kernel
theorem dX6_record_33 : decode cX6_record 33 = .ok (.iastore, 1) := by decide +kernel
theorem dX6_record_34 : decode cX6_record 34 = .ok (.iinc 1 1, 3) := by decide +kernel
theorem dX6_record_37 : decode cX6_record 37 = .ok (.goto (-26), 3) := by decide +kernel
theorem dX6_record_40 : decode cX6_record 40 = .ok (.aload_n 0, 1) := by decide +kernel
theorem dX6_record_41 : decode cX6_record 41 = .ok (.dup, 1) := by decide +kernel
theorem dX6_record_42 : decode cX6_record 42 = .ok (.getfield 42, 3) := by decide +kernel
theorem dX6_record_45 : decode cX6_record 45 = .ok (.iconst 1, 1) := by decide +kernel
theorem dX6_record_46 : decode cX6_record 46 = .ok (.isub, 1) := by decide +kernel
theorem dX6_record_47 : decode cX6_record 47 = .ok (.putfield 42, 3) := by decide +kernel
theorem dX6_record_50 : decode cX6_record 50 = .ok (.iconst 0, 1) := by decide +kernel
theorem dX6_record_51 : decode cX6_record 51 = .ok (.istore_n 1, 1) := by decide +kernel
theorem dX6_record_52 : decode cX6_record 52 = .ok (.iload_n 1, 1) := by decide +kernel
theorem dX6_record_53 : decode cX6_record 53 = .ok (.sipush 173, 3) := by decide +kernel
theorem dX6_record_56 : decode cX6_record 56 = .ok (.if_icmp .ge 30, 3) := by decide +kernel
theorem dX6_record_59 : decode cX6_record 59 = .ok (.aload_n 0, 1) := by decide +kernel
theorem dX6_record_60 : decode cX6_record 60 = .ok (.getfield 13, 3) := by decide +kernel
theorem dX6_record_63 : decode cX6_record 63 = .ok (.aload_n 0, 1) := by decide +kernel
theorem dX6_record_64 : decode cX6_record 64 = .ok (.getfield 42, 3) := by decide +kernel
theorem dX6_record_67 : decode cX6_record 67 = .ok (.sipush 173, 3) := by decide +kernel
theorem dX6_record_70 : decode cX6_record 70 = .ok (.imul, 1) := by decide +kernel
theorem dX6_record_71 : decode cX6_record 71 = .ok (.iload_n 1, 1) := by decide +kernel
theorem dX6_record_72 : decode cX6_record 72 = .ok (.iadd, 1) := by decide +kernel
theorem dX6_record_73 : decode cX6_record 73 = .ok (.aload_n 0, 1) := by decide +kernel
theorem dX6_record_74 : decode cX6_record 74 = .ok (.getfield 7, 3) := by decide +kernel
theorem dX6_record_77 : decode cX6_record 77 = .ok (.iload_n 1, 1) := by decide +kernel
theorem dX6_record_78 : decode cX6_record 78 = .ok (.iaload, 1) := by decide +kernel
theorem dX6_record_79 : decode cX6_record 79 = .ok (.iastore, 1) := by decide +kernel
theorem dX6_record_80 : decode cX6_record 80 = .ok (.iinc 1 1, 3) := by decide +kernel
theorem dX6_record_83 : decode cX6_record 83 = .ok (.goto (-31), 3) := by decide +kernel
theorem dX6_record_86 : decode cX6_record 86 = .ok (.aload_n 0, 1) := by decide +kernel
theorem dX6_record_87 : decode cX6_record 87 = .ok (.dup, 1) := by decide +kernel
theorem dX6_record_88 : decode cX6_record 88 = .ok (.getfield 42, 3) := by decide +kernel
theorem dX6_record_91 : decode cX6_record 91 = .ok (.iconst 1, 1) := by decide +kernel
theorem dX6_record_92 : decode cX6_record 92 = .ok (.iadd, 1) := by decide +kernel
theorem dX6_record_93 : decode cX6_record 93 = .ok (.putfield 42, 3) := by decide +kernel
theorem dX6_record_96 : decode cX6_record 96 = .ok (.return_, 1) := by decide +kernel
theorem dX6_undo_0 : decode cX6_undo 0 = .ok (.aload_n 0, 1) := by decide +kernel
theorem dX6_undo_1 : decode cX6_undo 1 = .ok (.getfield 42, 3) := by decide +kernel
theorem dX6_undo_4 : decode cX6_undo 4 = .ok (.ifCond .ne 6, 3) := by decide +kernel
theorem dX6_undo_7 : decode cX6_undo 7 = .ok (.bipush (-5), 2) := by decide +kernel
theorem dX6_undo_9 : decode cX6_undo 9 = .ok (.ireturn, 1) := by decide +kernel
theorem dX6_undo_10 : decode cX6_undo 10 = .ok (.aload_n 0, 1) := by decide +kernel
theorem dX6_undo_11 : decode cX6_undo 11 = .ok (.dup, 1) := by decide +kernel
theorem dX6_undo_12 : decode cX6_undo 12 = .ok (.getfield 42, 3) := by decide +kernel
theorem dX6_undo_15 : decode cX6_undo 15 = .ok (.iconst 1, 1) := by decide +kernel
theorem dX6_undo_16 : decode cX6_undo 16 = .ok (.isub, 1) := by decide +kernel
theorem dX6_undo_17 : decode cX6_undo 17 = .ok (.putfield 42, 3) := by decide +kernel
theorem dX6_undo_20 : decode cX6_undo 20 = .ok (.iconst 0, 1) := by decide +kernel
theorem dX6_undo_21 : decode cX6_undo 21 = .ok (.istore_n 1, 1) := by decide +kernel
theorem dX6_undo_22 : decode cX6_undo 22 = .ok (.iload_n 1, 1) := by decide +kernel
theorem dX6_undo_23 : decode cX6_undo 23 = .ok (.sipush 173, 3) := by decide +kernel
theorem dX6_undo_26 : decode cX6_undo 26 = .ok (.if_icmp .ge 30, 3) := by decide +kernel
theorem dX6_undo_29 : decode cX6_undo 29 = .ok (.aload_n 0, 1) := by decide +kernel
theorem dX6_undo_30 : decode cX6_undo 30 = .ok (.getfield 7, 3) := by decide +kernel
theorem dX6_undo_33 : decode cX6_undo 33 = .ok (.iload_n 1, 1) := by decide +kernel
theorem dX6_undo_34 : decode cX6_undo 34 = .ok (.aload_n 0, 1) := by decide +kernel
theorem dX6_undo_35 : decode cX6_undo 35 = .ok (.getfield 13, 3) := by decide +kernel
theorem dX6_undo_38 : decode cX6_undo 38 = .ok (.aload_n 0, 1) := by decide +kernel
theorem dX6_undo_39 : decode cX6_undo 39 = .ok (.getfield 42, 3) := by decide +kernel
theorem dX6_undo_42 : decode cX6_undo 42 = .ok (.sipush 173, 3) := by decide +kernel
theorem dX6_undo_45 : decode cX6_undo 45 = .ok (.imul, 1) := by decide +kernel
theorem dX6_undo_46 : decode cX6_undo 46 = .ok (.iload_n 1, 1) := by decide +kernel
theorem dX6_undo_47 : decode cX6_undo 47 = .ok (.iadd, 1) := by decide +kernel
theorem dX6_undo_48 : decode cX6_undo 48 = .ok (.iaload, 1) := by decide +kernel
theorem dX6_undo_49 : decode cX6_undo 49 = .ok (.iastore, 1) := by decide +kernel
theorem dX6_undo_50 : decode cX6_undo 50 = .ok (.iinc 1 1, 3) := by decide +kernel
theorem dX6_undo_53 : decode cX6_undo 53 = .ok (.goto (-31), 3) := by decide +kernel
theorem dX6_undo_56 : decode cX6_undo 56 = .ok (.aload_n 0, 1) := by decide +kernel
theorem dX6_undo_57 : decode cX6_undo 57 = .ok (.getfield 42, 3) := by decide +kernel
theorem dX6_undo_60 : decode cX6_undo 60 = .ok (.ireturn, 1) := by decide +kernel
theorem dX6_save_0 : decode cX6_save 0 = .ok (.iload_n 1, 1) := by decide +kernel
theorem dX6_save_1 : decode cX6_save 1 = .ok (.iconst 0, 1) := by decide +kernel
theorem dX6_save_2 : decode cX6_save 2 = .ok (.iconst 1, 1) := by decide +kernel
theorem dX6_save_3 : decode cX6_save 3 = .ok (.invokestatic 46, 3) := by decide +kernel
theorem dX6_save_6 : decode cX6_save 6 = .ok (.ifCond .ne 6, 3) := by decide +kernel
theorem dX6_save_9 : decode cX6_save 9 = .ok (.bipush (-2), 2) := by decide +kernel
theorem dX6_save_11 : decode cX6_save 11 = .ok (.ireturn, 1) := by decide +kernel
theorem dX6_save_12 : decode cX6_save 12 = .ok (.aload_n 0, 1) := by decide +kernel
theorem dX6_save_13 : decode cX6_save 13 = .ok (.getfield 19, 3) := by decide +kernel
theorem dX6_save_16 : decode cX6_save 16 = .ok (.iload_n 1, 1) := by decide +kernel
theorem dX6_save_17 : decode cX6_save 17 = .ok (.iconst 1, 1) := by decide +kernel
theorem dX6_save_18 : decode cX6_save 18 = .ok (.bastore, 1) := by decide +kernel
theorem dX6_save_19 : decode cX6_save 19 = .ok (.iconst 0, 1) := by decide +kernel
theorem dX6_save_20 : decode cX6_save 20 = .ok (.istore_n 2, 1) := by decide +kernel
theorem dX6_save_21 : decode cX6_save 21 = .ok (.iload_n 2, 1) := by decide +kernel
theorem dX6_save_22 : decode cX6_save 22 = .ok (.sipush 173, 3) := by decide +kernel
theorem dX6_save_25 : decode cX6_save 25 = .ok (.if_icmp .ge 27, 3) := by decide +kernel
theorem dX6_save_28 : decode cX6_save 28 = .ok (.aload_n 0, 1) := by decide +kernel
theorem dX6_save_29 : decode cX6_save 29 = .ok (.getfield 16, 3) := by decide +kernel
theorem dX6_save_32 : decode cX6_save 32 = .ok (.iload_n 1, 1) := by decide +kernel
theorem dX6_save_33 : decode cX6_save 33 = .ok (.sipush 173, 3) := by decide +kernel
theorem dX6_save_36 : decode cX6_save 36 = .ok (.imul, 1) := by decide +kernel
theorem dX6_save_37 : decode cX6_save 37 = .ok (.iload_n 2, 1) := by decide +kernel
theorem dX6_save_38 : decode cX6_save 38 = .ok (.iadd, 1) := by decide +kernel
theorem dX6_save_39 : decode cX6_save 39 = .ok (.aload_n 0, 1) := by decide +kernel
theorem dX6_save_40 : decode cX6_save 40 = .ok (.getfield 7, 3) := by decide +kernel
theorem dX6_save_43 : decode cX6_save 43 = .ok (.iload_n 2, 1) := by decide +kernel
theorem dX6_save_44 : decode cX6_save 44 = .ok (.iaload, 1) := by decide +kernel
theorem dX6_save_45 : decode cX6_save 45 = .ok (.iastore, 1) := by decide +kernel
theorem dX6_save_46 : decode cX6_save 46 = .ok (.iinc 2 1, 3) := by decide +kernel
theorem dX6_save_49 : decode cX6_save 49 = .ok (.goto (-28), 3) := by decide +kernel
theorem dX6_save_52 : decode cX6_save 52 = .ok (.aload_n 0, 1) := by decide +kernel
theorem dX6_save_53 : decode cX6_save 53 = .ok (.getfield 7, 3) := by decide +kernel
theorem dX6_save_56 : decode cX6_save 56 = .ok (.bipush 10, 2) := by decide +kernel
theorem dX6_save_58 : decode cX6_save 58 = .ok (.iaload, 1) := by decide +kernel
theorem dX6_save_59 : decode cX6_save 59 = .ok (.ireturn, 1) := by decide +kernel
theorem dX6_restore_0 : decode cX6_restore 0 = .ok (.iload_n 1, 1) := by decide +kernel
theorem dX6_restore_1 : decode cX6_restore 1 = .ok (.iconst 0, 1) := by decide +kernel
theorem dX6_restore_2 : decode cX6_restore 2 = .ok (.iconst 1, 1) := by decide +kernel
theorem dX6_restore_3 : decode cX6_restore 3 = .ok (.invokestatic 46, 3) := by decide +kernel
theorem dX6_restore_6 : decode cX6_restore 6 = .ok (.ifCond .ne 6, 3) := by decide +kernel
theorem dX6_restore_9 : decode cX6_restore 9 = .ok (.bipush (-2), 2) := by decide +kernel
theorem dX6_restore_11 : decode cX6_restore 11 = .ok (.ireturn, 1) := by decide +kernel
theorem dX6_restore_12 : decode cX6_restore 12 = .ok (.aload_n 0, 1) := by decide +kernel
theorem dX6_restore_13 : decode cX6_restore 13 = .ok (.getfield 19, 3) := by decide +kernel
theorem dX6_restore_16 : decode cX6_restore 16 = .ok (.iload_n 1, 1) := by decide +kernel
theorem dX6_restore_17 : decode cX6_restore 17 = .ok (.baload, 1) := by decide +kernel
theorem dX6_restore_18 : decode cX6_restore 18 = .ok (.ifCond .ne 6, 3) := by decide +kernel
theorem dX6_restore_21 : decode cX6_restore 21 = .ok (.bipush (-5), 2) := by decide +kernel
theorem dX6_restore_23 : decode cX6_restore 23 = .ok (.ireturn, 1) := by decide +kernel
theorem dX6_restore_24 : decode cX6_restore 24 = .ok (.aload_n 0, 1) := by decide +kernel
theorem dX6_restore_25 : decode cX6_restore 25 = .ok (.invokevirtual 50, 3) := by decide +kernel
theorem dX6_restore_28 : decode cX6_restore 28 = .ok (.iconst 0, 1) := by decide +kernel
theorem dX6_restore_29 : decode cX6_restore 29 = .ok (.istore_n 2, 1) := by decide +kernel
theorem dX6_restore_30 : decode cX6_restore 30 = .ok (.iload_n 2, 1) := by decide +kernel
theorem dX6_restore_31 : decode cX6_restore 31 = .ok (.sipush 173, 3) := by decide +kernel
theorem dX6_restore_34 : decode cX6_restore 34 = .ok (.if_icmp .ge 27, 3) := by decide +kernel
theorem dX6_restore_37 : decode cX6_restore 37 = .ok (.aload_n 0, 1) := by decide +kernel
theorem dX6_restore_38 : decode cX6_restore 38 = .ok (.getfield 7, 3) := by decide +kernel
theorem dX6_restore_41 : decode cX6_restore 41 = .ok (.iload_n 2, 1) := by decide +kernel
theorem dX6_restore_42 : decode cX6_restore 42 = .ok (.aload_n 0, 1) := by decide +kernel
theorem dX6_restore_43 : decode cX6_restore 43 = .ok (.getfield 16, 3) := by decide +kernel
theorem dX6_restore_46 : decode cX6_restore 46 = .ok (.iload_n 1, 1) := by decide +kernel
theorem dX6_restore_47 : decode cX6_restore 47 = .ok (.sipush 173, 3) := by decide +kernel
theorem dX6_restore_50 : decode cX6_restore 50 = .ok (.imul, 1) := by decide +kernel
theorem dX6_restore_51 : decode cX6_restore 51 = .ok (.iload_n 2, 1) := by decide +kernel
theorem dX6_restore_52 : decode cX6_restore 52 = .ok (.iadd, 1) := by decide +kernel
theorem dX6_restore_53 : decode cX6_restore 53 = .ok (.iaload, 1) := by decide +kernel
theorem dX6_restore_54 : decode cX6_restore 54 = .ok (.iastore, 1) := by decide +kernel
theorem dX6_restore_55 : decode cX6_restore 55 = .ok (.iinc 2 1, 3) := by decide +kernel
theorem dX6_restore_58 : decode cX6_restore 58 = .ok (.goto (-28), 3) := by decide +kernel
theorem dX6_restore_61 : decode cX6_restore 61 = .ok (.aload_n 0, 1) := by decide +kernel
theorem dX6_restore_62 : decode cX6_restore 62 = .ok (.getfield 7, 3) := by decide +kernel
theorem dX6_restore_65 : decode cX6_restore 65 = .ok (.bipush 10, 2) := by decide +kernel
theorem dX6_restore_67 : decode cX6_restore 67 = .ok (.iaload, 1) := by decide +kernel
theorem dX6_restore_68 : decode cX6_restore 68 = .ok (.ireturn, 1) := by decide +kernel
theorem dX6_putAside_0 : decode cX6_putAside 0 = .ok (.iconst 0, 1) := by decide +kernel
theorem dX6_putAside_1 : decode cX6_putAside 1 = .ok (.istore_n 1, 1) := by decide +kernel
theorem dX6_putAside_2 : decode cX6_putAside 2 = .ok (.iload_n 1, 1) := by decide +kernel
theorem dX6_putAside_3 : decode cX6_putAside 3 = .ok (.sipush 173, 3) := by decide +kernel
theorem dX6_putAside_6 : decode cX6_putAside 6 = .ok (.if_icmp .ge 21, 3) := by decide +kernel
theorem dX6_putAside_9 : decode cX6_putAside 9 = .ok (.aload_n 0, 1) := by decide +kernel
theorem dX6_putAside_10 : decode cX6_putAside 10 = .ok (.getfield 23, 3) := by decide +kernel
theorem dX6_putAside_13 : decode cX6_putAside 13 = .ok (.iload_n 1, 1) := by decide +kernel
theorem dX6_putAside_14 : decode cX6_putAside 14 = .ok (.aload_n 0, 1) := by decide +kernel
theorem dX6_putAside_15 : decode cX6_putAside 15 = .ok (.getfield 7, 3) := by decide +kernel
theorem dX6_putAside_18 : decode cX6_putAside 18 = .ok (.iload_n 1, 1) := by decide +kernel
theorem dX6_putAside_19 : decode cX6_putAside 19 = .ok (.iaload, 1) := by decide +kernel
theorem dX6_putAside_20 : decode cX6_putAside 20 = .ok (.iastore, 1) := by decide +kernel
theorem dX6_putAside_21 : decode cX6_putAside 21 = .ok (.iinc 1 1, 3) := by decide +kernel
theorem dX6_putAside_24 : decode cX6_putAside 24 = .ok (.goto (-22), 3) := by decide +kernel
theorem dX6_putAside_27 : decode cX6_putAside 27 = .ok (.return_, 1) := by decide +kernel
theorem dX6_bringBack_0 : decode cX6_bringBack 0 = .ok (.iconst 0, 1) := by decide +kernel
theorem dX6_bringBack_1 : decode cX6_bringBack 1 = .ok (.istore_n 1, 1) := by decide +kernel
theorem dX6_bringBack_2 : decode cX6_bringBack 2 = .ok (.iload_n 1, 1) := by decide +kernel
theorem dX6_bringBack_3 : decode cX6_bringBack 3 = .ok (.sipush 173, 3) := by decide +kernel
theorem dX6_bringBack_6 : decode cX6_bringBack 6 = .ok (.if_icmp .ge 21, 3) := by decide +kernel
theorem dX6_bringBack_9 : decode cX6_bringBack 9 = .ok (.aload_n 0, 1) := by decide +kernel
theorem dX6_bringBack_10 : decode cX6_bringBack 10 = .ok (.getfield 7, 3) := by decide +kernel
theorem dX6_bringBack_13 : decode cX6_bringBack 13 = .ok (.iload_n 1, 1) := by decide +kernel
theorem dX6_bringBack_14 : decode cX6_bringBack 14 = .ok (.aload_n 0, 1) := by decide +kernel
theorem dX6_bringBack_15 : decode cX6_bringBack 15 = .ok (.getfield 23, 3) := by decide +kernel
theorem dX6_bringBack_18 : decode cX6_bringBack 18 = .ok (.iload_n 1, 1) := by decide +kernel
theorem dX6_bringBack_19 : decode cX6_bringBack 19 = .ok (.iaload, 1) := by decide +kernel
theorem dX6_bringBack_20 : decode cX6_bringBack 20 = .ok (.iastore, 1) := by decide +kernel
theorem dX6_bringBack_21 : decode cX6_bringBack 21 = .ok (.iinc 1 1, 3) := by decide +kernel
theorem dX6_bringBack_24 : decode cX6_bringBack 24 = .ok (.goto (-22), 3) := by decide +kernel
theorem dX6_bringBack_27 : decode cX6_bringBack 27 = .ok (.return_, 1) := by decide +kernel
theorem dX6_isSo_0 : decode cX6_isSo 0 = .ok (.iload_n 0, 1) := by decide +kernel
theorem dX6_isSo_1 : decode cX6_isSo 1 = .ok (.bipush 65, 2) := by decide +kernel
theorem dX6_isSo_3 : decode cX6_isSo 3 = .ok (.if_icmp .lt 13, 3) := by decide +kernel
theorem dX6_isSo_6 : decode cX6_isSo 6 = .ok (.iload_n 0, 1) := by decide +kernel
theorem dX6_isSo_7 : decode cX6_isSo 7 = .ok (.bipush 68, 2) := by decide +kernel
theorem dX6_isSo_9 : decode cX6_isSo 9 = .ok (.if_icmp .gt 7, 3) := by decide +kernel
theorem dX6_isSo_12 : decode cX6_isSo 12 = .ok (.iconst 1, 1) := by decide +kernel
theorem dX6_isSo_13 : decode cX6_isSo 13 = .ok (.goto 4, 3) := by decide +kernel
theorem dX6_isSo_16 : decode cX6_isSo 16 = .ok (.iconst 0, 1) := by decide +kernel
theorem dX6_isSo_17 : decode cX6_isSo 17 = .ok (.istore_n 2, 1) := by decide +kernel
theorem dX6_isSo_18 : decode cX6_isSo 18 = .ok (.iload_n 1, 1) := by decide +kernel
theorem dX6_isSo_19 : decode cX6_isSo 19 = .ok (.iconst 2, 1) := by decide +kernel
theorem dX6_isSo_20 : decode cX6_isSo 20 = .ok (.iload_n 2, 1) := by decide +kernel
theorem dX6_isSo_21 : decode cX6_isSo 21 = .ok (.ifCond .eq 10, 3) := by decide +kernel
theorem dX6_isSo_24 : decode cX6_isSo 24 = .ok (.iload_n 0, 1) := by decide +kernel
theorem dX6_isSo_25 : decode cX6_isSo 25 = .ok (.bipush 65, 2) := by decide +kernel
theorem dX6_isSo_27 : decode cX6_isSo 27 = .ok (.isub, 1) := by decide +kernel
theorem dX6_isSo_28 : decode cX6_isSo 28 = .ok (.goto 7, 3) := by decide +kernel
theorem dX6_isSo_31 : decode cX6_isSo 31 = .ok (.iload_n 0, 1) := by decide +kernel
theorem dX6_isSo_32 : decode cX6_isSo 32 = .ok (.bipush 97, 2) := by decide +kernel
theorem dX6_isSo_34 : decode cX6_isSo 34 = .ok (.isub, 1) := by decide +kernel
theorem dX6_isSo_35 : decode cX6_isSo 35 = .ok (.imul, 1) := by decide +kernel
theorem dX6_isSo_36 : decode cX6_isSo 36 = .ok (.ishr, 1) := by decide +kernel
theorem dX6_isSo_37 : decode cX6_isSo 37 = .ok (.iconst 3, 1) := by decide +kernel
theorem dX6_isSo_38 : decode cX6_isSo 38 = .ok (.iand, 1) := by decide +kernel
theorem dX6_isSo_39 : decode cX6_isSo 39 = .ok (.istore_n 3, 1) := by decide +kernel
theorem dX6_isSo_40 : decode cX6_isSo 40 = .ok (.iload_n 2, 1) := by decide +kernel
theorem dX6_isSo_41 : decode cX6_isSo 41 = .ok (.ifCond .eq 16, 3) := by decide +kernel
theorem dX6_isSo_44 : decode cX6_isSo 44 = .ok (.iload_n 3, 1) := by decide +kernel
theorem dX6_isSo_45 : decode cX6_isSo 45 = .ok (.iconst 3, 1) := by decide +kernel
theorem dX6_isSo_46 : decode cX6_isSo 46 = .ok (.if_icmp .ne 7, 3) := by decide +kernel
theorem dX6_isSo_49 : decode cX6_isSo 49 = .ok (.iconst 1, 1) := by decide +kernel
theorem dX6_isSo_50 : decode cX6_isSo 50 = .ok (.goto 16, 3) := by decide +kernel
theorem dX6_isSo_53 : decode cX6_isSo 53 = .ok (.iconst 0, 1) := by decide +kernel
theorem dX6_isSo_54 : decode cX6_isSo 54 = .ok (.goto 12, 3) := by decide +kernel
theorem dX6_isSo_57 : decode cX6_isSo 57 = .ok (.iload_n 3, 1) := by decide +kernel
theorem dX6_isSo_58 : decode cX6_isSo 58 = .ok (.ifCond .le 7, 3) := by decide +kernel
theorem dX6_isSo_61 : decode cX6_isSo 61 = .ok (.iconst 1, 1) := by decide +kernel
theorem dX6_isSo_62 : decode cX6_isSo 62 = .ok (.goto 4, 3) := by decide +kernel
theorem dX6_isSo_65 : decode cX6_isSo 65 = .ok (.iconst 0, 1) := by decide +kernel
theorem dX6_isSo_66 : decode cX6_isSo 66 = .ok (.ireturn, 1) := by decide +kernel
theorem dX6_join_0 : decode cX6_join 0 = .ok (.aload_n 0, 1) := by decide +kernel
theorem dX6_join_1 : decode cX6_join 1 = .ok (.dup, 1) := by decide +kernel
theorem dX6_join_2 : decode cX6_join 2 = .ok (.getfield 53, 3) := by decide +kernel
theorem dX6_join_5 : decode cX6_join 5 = .ok (.iconst 1, 1) := by decide +kernel
theorem dX6_join_6 : decode cX6_join 6 = .ok (.isub, 1) := by decide +kernel
theorem dX6_join_7 : decode cX6_join 7 = .ok (.putfield 53, 3) := by decide +kernel
theorem dX6_join_10 : decode cX6_join 10 = .ok (.aload_n 0, 1) := by decide +kernel
theorem dX6_join_11 : decode cX6_join 11 = .ok (.getfield 39, 3) := by decide +kernel
theorem dX6_join_14 : decode cX6_join 14 = .ok (.aload_n 0, 1) := by decide +kernel
theorem dX6_join_15 : decode cX6_join 15 = .ok (.getfield 53, 3) := by decide +kernel
theorem dX6_join_18 : decode cX6_join 18 = .ok (.iaload, 1) := by decide +kernel
theorem dX6_join_19 : decode cX6_join 19 = .ok (.istore_n 1, 1) := by decide +kernel
theorem dX6_join_20 : decode cX6_join 20 = .ok (.aload_n 0, 1) := by decide +kernel
theorem dX6_join_21 : decode cX6_join 21 = .ok (.getfield 56, 3) := by decide +kernel
theorem dX6_join_24 : decode cX6_join 24 = .ok (.iconst 1, 1) := by decide +kernel
theorem dX6_join_25 : decode cX6_join 25 = .ok (.isub, 1) := by decide +kernel
theorem dX6_join_26 : decode cX6_join 26 = .ok (.istore_n 2, 1) := by decide +kernel
theorem dX6_join_27 : decode cX6_join 27 = .ok (.iload_n 1, 1) := by decide +kernel
theorem dX6_join_28 : decode cX6_join 28 = .ok (.bipush 33, 2) := by decide +kernel
theorem dX6_join_30 : decode cX6_join 30 = .ok (.if_icmp .ne 44, 3) := by decide +kernel
theorem dX6_join_33 : decode cX6_join 33 = .ok (.aload_n 0, 1) := by decide +kernel
theorem dX6_join_34 : decode cX6_join 34 = .ok (.getfield 30, 3) := by decide +kernel
theorem dX6_join_37 : decode cX6_join 37 = .ok (.iload_n 2, 1) := by decide +kernel
theorem dX6_join_38 : decode cX6_join 38 = .ok (.aload_n 0, 1) := by decide +kernel
theorem dX6_join_39 : decode cX6_join 39 = .ok (.getfield 30, 3) := by decide +kernel
theorem dX6_join_42 : decode cX6_join 42 = .ok (.iload_n 2, 1) := by decide +kernel
theorem dX6_join_43 : decode cX6_join 43 = .ok (.baload, 1) := by decide +kernel
theorem dX6_join_44 : decode cX6_join 44 = .ok (.ifCond .ne 7, 3) := by decide +kernel
theorem dX6_join_47 : decode cX6_join 47 = .ok (.iconst 1, 1) := by decide +kernel
theorem dX6_join_48 : decode cX6_join 48 = .ok (.goto 4, 3) := by decide +kernel
theorem dX6_join_51 : decode cX6_join 51 = .ok (.iconst 0, 1) := by decide +kernel
theorem dX6_join_52 : decode cX6_join 52 = .ok (.bastore, 1) := by decide +kernel
theorem dX6_join_53 : decode cX6_join 53 = .ok (.aload_n 0, 1) := by decide +kernel
theorem dX6_join_54 : decode cX6_join 54 = .ok (.getfield 33, 3) := by decide +kernel
theorem dX6_join_57 : decode cX6_join 57 = .ok (.iload_n 2, 1) := by decide +kernel
theorem dX6_join_58 : decode cX6_join 58 = .ok (.dup2, 1) := by decide +kernel
theorem dX6_join_59 : decode cX6_join 59 = .ok (.iaload, 1) := by decide +kernel
theorem dX6_join_60 : decode cX6_join 60 = .ok (.iconst 1, 1) := by decide +kernel
theorem dX6_join_61 : decode cX6_join 61 = .ok (.iadd, 1) := by decide +kernel
theorem dX6_join_62 : decode cX6_join 62 = .ok (.iastore, 1) := by decide +kernel
theorem dX6_join_63 : decode cX6_join 63 = .ok (.aload_n 0, 1) := by decide +kernel
theorem dX6_join_64 : decode cX6_join 64 = .ok (.getfield 36, 3) := by decide +kernel
theorem dX6_join_67 : decode cX6_join 67 = .ok (.iload_n 2, 1) := by decide +kernel
theorem dX6_join_68 : decode cX6_join 68 = .ok (.dup2, 1) := by decide +kernel
theorem dX6_join_69 : decode cX6_join 69 = .ok (.iaload, 1) := by decide +kernel
theorem dX6_join_70 : decode cX6_join 70 = .ok (.iconst 1, 1) := by decide +kernel
theorem dX6_join_71 : decode cX6_join 71 = .ok (.iadd, 1) := by decide +kernel
theorem dX6_join_72 : decode cX6_join 72 = .ok (.iastore, 1) := by decide +kernel
theorem dX6_join_73 : decode cX6_join 73 = .ok (.return_, 1) := by decide +kernel
theorem dX6_join_74 : decode cX6_join 74 = .ok (.iload_n 2, 1) := by decide +kernel
theorem dX6_join_75 : decode cX6_join 75 = .ok (.iconst 1, 1) := by decide +kernel
theorem dX6_join_76 : decode cX6_join 76 = .ok (.isub, 1) := by decide +kernel
theorem dX6_join_77 : decode cX6_join 77 = .ok (.istore_n 3, 1) := by decide +kernel
theorem dX6_join_78 : decode cX6_join 78 = .ok (.aload_n 0, 1) := by decide +kernel
theorem dX6_join_79 : decode cX6_join 79 = .ok (.getfield 30, 3) := by decide +kernel
theorem dX6_join_82 : decode cX6_join 82 = .ok (.iload_n 3, 1) := by decide +kernel
theorem dX6_join_83 : decode cX6_join 83 = .ok (.baload, 1) := by decide +kernel
theorem dX6_join_84 : decode cX6_join 84 = .ok (.iload_n 1, 1) := by decide +kernel
theorem dX6_join_85 : decode cX6_join 85 = .ok (.bipush 38, 2) := by decide +kernel
theorem dX6_join_87 : decode cX6_join 87 = .ok (.if_icmp .ne 7, 3) := by decide +kernel
theorem dX6_join_90 : decode cX6_join 90 = .ok (.iconst 1, 1) := by decide +kernel
theorem dX6_join_91 : decode cX6_join 91 = .ok (.goto 4, 3) := by decide +kernel
theorem dX6_join_94 : decode cX6_join 94 = .ok (.iconst 0, 1) := by decide +kernel
theorem dX6_join_95 : decode cX6_join 95 = .ok (.if_icmp .ne 7, 3) := by decide +kernel
theorem dX6_join_98 : decode cX6_join 98 = .ok (.iconst 1, 1) := by decide +kernel
theorem dX6_join_99 : decode cX6_join 99 = .ok (.goto 4, 3) := by decide +kernel
theorem dX6_join_102 : decode cX6_join 102 = .ok (.iconst 0, 1) := by decide +kernel
theorem dX6_join_103 : decode cX6_join 103 = .ok (.istore 4, 2) := by decide +kernel
theorem dX6_join_105 : decode cX6_join 105 = .ok (.aload_n 0, 1) := by decide +kernel
theorem dX6_join_106 : decode cX6_join 106 = .ok (.getfield 36, 3) := by decide +kernel
theorem dX6_join_109 : decode cX6_join 109 = .ok (.iload_n 3, 1) := by decide +kernel
theorem dX6_join_110 : decode cX6_join 110 = .ok (.dup2, 1) := by decide +kernel
theorem dX6_join_111 : decode cX6_join 111 = .ok (.iaload, 1) := by decide +kernel
theorem dX6_join_112 : decode cX6_join 112 = .ok (.iconst 1, 1) := by decide +kernel
theorem dX6_join_113 : decode cX6_join 113 = .ok (.iload 4, 2) := by decide +kernel
theorem dX6_join_115 : decode cX6_join 115 = .ok (.ifCond .eq 12, 3) := by decide +kernel
theorem dX6_join_118 : decode cX6_join 118 = .ok (.aload_n 0, 1) := by decide +kernel
theorem dX6_join_119 : decode cX6_join 119 = .ok (.getfield 36, 3) := by decide +kernel
theorem dX6_join_122 : decode cX6_join 122 = .ok (.iload_n 2, 1) := by decide +kernel
theorem dX6_join_123 : decode cX6_join 123 = .ok (.iaload, 1) := by decide +kernel
theorem dX6_join_124 : decode cX6_join 124 = .ok (.goto 4, 3) := by decide +kernel
theorem dX6_join_127 : decode cX6_join 127 = .ok (.iconst 0, 1) := by decide +kernel
theorem dX6_join_128 : decode cX6_join 128 = .ok (.iadd, 1) := by decide +kernel
theorem dX6_join_129 : decode cX6_join 129 = .ok (.iadd, 1) := by decide +kernel
theorem dX6_join_130 : decode cX6_join 130 = .ok (.iastore, 1) := by decide +kernel
theorem dX6_join_131 : decode cX6_join 131 = .ok (.aload_n 0, 1) := by decide +kernel
theorem dX6_join_132 : decode cX6_join 132 = .ok (.getfield 30, 3) := by decide +kernel
theorem dX6_join_135 : decode cX6_join 135 = .ok (.iload_n 3, 1) := by decide +kernel
theorem dX6_join_136 : decode cX6_join 136 = .ok (.iload 4, 2) := by decide +kernel
theorem dX6_join_138 : decode cX6_join 138 = .ok (.ifCond .eq 12, 3) := by decide +kernel
theorem dX6_join_141 : decode cX6_join 141 = .ok (.aload_n 0, 1) := by decide +kernel
theorem dX6_join_142 : decode cX6_join 142 = .ok (.getfield 30, 3) := by decide +kernel
theorem dX6_join_145 : decode cX6_join 145 = .ok (.iload_n 2, 1) := by decide +kernel
theorem dX6_join_146 : decode cX6_join 146 = .ok (.baload, 1) := by decide +kernel
theorem dX6_join_147 : decode cX6_join 147 = .ok (.goto 9, 3) := by decide +kernel
theorem dX6_join_150 : decode cX6_join 150 = .ok (.aload_n 0, 1) := by decide +kernel
theorem dX6_join_151 : decode cX6_join 151 = .ok (.getfield 30, 3) := by decide +kernel
theorem dX6_join_154 : decode cX6_join 154 = .ok (.iload_n 3, 1) := by decide +kernel
theorem dX6_join_155 : decode cX6_join 155 = .ok (.baload, 1) := by decide +kernel
theorem dX6_join_156 : decode cX6_join 156 = .ok (.bastore, 1) := by decide +kernel
theorem dX6_join_157 : decode cX6_join 157 = .ok (.aload_n 0, 1) := by decide +kernel
theorem dX6_join_158 : decode cX6_join 158 = .ok (.getfield 33, 3) := by decide +kernel
theorem dX6_join_161 : decode cX6_join 161 = .ok (.iload_n 3, 1) := by decide +kernel
theorem dX6_join_162 : decode cX6_join 162 = .ok (.iconst 1, 1) := by decide +kernel
theorem dX6_join_163 : decode cX6_join 163 = .ok (.aload_n 0, 1) := by decide +kernel
theorem dX6_join_164 : decode cX6_join 164 = .ok (.getfield 33, 3) := by decide +kernel
theorem dX6_join_167 : decode cX6_join 167 = .ok (.iload_n 3, 1) := by decide +kernel
theorem dX6_join_168 : decode cX6_join 168 = .ok (.iaload, 1) := by decide +kernel
theorem dX6_join_169 : decode cX6_join 169 = .ok (.aload_n 0, 1) := by decide +kernel
theorem dX6_join_170 : decode cX6_join 170 = .ok (.getfield 33, 3) := by decide +kernel
theorem dX6_join_173 : decode cX6_join 173 = .ok (.iload_n 2, 1) := by decide +kernel
theorem dX6_join_174 : decode cX6_join 174 = .ok (.iaload, 1) := by decide +kernel
theorem dX6_join_175 : decode cX6_join 175 = .ok (.if_icmp .le 12, 3) := by decide +kernel
theorem dX6_join_178 : decode cX6_join 178 = .ok (.aload_n 0, 1) := by decide +kernel
theorem dX6_join_179 : decode cX6_join 179 = .ok (.getfield 33, 3) := by decide +kernel
theorem dX6_join_182 : decode cX6_join 182 = .ok (.iload_n 3, 1) := by decide +kernel
theorem dX6_join_183 : decode cX6_join 183 = .ok (.iaload, 1) := by decide +kernel
theorem dX6_join_184 : decode cX6_join 184 = .ok (.goto 9, 3) := by decide +kernel
theorem dX6_join_187 : decode cX6_join 187 = .ok (.aload_n 0, 1) := by decide +kernel
theorem dX6_join_188 : decode cX6_join 188 = .ok (.getfield 33, 3) := by decide +kernel
theorem dX6_join_191 : decode cX6_join 191 = .ok (.iload_n 2, 1) := by decide +kernel
theorem dX6_join_192 : decode cX6_join 192 = .ok (.iaload, 1) := by decide +kernel
theorem dX6_join_193 : decode cX6_join 193 = .ok (.iadd, 1) := by decide +kernel
theorem dX6_join_194 : decode cX6_join 194 = .ok (.iastore, 1) := by decide +kernel
theorem dX6_join_195 : decode cX6_join 195 = .ok (.aload_n 0, 1) := by decide +kernel
theorem dX6_join_196 : decode cX6_join 196 = .ok (.dup, 1) := by decide +kernel
theorem dX6_join_197 : decode cX6_join 197 = .ok (.getfield 56, 3) := by decide +kernel
theorem dX6_join_200 : decode cX6_join 200 = .ok (.iconst 1, 1) := by decide +kernel
theorem dX6_join_201 : decode cX6_join 201 = .ok (.isub, 1) := by decide +kernel
theorem dX6_join_202 : decode cX6_join 202 = .ok (.putfield 56, 3) := by decide +kernel
theorem dX6_join_205 : decode cX6_join 205 = .ok (.return_, 1) := by decide +kernel
theorem dX6_strength_0 : decode cX6_strength 0 = .ok (.iload_n 0, 1) := by decide +kernel
theorem dX6_strength_1 : decode cX6_strength 1 = .ok (.bipush 33, 2) := by decide +kernel
theorem dX6_strength_3 : decode cX6_strength 3 = .ok (.if_icmp .ne 7, 3) := by decide +kernel
theorem dX6_strength_6 : decode cX6_strength 6 = .ok (.iconst 3, 1) := by decide +kernel
theorem dX6_strength_7 : decode cX6_strength 7 = .ok (.goto 24, 3) := by decide +kernel
theorem dX6_strength_10 : decode cX6_strength 10 = .ok (.iload_n 0, 1) := by decide +kernel
theorem dX6_strength_11 : decode cX6_strength 11 = .ok (.bipush 38, 2) := by decide +kernel
theorem dX6_strength_13 : decode cX6_strength 13 = .ok (.if_icmp .ne 7, 3) := by decide +kernel
theorem dX6_strength_16 : decode cX6_strength 16 = .ok (.iconst 2, 1) := by decide +kernel
theorem dX6_strength_17 : decode cX6_strength 17 = .ok (.goto 14, 3) := by decide +kernel
theorem dX6_strength_20 : decode cX6_strength 20 = .ok (.iload_n 0, 1) := by decide +kernel
theorem dX6_strength_21 : decode cX6_strength 21 = .ok (.bipush 124, 2) := by decide +kernel
theorem dX6_strength_23 : decode cX6_strength 23 = .ok (.if_icmp .ne 7, 3) := by decide +kernel
theorem dX6_strength_26 : decode cX6_strength 26 = .ok (.iconst 1, 1) := by decide +kernel
theorem dX6_strength_27 : decode cX6_strength 27 = .ok (.goto 4, 3) := by decide +kernel
theorem dX6_strength_30 : decode cX6_strength 30 = .ok (.iconst 0, 1) := by decide +kernel
theorem dX6_strength_31 : decode cX6_strength 31 = .ok (.ireturn, 1) := by decide +kernel
theorem dX6_joinAll_0 : decode cX6_joinAll 0 = .ok (.aload_n 0, 1) := by decide +kernel
theorem dX6_joinAll_1 : decode cX6_joinAll 1 = .ok (.getfield 53, 3) := by decide +kernel
theorem dX6_joinAll_4 : decode cX6_joinAll 4 = .ok (.ifCond .le 28, 3) := by decide +kernel
theorem dX6_joinAll_7 : decode cX6_joinAll 7 = .ok (.aload_n 0, 1) := by decide +kernel
theorem dX6_joinAll_8 : decode cX6_joinAll 8 = .ok (.getfield 39, 3) := by decide +kernel
theorem dX6_joinAll_11 : decode cX6_joinAll 11 = .ok (.aload_n 0, 1) := by decide +kernel
theorem dX6_joinAll_12 : decode cX6_joinAll 12 = .ok (.getfield 53, 3) := by decide +kernel
theorem dX6_joinAll_15 : decode cX6_joinAll 15 = .ok (.iconst 1, 1) := by decide +kernel
theorem dX6_joinAll_16 : decode cX6_joinAll 16 = .ok (.isub, 1) := by decide +kernel
theorem dX6_joinAll_17 : decode cX6_joinAll 17 = .ok (.iaload, 1) := by decide +kernel
theorem dX6_joinAll_18 : decode cX6_joinAll 18 = .ok (.invokestatic 59, 3) := by decide +kernel
theorem dX6_joinAll_21 : decode cX6_joinAll 21 = .ok (.iload_n 1, 1) := by decide +kernel
theorem dX6_joinAll_22 : decode cX6_joinAll 22 = .ok (.if_icmp .lt 10, 3) := by decide +kernel
theorem dX6_joinAll_25 : decode cX6_joinAll 25 = .ok (.aload_n 0, 1) := by decide +kernel
theorem dX6_joinAll_26 : decode cX6_joinAll 26 = .ok (.invokevirtual 63, 3) := by decide +kernel
theorem dX6_joinAll_29 : decode cX6_joinAll 29 = .ok (.goto (-29), 3) := by decide +kernel
theorem dX6_joinAll_32 : decode cX6_joinAll 32 = .ok (.return_, 1) := by decide +kernel
theorem dX6_push_0 : decode cX6_push 0 = .ok (.aload_n 0, 1) := by decide +kernel
theorem dX6_push_1 : decode cX6_push 1 = .ok (.getfield 39, 3) := by decide +kernel
theorem dX6_push_4 : decode cX6_push 4 = .ok (.aload_n 0, 1) := by decide +kernel
theorem dX6_push_5 : decode cX6_push 5 = .ok (.getfield 53, 3) := by decide +kernel
theorem dX6_push_8 : decode cX6_push 8 = .ok (.iload_n 1, 1) := by decide +kernel
theorem dX6_push_9 : decode cX6_push 9 = .ok (.iastore, 1) := by decide +kernel
theorem dX6_push_10 : decode cX6_push 10 = .ok (.aload_n 0, 1) := by decide +kernel
theorem dX6_push_11 : decode cX6_push 11 = .ok (.dup, 1) := by decide +kernel
theorem dX6_push_12 : decode cX6_push 12 = .ok (.getfield 53, 3) := by decide +kernel
theorem dX6_push_15 : decode cX6_push 15 = .ok (.iconst 1, 1) := by decide +kernel
theorem dX6_push_16 : decode cX6_push 16 = .ok (.iadd, 1) := by decide +kernel
theorem dX6_push_17 : decode cX6_push 17 = .ok (.putfield 53, 3) := by decide +kernel
theorem dX6_push_20 : decode cX6_push 20 = .ok (.return_, 1) := by decide +kernel
theorem dX6_workOut_0 : decode cX6_workOut 0 = .ok (.aload_n 0, 1) := by decide +kernel
theorem dX6_workOut_1 : decode cX6_workOut 1 = .ok (.iconst 0, 1) := by decide +kernel
theorem dX6_workOut_2 : decode cX6_workOut 2 = .ok (.putfield 56, 3) := by decide +kernel
theorem dX6_workOut_5 : decode cX6_workOut 5 = .ok (.aload_n 0, 1) := by decide +kernel
theorem dX6_workOut_6 : decode cX6_workOut 6 = .ok (.iconst 0, 1) := by decide +kernel
theorem dX6_workOut_7 : decode cX6_workOut 7 = .ok (.putfield 53, 3) := by decide +kernel
theorem dX6_workOut_10 : decode cX6_workOut 10 = .ok (.iconst 0, 1) := by decide +kernel
theorem dX6_workOut_11 : decode cX6_workOut 11 = .ok (.istore_n 2, 1) := by decide +kernel
theorem dX6_workOut_12 : decode cX6_workOut 12 = .ok (.iload_n 2, 1) := by decide +kernel
theorem dX6_workOut_13 : decode cX6_workOut 13 = .ok (.aload_n 0, 1) := by decide +kernel
theorem dX6_workOut_14 : decode cX6_workOut 14 = .ok (.getfield 7, 3) := by decide +kernel
theorem dX6_workOut_17 : decode cX6_workOut 17 = .ok (.bipush 22, 2) := by decide +kernel
theorem dX6_workOut_19 : decode cX6_workOut 19 = .ok (.iaload, 1) := by decide +kernel
theorem dX6_workOut_20 : decode cX6_workOut 20 = .ok (.if_icmp .ge 145, 3) := by decide +kernel
theorem dX6_workOut_23 : decode cX6_workOut 23 = .ok (.aload_n 0, 1) := by decide +kernel
theorem dX6_workOut_24 : decode cX6_workOut 24 = .ok (.getfield 7, 3) := by decide +kernel
theorem dX6_workOut_27 : decode cX6_workOut 27 = .ok (.bipush 23, 2) := by decide +kernel
theorem dX6_workOut_29 : decode cX6_workOut 29 = .ok (.iload_n 2, 1) := by decide +kernel
theorem dX6_workOut_30 : decode cX6_workOut 30 = .ok (.iadd, 1) := by decide +kernel
theorem dX6_workOut_31 : decode cX6_workOut 31 = .ok (.iaload, 1) := by decide +kernel
theorem dX6_workOut_32 : decode cX6_workOut 32 = .ok (.istore_n 3, 1) := by decide +kernel
theorem dX6_workOut_33 : decode cX6_workOut 33 = .ok (.iload_n 3, 1) := by decide +kernel
theorem dX6_workOut_34 : decode cX6_workOut 34 = .ok (.bipush 33, 2) := by decide +kernel
theorem dX6_workOut_36 : decode cX6_workOut 36 = .ok (.if_icmp .eq 9, 3) := by decide +kernel
theorem dX6_workOut_39 : decode cX6_workOut 39 = .ok (.iload_n 3, 1) := by decide +kernel
theorem dX6_workOut_40 : decode cX6_workOut 40 = .ok (.bipush 40, 2) := by decide +kernel
theorem dX6_workOut_42 : decode cX6_workOut 42 = .ok (.if_icmp .ne 11, 3) := by decide +kernel
theorem dX6_workOut_45 : decode cX6_workOut 45 = .ok (.aload_n 0, 1) := by decide +kernel
theorem dX6_workOut_46 : decode cX6_workOut 46 = .ok (.iload_n 3, 1) := by decide +kernel
theorem dX6_workOut_47 : decode cX6_workOut 47 = .ok (.invokevirtual 66, 3) := by decide +kernel
theorem dX6_workOut_50 : decode cX6_workOut 50 = .ok (.goto 109, 3) := by decide +kernel
theorem dX6_workOut_53 : decode cX6_workOut 53 = .ok (.iload_n 3, 1) := by decide +kernel
theorem dX6_workOut_54 : decode cX6_workOut 54 = .ok (.bipush 41, 2) := by decide +kernel
theorem dX6_workOut_56 : decode cX6_workOut 56 = .ok (.if_icmp .ne 26, 3) := by decide +kernel
theorem dX6_workOut_59 : decode cX6_workOut 59 = .ok (.aload_n 0, 1) := by decide +kernel
theorem dX6_workOut_60 : decode cX6_workOut 60 = .ok (.iconst 1, 1) := by decide +kernel
theorem dX6_workOut_61 : decode cX6_workOut 61 = .ok (.invokevirtual 70, 3) := by decide +kernel
theorem dX6_workOut_64 : decode cX6_workOut 64 = .ok (.aload_n 0, 1) := by decide +kernel
theorem dX6_workOut_65 : decode cX6_workOut 65 = .ok (.dup, 1) := by decide +kernel
theorem dX6_workOut_66 : decode cX6_workOut 66 = .ok (.getfield 53, 3) := by decide +kernel
theorem dX6_workOut_69 : decode cX6_workOut 69 = .ok (.iconst 1, 1) := by decide +kernel
theorem dX6_workOut_70 : decode cX6_workOut 70 = .ok (.isub, 1) := by decide +kernel
theorem dX6_workOut_71 : decode cX6_workOut 71 = .ok (.putfield 53, 3) := by decide +kernel
theorem dX6_workOut_74 : decode cX6_workOut 74 = .ok (.aload_n 0, 1) := by decide +kernel
theorem dX6_workOut_75 : decode cX6_workOut 75 = .ok (.iconst 3, 1) := by decide +kernel
theorem dX6_workOut_76 : decode cX6_workOut 76 = .ok (.invokevirtual 70, 3) := by decide +kernel
theorem dX6_workOut_79 : decode cX6_workOut 79 = .ok (.goto 80, 3) := by decide +kernel
theorem dX6_workOut_82 : decode cX6_workOut 82 = .ok (.iload_n 3, 1) := by decide +kernel
theorem dX6_workOut_83 : decode cX6_workOut 83 = .ok (.bipush 38, 2) := by decide +kernel
theorem dX6_workOut_85 : decode cX6_workOut 85 = .ok (.if_icmp .eq 9, 3) := by decide +kernel
theorem dX6_workOut_88 : decode cX6_workOut 88 = .ok (.iload_n 3, 1) := by decide +kernel
theorem dX6_workOut_89 : decode cX6_workOut 89 = .ok (.bipush 124, 2) := by decide +kernel
theorem dX6_workOut_91 : decode cX6_workOut 91 = .ok (.if_icmp .ne 19, 3) := by decide +kernel
theorem dX6_workOut_94 : decode cX6_workOut 94 = .ok (.aload_n 0, 1) := by decide +kernel
theorem dX6_workOut_95 : decode cX6_workOut 95 = .ok (.iload_n 3, 1) := by decide +kernel
theorem dX6_workOut_96 : decode cX6_workOut 96 = .ok (.invokestatic 59, 3) := by decide +kernel
theorem dX6_workOut_99 : decode cX6_workOut 99 = .ok (.invokevirtual 70, 3) := by decide +kernel
theorem dX6_workOut_102 : decode cX6_workOut 102 = .ok (.aload_n 0, 1) := by decide +kernel
theorem dX6_workOut_103 : decode cX6_workOut 103 = .ok (.iload_n 3, 1) := by decide +kernel
theorem dX6_workOut_104 : decode cX6_workOut 104 = .ok (.invokevirtual 66, 3) := by decide +kernel
theorem dX6_workOut_107 : decode cX6_workOut 107 = .ok (.goto 52, 3) := by decide +kernel
theorem dX6_workOut_110 : decode cX6_workOut 110 = .ok (.aload_n 0, 1) := by decide +kernel
theorem dX6_workOut_111 : decode cX6_workOut 111 = .ok (.getfield 30, 3) := by decide +kernel
theorem dX6_workOut_114 : decode cX6_workOut 114 = .ok (.aload_n 0, 1) := by decide +kernel
theorem dX6_workOut_115 : decode cX6_workOut 115 = .ok (.getfield 56, 3) := by decide +kernel
theorem dX6_workOut_118 : decode cX6_workOut 118 = .ok (.iload_n 3, 1) := by decide +kernel
theorem dX6_workOut_119 : decode cX6_workOut 119 = .ok (.iload_n 1, 1) := by decide +kernel
theorem dX6_workOut_120 : decode cX6_workOut 120 = .ok (.invokestatic 73, 3) := by decide +kernel
theorem dX6_workOut_123 : decode cX6_workOut 123 = .ok (.bastore, 1) := by decide +kernel
theorem dX6_workOut_124 : decode cX6_workOut 124 = .ok (.aload_n 0, 1) := by decide +kernel
theorem dX6_workOut_125 : decode cX6_workOut 125 = .ok (.getfield 33, 3) := by decide +kernel
theorem dX6_workOut_128 : decode cX6_workOut 128 = .ok (.aload_n 0, 1) := by decide +kernel
theorem dX6_workOut_129 : decode cX6_workOut 129 = .ok (.getfield 56, 3) := by decide +kernel
theorem dX6_workOut_132 : decode cX6_workOut 132 = .ok (.iconst 1, 1) := by decide +kernel
theorem dX6_workOut_133 : decode cX6_workOut 133 = .ok (.iastore, 1) := by decide +kernel
theorem dX6_workOut_134 : decode cX6_workOut 134 = .ok (.aload_n 0, 1) := by decide +kernel
theorem dX6_workOut_135 : decode cX6_workOut 135 = .ok (.getfield 36, 3) := by decide +kernel
theorem dX6_workOut_138 : decode cX6_workOut 138 = .ok (.aload_n 0, 1) := by decide +kernel
theorem dX6_workOut_139 : decode cX6_workOut 139 = .ok (.getfield 56, 3) := by decide +kernel
theorem dX6_workOut_142 : decode cX6_workOut 142 = .ok (.iconst 1, 1) := by decide +kernel
theorem dX6_workOut_143 : decode cX6_workOut 143 = .ok (.iastore, 1) := by decide +kernel
theorem dX6_workOut_144 : decode cX6_workOut 144 = .ok (.aload_n 0, 1) := by decide +kernel
theorem dX6_workOut_145 : decode cX6_workOut 145 = .ok (.dup, 1) := by decide +kernel
theorem dX6_workOut_146 : decode cX6_workOut 146 = .ok (.getfield 56, 3) := by decide +kernel
theorem dX6_workOut_149 : decode cX6_workOut 149 = .ok (.iconst 1, 1) := by decide +kernel
theorem dX6_workOut_150 : decode cX6_workOut 150 = .ok (.iadd, 1) := by decide +kernel
theorem dX6_workOut_151 : decode cX6_workOut 151 = .ok (.putfield 56, 3) := by decide +kernel
theorem dX6_workOut_154 : decode cX6_workOut 154 = .ok (.aload_n 0, 1) := by decide +kernel
theorem dX6_workOut_155 : decode cX6_workOut 155 = .ok (.iconst 3, 1) := by decide +kernel
theorem dX6_workOut_156 : decode cX6_workOut 156 = .ok (.invokevirtual 70, 3) := by decide +kernel
theorem dX6_workOut_159 : decode cX6_workOut 159 = .ok (.iinc 2 1, 3) := by decide +kernel
theorem dX6_workOut_162 : decode cX6_workOut 162 = .ok (.goto (-150), 3) := by decide +kernel
theorem dX6_workOut_165 : decode cX6_workOut 165 = .ok (.aload_n 0, 1) := by decide +kernel
theorem dX6_workOut_166 : decode cX6_workOut 166 = .ok (.iconst 1, 1) := by decide +kernel
theorem dX6_workOut_167 : decode cX6_workOut 167 = .ok (.invokevirtual 70, 3) := by decide +kernel
theorem dX6_workOut_170 : decode cX6_workOut 170 = .ok (.return_, 1) := by decide +kernel
theorem dX6_holdsWith_0 : decode cX6_holdsWith 0 = .ok (.aload_n 0, 1) := by decide +kernel
theorem dX6_holdsWith_1 : decode cX6_holdsWith 1 = .ok (.iload_n 1, 1) := by decide +kernel
theorem dX6_holdsWith_2 : decode cX6_holdsWith 2 = .ok (.invokevirtual 77, 3) := by decide +kernel
theorem dX6_holdsWith_5 : decode cX6_holdsWith 5 = .ok (.aload_n 0, 1) := by decide +kernel
theorem dX6_holdsWith_6 : decode cX6_holdsWith 6 = .ok (.getfield 30, 3) := by decide +kernel
theorem dX6_holdsWith_9 : decode cX6_holdsWith 9 = .ok (.iconst 0, 1) := by decide +kernel
theorem dX6_holdsWith_10 : decode cX6_holdsWith 10 = .ok (.baload, 1) := by decide +kernel
theorem dX6_holdsWith_11 : decode cX6_holdsWith 11 = .ok (.ireturn, 1) := by decide +kernel
theorem dX6_holdsNow_0 : decode cX6_holdsNow 0 = .ok (.aload_n 0, 1) := by decide +kernel
theorem dX6_holdsNow_1 : decode cX6_holdsNow 1 = .ok (.aload_n 0, 1) := by decide +kernel
theorem dX6_holdsNow_2 : decode cX6_holdsNow 2 = .ok (.getfield 7, 3) := by decide +kernel
theorem dX6_holdsNow_5 : decode cX6_holdsNow 5 = .ok (.bipush 11, 2) := by decide +kernel
theorem dX6_holdsNow_7 : decode cX6_holdsNow 7 = .ok (.iaload, 1) := by decide +kernel
theorem dX6_holdsNow_8 : decode cX6_holdsNow 8 = .ok (.invokevirtual 80, 3) := by decide +kernel
theorem dX6_holdsNow_11 : decode cX6_holdsNow 11 = .ok (.ireturn, 1) := by decide +kernel
theorem dX6_isLetter_0 : decode cX6_isLetter 0 = .ok (.iload_n 0, 1) := by decide +kernel
theorem dX6_isLetter_1 : decode cX6_isLetter 1 = .ok (.bipush 97, 2) := by decide +kernel
theorem dX6_isLetter_3 : decode cX6_isLetter 3 = .ok (.if_icmp .lt 9, 3) := by decide +kernel
theorem dX6_isLetter_6 : decode cX6_isLetter 6 = .ok (.iload_n 0, 1) := by decide +kernel
theorem dX6_isLetter_7 : decode cX6_isLetter 7 = .ok (.bipush 100, 2) := by decide +kernel
theorem dX6_isLetter_9 : decode cX6_isLetter 9 = .ok (.if_icmp .le 15, 3) := by decide +kernel
theorem dX6_isLetter_12 : decode cX6_isLetter 12 = .ok (.iload_n 0, 1) := by decide +kernel
theorem dX6_isLetter_13 : decode cX6_isLetter 13 = .ok (.bipush 65, 2) := by decide +kernel
theorem dX6_isLetter_15 : decode cX6_isLetter 15 = .ok (.if_icmp .lt 13, 3) := by decide +kernel
theorem dX6_isLetter_18 : decode cX6_isLetter 18 = .ok (.iload_n 0, 1) := by decide +kernel
theorem dX6_isLetter_19 : decode cX6_isLetter 19 = .ok (.bipush 68, 2) := by decide +kernel
theorem dX6_isLetter_21 : decode cX6_isLetter 21 = .ok (.if_icmp .gt 7, 3) := by decide +kernel
theorem dX6_isLetter_24 : decode cX6_isLetter 24 = .ok (.iconst 1, 1) := by decide +kernel
theorem dX6_isLetter_25 : decode cX6_isLetter 25 = .ok (.goto 4, 3) := by decide +kernel
theorem dX6_isLetter_28 : decode cX6_isLetter 28 = .ok (.iconst 0, 1) := by decide +kernel
theorem dX6_isLetter_29 : decode cX6_isLetter 29 = .ok (.ireturn, 1) := by decide +kernel
theorem dX6_parts_0 : decode cX6_parts 0 = .ok (.iconst 0, 1) := by decide +kernel
theorem dX6_parts_1 : decode cX6_parts 1 = .ok (.istore_n 1, 1) := by decide +kernel
theorem dX6_parts_2 : decode cX6_parts 2 = .ok (.iconst 0, 1) := by decide +kernel
theorem dX6_parts_3 : decode cX6_parts 3 = .ok (.istore_n 2, 1) := by decide +kernel
theorem dX6_parts_4 : decode cX6_parts 4 = .ok (.iload_n 2, 1) := by decide +kernel
theorem dX6_parts_5 : decode cX6_parts 5 = .ok (.aload_n 0, 1) := by decide +kernel
theorem dX6_parts_6 : decode cX6_parts 6 = .ok (.getfield 7, 3) := by decide +kernel
theorem dX6_parts_9 : decode cX6_parts 9 = .ok (.bipush 22, 2) := by decide +kernel
theorem dX6_parts_11 : decode cX6_parts 11 = .ok (.iaload, 1) := by decide +kernel
theorem dX6_parts_12 : decode cX6_parts 12 = .ok (.if_icmp .ge 39, 3) := by decide +kernel
theorem dX6_parts_15 : decode cX6_parts 15 = .ok (.aload_n 0, 1) := by decide +kernel
theorem dX6_parts_16 : decode cX6_parts 16 = .ok (.getfield 7, 3) := by decide +kernel
theorem dX6_parts_19 : decode cX6_parts 19 = .ok (.bipush 23, 2) := by decide +kernel
theorem dX6_parts_21 : decode cX6_parts 21 = .ok (.iload_n 2, 1) := by decide +kernel
theorem dX6_parts_22 : decode cX6_parts 22 = .ok (.iadd, 1) := by decide +kernel
theorem dX6_parts_23 : decode cX6_parts 23 = .ok (.iaload, 1) := by decide +kernel
theorem dX6_parts_24 : decode cX6_parts 24 = .ok (.istore_n 3, 1) := by decide +kernel
theorem dX6_parts_25 : decode cX6_parts 25 = .ok (.iload_n 1, 1) := by decide +kernel
theorem dX6_parts_26 : decode cX6_parts 26 = .ok (.iload_n 3, 1) := by decide +kernel
theorem dX6_parts_27 : decode cX6_parts 27 = .ok (.bipush 40, 2) := by decide +kernel
theorem dX6_parts_29 : decode cX6_parts 29 = .ok (.if_icmp .eq 9, 3) := by decide +kernel
theorem dX6_parts_32 : decode cX6_parts 32 = .ok (.iload_n 3, 1) := by decide +kernel
theorem dX6_parts_33 : decode cX6_parts 33 = .ok (.bipush 41, 2) := by decide +kernel
theorem dX6_parts_35 : decode cX6_parts 35 = .ok (.if_icmp .ne 7, 3) := by decide +kernel
theorem dX6_parts_38 : decode cX6_parts 38 = .ok (.iconst 0, 1) := by decide +kernel
theorem dX6_parts_39 : decode cX6_parts 39 = .ok (.goto 4, 3) := by decide +kernel
theorem dX6_parts_42 : decode cX6_parts 42 = .ok (.iconst 1, 1) := by decide +kernel
theorem dX6_parts_43 : decode cX6_parts 43 = .ok (.iadd, 1) := by decide +kernel
theorem dX6_parts_44 : decode cX6_parts 44 = .ok (.istore_n 1, 1) := by decide +kernel
theorem dX6_parts_45 : decode cX6_parts 45 = .ok (.iinc 2 1, 3) := by decide +kernel
theorem dX6_parts_48 : decode cX6_parts 48 = .ok (.goto (-44), 3) := by decide +kernel
theorem dX6_parts_51 : decode cX6_parts 51 = .ok (.iload_n 1, 1) := by decide +kernel
theorem dX6_parts_52 : decode cX6_parts 52 = .ok (.ireturn, 1) := by decide +kernel
theorem dX6_letters_0 : decode cX6_letters 0 = .ok (.iconst 0, 1) := by decide +kernel
theorem dX6_letters_1 : decode cX6_letters 1 = .ok (.istore_n 1, 1) := by decide +kernel
theorem dX6_letters_2 : decode cX6_letters 2 = .ok (.iconst 0, 1) := by decide +kernel
theorem dX6_letters_3 : decode cX6_letters 3 = .ok (.istore_n 2, 1) := by decide +kernel
theorem dX6_letters_4 : decode cX6_letters 4 = .ok (.iload_n 2, 1) := by decide +kernel
theorem dX6_letters_5 : decode cX6_letters 5 = .ok (.aload_n 0, 1) := by decide +kernel
theorem dX6_letters_6 : decode cX6_letters 6 = .ok (.getfield 7, 3) := by decide +kernel
theorem dX6_letters_9 : decode cX6_letters 9 = .ok (.bipush 22, 2) := by decide +kernel
theorem dX6_letters_11 : decode cX6_letters 11 = .ok (.iaload, 1) := by decide +kernel
theorem dX6_letters_12 : decode cX6_letters 12 = .ok (.if_icmp .ge 55, 3) := by decide +kernel
theorem dX6_letters_15 : decode cX6_letters 15 = .ok (.aload_n 0, 1) := by decide +kernel
theorem dX6_letters_16 : decode cX6_letters 16 = .ok (.getfield 7, 3) := by decide +kernel
theorem dX6_letters_19 : decode cX6_letters 19 = .ok (.bipush 23, 2) := by decide +kernel
theorem dX6_letters_21 : decode cX6_letters 21 = .ok (.iload_n 2, 1) := by decide +kernel
theorem dX6_letters_22 : decode cX6_letters 22 = .ok (.iadd, 1) := by decide +kernel
theorem dX6_letters_23 : decode cX6_letters 23 = .ok (.iaload, 1) := by decide +kernel
theorem dX6_letters_24 : decode cX6_letters 24 = .ok (.istore_n 3, 1) := by decide +kernel
theorem dX6_letters_25 : decode cX6_letters 25 = .ok (.iload_n 1, 1) := by decide +kernel
theorem dX6_letters_26 : decode cX6_letters 26 = .ok (.iload_n 3, 1) := by decide +kernel
theorem dX6_letters_27 : decode cX6_letters 27 = .ok (.invokestatic 84, 3) := by decide +kernel
theorem dX6_letters_30 : decode cX6_letters 30 = .ok (.ifCond .ne 7, 3) := by decide +kernel
theorem dX6_letters_33 : decode cX6_letters 33 = .ok (.iconst 0, 1) := by decide +kernel
theorem dX6_letters_34 : decode cX6_letters 34 = .ok (.goto 25, 3) := by decide +kernel
theorem dX6_letters_37 : decode cX6_letters 37 = .ok (.iload_n 3, 1) := by decide +kernel
theorem dX6_letters_38 : decode cX6_letters 38 = .ok (.bipush 97, 2) := by decide +kernel
theorem dX6_letters_40 : decode cX6_letters 40 = .ok (.if_icmp .lt 12, 3) := by decide +kernel
theorem dX6_letters_43 : decode cX6_letters 43 = .ok (.iconst 1, 1) := by decide +kernel
theorem dX6_letters_44 : decode cX6_letters 44 = .ok (.iload_n 3, 1) := by decide +kernel
theorem dX6_letters_45 : decode cX6_letters 45 = .ok (.bipush 97, 2) := by decide +kernel
theorem dX6_letters_47 : decode cX6_letters 47 = .ok (.isub, 1) := by decide +kernel
theorem dX6_letters_48 : decode cX6_letters 48 = .ok (.ishl, 1) := by decide +kernel
theorem dX6_letters_49 : decode cX6_letters 49 = .ok (.goto 10, 3) := by decide +kernel
theorem dX6_letters_52 : decode cX6_letters 52 = .ok (.bipush 16, 2) := by decide +kernel
theorem dX6_letters_54 : decode cX6_letters 54 = .ok (.iload_n 3, 1) := by decide +kernel
theorem dX6_letters_55 : decode cX6_letters 55 = .ok (.bipush 65, 2) := by decide +kernel
theorem dX6_letters_57 : decode cX6_letters 57 = .ok (.isub, 1) := by decide +kernel
theorem dX6_letters_58 : decode cX6_letters 58 = .ok (.ishl, 1) := by decide +kernel
theorem dX6_letters_59 : decode cX6_letters 59 = .ok (.ior, 1) := by decide +kernel
theorem dX6_letters_60 : decode cX6_letters 60 = .ok (.istore_n 1, 1) := by decide +kernel
theorem dX6_letters_61 : decode cX6_letters 61 = .ok (.iinc 2 1, 3) := by decide +kernel
theorem dX6_letters_64 : decode cX6_letters 64 = .ok (.goto (-60), 3) := by decide +kernel
theorem dX6_letters_67 : decode cX6_letters 67 = .ok (.iload_n 1, 1) := by decide +kernel
theorem dX6_letters_68 : decode cX6_letters 68 = .ok (.ireturn, 1) := by decide +kernel
theorem dX6_rule_0 : decode cX6_rule 0 = .ok (.aload_n 0, 1) := by decide +kernel
theorem dX6_rule_1 : decode cX6_rule 1 = .ok (.aload_n 0, 1) := by decide +kernel
theorem dX6_rule_2 : decode cX6_rule 2 = .ok (.getfield 7, 3) := by decide +kernel
theorem dX6_rule_5 : decode cX6_rule 5 = .ok (.bipush 11, 2) := by decide +kernel
theorem dX6_rule_7 : decode cX6_rule 7 = .ok (.iaload, 1) := by decide +kernel
theorem dX6_rule_8 : decode cX6_rule 8 = .ok (.invokevirtual 77, 3) := by decide +kernel
theorem dX6_rule_11 : decode cX6_rule 11 = .ok (.iload_n 1, 1) := by decide +kernel
theorem dX6_rule_12 : decode cX6_rule 12 = .ok (.tableswitch 75 0 4 #[36, 41, 48, 63, 68], 36) := by decide +kernel
theorem dX6_rule_48 : decode cX6_rule 48 = .ok (.aload_n 0, 1) := by decide +kernel
theorem dX6_rule_49 : decode cX6_rule 49 = .ok (.invokevirtual 87, 3) := by decide +kernel
theorem dX6_rule_52 : decode cX6_rule 52 = .ok (.ireturn, 1) := by decide +kernel
theorem dX6_rule_53 : decode cX6_rule 53 = .ok (.aload_n 0, 1) := by decide +kernel
theorem dX6_rule_54 : decode cX6_rule 54 = .ok (.getfield 33, 3) := by decide +kernel
theorem dX6_rule_57 : decode cX6_rule 57 = .ok (.iconst 0, 1) := by decide +kernel
theorem dX6_rule_58 : decode cX6_rule 58 = .ok (.iaload, 1) := by decide +kernel
theorem dX6_rule_59 : decode cX6_rule 59 = .ok (.ireturn, 1) := by decide +kernel
theorem dX6_rule_60 : decode cX6_rule 60 = .ok (.aload_n 0, 1) := by decide +kernel
theorem dX6_rule_61 : decode cX6_rule 61 = .ok (.getfield 30, 3) := by decide +kernel
theorem dX6_rule_64 : decode cX6_rule 64 = .ok (.iconst 0, 1) := by decide +kernel
theorem dX6_rule_65 : decode cX6_rule 65 = .ok (.baload, 1) := by decide +kernel
theorem dX6_rule_66 : decode cX6_rule 66 = .ok (.ifCond .eq 7, 3) := by decide +kernel
theorem dX6_rule_69 : decode cX6_rule 69 = .ok (.iconst 1, 1) := by decide +kernel
theorem dX6_rule_70 : decode cX6_rule 70 = .ok (.goto 4, 3) := by decide +kernel
theorem dX6_rule_73 : decode cX6_rule 73 = .ok (.iconst 0, 1) := by decide +kernel
theorem dX6_rule_74 : decode cX6_rule 74 = .ok (.ireturn, 1) := by decide +kernel
theorem dX6_rule_75 : decode cX6_rule 75 = .ok (.aload_n 0, 1) := by decide +kernel
theorem dX6_rule_76 : decode cX6_rule 76 = .ok (.invokevirtual 91, 3) := by decide +kernel
theorem dX6_rule_79 : decode cX6_rule 79 = .ok (.ireturn, 1) := by decide +kernel
theorem dX6_rule_80 : decode cX6_rule 80 = .ok (.aload_n 0, 1) := by decide +kernel
theorem dX6_rule_81 : decode cX6_rule 81 = .ok (.getfield 36, 3) := by decide +kernel
theorem dX6_rule_84 : decode cX6_rule 84 = .ok (.iconst 0, 1) := by decide +kernel
theorem dX6_rule_85 : decode cX6_rule 85 = .ok (.iaload, 1) := by decide +kernel
theorem dX6_rule_86 : decode cX6_rule 86 = .ok (.ireturn, 1) := by decide +kernel
theorem dX6_rule_87 : decode cX6_rule 87 = .ok (.bipush (-2), 2) := by decide +kernel
theorem dX6_rule_89 : decode cX6_rule 89 = .ok (.ireturn, 1) := by decide +kernel
theorem dX6_weight_0 : decode cX6_weight 0 = .ok (.aload_n 0, 1) := by decide +kernel
theorem dX6_weight_1 : decode cX6_weight 1 = .ok (.getfield 7, 3) := by decide +kernel
theorem dX6_weight_4 : decode cX6_weight 4 = .ok (.bipush 83, 2) := by decide +kernel
theorem dX6_weight_6 : decode cX6_weight 6 = .ok (.iconst 3, 1) := by decide +kernel
theorem dX6_weight_7 : decode cX6_weight 7 = .ok (.iload_n 1, 1) := by decide +kernel
theorem dX6_weight_8 : decode cX6_weight 8 = .ok (.imul, 1) := by decide +kernel
theorem dX6_weight_9 : decode cX6_weight 9 = .ok (.iadd, 1) := by decide +kernel
theorem dX6_weight_10 : decode cX6_weight 10 = .ok (.iaload, 1) := by decide +kernel
theorem dX6_weight_11 : decode cX6_weight 11 = .ok (.ireturn, 1) := by decide +kernel
theorem dX6_placeOf_0 : decode cX6_placeOf 0 = .ok (.aload_n 0, 1) := by decide +kernel
theorem dX6_placeOf_1 : decode cX6_placeOf 1 = .ok (.getfield 7, 3) := by decide +kernel
theorem dX6_placeOf_4 : decode cX6_placeOf 4 = .ok (.bipush 83, 2) := by decide +kernel
theorem dX6_placeOf_6 : decode cX6_placeOf 6 = .ok (.iconst 3, 1) := by decide +kernel
theorem dX6_placeOf_7 : decode cX6_placeOf 7 = .ok (.iload_n 1, 1) := by decide +kernel
theorem dX6_placeOf_8 : decode cX6_placeOf 8 = .ok (.imul, 1) := by decide +kernel
theorem dX6_placeOf_9 : decode cX6_placeOf 9 = .ok (.iadd, 1) := by decide +kernel
theorem dX6_placeOf_10 : decode cX6_placeOf 10 = .ok (.iconst 1, 1) := by decide +kernel
theorem dX6_placeOf_11 : decode cX6_placeOf 11 = .ok (.iadd, 1) := by decide +kernel
theorem dX6_placeOf_12 : decode cX6_placeOf 12 = .ok (.iaload, 1) := by decide +kernel
theorem dX6_placeOf_13 : decode cX6_placeOf 13 = .ok (.ireturn, 1) := by decide +kernel
theorem dX6_loadNow_0 : decode cX6_loadNow 0 = .ok (.iconst 0, 1) := by decide +kernel
theorem dX6_loadNow_1 : decode cX6_loadNow 1 = .ok (.istore_n 1, 1) := by decide +kernel
theorem dX6_loadNow_2 : decode cX6_loadNow 2 = .ok (.iconst 0, 1) := by decide +kernel
theorem dX6_loadNow_3 : decode cX6_loadNow 3 = .ok (.istore_n 2, 1) := by decide +kernel
theorem dX6_loadNow_4 : decode cX6_loadNow 4 = .ok (.iload_n 2, 1) := by decide +kernel
theorem dX6_loadNow_5 : decode cX6_loadNow 5 = .ok (.aload_n 0, 1) := by decide +kernel
theorem dX6_loadNow_6 : decode cX6_loadNow 6 = .ok (.getfield 7, 3) := by decide +kernel
theorem dX6_loadNow_9 : decode cX6_loadNow 9 = .ok (.bipush 10, 2) := by decide +kernel
theorem dX6_loadNow_11 : decode cX6_loadNow 11 = .ok (.iaload, 1) := by decide +kernel
theorem dX6_loadNow_12 : decode cX6_loadNow 12 = .ok (.if_icmp .ge 17, 3) := by decide +kernel
theorem dX6_loadNow_15 : decode cX6_loadNow 15 = .ok (.iload_n 1, 1) := by decide +kernel
theorem dX6_loadNow_16 : decode cX6_loadNow 16 = .ok (.aload_n 0, 1) := by decide +kernel
theorem dX6_loadNow_17 : decode cX6_loadNow 17 = .ok (.iload_n 2, 1) := by decide +kernel
theorem dX6_loadNow_18 : decode cX6_loadNow 18 = .ok (.invokevirtual 94, 3) := by decide +kernel
theorem dX6_loadNow_21 : decode cX6_loadNow 21 = .ok (.iadd, 1) := by decide +kernel
theorem dX6_loadNow_22 : decode cX6_loadNow 22 = .ok (.istore_n 1, 1) := by decide +kernel
theorem dX6_loadNow_23 : decode cX6_loadNow 23 = .ok (.iinc 2 1, 3) := by decide +kernel
theorem dX6_loadNow_26 : decode cX6_loadNow 26 = .ok (.goto (-22), 3) := by decide +kernel
theorem dX6_loadNow_29 : decode cX6_loadNow 29 = .ok (.iload_n 1, 1) := by decide +kernel
theorem dX6_loadNow_30 : decode cX6_loadNow 30 = .ok (.ireturn, 1) := by decide +kernel
theorem dX6_carry_0 : decode cX6_carry 0 = .ok (.iconst 0, 1) := by decide +kernel
theorem dX6_carry_1 : decode cX6_carry 1 = .ok (.istore_n 1, 1) := by decide +kernel
theorem dX6_carry_2 : decode cX6_carry 2 = .ok (.iconst 0, 1) := by decide +kernel
theorem dX6_carry_3 : decode cX6_carry 3 = .ok (.istore_n 2, 1) := by decide +kernel
theorem dX6_carry_4 : decode cX6_carry 4 = .ok (.iload_n 2, 1) := by decide +kernel
theorem dX6_carry_5 : decode cX6_carry 5 = .ok (.aload_n 0, 1) := by decide +kernel
theorem dX6_carry_6 : decode cX6_carry 6 = .ok (.getfield 7, 3) := by decide +kernel
theorem dX6_carry_9 : decode cX6_carry 9 = .ok (.bipush 10, 2) := by decide +kernel
theorem dX6_carry_11 : decode cX6_carry 11 = .ok (.iaload, 1) := by decide +kernel
theorem dX6_carry_12 : decode cX6_carry 12 = .ok (.if_icmp .ge 118, 3) := by decide +kernel
theorem dX6_carry_15 : decode cX6_carry 15 = .ok (.aload_n 0, 1) := by decide +kernel
theorem dX6_carry_16 : decode cX6_carry 16 = .ok (.iload_n 2, 1) := by decide +kernel
theorem dX6_carry_17 : decode cX6_carry 17 = .ok (.invokevirtual 97, 3) := by decide +kernel
theorem dX6_carry_20 : decode cX6_carry 20 = .ok (.aload_n 0, 1) := by decide +kernel
theorem dX6_carry_21 : decode cX6_carry 21 = .ok (.getfield 7, 3) := by decide +kernel
theorem dX6_carry_24 : decode cX6_carry 24 = .ok (.bipush 8, 2) := by decide +kernel
theorem dX6_carry_26 : decode cX6_carry 26 = .ok (.iaload, 1) := by decide +kernel
theorem dX6_carry_27 : decode cX6_carry 27 = .ok (.iadd, 1) := by decide +kernel
theorem dX6_carry_28 : decode cX6_carry 28 = .ok (.istore_n 3, 1) := by decide +kernel
theorem dX6_carry_29 : decode cX6_carry 29 = .ok (.iload_n 3, 1) := by decide +kernel
theorem dX6_carry_30 : decode cX6_carry 30 = .ok (.sipush 1000, 3) := by decide +kernel
theorem dX6_carry_33 : decode cX6_carry 33 = .ok (.if_icmp .lt 32, 3) := by decide +kernel
theorem dX6_carry_36 : decode cX6_carry 36 = .ok (.aload_n 0, 1) := by decide +kernel
theorem dX6_carry_37 : decode cX6_carry 37 = .ok (.getfield 7, 3) := by decide +kernel
theorem dX6_carry_40 : decode cX6_carry 40 = .ok (.bipush 17, 2) := by decide +kernel
theorem dX6_carry_42 : decode cX6_carry 42 = .ok (.dup2, 1) := by decide +kernel
theorem dX6_carry_43 : decode cX6_carry 43 = .ok (.iaload, 1) := by decide +kernel
theorem dX6_carry_44 : decode cX6_carry 44 = .ok (.iconst 1, 1) := by decide +kernel
theorem dX6_carry_45 : decode cX6_carry 45 = .ok (.iadd, 1) := by decide +kernel
theorem dX6_carry_46 : decode cX6_carry 46 = .ok (.iastore, 1) := by decide +kernel
theorem dX6_carry_47 : decode cX6_carry 47 = .ok (.aload_n 0, 1) := by decide +kernel
theorem dX6_carry_48 : decode cX6_carry 48 = .ok (.getfield 7, 3) := by decide +kernel
theorem dX6_carry_51 : decode cX6_carry 51 = .ok (.bipush 18, 2) := by decide +kernel
theorem dX6_carry_53 : decode cX6_carry 53 = .ok (.dup2, 1) := by decide +kernel
theorem dX6_carry_54 : decode cX6_carry 54 = .ok (.iaload, 1) := by decide +kernel
theorem dX6_carry_55 : decode cX6_carry 55 = .ok (.aload_n 0, 1) := by decide +kernel
theorem dX6_carry_56 : decode cX6_carry 56 = .ok (.iload_n 2, 1) := by decide +kernel
theorem dX6_carry_57 : decode cX6_carry 57 = .ok (.invokevirtual 94, 3) := by decide +kernel
theorem dX6_carry_60 : decode cX6_carry 60 = .ok (.iadd, 1) := by decide +kernel
theorem dX6_carry_61 : decode cX6_carry 61 = .ok (.iastore, 1) := by decide +kernel
theorem dX6_carry_62 : decode cX6_carry 62 = .ok (.goto 62, 3) := by decide +kernel
theorem dX6_carry_65 : decode cX6_carry 65 = .ok (.aload_n 0, 1) := by decide +kernel
theorem dX6_carry_66 : decode cX6_carry 66 = .ok (.getfield 7, 3) := by decide +kernel
theorem dX6_carry_69 : decode cX6_carry 69 = .ok (.bipush 83, 2) := by decide +kernel
theorem dX6_carry_71 : decode cX6_carry 71 = .ok (.iconst 3, 1) := by decide +kernel
theorem dX6_carry_72 : decode cX6_carry 72 = .ok (.iload_n 1, 1) := by decide +kernel
theorem dX6_carry_73 : decode cX6_carry 73 = .ok (.imul, 1) := by decide +kernel
theorem dX6_carry_74 : decode cX6_carry 74 = .ok (.iadd, 1) := by decide +kernel
theorem dX6_carry_75 : decode cX6_carry 75 = .ok (.aload_n 0, 1) := by decide +kernel
theorem dX6_carry_76 : decode cX6_carry 76 = .ok (.iload_n 2, 1) := by decide +kernel
theorem dX6_carry_77 : decode cX6_carry 77 = .ok (.invokevirtual 94, 3) := by decide +kernel
theorem dX6_carry_80 : decode cX6_carry 80 = .ok (.iastore, 1) := by decide +kernel
theorem dX6_carry_81 : decode cX6_carry 81 = .ok (.aload_n 0, 1) := by decide +kernel
theorem dX6_carry_82 : decode cX6_carry 82 = .ok (.getfield 7, 3) := by decide +kernel
theorem dX6_carry_85 : decode cX6_carry 85 = .ok (.bipush 83, 2) := by decide +kernel
theorem dX6_carry_87 : decode cX6_carry 87 = .ok (.iconst 3, 1) := by decide +kernel
theorem dX6_carry_88 : decode cX6_carry 88 = .ok (.iload_n 1, 1) := by decide +kernel
theorem dX6_carry_89 : decode cX6_carry 89 = .ok (.imul, 1) := by decide +kernel
theorem dX6_carry_90 : decode cX6_carry 90 = .ok (.iadd, 1) := by decide +kernel
theorem dX6_carry_91 : decode cX6_carry 91 = .ok (.iconst 2, 1) := by decide +kernel
theorem dX6_carry_92 : decode cX6_carry 92 = .ok (.iadd, 1) := by decide +kernel
theorem dX6_carry_93 : decode cX6_carry 93 = .ok (.aload_n 0, 1) := by decide +kernel
theorem dX6_carry_94 : decode cX6_carry 94 = .ok (.getfield 7, 3) := by decide +kernel
theorem dX6_carry_97 : decode cX6_carry 97 = .ok (.bipush 83, 2) := by decide +kernel
theorem dX6_carry_99 : decode cX6_carry 99 = .ok (.iconst 3, 1) := by decide +kernel
theorem dX6_carry_100 : decode cX6_carry 100 = .ok (.iload_n 2, 1) := by decide +kernel
theorem dX6_carry_101 : decode cX6_carry 101 = .ok (.imul, 1) := by decide +kernel
theorem dX6_carry_102 : decode cX6_carry 102 = .ok (.iadd, 1) := by decide +kernel
theorem dX6_carry_103 : decode cX6_carry 103 = .ok (.iconst 2, 1) := by decide +kernel
theorem dX6_carry_104 : decode cX6_carry 104 = .ok (.iadd, 1) := by decide +kernel
theorem dX6_carry_105 : decode cX6_carry 105 = .ok (.iaload, 1) := by decide +kernel
theorem dX6_carry_106 : decode cX6_carry 106 = .ok (.iastore, 1) := by decide +kernel
theorem dX6_carry_107 : decode cX6_carry 107 = .ok (.aload_n 0, 1) := by decide +kernel
theorem dX6_carry_108 : decode cX6_carry 108 = .ok (.getfield 7, 3) := by decide +kernel
theorem dX6_carry_111 : decode cX6_carry 111 = .ok (.bipush 83, 2) := by decide +kernel
theorem dX6_carry_113 : decode cX6_carry 113 = .ok (.iconst 3, 1) := by decide +kernel
theorem dX6_carry_114 : decode cX6_carry 114 = .ok (.iload_n 1, 1) := by decide +kernel
theorem dX6_carry_115 : decode cX6_carry 115 = .ok (.imul, 1) := by decide +kernel
theorem dX6_carry_116 : decode cX6_carry 116 = .ok (.iadd, 1) := by decide +kernel
theorem dX6_carry_117 : decode cX6_carry 117 = .ok (.iconst 1, 1) := by decide +kernel
theorem dX6_carry_118 : decode cX6_carry 118 = .ok (.iadd, 1) := by decide +kernel
theorem dX6_carry_119 : decode cX6_carry 119 = .ok (.iload_n 3, 1) := by decide +kernel
theorem dX6_carry_120 : decode cX6_carry 120 = .ok (.iastore, 1) := by decide +kernel
theorem dX6_carry_121 : decode cX6_carry 121 = .ok (.iinc 1 1, 3) := by decide +kernel
theorem dX6_carry_124 : decode cX6_carry 124 = .ok (.iinc 2 1, 3) := by decide +kernel
theorem dX6_carry_127 : decode cX6_carry 127 = .ok (.goto (-123), 3) := by decide +kernel
theorem dX6_carry_130 : decode cX6_carry 130 = .ok (.bipush 83, 2) := by decide +kernel
theorem dX6_carry_132 : decode cX6_carry 132 = .ok (.iconst 3, 1) := by decide +kernel
theorem dX6_carry_133 : decode cX6_carry 133 = .ok (.iload_n 1, 1) := by decide +kernel
theorem dX6_carry_134 : decode cX6_carry 134 = .ok (.imul, 1) := by decide +kernel
theorem dX6_carry_135 : decode cX6_carry 135 = .ok (.iadd, 1) := by decide +kernel
theorem dX6_carry_136 : decode cX6_carry 136 = .ok (.istore_n 2, 1) := by decide +kernel
theorem dX6_carry_137 : decode cX6_carry 137 = .ok (.iload_n 2, 1) := by decide +kernel
theorem dX6_carry_138 : decode cX6_carry 138 = .ok (.bipush 83, 2) := by decide +kernel
theorem dX6_carry_140 : decode cX6_carry 140 = .ok (.iconst 3, 1) := by decide +kernel
theorem dX6_carry_141 : decode cX6_carry 141 = .ok (.aload_n 0, 1) := by decide +kernel
theorem dX6_carry_142 : decode cX6_carry 142 = .ok (.getfield 7, 3) := by decide +kernel
theorem dX6_carry_145 : decode cX6_carry 145 = .ok (.bipush 10, 2) := by decide +kernel
theorem dX6_carry_147 : decode cX6_carry 147 = .ok (.iaload, 1) := by decide +kernel
theorem dX6_carry_148 : decode cX6_carry 148 = .ok (.imul, 1) := by decide +kernel
theorem dX6_carry_149 : decode cX6_carry 149 = .ok (.iadd, 1) := by decide +kernel
theorem dX6_carry_150 : decode cX6_carry 150 = .ok (.if_icmp .ge 16, 3) := by decide +kernel
theorem dX6_carry_153 : decode cX6_carry 153 = .ok (.aload_n 0, 1) := by decide +kernel
theorem dX6_carry_154 : decode cX6_carry 154 = .ok (.getfield 7, 3) := by decide +kernel
theorem dX6_carry_157 : decode cX6_carry 157 = .ok (.iload_n 2, 1) := by decide +kernel
theorem dX6_carry_158 : decode cX6_carry 158 = .ok (.iconst 0, 1) := by decide +kernel
theorem dX6_carry_159 : decode cX6_carry 159 = .ok (.iastore, 1) := by decide +kernel
theorem dX6_carry_160 : decode cX6_carry 160 = .ok (.iinc 2 1, 3) := by decide +kernel
theorem dX6_carry_163 : decode cX6_carry 163 = .ok (.goto (-26), 3) := by decide +kernel
theorem dX6_carry_166 : decode cX6_carry 166 = .ok (.aload_n 0, 1) := by decide +kernel
theorem dX6_carry_167 : decode cX6_carry 167 = .ok (.getfield 7, 3) := by decide +kernel
theorem dX6_carry_170 : decode cX6_carry 170 = .ok (.bipush 10, 2) := by decide +kernel
theorem dX6_carry_172 : decode cX6_carry 172 = .ok (.iload_n 1, 1) := by decide +kernel
theorem dX6_carry_173 : decode cX6_carry 173 = .ok (.iastore, 1) := by decide +kernel
theorem dX6_carry_174 : decode cX6_carry 174 = .ok (.return_, 1) := by decide +kernel
theorem dX6_halt_0 : decode cX6_halt 0 = .ok (.bipush 29, 2) := by decide +kernel
theorem dX6_halt_2 : decode cX6_halt 2 = .ok (.istore_n 2, 1) := by decide +kernel
theorem dX6_halt_3 : decode cX6_halt 3 = .ok (.iload_n 2, 1) := by decide +kernel
theorem dX6_halt_4 : decode cX6_halt 4 = .ok (.iconst 5, 1) := by decide +kernel
theorem dX6_halt_5 : decode cX6_halt 5 = .ok (.if_icmp .lt 31, 3) := by decide +kernel
theorem dX6_halt_8 : decode cX6_halt 8 = .ok (.aload_n 0, 1) := by decide +kernel
theorem dX6_halt_9 : decode cX6_halt 9 = .ok (.getfield 7, 3) := by decide +kernel
theorem dX6_halt_12 : decode cX6_halt 12 = .ok (.sipush 143, 3) := by decide +kernel
theorem dX6_halt_15 : decode cX6_halt 15 = .ok (.iload_n 2, 1) := by decide +kernel
theorem dX6_halt_16 : decode cX6_halt 16 = .ok (.iadd, 1) := by decide +kernel
theorem dX6_halt_17 : decode cX6_halt 17 = .ok (.aload_n 0, 1) := by decide +kernel
theorem dX6_halt_18 : decode cX6_halt 18 = .ok (.getfield 7, 3) := by decide +kernel
theorem dX6_halt_21 : decode cX6_halt 21 = .ok (.sipush 143, 3) := by decide +kernel
theorem dX6_halt_24 : decode cX6_halt 24 = .ok (.iload_n 2, 1) := by decide +kernel
theorem dX6_halt_25 : decode cX6_halt 25 = .ok (.iadd, 1) := by decide +kernel
theorem dX6_halt_26 : decode cX6_halt 26 = .ok (.iconst 5, 1) := by decide +kernel
theorem dX6_halt_27 : decode cX6_halt 27 = .ok (.isub, 1) := by decide +kernel
theorem dX6_halt_28 : decode cX6_halt 28 = .ok (.iaload, 1) := by decide +kernel
theorem dX6_halt_29 : decode cX6_halt 29 = .ok (.iastore, 1) := by decide +kernel
theorem dX6_halt_30 : decode cX6_halt 30 = .ok (.iinc 2 (-1), 3) := by decide +kernel
theorem dX6_halt_33 : decode cX6_halt 33 = .ok (.goto (-30), 3) := by decide +kernel
theorem dX6_halt_36 : decode cX6_halt 36 = .ok (.aload_n 0, 1) := by decide +kernel
theorem dX6_halt_37 : decode cX6_halt 37 = .ok (.getfield 7, 3) := by decide +kernel
theorem dX6_halt_40 : decode cX6_halt 40 = .ok (.sipush 143, 3) := by decide +kernel
theorem dX6_halt_43 : decode cX6_halt 43 = .ok (.aload_n 0, 1) := by decide +kernel
theorem dX6_halt_44 : decode cX6_halt 44 = .ok (.getfield 7, 3) := by decide +kernel
theorem dX6_halt_47 : decode cX6_halt 47 = .ok (.bipush 7, 2) := by decide +kernel
theorem dX6_halt_49 : decode cX6_halt 49 = .ok (.iaload, 1) := by decide +kernel
theorem dX6_halt_50 : decode cX6_halt 50 = .ok (.iastore, 1) := by decide +kernel
theorem dX6_halt_51 : decode cX6_halt 51 = .ok (.aload_n 0, 1) := by decide +kernel
theorem dX6_halt_52 : decode cX6_halt 52 = .ok (.getfield 7, 3) := by decide +kernel
theorem dX6_halt_55 : decode cX6_halt 55 = .ok (.sipush 144, 3) := by decide +kernel
theorem dX6_halt_58 : decode cX6_halt 58 = .ok (.aload_n 0, 1) := by decide +kernel
theorem dX6_halt_59 : decode cX6_halt 59 = .ok (.getfield 7, 3) := by decide +kernel
theorem dX6_halt_62 : decode cX6_halt 62 = .ok (.bipush 8, 2) := by decide +kernel
theorem dX6_halt_64 : decode cX6_halt 64 = .ok (.iaload, 1) := by decide +kernel
theorem dX6_halt_65 : decode cX6_halt 65 = .ok (.iastore, 1) := by decide +kernel
theorem dX6_halt_66 : decode cX6_halt 66 = .ok (.aload_n 0, 1) := by decide +kernel
theorem dX6_halt_67 : decode cX6_halt 67 = .ok (.getfield 7, 3) := by decide +kernel
theorem dX6_halt_70 : decode cX6_halt 70 = .ok (.sipush 145, 3) := by decide +kernel
theorem dX6_halt_73 : decode cX6_halt 73 = .ok (.aload_n 0, 1) := by decide +kernel
theorem dX6_halt_74 : decode cX6_halt 74 = .ok (.invokevirtual 100, 3) := by decide +kernel
theorem dX6_halt_77 : decode cX6_halt 77 = .ok (.iastore, 1) := by decide +kernel
theorem dX6_halt_78 : decode cX6_halt 78 = .ok (.aload_n 0, 1) := by decide +kernel
theorem dX6_halt_79 : decode cX6_halt 79 = .ok (.getfield 7, 3) := by decide +kernel
theorem dX6_halt_82 : decode cX6_halt 82 = .ok (.sipush 146, 3) := by decide +kernel
theorem dX6_halt_85 : decode cX6_halt 85 = .ok (.aload_n 0, 1) := by decide +kernel
theorem dX6_halt_86 : decode cX6_halt 86 = .ok (.getfield 7, 3) := by decide +kernel
theorem dX6_halt_89 : decode cX6_halt 89 = .ok (.bipush 11, 2) := by decide +kernel
theorem dX6_halt_91 : decode cX6_halt 91 = .ok (.iaload, 1) := by decide +kernel
theorem dX6_halt_92 : decode cX6_halt 92 = .ok (.iastore, 1) := by decide +kernel
theorem dX6_halt_93 : decode cX6_halt 93 = .ok (.aload_n 0, 1) := by decide +kernel
theorem dX6_halt_94 : decode cX6_halt 94 = .ok (.getfield 7, 3) := by decide +kernel
theorem dX6_halt_97 : decode cX6_halt 97 = .ok (.sipush 147, 3) := by decide +kernel
theorem dX6_halt_100 : decode cX6_halt 100 = .ok (.iload_n 1, 1) := by decide +kernel
theorem dX6_halt_101 : decode cX6_halt 101 = .ok (.iastore, 1) := by decide +kernel
theorem dX6_halt_102 : decode cX6_halt 102 = .ok (.aload_n 0, 1) := by decide +kernel
theorem dX6_halt_103 : decode cX6_halt 103 = .ok (.getfield 7, 3) := by decide +kernel
theorem dX6_halt_106 : decode cX6_halt 106 = .ok (.bipush 19, 2) := by decide +kernel
theorem dX6_halt_108 : decode cX6_halt 108 = .ok (.dup2, 1) := by decide +kernel
theorem dX6_halt_109 : decode cX6_halt 109 = .ok (.iaload, 1) := by decide +kernel
theorem dX6_halt_110 : decode cX6_halt 110 = .ok (.iconst 1, 1) := by decide +kernel
theorem dX6_halt_111 : decode cX6_halt 111 = .ok (.iadd, 1) := by decide +kernel
theorem dX6_halt_112 : decode cX6_halt 112 = .ok (.iastore, 1) := by decide +kernel
theorem dX6_halt_113 : decode cX6_halt 113 = .ok (.aload_n 0, 1) := by decide +kernel
theorem dX6_halt_114 : decode cX6_halt 114 = .ok (.getfield 7, 3) := by decide +kernel
theorem dX6_halt_117 : decode cX6_halt 117 = .ok (.bipush 9, 2) := by decide +kernel
theorem dX6_halt_119 : decode cX6_halt 119 = .ok (.iconst 1, 1) := by decide +kernel
theorem dX6_halt_120 : decode cX6_halt 120 = .ok (.iastore, 1) := by decide +kernel
theorem dX6_halt_121 : decode cX6_halt 121 = .ok (.return_, 1) := by decide +kernel
theorem dX6_disagrees_0 : decode cX6_disagrees 0 = .ok (.aload_n 0, 1) := by decide +kernel
theorem dX6_disagrees_1 : decode cX6_disagrees 1 = .ok (.getfield 7, 3) := by decide +kernel
theorem dX6_disagrees_4 : decode cX6_disagrees 4 = .ok (.bipush 11, 2) := by decide +kernel
theorem dX6_disagrees_6 : decode cX6_disagrees 6 = .ok (.iaload, 1) := by decide +kernel
theorem dX6_disagrees_7 : decode cX6_disagrees 7 = .ok (.iconst 2, 1) := by decide +kernel
theorem dX6_disagrees_8 : decode cX6_disagrees 8 = .ok (.iload_n 1, 1) := by decide +kernel
theorem dX6_disagrees_9 : decode cX6_disagrees 9 = .ok (.imul, 1) := by decide +kernel
theorem dX6_disagrees_10 : decode cX6_disagrees 10 = .ok (.ishr, 1) := by decide +kernel
theorem dX6_disagrees_11 : decode cX6_disagrees 11 = .ok (.iconst 3, 1) := by decide +kernel
theorem dX6_disagrees_12 : decode cX6_disagrees 12 = .ok (.iand, 1) := by decide +kernel
theorem dX6_disagrees_13 : decode cX6_disagrees 13 = .ok (.istore_n 2, 1) := by decide +kernel
theorem dX6_disagrees_14 : decode cX6_disagrees 14 = .ok (.iload_n 2, 1) := by decide +kernel
theorem dX6_disagrees_15 : decode cX6_disagrees 15 = .ok (.iconst 1, 1) := by decide +kernel
theorem dX6_disagrees_16 : decode cX6_disagrees 16 = .ok (.if_icmp .eq 8, 3) := by decide +kernel
theorem dX6_disagrees_19 : decode cX6_disagrees 19 = .ok (.iload_n 2, 1) := by decide +kernel
theorem dX6_disagrees_20 : decode cX6_disagrees 20 = .ok (.iconst 2, 1) := by decide +kernel
theorem dX6_disagrees_21 : decode cX6_disagrees 21 = .ok (.if_icmp .ne 7, 3) := by decide +kernel
theorem dX6_disagrees_24 : decode cX6_disagrees 24 = .ok (.iconst 1, 1) := by decide +kernel
theorem dX6_disagrees_25 : decode cX6_disagrees 25 = .ok (.goto 4, 3) := by decide +kernel
theorem dX6_disagrees_28 : decode cX6_disagrees 28 = .ok (.iconst 0, 1) := by decide +kernel
theorem dX6_disagrees_29 : decode cX6_disagrees 29 = .ok (.ireturn, 1) := by decide +kernel
theorem dX6_isSlow_0 : decode cX6_isSlow 0 = .ok (.aload_n 0, 1) := by decide +kernel
theorem dX6_isSlow_1 : decode cX6_isSlow 1 = .ok (.getfield 7, 3) := by decide +kernel
theorem dX6_isSlow_4 : decode cX6_isSlow 4 = .ok (.bipush 10, 2) := by decide +kernel
theorem dX6_isSlow_6 : decode cX6_isSlow 6 = .ok (.iaload, 1) := by decide +kernel
theorem dX6_isSlow_7 : decode cX6_isSlow 7 = .ok (.ifCond .ne 25, 3) := by decide +kernel
theorem dX6_isSlow_10 : decode cX6_isSlow 10 = .ok (.aload_n 0, 1) := by decide +kernel
theorem dX6_isSlow_11 : decode cX6_isSlow 11 = .ok (.getfield 7, 3) := by decide +kernel
theorem dX6_isSlow_14 : decode cX6_isSlow 14 = .ok (.bipush 16, 2) := by decide +kernel
theorem dX6_isSlow_16 : decode cX6_isSlow 16 = .ok (.iaload, 1) := by decide +kernel
theorem dX6_isSlow_17 : decode cX6_isSlow 17 = .ok (.iconst 1, 1) := by decide +kernel
theorem dX6_isSlow_18 : decode cX6_isSlow 18 = .ok (.iadd, 1) := by decide +kernel
theorem dX6_isSlow_19 : decode cX6_isSlow 19 = .ok (.aload_n 0, 1) := by decide +kernel
theorem dX6_isSlow_20 : decode cX6_isSlow 20 = .ok (.getfield 7, 3) := by decide +kernel
theorem dX6_isSlow_23 : decode cX6_isSlow 23 = .ok (.iconst 3, 1) := by decide +kernel
theorem dX6_isSlow_24 : decode cX6_isSlow 24 = .ok (.iaload, 1) := by decide +kernel
theorem dX6_isSlow_25 : decode cX6_isSlow 25 = .ok (.if_icmp .le 7, 3) := by decide +kernel
theorem dX6_isSlow_28 : decode cX6_isSlow 28 = .ok (.iconst 1, 1) := by decide +kernel
theorem dX6_isSlow_29 : decode cX6_isSlow 29 = .ok (.goto 4, 3) := by decide +kernel
theorem dX6_isSlow_32 : decode cX6_isSlow 32 = .ok (.iconst 0, 1) := by decide +kernel
theorem dX6_isSlow_33 : decode cX6_isSlow 33 = .ok (.istore_n 1, 1) := by decide +kernel
theorem dX6_isSlow_34 : decode cX6_isSlow 34 = .ok (.iconst 0, 1) := by decide +kernel
theorem dX6_isSlow_35 : decode cX6_isSlow 35 = .ok (.istore_n 2, 1) := by decide +kernel
theorem dX6_isSlow_36 : decode cX6_isSlow 36 = .ok (.iload_n 2, 1) := by decide +kernel
theorem dX6_isSlow_37 : decode cX6_isSlow 37 = .ok (.iconst 4, 1) := by decide +kernel
theorem dX6_isSlow_38 : decode cX6_isSlow 38 = .ok (.if_icmp .ge 37, 3) := by decide +kernel
theorem dX6_isSlow_41 : decode cX6_isSlow 41 = .ok (.iload_n 1, 1) := by decide +kernel
theorem dX6_isSlow_42 : decode cX6_isSlow 42 = .ok (.ifCond .ne 21, 3) := by decide +kernel
theorem dX6_isSlow_45 : decode cX6_isSlow 45 = .ok (.aload_n 0, 1) := by decide +kernel
theorem dX6_isSlow_46 : decode cX6_isSlow 46 = .ok (.getfield 7, 3) := by decide +kernel
theorem dX6_isSlow_49 : decode cX6_isSlow 49 = .ok (.bipush 12, 2) := by decide +kernel
theorem dX6_isSlow_51 : decode cX6_isSlow 51 = .ok (.iload_n 2, 1) := by decide +kernel
theorem dX6_isSlow_52 : decode cX6_isSlow 52 = .ok (.iadd, 1) := by decide +kernel
theorem dX6_isSlow_53 : decode cX6_isSlow 53 = .ok (.iaload, 1) := by decide +kernel
theorem dX6_isSlow_54 : decode cX6_isSlow 54 = .ok (.aload_n 0, 1) := by decide +kernel
theorem dX6_isSlow_55 : decode cX6_isSlow 55 = .ok (.getfield 7, 3) := by decide +kernel
theorem dX6_isSlow_58 : decode cX6_isSlow 58 = .ok (.iconst 4, 1) := by decide +kernel
theorem dX6_isSlow_59 : decode cX6_isSlow 59 = .ok (.iaload, 1) := by decide +kernel
theorem dX6_isSlow_60 : decode cX6_isSlow 60 = .ok (.if_icmp .le 7, 3) := by decide +kernel
theorem dX6_isSlow_63 : decode cX6_isSlow 63 = .ok (.iconst 1, 1) := by decide +kernel
theorem dX6_isSlow_64 : decode cX6_isSlow 64 = .ok (.goto 4, 3) := by decide +kernel
theorem dX6_isSlow_67 : decode cX6_isSlow 67 = .ok (.iconst 0, 1) := by decide +kernel
theorem dX6_isSlow_68 : decode cX6_isSlow 68 = .ok (.istore_n 1, 1) := by decide +kernel
theorem dX6_isSlow_69 : decode cX6_isSlow 69 = .ok (.iinc 2 1, 3) := by decide +kernel
theorem dX6_isSlow_72 : decode cX6_isSlow 72 = .ok (.goto (-36), 3) := by decide +kernel
theorem dX6_isSlow_75 : decode cX6_isSlow 75 = .ok (.iload_n 1, 1) := by decide +kernel
theorem dX6_isSlow_76 : decode cX6_isSlow 76 = .ok (.ireturn, 1) := by decide +kernel
theorem dX6_wanted_0 : decode cX6_wanted 0 = .ok (.aload_n 0, 1) := by decide +kernel
theorem dX6_wanted_1 : decode cX6_wanted 1 = .ok (.getfield 7, 3) := by decide +kernel
theorem dX6_wanted_4 : decode cX6_wanted 4 = .ok (.bipush 9, 2) := by decide +kernel
theorem dX6_wanted_6 : decode cX6_wanted 6 = .ok (.iaload, 1) := by decide +kernel
theorem dX6_wanted_7 : decode cX6_wanted 7 = .ok (.ifCond .eq 5, 3) := by decide +kernel
theorem dX6_wanted_10 : decode cX6_wanted 10 = .ok (.iconst 0, 1) := by decide +kernel
theorem dX6_wanted_11 : decode cX6_wanted 11 = .ok (.ireturn, 1) := by decide +kernel
theorem dX6_wanted_12 : decode cX6_wanted 12 = .ok (.aload_n 0, 1) := by decide +kernel
theorem dX6_wanted_13 : decode cX6_wanted 13 = .ok (.getfield 7, 3) := by decide +kernel
theorem dX6_wanted_16 : decode cX6_wanted 16 = .ok (.iconst 0, 1) := by decide +kernel
theorem dX6_wanted_17 : decode cX6_wanted 17 = .ok (.iaload, 1) := by decide +kernel
theorem dX6_wanted_18 : decode cX6_wanted 18 = .ok (.aload_n 0, 1) := by decide +kernel
theorem dX6_wanted_19 : decode cX6_wanted 19 = .ok (.invokevirtual 100, 3) := by decide +kernel
theorem dX6_wanted_22 : decode cX6_wanted 22 = .ok (.aload_n 0, 1) := by decide +kernel
theorem dX6_wanted_23 : decode cX6_wanted 23 = .ok (.getfield 7, 3) := by decide +kernel
theorem dX6_wanted_26 : decode cX6_wanted 26 = .ok (.iconst 5, 1) := by decide +kernel
theorem dX6_wanted_27 : decode cX6_wanted 27 = .ok (.iaload, 1) := by decide +kernel
theorem dX6_wanted_28 : decode cX6_wanted 28 = .ok (.idiv, 1) := by decide +kernel
theorem dX6_wanted_29 : decode cX6_wanted 29 = .ok (.isub, 1) := by decide +kernel
theorem dX6_wanted_30 : decode cX6_wanted 30 = .ok (.istore_n 1, 1) := by decide +kernel
theorem dX6_wanted_31 : decode cX6_wanted 31 = .ok (.aload_n 0, 1) := by decide +kernel
theorem dX6_wanted_32 : decode cX6_wanted 32 = .ok (.invokevirtual 103, 3) := by decide +kernel
theorem dX6_wanted_35 : decode cX6_wanted 35 = .ok (.ifCond .ne 13, 3) := by decide +kernel
theorem dX6_wanted_38 : decode cX6_wanted 38 = .ok (.iload_n 1, 1) := by decide +kernel
theorem dX6_wanted_39 : decode cX6_wanted 39 = .ok (.aload_n 0, 1) := by decide +kernel
theorem dX6_wanted_40 : decode cX6_wanted 40 = .ok (.getfield 7, 3) := by decide +kernel
theorem dX6_wanted_43 : decode cX6_wanted 43 = .ok (.iconst 1, 1) := by decide +kernel
theorem dX6_wanted_44 : decode cX6_wanted 44 = .ok (.iaload, 1) := by decide +kernel
theorem dX6_wanted_45 : decode cX6_wanted 45 = .ok (.if_icmp .ge 12, 3) := by decide +kernel
theorem dX6_wanted_48 : decode cX6_wanted 48 = .ok (.aload_n 0, 1) := by decide +kernel
theorem dX6_wanted_49 : decode cX6_wanted 49 = .ok (.getfield 7, 3) := by decide +kernel
theorem dX6_wanted_52 : decode cX6_wanted 52 = .ok (.iconst 1, 1) := by decide +kernel
theorem dX6_wanted_53 : decode cX6_wanted 53 = .ok (.iaload, 1) := by decide +kernel
theorem dX6_wanted_54 : decode cX6_wanted 54 = .ok (.goto 4, 3) := by decide +kernel
theorem dX6_wanted_57 : decode cX6_wanted 57 = .ok (.iload_n 1, 1) := by decide +kernel
theorem dX6_wanted_58 : decode cX6_wanted 58 = .ok (.ireturn, 1) := by decide +kernel
theorem dX6_goTick_0 : decode cX6_goTick 0 = .ok (.aload_n 0, 1) := by decide +kernel
theorem dX6_goTick_1 : decode cX6_goTick 1 = .ok (.getfield 7, 3) := by decide +kernel
theorem dX6_goTick_4 : decode cX6_goTick 4 = .ok (.bipush 9, 2) := by decide +kernel
theorem dX6_goTick_6 : decode cX6_goTick 6 = .ok (.iaload, 1) := by decide +kernel
theorem dX6_goTick_7 : decode cX6_goTick 7 = .ok (.ifCond .ne 15, 3) := by decide +kernel
theorem dX6_goTick_10 : decode cX6_goTick 10 = .ok (.aload_n 0, 1) := by decide +kernel
theorem dX6_goTick_11 : decode cX6_goTick 11 = .ok (.invokevirtual 107, 3) := by decide +kernel
theorem dX6_goTick_14 : decode cX6_goTick 14 = .ok (.ifCond .eq 8, 3) := by decide +kernel
theorem dX6_goTick_17 : decode cX6_goTick 17 = .ok (.aload_n 0, 1) := by decide +kernel
theorem dX6_goTick_18 : decode cX6_goTick 18 = .ok (.iconst 0, 1) := by decide +kernel
theorem dX6_goTick_19 : decode cX6_goTick 19 = .ok (.invokevirtual 110, 3) := by decide +kernel
theorem dX6_goTick_22 : decode cX6_goTick 22 = .ok (.iconst 0, 1) := by decide +kernel
theorem dX6_goTick_23 : decode cX6_goTick 23 = .ok (.istore_n 1, 1) := by decide +kernel
theorem dX6_goTick_24 : decode cX6_goTick 24 = .ok (.iload_n 1, 1) := by decide +kernel
theorem dX6_goTick_25 : decode cX6_goTick 25 = .ok (.iconst 4, 1) := by decide +kernel
theorem dX6_goTick_26 : decode cX6_goTick 26 = .ok (.if_icmp .ge 41, 3) := by decide +kernel
theorem dX6_goTick_29 : decode cX6_goTick 29 = .ok (.aload_n 0, 1) := by decide +kernel
theorem dX6_goTick_30 : decode cX6_goTick 30 = .ok (.getfield 7, 3) := by decide +kernel
theorem dX6_goTick_33 : decode cX6_goTick 33 = .ok (.bipush 12, 2) := by decide +kernel
theorem dX6_goTick_35 : decode cX6_goTick 35 = .ok (.iload_n 1, 1) := by decide +kernel
theorem dX6_goTick_36 : decode cX6_goTick 36 = .ok (.iadd, 1) := by decide +kernel
theorem dX6_goTick_37 : decode cX6_goTick 37 = .ok (.aload_n 0, 1) := by decide +kernel
theorem dX6_goTick_38 : decode cX6_goTick 38 = .ok (.iload_n 1, 1) := by decide +kernel
theorem dX6_goTick_39 : decode cX6_goTick 39 = .ok (.invokevirtual 113, 3) := by decide +kernel
theorem dX6_goTick_42 : decode cX6_goTick 42 = .ok (.ifCond .eq 17, 3) := by decide +kernel
theorem dX6_goTick_45 : decode cX6_goTick 45 = .ok (.aload_n 0, 1) := by decide +kernel
theorem dX6_goTick_46 : decode cX6_goTick 46 = .ok (.getfield 7, 3) := by decide +kernel
theorem dX6_goTick_49 : decode cX6_goTick 49 = .ok (.bipush 12, 2) := by decide +kernel
theorem dX6_goTick_51 : decode cX6_goTick 51 = .ok (.iload_n 1, 1) := by decide +kernel
theorem dX6_goTick_52 : decode cX6_goTick 52 = .ok (.iadd, 1) := by decide +kernel
theorem dX6_goTick_53 : decode cX6_goTick 53 = .ok (.iaload, 1) := by decide +kernel
theorem dX6_goTick_54 : decode cX6_goTick 54 = .ok (.iconst 1, 1) := by decide +kernel
theorem dX6_goTick_55 : decode cX6_goTick 55 = .ok (.iadd, 1) := by decide +kernel
theorem dX6_goTick_56 : decode cX6_goTick 56 = .ok (.goto 4, 3) := by decide +kernel
theorem dX6_goTick_59 : decode cX6_goTick 59 = .ok (.iconst 0, 1) := by decide +kernel
theorem dX6_goTick_60 : decode cX6_goTick 60 = .ok (.iastore, 1) := by decide +kernel
theorem dX6_goTick_61 : decode cX6_goTick 61 = .ok (.iinc 1 1, 3) := by decide +kernel
theorem dX6_goTick_64 : decode cX6_goTick 64 = .ok (.goto (-40), 3) := by decide +kernel
theorem dX6_goTick_67 : decode cX6_goTick 67 = .ok (.aload_n 0, 1) := by decide +kernel
theorem dX6_goTick_68 : decode cX6_goTick 68 = .ok (.invokevirtual 100, 3) := by decide +kernel
theorem dX6_goTick_71 : decode cX6_goTick 71 = .ok (.aload_n 0, 1) := by decide +kernel
theorem dX6_goTick_72 : decode cX6_goTick 72 = .ok (.getfield 7, 3) := by decide +kernel
theorem dX6_goTick_75 : decode cX6_goTick 75 = .ok (.bipush 6, 2) := by decide +kernel
theorem dX6_goTick_77 : decode cX6_goTick 77 = .ok (.iaload, 1) := by decide +kernel
theorem dX6_goTick_78 : decode cX6_goTick 78 = .ok (.if_icmp .le 16, 3) := by decide +kernel
theorem dX6_goTick_81 : decode cX6_goTick 81 = .ok (.aload_n 0, 1) := by decide +kernel
theorem dX6_goTick_82 : decode cX6_goTick 82 = .ok (.getfield 7, 3) := by decide +kernel
theorem dX6_goTick_85 : decode cX6_goTick 85 = .ok (.iconst 2, 1) := by decide +kernel
theorem dX6_goTick_86 : decode cX6_goTick 86 = .ok (.iaload, 1) := by decide +kernel
theorem dX6_goTick_87 : decode cX6_goTick 87 = .ok (.iconst 1, 1) := by decide +kernel
theorem dX6_goTick_88 : decode cX6_goTick 88 = .ok (.iadd, 1) := by decide +kernel
theorem dX6_goTick_89 : decode cX6_goTick 89 = .ok (.iconst 2, 1) := by decide +kernel
theorem dX6_goTick_90 : decode cX6_goTick 90 = .ok (.idiv, 1) := by decide +kernel
theorem dX6_goTick_91 : decode cX6_goTick 91 = .ok (.goto 9, 3) := by decide +kernel
theorem dX6_goTick_94 : decode cX6_goTick 94 = .ok (.aload_n 0, 1) := by decide +kernel
theorem dX6_goTick_95 : decode cX6_goTick 95 = .ok (.getfield 7, 3) := by decide +kernel
theorem dX6_goTick_98 : decode cX6_goTick 98 = .ok (.iconst 2, 1) := by decide +kernel
theorem dX6_goTick_99 : decode cX6_goTick 99 = .ok (.iaload, 1) := by decide +kernel
theorem dX6_goTick_100 : decode cX6_goTick 100 = .ok (.istore_n 1, 1) := by decide +kernel
theorem dX6_goTick_101 : decode cX6_goTick 101 = .ok (.aload_n 0, 1) := by decide +kernel
theorem dX6_goTick_102 : decode cX6_goTick 102 = .ok (.invokevirtual 116, 3) := by decide +kernel
theorem dX6_goTick_105 : decode cX6_goTick 105 = .ok (.aload_n 0, 1) := by decide +kernel
theorem dX6_goTick_106 : decode cX6_goTick 106 = .ok (.getfield 7, 3) := by decide +kernel
theorem dX6_goTick_109 : decode cX6_goTick 109 = .ok (.bipush 8, 2) := by decide +kernel
theorem dX6_goTick_111 : decode cX6_goTick 111 = .ok (.iaload, 1) := by decide +kernel
theorem dX6_goTick_112 : decode cX6_goTick 112 = .ok (.isub, 1) := by decide +kernel
theorem dX6_goTick_113 : decode cX6_goTick 113 = .ok (.istore_n 2, 1) := by decide +kernel
theorem dX6_goTick_114 : decode cX6_goTick 114 = .ok (.iload_n 2, 1) := by decide +kernel
theorem dX6_goTick_115 : decode cX6_goTick 115 = .ok (.iload_n 1, 1) := by decide +kernel
theorem dX6_goTick_116 : decode cX6_goTick 116 = .ok (.if_icmp .le 7, 3) := by decide +kernel
theorem dX6_goTick_119 : decode cX6_goTick 119 = .ok (.iload_n 1, 1) := by decide +kernel
theorem dX6_goTick_120 : decode cX6_goTick 120 = .ok (.goto 15, 3) := by decide +kernel
theorem dX6_goTick_123 : decode cX6_goTick 123 = .ok (.iload_n 2, 1) := by decide +kernel
theorem dX6_goTick_124 : decode cX6_goTick 124 = .ok (.iload_n 1, 1) := by decide +kernel
theorem dX6_goTick_125 : decode cX6_goTick 125 = .ok (.ineg, 1) := by decide +kernel
theorem dX6_goTick_126 : decode cX6_goTick 126 = .ok (.if_icmp .ge 8, 3) := by decide +kernel
theorem dX6_goTick_129 : decode cX6_goTick 129 = .ok (.iload_n 1, 1) := by decide +kernel
theorem dX6_goTick_130 : decode cX6_goTick 130 = .ok (.ineg, 1) := by decide +kernel
theorem dX6_goTick_131 : decode cX6_goTick 131 = .ok (.goto 4, 3) := by decide +kernel
theorem dX6_goTick_134 : decode cX6_goTick 134 = .ok (.iload_n 2, 1) := by decide +kernel
theorem dX6_goTick_135 : decode cX6_goTick 135 = .ok (.istore_n 2, 1) := by decide +kernel
theorem dX6_goTick_136 : decode cX6_goTick 136 = .ok (.aload_n 0, 1) := by decide +kernel
theorem dX6_goTick_137 : decode cX6_goTick 137 = .ok (.getfield 7, 3) := by decide +kernel
theorem dX6_goTick_140 : decode cX6_goTick 140 = .ok (.bipush 8, 2) := by decide +kernel
theorem dX6_goTick_142 : decode cX6_goTick 142 = .ok (.dup2, 1) := by decide +kernel
theorem dX6_goTick_143 : decode cX6_goTick 143 = .ok (.iaload, 1) := by decide +kernel
theorem dX6_goTick_144 : decode cX6_goTick 144 = .ok (.iload_n 2, 1) := by decide +kernel
theorem dX6_goTick_145 : decode cX6_goTick 145 = .ok (.iadd, 1) := by decide +kernel
theorem dX6_goTick_146 : decode cX6_goTick 146 = .ok (.iastore, 1) := by decide +kernel
theorem dX6_goTick_147 : decode cX6_goTick 147 = .ok (.iload_n 2, 1) := by decide +kernel
theorem dX6_goTick_148 : decode cX6_goTick 148 = .ok (.ifCond .ge 8, 3) := by decide +kernel
theorem dX6_goTick_151 : decode cX6_goTick 151 = .ok (.iload_n 2, 1) := by decide +kernel
theorem dX6_goTick_152 : decode cX6_goTick 152 = .ok (.ineg, 1) := by decide +kernel
theorem dX6_goTick_153 : decode cX6_goTick 153 = .ok (.goto 4, 3) := by decide +kernel
theorem dX6_goTick_156 : decode cX6_goTick 156 = .ok (.iload_n 2, 1) := by decide +kernel
theorem dX6_goTick_157 : decode cX6_goTick 157 = .ok (.istore_n 3, 1) := by decide +kernel
theorem dX6_goTick_158 : decode cX6_goTick 158 = .ok (.aload_n 0, 1) := by decide +kernel
theorem dX6_goTick_159 : decode cX6_goTick 159 = .ok (.getfield 7, 3) := by decide +kernel
theorem dX6_goTick_162 : decode cX6_goTick 162 = .ok (.bipush 21, 2) := by decide +kernel
theorem dX6_goTick_164 : decode cX6_goTick 164 = .ok (.iload_n 3, 1) := by decide +kernel
theorem dX6_goTick_165 : decode cX6_goTick 165 = .ok (.aload_n 0, 1) := by decide +kernel
theorem dX6_goTick_166 : decode cX6_goTick 166 = .ok (.getfield 7, 3) := by decide +kernel
theorem dX6_goTick_169 : decode cX6_goTick 169 = .ok (.bipush 21, 2) := by decide +kernel
theorem dX6_goTick_171 : decode cX6_goTick 171 = .ok (.iaload, 1) := by decide +kernel
theorem dX6_goTick_172 : decode cX6_goTick 172 = .ok (.if_icmp .le 7, 3) := by decide +kernel
theorem dX6_goTick_175 : decode cX6_goTick 175 = .ok (.iload_n 3, 1) := by decide +kernel
theorem dX6_goTick_176 : decode cX6_goTick 176 = .ok (.goto 10, 3) := by decide +kernel
theorem dX6_goTick_179 : decode cX6_goTick 179 = .ok (.aload_n 0, 1) := by decide +kernel
theorem dX6_goTick_180 : decode cX6_goTick 180 = .ok (.getfield 7, 3) := by decide +kernel
theorem dX6_goTick_183 : decode cX6_goTick 183 = .ok (.bipush 21, 2) := by decide +kernel
theorem dX6_goTick_185 : decode cX6_goTick 185 = .ok (.iaload, 1) := by decide +kernel
theorem dX6_goTick_186 : decode cX6_goTick 186 = .ok (.iastore, 1) := by decide +kernel
theorem dX6_goTick_187 : decode cX6_goTick 187 = .ok (.aload_n 0, 1) := by decide +kernel
theorem dX6_goTick_188 : decode cX6_goTick 188 = .ok (.invokevirtual 119, 3) := by decide +kernel
theorem dX6_goTick_191 : decode cX6_goTick 191 = .ok (.aload_n 0, 1) := by decide +kernel
theorem dX6_goTick_192 : decode cX6_goTick 192 = .ok (.getfield 7, 3) := by decide +kernel
theorem dX6_goTick_195 : decode cX6_goTick 195 = .ok (.bipush 20, 2) := by decide +kernel
theorem dX6_goTick_197 : decode cX6_goTick 197 = .ok (.dup2, 1) := by decide +kernel
theorem dX6_goTick_198 : decode cX6_goTick 198 = .ok (.iaload, 1) := by decide +kernel
theorem dX6_goTick_199 : decode cX6_goTick 199 = .ok (.aload_n 0, 1) := by decide +kernel
theorem dX6_goTick_200 : decode cX6_goTick 200 = .ok (.getfield 7, 3) := by decide +kernel
theorem dX6_goTick_203 : decode cX6_goTick 203 = .ok (.bipush 8, 2) := by decide +kernel
theorem dX6_goTick_205 : decode cX6_goTick 205 = .ok (.iaload, 1) := by decide +kernel
theorem dX6_goTick_206 : decode cX6_goTick 206 = .ok (.iadd, 1) := by decide +kernel
theorem dX6_goTick_207 : decode cX6_goTick 207 = .ok (.iastore, 1) := by decide +kernel
theorem dX6_goTick_208 : decode cX6_goTick 208 = .ok (.aload_n 0, 1) := by decide +kernel
theorem dX6_goTick_209 : decode cX6_goTick 209 = .ok (.getfield 7, 3) := by decide +kernel
theorem dX6_goTick_212 : decode cX6_goTick 212 = .ok (.bipush 9, 2) := by decide +kernel
theorem dX6_goTick_214 : decode cX6_goTick 214 = .ok (.iaload, 1) := by decide +kernel
theorem dX6_goTick_215 : decode cX6_goTick 215 = .ok (.iconst 1, 1) := by decide +kernel
theorem dX6_goTick_216 : decode cX6_goTick 216 = .ok (.if_icmp .ne 21, 3) := by decide +kernel
theorem dX6_goTick_219 : decode cX6_goTick 219 = .ok (.aload_n 0, 1) := by decide +kernel
theorem dX6_goTick_220 : decode cX6_goTick 220 = .ok (.getfield 7, 3) := by decide +kernel
theorem dX6_goTick_223 : decode cX6_goTick 223 = .ok (.bipush 8, 2) := by decide +kernel
theorem dX6_goTick_225 : decode cX6_goTick 225 = .ok (.iaload, 1) := by decide +kernel
theorem dX6_goTick_226 : decode cX6_goTick 226 = .ok (.ifCond .ne 11, 3) := by decide +kernel
theorem dX6_goTick_229 : decode cX6_goTick 229 = .ok (.aload_n 0, 1) := by decide +kernel
theorem dX6_goTick_230 : decode cX6_goTick 230 = .ok (.getfield 7, 3) := by decide +kernel
theorem dX6_goTick_233 : decode cX6_goTick 233 = .ok (.bipush 9, 2) := by decide +kernel
theorem dX6_goTick_235 : decode cX6_goTick 235 = .ok (.iconst 2, 1) := by decide +kernel
theorem dX6_goTick_236 : decode cX6_goTick 236 = .ok (.iastore, 1) := by decide +kernel
theorem dX6_goTick_237 : decode cX6_goTick 237 = .ok (.aload_n 0, 1) := by decide +kernel
theorem dX6_goTick_238 : decode cX6_goTick 238 = .ok (.getfield 7, 3) := by decide +kernel
theorem dX6_goTick_241 : decode cX6_goTick 241 = .ok (.bipush 16, 2) := by decide +kernel
theorem dX6_goTick_243 : decode cX6_goTick 243 = .ok (.aload_n 0, 1) := by decide +kernel
theorem dX6_goTick_244 : decode cX6_goTick 244 = .ok (.getfield 7, 3) := by decide +kernel
theorem dX6_goTick_247 : decode cX6_goTick 247 = .ok (.bipush 10, 2) := by decide +kernel
theorem dX6_goTick_249 : decode cX6_goTick 249 = .ok (.iaload, 1) := by decide +kernel
theorem dX6_goTick_250 : decode cX6_goTick 250 = .ok (.ifCond .ne 15, 3) := by decide +kernel
theorem dX6_goTick_253 : decode cX6_goTick 253 = .ok (.aload_n 0, 1) := by decide +kernel
theorem dX6_goTick_254 : decode cX6_goTick 254 = .ok (.getfield 7, 3) := by decide +kernel
theorem dX6_goTick_257 : decode cX6_goTick 257 = .ok (.bipush 16, 2) := by decide +kernel
theorem dX6_goTick_259 : decode cX6_goTick 259 = .ok (.iaload, 1) := by decide +kernel
theorem dX6_goTick_260 : decode cX6_goTick 260 = .ok (.iconst 1, 1) := by decide +kernel
theorem dX6_goTick_261 : decode cX6_goTick 261 = .ok (.iadd, 1) := by decide +kernel
theorem dX6_goTick_262 : decode cX6_goTick 262 = .ok (.goto 4, 3) := by decide +kernel
theorem dX6_goTick_265 : decode cX6_goTick 265 = .ok (.iconst 0, 1) := by decide +kernel
theorem dX6_goTick_266 : decode cX6_goTick 266 = .ok (.iastore, 1) := by decide +kernel
theorem dX6_goTick_267 : decode cX6_goTick 267 = .ok (.aload_n 0, 1) := by decide +kernel
theorem dX6_goTick_268 : decode cX6_goTick 268 = .ok (.getfield 7, 3) := by decide +kernel
theorem dX6_goTick_271 : decode cX6_goTick 271 = .ok (.bipush 7, 2) := by decide +kernel
theorem dX6_goTick_273 : decode cX6_goTick 273 = .ok (.dup2, 1) := by decide +kernel
theorem dX6_goTick_274 : decode cX6_goTick 274 = .ok (.iaload, 1) := by decide +kernel
theorem dX6_goTick_275 : decode cX6_goTick 275 = .ok (.iconst 1, 1) := by decide +kernel
theorem dX6_goTick_276 : decode cX6_goTick 276 = .ok (.iadd, 1) := by decide +kernel
theorem dX6_goTick_277 : decode cX6_goTick 277 = .ok (.iastore, 1) := by decide +kernel
theorem dX6_goTick_278 : decode cX6_goTick 278 = .ok (.return_, 1) := by decide +kernel
theorem dX6_leastOf_0 : decode cX6_leastOf 0 = .ok (.iload_n 0, 1) := by decide +kernel
theorem dX6_leastOf_1 : decode cX6_leastOf 1 = .ok (.ifCond .ne 8, 3) := by decide +kernel
theorem dX6_leastOf_4 : decode cX6_leastOf 4 = .ok (.bipush 10, 2) := by decide +kernel
theorem dX6_leastOf_6 : decode cX6_leastOf 6 = .ok (.goto 4, 3) := by decide +kernel
theorem dX6_leastOf_9 : decode cX6_leastOf 9 = .ok (.iconst 1, 1) := by decide +kernel
theorem dX6_leastOf_10 : decode cX6_leastOf 10 = .ok (.ireturn, 1) := by decide +kernel
theorem dX6_mostOf_0 : decode cX6_mostOf 0 = .ok (.iload_n 0, 1) := by decide +kernel
theorem dX6_mostOf_1 : decode cX6_mostOf 1 = .ok (.tableswitch 60 0 6 #[43, 46, 49, 60, 60, 52, 56], 43) := by decide +kernel
theorem dX6_mostOf_44 : decode cX6_mostOf 44 = .ok (.bipush 90, 2) := by decide +kernel
theorem dX6_mostOf_46 : decode cX6_mostOf 46 = .ok (.ireturn, 1) := by decide +kernel
theorem dX6_mostOf_47 : decode cX6_mostOf 47 = .ok (.bipush 40, 2) := by decide +kernel
theorem dX6_mostOf_49 : decode cX6_mostOf 49 = .ok (.ireturn, 1) := by decide +kernel
theorem dX6_mostOf_50 : decode cX6_mostOf 50 = .ok (.bipush 30, 2) := by decide +kernel
theorem dX6_mostOf_52 : decode cX6_mostOf 52 = .ok (.ireturn, 1) := by decide +kernel
theorem dX6_mostOf_53 : decode cX6_mostOf 53 = .ok (.sipush 999, 3) := by decide +kernel
theorem dX6_mostOf_56 : decode cX6_mostOf 56 = .ok (.ireturn, 1) := by decide +kernel
theorem dX6_mostOf_57 : decode cX6_mostOf 57 = .ok (.sipush 9999, 3) := by decide +kernel
theorem dX6_mostOf_60 : decode cX6_mostOf 60 = .ok (.ireturn, 1) := by decide +kernel
theorem dX6_mostOf_61 : decode cX6_mostOf 61 = .ok (.bipush 99, 2) := by decide +kernel
theorem dX6_mostOf_63 : decode cX6_mostOf 63 = .ok (.ireturn, 1) := by decide +kernel
theorem dX6_set_0 : decode cX6_set 0 = .ok (.iload_n 1, 1) := by decide +kernel
theorem dX6_set_1 : decode cX6_set 1 = .ok (.iconst 0, 1) := by decide +kernel
theorem dX6_set_2 : decode cX6_set 2 = .ok (.bipush 6, 2) := by decide +kernel
theorem dX6_set_4 : decode cX6_set 4 = .ok (.invokestatic 46, 3) := by decide +kernel
theorem dX6_set_7 : decode cX6_set 7 = .ok (.ifCond .eq 18, 3) := by decide +kernel
theorem dX6_set_10 : decode cX6_set 10 = .ok (.iload_n 2, 1) := by decide +kernel
theorem dX6_set_11 : decode cX6_set 11 = .ok (.iload_n 1, 1) := by decide +kernel
theorem dX6_set_12 : decode cX6_set 12 = .ok (.invokestatic 122, 3) := by decide +kernel
theorem dX6_set_15 : decode cX6_set 15 = .ok (.iload_n 1, 1) := by decide +kernel
theorem dX6_set_16 : decode cX6_set 16 = .ok (.invokestatic 125, 3) := by decide +kernel
theorem dX6_set_19 : decode cX6_set 19 = .ok (.invokestatic 46, 3) := by decide +kernel
theorem dX6_set_22 : decode cX6_set 22 = .ok (.ifCond .ne 6, 3) := by decide +kernel
theorem dX6_set_25 : decode cX6_set 25 = .ok (.bipush (-2), 2) := by decide +kernel
theorem dX6_set_27 : decode cX6_set 27 = .ok (.ireturn, 1) := by decide +kernel
theorem dX6_set_28 : decode cX6_set 28 = .ok (.aload_n 0, 1) := by decide +kernel
theorem dX6_set_29 : decode cX6_set 29 = .ok (.invokevirtual 50, 3) := by decide +kernel
theorem dX6_set_32 : decode cX6_set 32 = .ok (.aload_n 0, 1) := by decide +kernel
theorem dX6_set_33 : decode cX6_set 33 = .ok (.getfield 7, 3) := by decide +kernel
theorem dX6_set_36 : decode cX6_set 36 = .ok (.iload_n 1, 1) := by decide +kernel
theorem dX6_set_37 : decode cX6_set 37 = .ok (.iaload, 1) := by decide +kernel
theorem dX6_set_38 : decode cX6_set 38 = .ok (.istore_n 3, 1) := by decide +kernel
theorem dX6_set_39 : decode cX6_set 39 = .ok (.aload_n 0, 1) := by decide +kernel
theorem dX6_set_40 : decode cX6_set 40 = .ok (.getfield 7, 3) := by decide +kernel
theorem dX6_set_43 : decode cX6_set 43 = .ok (.iload_n 1, 1) := by decide +kernel
theorem dX6_set_44 : decode cX6_set 44 = .ok (.iload_n 2, 1) := by decide +kernel
theorem dX6_set_45 : decode cX6_set 45 = .ok (.iastore, 1) := by decide +kernel
theorem dX6_set_46 : decode cX6_set 46 = .ok (.iload_n 3, 1) := by decide +kernel
theorem dX6_set_47 : decode cX6_set 47 = .ok (.ireturn, 1) := by decide +kernel
theorem dX6_come_0 : decode cX6_come 0 = .ok (.iload_n 1, 1) := by decide +kernel
theorem dX6_come_1 : decode cX6_come 1 = .ok (.iconst 1, 1) := by decide +kernel
theorem dX6_come_2 : decode cX6_come 2 = .ok (.sipush 200, 3) := by decide +kernel
theorem dX6_come_5 : decode cX6_come 5 = .ok (.invokestatic 46, 3) := by decide +kernel
theorem dX6_come_8 : decode cX6_come 8 = .ok (.ifCond .ne 6, 3) := by decide +kernel
theorem dX6_come_11 : decode cX6_come 11 = .ok (.bipush (-2), 2) := by decide +kernel
theorem dX6_come_13 : decode cX6_come 13 = .ok (.ireturn, 1) := by decide +kernel
theorem dX6_come_14 : decode cX6_come 14 = .ok (.aload_n 0, 1) := by decide +kernel
theorem dX6_come_15 : decode cX6_come 15 = .ok (.getfield 7, 3) := by decide +kernel
theorem dX6_come_18 : decode cX6_come 18 = .ok (.bipush 10, 2) := by decide +kernel
theorem dX6_come_20 : decode cX6_come 20 = .ok (.iaload, 1) := by decide +kernel
theorem dX6_come_21 : decode cX6_come 21 = .ok (.bipush 20, 2) := by decide +kernel
theorem dX6_come_23 : decode cX6_come 23 = .ok (.if_icmp .ne 6, 3) := by decide +kernel
theorem dX6_come_26 : decode cX6_come 26 = .ok (.bipush (-4), 2) := by decide +kernel
theorem dX6_come_28 : decode cX6_come 28 = .ok (.ireturn, 1) := by decide +kernel
theorem dX6_come_29 : decode cX6_come 29 = .ok (.aload_n 0, 1) := by decide +kernel
theorem dX6_come_30 : decode cX6_come 30 = .ok (.getfield 7, 3) := by decide +kernel
theorem dX6_come_33 : decode cX6_come 33 = .ok (.bipush 9, 2) := by decide +kernel
theorem dX6_come_35 : decode cX6_come 35 = .ok (.iaload, 1) := by decide +kernel
theorem dX6_come_36 : decode cX6_come 36 = .ok (.ifCond .eq 6, 3) := by decide +kernel
theorem dX6_come_39 : decode cX6_come 39 = .ok (.bipush (-5), 2) := by decide +kernel
theorem dX6_come_41 : decode cX6_come 41 = .ok (.ireturn, 1) := by decide +kernel
theorem dX6_come_42 : decode cX6_come 42 = .ok (.aload_n 0, 1) := by decide +kernel
theorem dX6_come_43 : decode cX6_come 43 = .ok (.invokevirtual 50, 3) := by decide +kernel
theorem dX6_come_46 : decode cX6_come 46 = .ok (.bipush 83, 2) := by decide +kernel
theorem dX6_come_48 : decode cX6_come 48 = .ok (.iconst 3, 1) := by decide +kernel
theorem dX6_come_49 : decode cX6_come 49 = .ok (.aload_n 0, 1) := by decide +kernel
theorem dX6_come_50 : decode cX6_come 50 = .ok (.getfield 7, 3) := by decide +kernel
theorem dX6_come_53 : decode cX6_come 53 = .ok (.bipush 10, 2) := by decide +kernel
theorem dX6_come_55 : decode cX6_come 55 = .ok (.iaload, 1) := by decide +kernel
theorem dX6_come_56 : decode cX6_come 56 = .ok (.imul, 1) := by decide +kernel
theorem dX6_come_57 : decode cX6_come 57 = .ok (.iadd, 1) := by decide +kernel
theorem dX6_come_58 : decode cX6_come 58 = .ok (.istore_n 2, 1) := by decide +kernel
theorem dX6_come_59 : decode cX6_come 59 = .ok (.aload_n 0, 1) := by decide +kernel
theorem dX6_come_60 : decode cX6_come 60 = .ok (.getfield 7, 3) := by decide +kernel
theorem dX6_come_63 : decode cX6_come 63 = .ok (.iload_n 2, 1) := by decide +kernel
theorem dX6_come_64 : decode cX6_come 64 = .ok (.iload_n 1, 1) := by decide +kernel
theorem dX6_come_65 : decode cX6_come 65 = .ok (.iastore, 1) := by decide +kernel
theorem dX6_come_66 : decode cX6_come 66 = .ok (.aload_n 0, 1) := by decide +kernel
theorem dX6_come_67 : decode cX6_come 67 = .ok (.getfield 7, 3) := by decide +kernel
theorem dX6_come_70 : decode cX6_come 70 = .ok (.iload_n 2, 1) := by decide +kernel
theorem dX6_come_71 : decode cX6_come 71 = .ok (.iconst 1, 1) := by decide +kernel
theorem dX6_come_72 : decode cX6_come 72 = .ok (.iadd, 1) := by decide +kernel
theorem dX6_come_73 : decode cX6_come 73 = .ok (.iconst 0, 1) := by decide +kernel
theorem dX6_come_74 : decode cX6_come 74 = .ok (.iastore, 1) := by decide +kernel
theorem dX6_come_75 : decode cX6_come 75 = .ok (.aload_n 0, 1) := by decide +kernel
theorem dX6_come_76 : decode cX6_come 76 = .ok (.getfield 7, 3) := by decide +kernel
theorem dX6_come_79 : decode cX6_come 79 = .ok (.iload_n 2, 1) := by decide +kernel
theorem dX6_come_80 : decode cX6_come 80 = .ok (.iconst 2, 1) := by decide +kernel
theorem dX6_come_81 : decode cX6_come 81 = .ok (.iadd, 1) := by decide +kernel
theorem dX6_come_82 : decode cX6_come 82 = .ok (.aload_n 0, 1) := by decide +kernel
theorem dX6_come_83 : decode cX6_come 83 = .ok (.getfield 7, 3) := by decide +kernel
theorem dX6_come_86 : decode cX6_come 86 = .ok (.bipush 7, 2) := by decide +kernel
theorem dX6_come_88 : decode cX6_come 88 = .ok (.iaload, 1) := by decide +kernel
theorem dX6_come_89 : decode cX6_come 89 = .ok (.iastore, 1) := by decide +kernel
theorem dX6_come_90 : decode cX6_come 90 = .ok (.aload_n 0, 1) := by decide +kernel
theorem dX6_come_91 : decode cX6_come 91 = .ok (.getfield 7, 3) := by decide +kernel
theorem dX6_come_94 : decode cX6_come 94 = .ok (.bipush 10, 2) := by decide +kernel
theorem dX6_come_96 : decode cX6_come 96 = .ok (.dup2, 1) := by decide +kernel
theorem dX6_come_97 : decode cX6_come 97 = .ok (.iaload, 1) := by decide +kernel
theorem dX6_come_98 : decode cX6_come 98 = .ok (.iconst 1, 1) := by decide +kernel
theorem dX6_come_99 : decode cX6_come 99 = .ok (.iadd, 1) := by decide +kernel
theorem dX6_come_100 : decode cX6_come 100 = .ok (.iastore, 1) := by decide +kernel
theorem dX6_come_101 : decode cX6_come 101 = .ok (.aload_n 0, 1) := by decide +kernel
theorem dX6_come_102 : decode cX6_come 102 = .ok (.getfield 7, 3) := by decide +kernel
theorem dX6_come_105 : decode cX6_come 105 = .ok (.bipush 10, 2) := by decide +kernel
theorem dX6_come_107 : decode cX6_come 107 = .ok (.iaload, 1) := by decide +kernel
theorem dX6_come_108 : decode cX6_come 108 = .ok (.ireturn, 1) := by decide +kernel
theorem dX6_isSpot_0 : decode cX6_isSpot 0 = .ok (.iload_n 0, 1) := by decide +kernel
theorem dX6_isSpot_1 : decode cX6_isSpot 1 = .ok (.iconst 0, 1) := by decide +kernel
theorem dX6_isSpot_2 : decode cX6_isSpot 2 = .ok (.iconst 3, 1) := by decide +kernel
theorem dX6_isSpot_3 : decode cX6_isSpot 3 = .ok (.invokestatic 46, 3) := by decide +kernel
theorem dX6_isSpot_6 : decode cX6_isSpot 6 = .ok (.ireturn, 1) := by decide +kernel
theorem dX6_sense_0 : decode cX6_sense 0 = .ok (.iload_n 1, 1) := by decide +kernel
theorem dX6_sense_1 : decode cX6_sense 1 = .ok (.invokestatic 128, 3) := by decide +kernel
theorem dX6_sense_4 : decode cX6_sense 4 = .ok (.ifCond .eq 12, 3) := by decide +kernel
theorem dX6_sense_7 : decode cX6_sense 7 = .ok (.iload_n 2, 1) := by decide +kernel
theorem dX6_sense_8 : decode cX6_sense 8 = .ok (.iconst 0, 1) := by decide +kernel
theorem dX6_sense_9 : decode cX6_sense 9 = .ok (.iconst 1, 1) := by decide +kernel
theorem dX6_sense_10 : decode cX6_sense 10 = .ok (.invokestatic 46, 3) := by decide +kernel
theorem dX6_sense_13 : decode cX6_sense 13 = .ok (.ifCond .ne 5, 3) := by decide +kernel
theorem dX6_sense_16 : decode cX6_sense 16 = .ok (.iconst (-1), 1) := by decide +kernel
theorem dX6_sense_17 : decode cX6_sense 17 = .ok (.ireturn, 1) := by decide +kernel
theorem dX6_sense_18 : decode cX6_sense 18 = .ok (.iload_n 3, 1) := by decide +kernel
theorem dX6_sense_19 : decode cX6_sense 19 = .ok (.iconst 0, 1) := by decide +kernel
theorem dX6_sense_20 : decode cX6_sense 20 = .ok (.iconst 1, 1) := by decide +kernel
theorem dX6_sense_21 : decode cX6_sense 21 = .ok (.invokestatic 46, 3) := by decide +kernel
theorem dX6_sense_24 : decode cX6_sense 24 = .ok (.ifCond .ne 6, 3) := by decide +kernel
theorem dX6_sense_27 : decode cX6_sense 27 = .ok (.bipush (-2), 2) := by decide +kernel
theorem dX6_sense_29 : decode cX6_sense 29 = .ok (.ireturn, 1) := by decide +kernel
theorem dX6_sense_30 : decode cX6_sense 30 = .ok (.aload_n 0, 1) := by decide +kernel
theorem dX6_sense_31 : decode cX6_sense 31 = .ok (.invokevirtual 50, 3) := by decide +kernel
theorem dX6_sense_34 : decode cX6_sense 34 = .ok (.iconst 2, 1) := by decide +kernel
theorem dX6_sense_35 : decode cX6_sense 35 = .ok (.iload_n 1, 1) := by decide +kernel
theorem dX6_sense_36 : decode cX6_sense 36 = .ok (.imul, 1) := by decide +kernel
theorem dX6_sense_37 : decode cX6_sense 37 = .ok (.iload_n 2, 1) := by decide +kernel
theorem dX6_sense_38 : decode cX6_sense 38 = .ok (.iadd, 1) := by decide +kernel
theorem dX6_sense_39 : decode cX6_sense 39 = .ok (.istore 4, 2) := by decide +kernel
theorem dX6_sense_41 : decode cX6_sense 41 = .ok (.aload_n 0, 1) := by decide +kernel
theorem dX6_sense_42 : decode cX6_sense 42 = .ok (.getfield 7, 3) := by decide +kernel
theorem dX6_sense_45 : decode cX6_sense 45 = .ok (.bipush 11, 2) := by decide +kernel
theorem dX6_sense_47 : decode cX6_sense 47 = .ok (.iaload, 1) := by decide +kernel
theorem dX6_sense_48 : decode cX6_sense 48 = .ok (.iload 4, 2) := by decide +kernel
theorem dX6_sense_50 : decode cX6_sense 50 = .ok (.ishr, 1) := by decide +kernel
theorem dX6_sense_51 : decode cX6_sense 51 = .ok (.iconst 1, 1) := by decide +kernel
theorem dX6_sense_52 : decode cX6_sense 52 = .ok (.iand, 1) := by decide +kernel
theorem dX6_sense_53 : decode cX6_sense 53 = .ok (.istore 5, 2) := by decide +kernel
theorem dX6_sense_55 : decode cX6_sense 55 = .ok (.aload_n 0, 1) := by decide +kernel
theorem dX6_sense_56 : decode cX6_sense 56 = .ok (.getfield 7, 3) := by decide +kernel
theorem dX6_sense_59 : decode cX6_sense 59 = .ok (.bipush 11, 2) := by decide +kernel
theorem dX6_sense_61 : decode cX6_sense 61 = .ok (.dup2, 1) := by decide +kernel
theorem dX6_sense_62 : decode cX6_sense 62 = .ok (.iaload, 1) := by decide +kernel
theorem dX6_sense_63 : decode cX6_sense 63 = .ok (.iload_n 3, 1) := by decide +kernel
theorem dX6_sense_64 : decode cX6_sense 64 = .ok (.iload 5, 2) := by decide +kernel
theorem dX6_sense_66 : decode cX6_sense 66 = .ok (.isub, 1) := by decide +kernel
theorem dX6_sense_67 : decode cX6_sense 67 = .ok (.iload 4, 2) := by decide +kernel
theorem dX6_sense_69 : decode cX6_sense 69 = .ok (.ishl, 1) := by decide +kernel
theorem dX6_sense_70 : decode cX6_sense 70 = .ok (.iadd, 1) := by decide +kernel
theorem dX6_sense_71 : decode cX6_sense 71 = .ok (.iastore, 1) := by decide +kernel
theorem dX6_sense_72 : decode cX6_sense 72 = .ok (.iload 5, 2) := by decide +kernel
theorem dX6_sense_74 : decode cX6_sense 74 = .ok (.ireturn, 1) := by decide +kernel
theorem dX6_stop_0 : decode cX6_stop 0 = .ok (.aload_n 0, 1) := by decide +kernel
theorem dX6_stop_1 : decode cX6_stop 1 = .ok (.getfield 7, 3) := by decide +kernel
theorem dX6_stop_4 : decode cX6_stop 4 = .ok (.bipush 9, 2) := by decide +kernel
theorem dX6_stop_6 : decode cX6_stop 6 = .ok (.iaload, 1) := by decide +kernel
theorem dX6_stop_7 : decode cX6_stop 7 = .ok (.ifCond .eq 6, 3) := by decide +kernel
theorem dX6_stop_10 : decode cX6_stop 10 = .ok (.bipush (-5), 2) := by decide +kernel
theorem dX6_stop_12 : decode cX6_stop 12 = .ok (.ireturn, 1) := by decide +kernel
theorem dX6_stop_13 : decode cX6_stop 13 = .ok (.aload_n 0, 1) := by decide +kernel
theorem dX6_stop_14 : decode cX6_stop 14 = .ok (.invokevirtual 50, 3) := by decide +kernel
theorem dX6_stop_17 : decode cX6_stop 17 = .ok (.aload_n 0, 1) := by decide +kernel
theorem dX6_stop_18 : decode cX6_stop 18 = .ok (.iconst 1, 1) := by decide +kernel
theorem dX6_stop_19 : decode cX6_stop 19 = .ok (.invokevirtual 110, 3) := by decide +kernel
theorem dX6_stop_22 : decode cX6_stop 22 = .ok (.aload_n 0, 1) := by decide +kernel
theorem dX6_stop_23 : decode cX6_stop 23 = .ok (.getfield 7, 3) := by decide +kernel
theorem dX6_stop_26 : decode cX6_stop 26 = .ok (.bipush 8, 2) := by decide +kernel
theorem dX6_stop_28 : decode cX6_stop 28 = .ok (.iaload, 1) := by decide +kernel
theorem dX6_stop_29 : decode cX6_stop 29 = .ok (.ireturn, 1) := by decide +kernel
theorem dX6_restart_0 : decode cX6_restart 0 = .ok (.aload_n 0, 1) := by decide +kernel
theorem dX6_restart_1 : decode cX6_restart 1 = .ok (.getfield 7, 3) := by decide +kernel
theorem dX6_restart_4 : decode cX6_restart 4 = .ok (.bipush 9, 2) := by decide +kernel
theorem dX6_restart_6 : decode cX6_restart 6 = .ok (.iaload, 1) := by decide +kernel
theorem dX6_restart_7 : decode cX6_restart 7 = .ok (.iconst 2, 1) := by decide +kernel
theorem dX6_restart_8 : decode cX6_restart 8 = .ok (.if_icmp .ne 10, 3) := by decide +kernel
theorem dX6_restart_11 : decode cX6_restart 11 = .ok (.aload_n 0, 1) := by decide +kernel
theorem dX6_restart_12 : decode cX6_restart 12 = .ok (.invokevirtual 107, 3) := by decide +kernel
theorem dX6_restart_15 : decode cX6_restart 15 = .ok (.ifCond .eq 6, 3) := by decide +kernel
theorem dX6_restart_18 : decode cX6_restart 18 = .ok (.bipush (-5), 2) := by decide +kernel
theorem dX6_restart_20 : decode cX6_restart 20 = .ok (.ireturn, 1) := by decide +kernel
theorem dX6_restart_21 : decode cX6_restart 21 = .ok (.aload_n 0, 1) := by decide +kernel
theorem dX6_restart_22 : decode cX6_restart 22 = .ok (.invokevirtual 50, 3) := by decide +kernel
theorem dX6_restart_25 : decode cX6_restart 25 = .ok (.aload_n 0, 1) := by decide +kernel
theorem dX6_restart_26 : decode cX6_restart 26 = .ok (.getfield 7, 3) := by decide +kernel
theorem dX6_restart_29 : decode cX6_restart 29 = .ok (.bipush 9, 2) := by decide +kernel
theorem dX6_restart_31 : decode cX6_restart 31 = .ok (.iconst 0, 1) := by decide +kernel
theorem dX6_restart_32 : decode cX6_restart 32 = .ok (.iastore, 1) := by decide +kernel
theorem dX6_restart_33 : decode cX6_restart 33 = .ok (.aload_n 0, 1) := by decide +kernel
theorem dX6_restart_34 : decode cX6_restart 34 = .ok (.getfield 7, 3) := by decide +kernel
theorem dX6_restart_37 : decode cX6_restart 37 = .ok (.bipush 10, 2) := by decide +kernel
theorem dX6_restart_39 : decode cX6_restart 39 = .ok (.iaload, 1) := by decide +kernel
theorem dX6_restart_40 : decode cX6_restart 40 = .ok (.ireturn, 1) := by decide +kernel
theorem dX6_pass_0 : decode cX6_pass 0 = .ok (.iload_n 1, 1) := by decide +kernel
theorem dX6_pass_1 : decode cX6_pass 1 = .ok (.iconst 1, 1) := by decide +kernel
theorem dX6_pass_2 : decode cX6_pass 2 = .ok (.sipush 999, 3) := by decide +kernel
theorem dX6_pass_5 : decode cX6_pass 5 = .ok (.invokestatic 46, 3) := by decide +kernel
theorem dX6_pass_8 : decode cX6_pass 8 = .ok (.ifCond .ne 6, 3) := by decide +kernel
theorem dX6_pass_11 : decode cX6_pass 11 = .ok (.bipush (-2), 2) := by decide +kernel
theorem dX6_pass_13 : decode cX6_pass 13 = .ok (.ireturn, 1) := by decide +kernel
theorem dX6_pass_14 : decode cX6_pass 14 = .ok (.aload_n 0, 1) := by decide +kernel
theorem dX6_pass_15 : decode cX6_pass 15 = .ok (.getfield 7, 3) := by decide +kernel
theorem dX6_pass_18 : decode cX6_pass 18 = .ok (.bipush 7, 2) := by decide +kernel
theorem dX6_pass_20 : decode cX6_pass 20 = .ok (.iaload, 1) := by decide +kernel
theorem dX6_pass_21 : decode cX6_pass 21 = .ok (.iload_n 1, 1) := by decide +kernel
theorem dX6_pass_22 : decode cX6_pass 22 = .ok (.iadd, 1) := by decide +kernel
theorem dX6_pass_23 : decode cX6_pass 23 = .ok (.ldc 131, 2) := by decide +kernel
theorem dX6_pass_25 : decode cX6_pass 25 = .ok (.if_icmp .le 6, 3) := by decide +kernel
theorem dX6_pass_28 : decode cX6_pass 28 = .ok (.bipush (-4), 2) := by decide +kernel
theorem dX6_pass_30 : decode cX6_pass 30 = .ok (.ireturn, 1) := by decide +kernel
theorem dX6_pass_31 : decode cX6_pass 31 = .ok (.aload_n 0, 1) := by decide +kernel
theorem dX6_pass_32 : decode cX6_pass 32 = .ok (.invokevirtual 50, 3) := by decide +kernel
theorem dX6_pass_35 : decode cX6_pass 35 = .ok (.iconst 0, 1) := by decide +kernel
theorem dX6_pass_36 : decode cX6_pass 36 = .ok (.istore_n 2, 1) := by decide +kernel
theorem dX6_pass_37 : decode cX6_pass 37 = .ok (.iload_n 2, 1) := by decide +kernel
theorem dX6_pass_38 : decode cX6_pass 38 = .ok (.iload_n 1, 1) := by decide +kernel
theorem dX6_pass_39 : decode cX6_pass 39 = .ok (.if_icmp .ge 13, 3) := by decide +kernel
theorem dX6_pass_42 : decode cX6_pass 42 = .ok (.aload_n 0, 1) := by decide +kernel
theorem dX6_pass_43 : decode cX6_pass 43 = .ok (.invokevirtual 132, 3) := by decide +kernel
theorem dX6_pass_46 : decode cX6_pass 46 = .ok (.iinc 2 1, 3) := by decide +kernel
theorem dX6_pass_49 : decode cX6_pass 49 = .ok (.goto (-12), 3) := by decide +kernel
theorem dX6_pass_52 : decode cX6_pass 52 = .ok (.aload_n 0, 1) := by decide +kernel
theorem dX6_pass_53 : decode cX6_pass 53 = .ok (.getfield 7, 3) := by decide +kernel
theorem dX6_pass_56 : decode cX6_pass 56 = .ok (.bipush 7, 2) := by decide +kernel
theorem dX6_pass_58 : decode cX6_pass 58 = .ok (.iaload, 1) := by decide +kernel
theorem dX6_pass_59 : decode cX6_pass 59 = .ok (.ireturn, 1) := by decide +kernel
theorem dX6_of_0 : decode cX6_of 0 = .ok (.iload_n 1, 1) := by decide +kernel
theorem dX6_of_1 : decode cX6_of 1 = .ok (.ifCond .lt 14, 3) := by decide +kernel
theorem dX6_of_4 : decode cX6_of 4 = .ok (.iload_n 1, 1) := by decide +kernel
theorem dX6_of_5 : decode cX6_of 5 = .ok (.aload_n 0, 1) := by decide +kernel
theorem dX6_of_6 : decode cX6_of 6 = .ok (.getfield 7, 3) := by decide +kernel
theorem dX6_of_9 : decode cX6_of 9 = .ok (.bipush 10, 2) := by decide +kernel
theorem dX6_of_11 : decode cX6_of 11 = .ok (.iaload, 1) := by decide +kernel
theorem dX6_of_12 : decode cX6_of 12 = .ok (.if_icmp .lt 5, 3) := by decide +kernel
theorem dX6_of_15 : decode cX6_of 15 = .ok (.iconst (-1), 1) := by decide +kernel
theorem dX6_of_16 : decode cX6_of 16 = .ok (.ireturn, 1) := by decide +kernel
theorem dX6_of_17 : decode cX6_of 17 = .ok (.iload_n 2, 1) := by decide +kernel
theorem dX6_of_18 : decode cX6_of 18 = .ok (.tableswitch 60 0 2 #[26, 32, 38], 26) := by decide +kernel
theorem dX6_of_44 : decode cX6_of 44 = .ok (.aload_n 0, 1) := by decide +kernel
theorem dX6_of_45 : decode cX6_of 45 = .ok (.iload_n 1, 1) := by decide +kernel
theorem dX6_of_46 : decode cX6_of 46 = .ok (.invokevirtual 97, 3) := by decide +kernel
theorem dX6_of_49 : decode cX6_of 49 = .ok (.ireturn, 1) := by decide +kernel
theorem dX6_of_50 : decode cX6_of 50 = .ok (.aload_n 0, 1) := by decide +kernel
theorem dX6_of_51 : decode cX6_of 51 = .ok (.iload_n 1, 1) := by decide +kernel
theorem dX6_of_52 : decode cX6_of 52 = .ok (.invokevirtual 94, 3) := by decide +kernel
theorem dX6_of_55 : decode cX6_of 55 = .ok (.ireturn, 1) := by decide +kernel
theorem dX6_of_56 : decode cX6_of 56 = .ok (.aload_n 0, 1) := by decide +kernel
theorem dX6_of_57 : decode cX6_of 57 = .ok (.getfield 7, 3) := by decide +kernel
theorem dX6_of_60 : decode cX6_of 60 = .ok (.bipush 7, 2) := by decide +kernel
theorem dX6_of_62 : decode cX6_of 62 = .ok (.iaload, 1) := by decide +kernel
theorem dX6_of_63 : decode cX6_of 63 = .ok (.aload_n 0, 1) := by decide +kernel
theorem dX6_of_64 : decode cX6_of 64 = .ok (.getfield 7, 3) := by decide +kernel
theorem dX6_of_67 : decode cX6_of 67 = .ok (.bipush 83, 2) := by decide +kernel
theorem dX6_of_69 : decode cX6_of 69 = .ok (.iconst 3, 1) := by decide +kernel
theorem dX6_of_70 : decode cX6_of 70 = .ok (.iload_n 1, 1) := by decide +kernel
theorem dX6_of_71 : decode cX6_of 71 = .ok (.imul, 1) := by decide +kernel
theorem dX6_of_72 : decode cX6_of 72 = .ok (.iadd, 1) := by decide +kernel
theorem dX6_of_73 : decode cX6_of 73 = .ok (.iconst 2, 1) := by decide +kernel
theorem dX6_of_74 : decode cX6_of 74 = .ok (.iadd, 1) := by decide +kernel
theorem dX6_of_75 : decode cX6_of 75 = .ok (.iaload, 1) := by decide +kernel
theorem dX6_of_76 : decode cX6_of 76 = .ok (.isub, 1) := by decide +kernel
theorem dX6_of_77 : decode cX6_of 77 = .ok (.ireturn, 1) := by decide +kernel
theorem dX6_of_78 : decode cX6_of 78 = .ok (.bipush (-2), 2) := by decide +kernel
theorem dX6_of_80 : decode cX6_of 80 = .ok (.ireturn, 1) := by decide +kernel
theorem dX6_ofSpot_0 : decode cX6_ofSpot 0 = .ok (.iload_n 1, 1) := by decide +kernel
theorem dX6_ofSpot_1 : decode cX6_ofSpot 1 = .ok (.invokestatic 128, 3) := by decide +kernel
theorem dX6_ofSpot_4 : decode cX6_ofSpot 4 = .ok (.ifCond .ne 5, 3) := by decide +kernel
theorem dX6_ofSpot_7 : decode cX6_ofSpot 7 = .ok (.iconst (-1), 1) := by decide +kernel
theorem dX6_ofSpot_8 : decode cX6_ofSpot 8 = .ok (.ireturn, 1) := by decide +kernel
theorem dX6_ofSpot_9 : decode cX6_ofSpot 9 = .ok (.iload_n 2, 1) := by decide +kernel
theorem dX6_ofSpot_10 : decode cX6_ofSpot 10 = .ok (.iconst 0, 1) := by decide +kernel
theorem dX6_ofSpot_11 : decode cX6_ofSpot 11 = .ok (.iconst 2, 1) := by decide +kernel
theorem dX6_ofSpot_12 : decode cX6_ofSpot 12 = .ok (.invokestatic 46, 3) := by decide +kernel
theorem dX6_ofSpot_15 : decode cX6_ofSpot 15 = .ok (.ifCond .ne 6, 3) := by decide +kernel
theorem dX6_ofSpot_18 : decode cX6_ofSpot 18 = .ok (.bipush (-2), 2) := by decide +kernel
theorem dX6_ofSpot_20 : decode cX6_ofSpot 20 = .ok (.ireturn, 1) := by decide +kernel
theorem dX6_ofSpot_21 : decode cX6_ofSpot 21 = .ok (.iload_n 2, 1) := by decide +kernel
theorem dX6_ofSpot_22 : decode cX6_ofSpot 22 = .ok (.iconst 2, 1) := by decide +kernel
theorem dX6_ofSpot_23 : decode cX6_ofSpot 23 = .ok (.if_icmp .ne 15, 3) := by decide +kernel
theorem dX6_ofSpot_26 : decode cX6_ofSpot 26 = .ok (.aload_n 0, 1) := by decide +kernel
theorem dX6_ofSpot_27 : decode cX6_ofSpot 27 = .ok (.getfield 7, 3) := by decide +kernel
theorem dX6_ofSpot_30 : decode cX6_ofSpot 30 = .ok (.bipush 12, 2) := by decide +kernel
theorem dX6_ofSpot_32 : decode cX6_ofSpot 32 = .ok (.iload_n 1, 1) := by decide +kernel
theorem dX6_ofSpot_33 : decode cX6_ofSpot 33 = .ok (.iadd, 1) := by decide +kernel
theorem dX6_ofSpot_34 : decode cX6_ofSpot 34 = .ok (.iaload, 1) := by decide +kernel
theorem dX6_ofSpot_35 : decode cX6_ofSpot 35 = .ok (.goto 18, 3) := by decide +kernel
theorem dX6_ofSpot_38 : decode cX6_ofSpot 38 = .ok (.aload_n 0, 1) := by decide +kernel
theorem dX6_ofSpot_39 : decode cX6_ofSpot 39 = .ok (.getfield 7, 3) := by decide +kernel
theorem dX6_ofSpot_42 : decode cX6_ofSpot 42 = .ok (.bipush 11, 2) := by decide +kernel
theorem dX6_ofSpot_44 : decode cX6_ofSpot 44 = .ok (.iaload, 1) := by decide +kernel
theorem dX6_ofSpot_45 : decode cX6_ofSpot 45 = .ok (.iconst 2, 1) := by decide +kernel
theorem dX6_ofSpot_46 : decode cX6_ofSpot 46 = .ok (.iload_n 1, 1) := by decide +kernel
theorem dX6_ofSpot_47 : decode cX6_ofSpot 47 = .ok (.imul, 1) := by decide +kernel
theorem dX6_ofSpot_48 : decode cX6_ofSpot 48 = .ok (.iload_n 2, 1) := by decide +kernel
theorem dX6_ofSpot_49 : decode cX6_ofSpot 49 = .ok (.iadd, 1) := by decide +kernel
theorem dX6_ofSpot_50 : decode cX6_ofSpot 50 = .ok (.ishr, 1) := by decide +kernel
theorem dX6_ofSpot_51 : decode cX6_ofSpot 51 = .ok (.iconst 1, 1) := by decide +kernel
theorem dX6_ofSpot_52 : decode cX6_ofSpot 52 = .ok (.iand, 1) := by decide +kernel
theorem dX6_ofSpot_53 : decode cX6_ofSpot 53 = .ok (.ireturn, 1) := by decide +kernel
theorem dX6_ofStop_0 : decode cX6_ofStop 0 = .ok (.aload_n 0, 1) := by decide +kernel
theorem dX6_ofStop_1 : decode cX6_ofStop 1 = .ok (.getfield 7, 3) := by decide +kernel
theorem dX6_ofStop_4 : decode cX6_ofStop 4 = .ok (.bipush 19, 2) := by decide +kernel
theorem dX6_ofStop_6 : decode cX6_ofStop 6 = .ok (.iaload, 1) := by decide +kernel
theorem dX6_ofStop_7 : decode cX6_ofStop 7 = .ok (.bipush 6, 2) := by decide +kernel
theorem dX6_ofStop_9 : decode cX6_ofStop 9 = .ok (.if_icmp .ge 13, 3) := by decide +kernel
theorem dX6_ofStop_12 : decode cX6_ofStop 12 = .ok (.aload_n 0, 1) := by decide +kernel
theorem dX6_ofStop_13 : decode cX6_ofStop 13 = .ok (.getfield 7, 3) := by decide +kernel
theorem dX6_ofStop_16 : decode cX6_ofStop 16 = .ok (.bipush 19, 2) := by decide +kernel
theorem dX6_ofStop_18 : decode cX6_ofStop 18 = .ok (.iaload, 1) := by decide +kernel
theorem dX6_ofStop_19 : decode cX6_ofStop 19 = .ok (.goto 5, 3) := by decide +kernel
theorem dX6_ofStop_22 : decode cX6_ofStop 22 = .ok (.bipush 6, 2) := by decide +kernel
theorem dX6_ofStop_24 : decode cX6_ofStop 24 = .ok (.istore_n 3, 1) := by decide +kernel
theorem dX6_ofStop_25 : decode cX6_ofStop 25 = .ok (.iload_n 1, 1) := by decide +kernel
theorem dX6_ofStop_26 : decode cX6_ofStop 26 = .ok (.ifCond .lt 8, 3) := by decide +kernel
theorem dX6_ofStop_29 : decode cX6_ofStop 29 = .ok (.iload_n 1, 1) := by decide +kernel
theorem dX6_ofStop_30 : decode cX6_ofStop 30 = .ok (.iload_n 3, 1) := by decide +kernel
theorem dX6_ofStop_31 : decode cX6_ofStop 31 = .ok (.if_icmp .lt 5, 3) := by decide +kernel
theorem dX6_ofStop_34 : decode cX6_ofStop 34 = .ok (.iconst (-1), 1) := by decide +kernel
theorem dX6_ofStop_35 : decode cX6_ofStop 35 = .ok (.ireturn, 1) := by decide +kernel
theorem dX6_ofStop_36 : decode cX6_ofStop 36 = .ok (.iload_n 2, 1) := by decide +kernel
theorem dX6_ofStop_37 : decode cX6_ofStop 37 = .ok (.iconst 0, 1) := by decide +kernel
theorem dX6_ofStop_38 : decode cX6_ofStop 38 = .ok (.iconst 4, 1) := by decide +kernel
theorem dX6_ofStop_39 : decode cX6_ofStop 39 = .ok (.invokestatic 46, 3) := by decide +kernel
theorem dX6_ofStop_42 : decode cX6_ofStop 42 = .ok (.ifCond .eq 20, 3) := by decide +kernel
theorem dX6_ofStop_45 : decode cX6_ofStop 45 = .ok (.aload_n 0, 1) := by decide +kernel
theorem dX6_ofStop_46 : decode cX6_ofStop 46 = .ok (.getfield 7, 3) := by decide +kernel
theorem dX6_ofStop_49 : decode cX6_ofStop 49 = .ok (.sipush 143, 3) := by decide +kernel
theorem dX6_ofStop_52 : decode cX6_ofStop 52 = .ok (.iconst 5, 1) := by decide +kernel
theorem dX6_ofStop_53 : decode cX6_ofStop 53 = .ok (.iload_n 1, 1) := by decide +kernel
theorem dX6_ofStop_54 : decode cX6_ofStop 54 = .ok (.imul, 1) := by decide +kernel
theorem dX6_ofStop_55 : decode cX6_ofStop 55 = .ok (.iadd, 1) := by decide +kernel
theorem dX6_ofStop_56 : decode cX6_ofStop 56 = .ok (.iload_n 2, 1) := by decide +kernel
theorem dX6_ofStop_57 : decode cX6_ofStop 57 = .ok (.iadd, 1) := by decide +kernel
theorem dX6_ofStop_58 : decode cX6_ofStop 58 = .ok (.iaload, 1) := by decide +kernel
theorem dX6_ofStop_59 : decode cX6_ofStop 59 = .ok (.goto 5, 3) := by decide +kernel
theorem dX6_ofStop_62 : decode cX6_ofStop 62 = .ok (.bipush (-2), 2) := by decide +kernel
theorem dX6_ofStop_64 : decode cX6_ofStop 64 = .ok (.ireturn, 1) := by decide +kernel
theorem dX6_count_0 : decode cX6_count 0 = .ok (.iload_n 1, 1) := by decide +kernel
theorem dX6_count_1 : decode cX6_count 1 = .ok (.bipush 11, 2) := by decide +kernel
theorem dX6_count_3 : decode cX6_count 3 = .ok (.bipush 17, 2) := by decide +kernel
theorem dX6_count_5 : decode cX6_count 5 = .ok (.invokestatic 46, 3) := by decide +kernel
theorem dX6_count_8 : decode cX6_count 8 = .ok (.ifCond .eq 13, 3) := by decide +kernel
theorem dX6_count_11 : decode cX6_count 11 = .ok (.aload_n 0, 1) := by decide +kernel
theorem dX6_count_12 : decode cX6_count 12 = .ok (.getfield 7, 3) := by decide +kernel
theorem dX6_count_15 : decode cX6_count 15 = .ok (.iload_n 1, 1) := by decide +kernel
theorem dX6_count_16 : decode cX6_count 16 = .ok (.bipush 11, 2) := by decide +kernel
theorem dX6_count_18 : decode cX6_count 18 = .ok (.isub, 1) := by decide +kernel
theorem dX6_count_19 : decode cX6_count 19 = .ok (.iaload, 1) := by decide +kernel
theorem dX6_count_20 : decode cX6_count 20 = .ok (.ireturn, 1) := by decide +kernel
theorem dX6_count_21 : decode cX6_count 21 = .ok (.iload_n 1, 1) := by decide +kernel
theorem dX6_count_22 : decode cX6_count 22 = .ok (.tableswitch 189 0 19 #[94, 102, 110, 115, 123, 131, 139, 147, 155, 163, 171, 189, 189, 189, 189, 189, 189, 189, 179, 184], 94) := by decide +kernel
theorem dX6_count_116 : decode cX6_count 116 = .ok (.aload_n 0, 1) := by decide +kernel
theorem dX6_count_117 : decode cX6_count 117 = .ok (.getfield 7, 3) := by decide +kernel
theorem dX6_count_120 : decode cX6_count 120 = .ok (.bipush 7, 2) := by decide +kernel
theorem dX6_count_122 : decode cX6_count 122 = .ok (.iaload, 1) := by decide +kernel
theorem dX6_count_123 : decode cX6_count 123 = .ok (.ireturn, 1) := by decide +kernel
theorem dX6_count_124 : decode cX6_count 124 = .ok (.aload_n 0, 1) := by decide +kernel
theorem dX6_count_125 : decode cX6_count 125 = .ok (.getfield 7, 3) := by decide +kernel
theorem dX6_count_128 : decode cX6_count 128 = .ok (.bipush 10, 2) := by decide +kernel
theorem dX6_count_130 : decode cX6_count 130 = .ok (.iaload, 1) := by decide +kernel
theorem dX6_count_131 : decode cX6_count 131 = .ok (.ireturn, 1) := by decide +kernel
theorem dX6_count_132 : decode cX6_count 132 = .ok (.aload_n 0, 1) := by decide +kernel
theorem dX6_count_133 : decode cX6_count 133 = .ok (.invokevirtual 100, 3) := by decide +kernel
theorem dX6_count_136 : decode cX6_count 136 = .ok (.ireturn, 1) := by decide +kernel
theorem dX6_count_137 : decode cX6_count 137 = .ok (.aload_n 0, 1) := by decide +kernel
theorem dX6_count_138 : decode cX6_count 138 = .ok (.getfield 7, 3) := by decide +kernel
theorem dX6_count_141 : decode cX6_count 141 = .ok (.bipush 8, 2) := by decide +kernel
theorem dX6_count_143 : decode cX6_count 143 = .ok (.iaload, 1) := by decide +kernel
theorem dX6_count_144 : decode cX6_count 144 = .ok (.ireturn, 1) := by decide +kernel
theorem dX6_count_145 : decode cX6_count 145 = .ok (.aload_n 0, 1) := by decide +kernel
theorem dX6_count_146 : decode cX6_count 146 = .ok (.getfield 7, 3) := by decide +kernel
theorem dX6_count_149 : decode cX6_count 149 = .ok (.bipush 9, 2) := by decide +kernel
theorem dX6_count_151 : decode cX6_count 151 = .ok (.iaload, 1) := by decide +kernel
theorem dX6_count_152 : decode cX6_count 152 = .ok (.ireturn, 1) := by decide +kernel
theorem dX6_count_153 : decode cX6_count 153 = .ok (.aload_n 0, 1) := by decide +kernel
theorem dX6_count_154 : decode cX6_count 154 = .ok (.getfield 7, 3) := by decide +kernel
theorem dX6_count_157 : decode cX6_count 157 = .ok (.bipush 17, 2) := by decide +kernel
theorem dX6_count_159 : decode cX6_count 159 = .ok (.iaload, 1) := by decide +kernel
theorem dX6_count_160 : decode cX6_count 160 = .ok (.ireturn, 1) := by decide +kernel
theorem dX6_count_161 : decode cX6_count 161 = .ok (.aload_n 0, 1) := by decide +kernel
theorem dX6_count_162 : decode cX6_count 162 = .ok (.getfield 7, 3) := by decide +kernel
theorem dX6_count_165 : decode cX6_count 165 = .ok (.bipush 18, 2) := by decide +kernel
theorem dX6_count_167 : decode cX6_count 167 = .ok (.iaload, 1) := by decide +kernel
theorem dX6_count_168 : decode cX6_count 168 = .ok (.ireturn, 1) := by decide +kernel
theorem dX6_count_169 : decode cX6_count 169 = .ok (.aload_n 0, 1) := by decide +kernel
theorem dX6_count_170 : decode cX6_count 170 = .ok (.getfield 7, 3) := by decide +kernel
theorem dX6_count_173 : decode cX6_count 173 = .ok (.bipush 19, 2) := by decide +kernel
theorem dX6_count_175 : decode cX6_count 175 = .ok (.iaload, 1) := by decide +kernel
theorem dX6_count_176 : decode cX6_count 176 = .ok (.ireturn, 1) := by decide +kernel
theorem dX6_count_177 : decode cX6_count 177 = .ok (.aload_n 0, 1) := by decide +kernel
theorem dX6_count_178 : decode cX6_count 178 = .ok (.getfield 7, 3) := by decide +kernel
theorem dX6_count_181 : decode cX6_count 181 = .ok (.bipush 16, 2) := by decide +kernel
theorem dX6_count_183 : decode cX6_count 183 = .ok (.iaload, 1) := by decide +kernel
theorem dX6_count_184 : decode cX6_count 184 = .ok (.ireturn, 1) := by decide +kernel
theorem dX6_count_185 : decode cX6_count 185 = .ok (.aload_n 0, 1) := by decide +kernel
theorem dX6_count_186 : decode cX6_count 186 = .ok (.getfield 7, 3) := by decide +kernel
theorem dX6_count_189 : decode cX6_count 189 = .ok (.bipush 20, 2) := by decide +kernel
theorem dX6_count_191 : decode cX6_count 191 = .ok (.iaload, 1) := by decide +kernel
theorem dX6_count_192 : decode cX6_count 192 = .ok (.ireturn, 1) := by decide +kernel
theorem dX6_count_193 : decode cX6_count 193 = .ok (.aload_n 0, 1) := by decide +kernel
theorem dX6_count_194 : decode cX6_count 194 = .ok (.getfield 7, 3) := by decide +kernel
theorem dX6_count_197 : decode cX6_count 197 = .ok (.bipush 21, 2) := by decide +kernel
theorem dX6_count_199 : decode cX6_count 199 = .ok (.iaload, 1) := by decide +kernel
theorem dX6_count_200 : decode cX6_count 200 = .ok (.ireturn, 1) := by decide +kernel
theorem dX6_count_201 : decode cX6_count 201 = .ok (.aload_n 0, 1) := by decide +kernel
theorem dX6_count_202 : decode cX6_count 202 = .ok (.getfield 135, 3) := by decide +kernel
theorem dX6_count_205 : decode cX6_count 205 = .ok (.ireturn, 1) := by decide +kernel
theorem dX6_count_206 : decode cX6_count 206 = .ok (.aload_n 0, 1) := by decide +kernel
theorem dX6_count_207 : decode cX6_count 207 = .ok (.getfield 42, 3) := by decide +kernel
theorem dX6_count_210 : decode cX6_count 210 = .ok (.ireturn, 1) := by decide +kernel
theorem dX6_count_211 : decode cX6_count 211 = .ok (.bipush (-2), 2) := by decide +kernel
theorem dX6_count_213 : decode cX6_count 213 = .ok (.ireturn, 1) := by decide +kernel
theorem dX6_wayWith_0 : decode cX6_wayWith 0 = .ok (.aload_n 0, 1) := by decide +kernel
theorem dX6_wayWith_1 : decode cX6_wayWith 1 = .ok (.invokevirtual 138, 3) := by decide +kernel
theorem dX6_wayWith_4 : decode cX6_wayWith 4 = .ok (.aload_n 0, 1) := by decide +kernel
theorem dX6_wayWith_5 : decode cX6_wayWith 5 = .ok (.getfield 7, 3) := by decide +kernel
theorem dX6_wayWith_8 : decode cX6_wayWith 8 = .ok (.iconst 2, 1) := by decide +kernel
theorem dX6_wayWith_9 : decode cX6_wayWith 9 = .ok (.iload_n 1, 1) := by decide +kernel
theorem dX6_wayWith_10 : decode cX6_wayWith 10 = .ok (.iastore, 1) := by decide +kernel
theorem dX6_wayWith_11 : decode cX6_wayWith 11 = .ok (.aload_n 0, 1) := by decide +kernel
theorem dX6_wayWith_12 : decode cX6_wayWith 12 = .ok (.getfield 7, 3) := by decide +kernel
theorem dX6_wayWith_15 : decode cX6_wayWith 15 = .ok (.bipush 9, 2) := by decide +kernel
theorem dX6_wayWith_17 : decode cX6_wayWith 17 = .ok (.aload_n 0, 1) := by decide +kernel
theorem dX6_wayWith_18 : decode cX6_wayWith 18 = .ok (.getfield 7, 3) := by decide +kernel
theorem dX6_wayWith_21 : decode cX6_wayWith 21 = .ok (.bipush 9, 2) := by decide +kernel
theorem dX6_wayWith_23 : decode cX6_wayWith 23 = .ok (.iaload, 1) := by decide +kernel
theorem dX6_wayWith_24 : decode cX6_wayWith 24 = .ok (.ifCond .ne 7, 3) := by decide +kernel
theorem dX6_wayWith_27 : decode cX6_wayWith 27 = .ok (.iconst 1, 1) := by decide +kernel
theorem dX6_wayWith_28 : decode cX6_wayWith 28 = .ok (.goto 10, 3) := by decide +kernel
theorem dX6_wayWith_31 : decode cX6_wayWith 31 = .ok (.aload_n 0, 1) := by decide +kernel
theorem dX6_wayWith_32 : decode cX6_wayWith 32 = .ok (.getfield 7, 3) := by decide +kernel
theorem dX6_wayWith_35 : decode cX6_wayWith 35 = .ok (.bipush 9, 2) := by decide +kernel
theorem dX6_wayWith_37 : decode cX6_wayWith 37 = .ok (.iaload, 1) := by decide +kernel
theorem dX6_wayWith_38 : decode cX6_wayWith 38 = .ok (.iastore, 1) := by decide +kernel
theorem dX6_wayWith_39 : decode cX6_wayWith 39 = .ok (.aload_n 0, 1) := by decide +kernel
theorem dX6_wayWith_40 : decode cX6_wayWith 40 = .ok (.getfield 7, 3) := by decide +kernel
theorem dX6_wayWith_43 : decode cX6_wayWith 43 = .ok (.bipush 20, 2) := by decide +kernel
theorem dX6_wayWith_45 : decode cX6_wayWith 45 = .ok (.iaload, 1) := by decide +kernel
theorem dX6_wayWith_46 : decode cX6_wayWith 46 = .ok (.istore_n 2, 1) := by decide +kernel
theorem dX6_wayWith_47 : decode cX6_wayWith 47 = .ok (.aload_n 0, 1) := by decide +kernel
theorem dX6_wayWith_48 : decode cX6_wayWith 48 = .ok (.getfield 7, 3) := by decide +kernel
theorem dX6_wayWith_51 : decode cX6_wayWith 51 = .ok (.bipush 9, 2) := by decide +kernel
theorem dX6_wayWith_53 : decode cX6_wayWith 53 = .ok (.iaload, 1) := by decide +kernel
theorem dX6_wayWith_54 : decode cX6_wayWith 54 = .ok (.iconst 1, 1) := by decide +kernel
theorem dX6_wayWith_55 : decode cX6_wayWith 55 = .ok (.if_icmp .ne 10, 3) := by decide +kernel
theorem dX6_wayWith_58 : decode cX6_wayWith 58 = .ok (.aload_n 0, 1) := by decide +kernel
theorem dX6_wayWith_59 : decode cX6_wayWith 59 = .ok (.invokevirtual 132, 3) := by decide +kernel
theorem dX6_wayWith_62 : decode cX6_wayWith 62 = .ok (.goto (-15), 3) := by decide +kernel
theorem dX6_wayWith_65 : decode cX6_wayWith 65 = .ok (.aload_n 0, 1) := by decide +kernel
theorem dX6_wayWith_66 : decode cX6_wayWith 66 = .ok (.getfield 7, 3) := by decide +kernel
theorem dX6_wayWith_69 : decode cX6_wayWith 69 = .ok (.bipush 20, 2) := by decide +kernel
theorem dX6_wayWith_71 : decode cX6_wayWith 71 = .ok (.iaload, 1) := by decide +kernel
theorem dX6_wayWith_72 : decode cX6_wayWith 72 = .ok (.iload_n 2, 1) := by decide +kernel
theorem dX6_wayWith_73 : decode cX6_wayWith 73 = .ok (.isub, 1) := by decide +kernel
theorem dX6_wayWith_74 : decode cX6_wayWith 74 = .ok (.istore_n 3, 1) := by decide +kernel
theorem dX6_wayWith_75 : decode cX6_wayWith 75 = .ok (.aload_n 0, 1) := by decide +kernel
theorem dX6_wayWith_76 : decode cX6_wayWith 76 = .ok (.invokevirtual 141, 3) := by decide +kernel
theorem dX6_wayWith_79 : decode cX6_wayWith 79 = .ok (.iload_n 3, 1) := by decide +kernel
theorem dX6_wayWith_80 : decode cX6_wayWith 80 = .ok (.ireturn, 1) := by decide +kernel
theorem dX6_way_0 : decode cX6_way 0 = .ok (.aload_n 0, 1) := by decide +kernel
theorem dX6_way_1 : decode cX6_way 1 = .ok (.aload_n 0, 1) := by decide +kernel
theorem dX6_way_2 : decode cX6_way 2 = .ok (.getfield 7, 3) := by decide +kernel
theorem dX6_way_5 : decode cX6_way 5 = .ok (.iconst 2, 1) := by decide +kernel
theorem dX6_way_6 : decode cX6_way 6 = .ok (.iaload, 1) := by decide +kernel
theorem dX6_way_7 : decode cX6_way 7 = .ok (.invokevirtual 144, 3) := by decide +kernel
theorem dX6_way_10 : decode cX6_way 10 = .ok (.ireturn, 1) := by decide +kernel
theorem dX6_emptyIn_0 : decode cX6_emptyIn 0 = .ok (.aload_n 0, 1) := by decide +kernel
theorem dX6_emptyIn_1 : decode cX6_emptyIn 1 = .ok (.invokevirtual 138, 3) := by decide +kernel
theorem dX6_emptyIn_4 : decode cX6_emptyIn 4 = .ok (.iconst 0, 1) := by decide +kernel
theorem dX6_emptyIn_5 : decode cX6_emptyIn 5 = .ok (.istore_n 1, 1) := by decide +kernel
theorem dX6_emptyIn_6 : decode cX6_emptyIn 6 = .ok (.aload_n 0, 1) := by decide +kernel
theorem dX6_emptyIn_7 : decode cX6_emptyIn 7 = .ok (.getfield 7, 3) := by decide +kernel
theorem dX6_emptyIn_10 : decode cX6_emptyIn 10 = .ok (.bipush 10, 2) := by decide +kernel
theorem dX6_emptyIn_12 : decode cX6_emptyIn 12 = .ok (.iaload, 1) := by decide +kernel
theorem dX6_emptyIn_13 : decode cX6_emptyIn 13 = .ok (.ifCond .le 20, 3) := by decide +kernel
theorem dX6_emptyIn_16 : decode cX6_emptyIn 16 = .ok (.iload_n 1, 1) := by decide +kernel
theorem dX6_emptyIn_17 : decode cX6_emptyIn 17 = .ok (.sipush 3000, 3) := by decide +kernel
theorem dX6_emptyIn_20 : decode cX6_emptyIn 20 = .ok (.if_icmp .gt 13, 3) := by decide +kernel
theorem dX6_emptyIn_23 : decode cX6_emptyIn 23 = .ok (.aload_n 0, 1) := by decide +kernel
theorem dX6_emptyIn_24 : decode cX6_emptyIn 24 = .ok (.invokevirtual 132, 3) := by decide +kernel
theorem dX6_emptyIn_27 : decode cX6_emptyIn 27 = .ok (.iinc 1 1, 3) := by decide +kernel
theorem dX6_emptyIn_30 : decode cX6_emptyIn 30 = .ok (.goto (-24), 3) := by decide +kernel
theorem dX6_emptyIn_33 : decode cX6_emptyIn 33 = .ok (.aload_n 0, 1) := by decide +kernel
theorem dX6_emptyIn_34 : decode cX6_emptyIn 34 = .ok (.invokevirtual 141, 3) := by decide +kernel
theorem dX6_emptyIn_37 : decode cX6_emptyIn 37 = .ok (.iload_n 1, 1) := by decide +kernel
theorem dX6_emptyIn_38 : decode cX6_emptyIn 38 = .ok (.sipush 3000, 3) := by decide +kernel
theorem dX6_emptyIn_41 : decode cX6_emptyIn 41 = .ok (.if_icmp .le 8, 3) := by decide +kernel
theorem dX6_emptyIn_44 : decode cX6_emptyIn 44 = .ok (.bipush (-6), 2) := by decide +kernel
theorem dX6_emptyIn_46 : decode cX6_emptyIn 46 = .ok (.goto 4, 3) := by decide +kernel
theorem dX6_emptyIn_49 : decode cX6_emptyIn 49 = .ok (.iload_n 1, 1) := by decide +kernel
theorem dX6_emptyIn_50 : decode cX6_emptyIn 50 = .ok (.ireturn, 1) := by decide +kernel
theorem dX6_leastRamp_0 : decode cX6_leastRamp 0 = .ok (.iload_n 1, 1) := by decide +kernel
theorem dX6_leastRamp_1 : decode cX6_leastRamp 1 = .ok (.iconst 0, 1) := by decide +kernel
theorem dX6_leastRamp_2 : decode cX6_leastRamp 2 = .ok (.sipush 9999, 3) := by decide +kernel
theorem dX6_leastRamp_5 : decode cX6_leastRamp 5 = .ok (.invokestatic 46, 3) := by decide +kernel
theorem dX6_leastRamp_8 : decode cX6_leastRamp 8 = .ok (.ifCond .ne 6, 3) := by decide +kernel
theorem dX6_leastRamp_11 : decode cX6_leastRamp 11 = .ok (.bipush (-2), 2) := by decide +kernel
theorem dX6_leastRamp_13 : decode cX6_leastRamp 13 = .ok (.ireturn, 1) := by decide +kernel
theorem dX6_leastRamp_14 : decode cX6_leastRamp 14 = .ok (.bipush (-6), 2) := by decide +kernel
theorem dX6_leastRamp_16 : decode cX6_leastRamp 16 = .ok (.istore_n 2, 1) := by decide +kernel
theorem dX6_leastRamp_17 : decode cX6_leastRamp 17 = .ok (.bipush 30, 2) := by decide +kernel
theorem dX6_leastRamp_19 : decode cX6_leastRamp 19 = .ok (.istore_n 3, 1) := by decide +kernel
theorem dX6_leastRamp_20 : decode cX6_leastRamp 20 = .ok (.iload_n 3, 1) := by decide +kernel
theorem dX6_leastRamp_21 : decode cX6_leastRamp 21 = .ok (.iconst 1, 1) := by decide +kernel
theorem dX6_leastRamp_22 : decode cX6_leastRamp 22 = .ok (.if_icmp .lt 24, 3) := by decide +kernel
theorem dX6_leastRamp_25 : decode cX6_leastRamp 25 = .ok (.aload_n 0, 1) := by decide +kernel
theorem dX6_leastRamp_26 : decode cX6_leastRamp 26 = .ok (.iload_n 3, 1) := by decide +kernel
theorem dX6_leastRamp_27 : decode cX6_leastRamp 27 = .ok (.invokevirtual 144, 3) := by decide +kernel
theorem dX6_leastRamp_30 : decode cX6_leastRamp 30 = .ok (.iload_n 1, 1) := by decide +kernel
theorem dX6_leastRamp_31 : decode cX6_leastRamp 31 = .ok (.if_icmp .gt 7, 3) := by decide +kernel
theorem dX6_leastRamp_34 : decode cX6_leastRamp 34 = .ok (.iload_n 3, 1) := by decide +kernel
theorem dX6_leastRamp_35 : decode cX6_leastRamp 35 = .ok (.goto 4, 3) := by decide +kernel
theorem dX6_leastRamp_38 : decode cX6_leastRamp 38 = .ok (.iload_n 2, 1) := by decide +kernel
theorem dX6_leastRamp_39 : decode cX6_leastRamp 39 = .ok (.istore_n 2, 1) := by decide +kernel
theorem dX6_leastRamp_40 : decode cX6_leastRamp 40 = .ok (.iinc 3 (-1), 3) := by decide +kernel
theorem dX6_leastRamp_43 : decode cX6_leastRamp 43 = .ok (.goto (-23), 3) := by decide +kernel
theorem dX6_leastRamp_46 : decode cX6_leastRamp 46 = .ok (.iload_n 2, 1) := by decide +kernel
theorem dX6_leastRamp_47 : decode cX6_leastRamp 47 = .ok (.ireturn, 1) := by decide +kernel
theorem dX6_wouldHold_0 : decode cX6_wouldHold 0 = .ok (.iload_n 1, 1) := by decide +kernel
theorem dX6_wouldHold_1 : decode cX6_wouldHold 1 = .ok (.iconst 0, 1) := by decide +kernel
theorem dX6_wouldHold_2 : decode cX6_wouldHold 2 = .ok (.sipush 255, 3) := by decide +kernel
theorem dX6_wouldHold_5 : decode cX6_wouldHold 5 = .ok (.invokestatic 46, 3) := by decide +kernel
theorem dX6_wouldHold_8 : decode cX6_wouldHold 8 = .ok (.ifCond .ne 6, 3) := by decide +kernel
theorem dX6_wouldHold_11 : decode cX6_wouldHold 11 = .ok (.bipush (-2), 2) := by decide +kernel
theorem dX6_wouldHold_13 : decode cX6_wouldHold 13 = .ok (.ireturn, 1) := by decide +kernel
theorem dX6_wouldHold_14 : decode cX6_wouldHold 14 = .ok (.aload_n 0, 1) := by decide +kernel
theorem dX6_wouldHold_15 : decode cX6_wouldHold 15 = .ok (.iload_n 1, 1) := by decide +kernel
theorem dX6_wouldHold_16 : decode cX6_wouldHold 16 = .ok (.invokevirtual 80, 3) := by decide +kernel
theorem dX6_wouldHold_19 : decode cX6_wouldHold 19 = .ok (.ifCond .eq 7, 3) := by decide +kernel
theorem dX6_wouldHold_22 : decode cX6_wouldHold 22 = .ok (.iconst 1, 1) := by decide +kernel
theorem dX6_wouldHold_23 : decode cX6_wouldHold 23 = .ok (.goto 4, 3) := by decide +kernel
theorem dX6_wouldHold_26 : decode cX6_wouldHold 26 = .ok (.iconst 0, 1) := by decide +kernel
theorem dX6_wouldHold_27 : decode cX6_wouldHold 27 = .ok (.ireturn, 1) := by decide +kernel
theorem dX6_bits_0 : decode cX6_bits 0 = .ok (.iconst 0, 1) := by decide +kernel
theorem dX6_bits_1 : decode cX6_bits 1 = .ok (.istore_n 1, 1) := by decide +kernel
theorem dX6_bits_2 : decode cX6_bits 2 = .ok (.iload_n 0, 1) := by decide +kernel
theorem dX6_bits_3 : decode cX6_bits 3 = .ok (.istore_n 2, 1) := by decide +kernel
theorem dX6_bits_4 : decode cX6_bits 4 = .ok (.iload_n 2, 1) := by decide +kernel
theorem dX6_bits_5 : decode cX6_bits 5 = .ok (.ifCond .eq 15, 3) := by decide +kernel
theorem dX6_bits_8 : decode cX6_bits 8 = .ok (.iinc 1 1, 3) := by decide +kernel
theorem dX6_bits_11 : decode cX6_bits 11 = .ok (.iload_n 2, 1) := by decide +kernel
theorem dX6_bits_12 : decode cX6_bits 12 = .ok (.iload_n 2, 1) := by decide +kernel
theorem dX6_bits_13 : decode cX6_bits 13 = .ok (.iconst 1, 1) := by decide +kernel
theorem dX6_bits_14 : decode cX6_bits 14 = .ok (.isub, 1) := by decide +kernel
theorem dX6_bits_15 : decode cX6_bits 15 = .ok (.iand, 1) := by decide +kernel
theorem dX6_bits_16 : decode cX6_bits 16 = .ok (.istore_n 2, 1) := by decide +kernel
theorem dX6_bits_17 : decode cX6_bits 17 = .ok (.goto (-13), 3) := by decide +kernel
theorem dX6_bits_20 : decode cX6_bits 20 = .ok (.iload_n 1, 1) := by decide +kernel
theorem dX6_bits_21 : decode cX6_bits 21 = .ok (.ireturn, 1) := by decide +kernel
theorem dX6_fewest_0 : decode cX6_fewest 0 = .ok (.bipush (-6), 2) := by decide +kernel
theorem dX6_fewest_2 : decode cX6_fewest 2 = .ok (.istore_n 1, 1) := by decide +kernel
theorem dX6_fewest_3 : decode cX6_fewest 3 = .ok (.iconst 0, 1) := by decide +kernel
theorem dX6_fewest_4 : decode cX6_fewest 4 = .ok (.istore_n 2, 1) := by decide +kernel
theorem dX6_fewest_5 : decode cX6_fewest 5 = .ok (.iload_n 2, 1) := by decide +kernel
theorem dX6_fewest_6 : decode cX6_fewest 6 = .ok (.sipush 256, 3) := by decide +kernel
theorem dX6_fewest_9 : decode cX6_fewest 9 = .ok (.if_icmp .ge 36, 3) := by decide +kernel
theorem dX6_fewest_12 : decode cX6_fewest 12 = .ok (.aload_n 0, 1) := by decide +kernel
theorem dX6_fewest_13 : decode cX6_fewest 13 = .ok (.iload_n 2, 1) := by decide +kernel
theorem dX6_fewest_14 : decode cX6_fewest 14 = .ok (.invokevirtual 80, 3) := by decide +kernel
theorem dX6_fewest_17 : decode cX6_fewest 17 = .ok (.ifCond .eq 22, 3) := by decide +kernel
theorem dX6_fewest_20 : decode cX6_fewest 20 = .ok (.iload_n 1, 1) := by decide +kernel
theorem dX6_fewest_21 : decode cX6_fewest 21 = .ok (.bipush (-6), 2) := by decide +kernel
theorem dX6_fewest_23 : decode cX6_fewest 23 = .ok (.if_icmp .eq 14, 3) := by decide +kernel
theorem dX6_fewest_26 : decode cX6_fewest 26 = .ok (.iload_n 2, 1) := by decide +kernel
theorem dX6_fewest_27 : decode cX6_fewest 27 = .ok (.invokestatic 147, 3) := by decide +kernel
theorem dX6_fewest_30 : decode cX6_fewest 30 = .ok (.iload_n 1, 1) := by decide +kernel
theorem dX6_fewest_31 : decode cX6_fewest 31 = .ok (.invokestatic 147, 3) := by decide +kernel
theorem dX6_fewest_34 : decode cX6_fewest 34 = .ok (.if_icmp .ge 5, 3) := by decide +kernel
theorem dX6_fewest_37 : decode cX6_fewest 37 = .ok (.iload_n 2, 1) := by decide +kernel
theorem dX6_fewest_38 : decode cX6_fewest 38 = .ok (.istore_n 1, 1) := by decide +kernel
theorem dX6_fewest_39 : decode cX6_fewest 39 = .ok (.iinc 2 1, 3) := by decide +kernel
theorem dX6_fewest_42 : decode cX6_fewest 42 = .ok (.goto (-37), 3) := by decide +kernel
theorem dX6_fewest_45 : decode cX6_fewest 45 = .ok (.iload_n 1, 1) := by decide +kernel
theorem dX6_fewest_46 : decode cX6_fewest 46 = .ok (.ireturn, 1) := by decide +kernel
theorem dX6_put_0 : decode cX6_put 0 = .ok (.iconst 0, 1) := by decide +kernel
theorem dX6_put_1 : decode cX6_put 1 = .ok (.istore_n 3, 1) := by decide +kernel
theorem dX6_put_2 : decode cX6_put 2 = .ok (.lload_n 1, 1) := by decide +kernel
theorem dX6_put_3 : decode cX6_put 3 = .ok (.lstore 4, 2) := by decide +kernel
theorem dX6_put_5 : decode cX6_put 5 = .ok (.iconst 1, 1) := by decide +kernel
theorem dX6_put_6 : decode cX6_put 6 = .ok (.istore 6, 2) := by decide +kernel
theorem dX6_put_8 : decode cX6_put 8 = .ok (.lload 4, 2) := by decide +kernel
theorem dX6_put_10 : decode cX6_put 10 = .ok (.lconst 0, 1) := by decide +kernel
theorem dX6_put_11 : decode cX6_put 11 = .ok (.lcmp, 1) := by decide +kernel
theorem dX6_put_12 : decode cX6_put 12 = .ok (.ifCond .eq 37, 3) := by decide +kernel
theorem dX6_put_15 : decode cX6_put 15 = .ok (.iload 6, 2) := by decide +kernel
theorem dX6_put_17 : decode cX6_put 17 = .ok (.ifCond .eq 32, 3) := by decide +kernel
theorem dX6_put_20 : decode cX6_put 20 = .ok (.lload 4, 2) := by decide +kernel
theorem dX6_put_22 : decode cX6_put 22 = .ok (.ldc2_w 150, 3) := by decide +kernel
theorem dX6_put_25 : decode cX6_put 25 = .ok (.land, 1) := by decide +kernel
theorem dX6_put_26 : decode cX6_put 26 = .ok (.l2i, 1) := by decide +kernel
theorem dX6_put_27 : decode cX6_put 27 = .ok (.bipush 33, 2) := by decide +kernel
theorem dX6_put_29 : decode cX6_put 29 = .ok (.bipush 126, 2) := by decide +kernel
theorem dX6_put_31 : decode cX6_put 31 = .ok (.invokestatic 46, 3) := by decide +kernel
theorem dX6_put_34 : decode cX6_put 34 = .ok (.istore 6, 2) := by decide +kernel
theorem dX6_put_36 : decode cX6_put 36 = .ok (.lload 4, 2) := by decide +kernel
theorem dX6_put_38 : decode cX6_put 38 = .ok (.bipush 8, 2) := by decide +kernel
theorem dX6_put_40 : decode cX6_put 40 = .ok (.lushr, 1) := by decide +kernel
theorem dX6_put_41 : decode cX6_put 41 = .ok (.lstore 4, 2) := by decide +kernel
theorem dX6_put_43 : decode cX6_put 43 = .ok (.iinc 3 1, 3) := by decide +kernel
theorem dX6_put_46 : decode cX6_put 46 = .ok (.goto (-38), 3) := by decide +kernel
theorem dX6_put_49 : decode cX6_put 49 = .ok (.iload_n 3, 1) := by decide +kernel
theorem dX6_put_50 : decode cX6_put 50 = .ok (.ifCond .eq 8, 3) := by decide +kernel
theorem dX6_put_53 : decode cX6_put 53 = .ok (.iload 6, 2) := by decide +kernel
theorem dX6_put_55 : decode cX6_put 55 = .ok (.ifCond .ne 6, 3) := by decide +kernel
theorem dX6_put_58 : decode cX6_put 58 = .ok (.bipush (-2), 2) := by decide +kernel
theorem dX6_put_60 : decode cX6_put 60 = .ok (.ireturn, 1) := by decide +kernel
theorem dX6_put_61 : decode cX6_put 61 = .ok (.aload_n 0, 1) := by decide +kernel
theorem dX6_put_62 : decode cX6_put 62 = .ok (.getfield 135, 3) := by decide +kernel
theorem dX6_put_65 : decode cX6_put 65 = .ok (.iload_n 3, 1) := by decide +kernel
theorem dX6_put_66 : decode cX6_put 66 = .ok (.iadd, 1) := by decide +kernel
theorem dX6_put_67 : decode cX6_put 67 = .ok (.bipush 60, 2) := by decide +kernel
theorem dX6_put_69 : decode cX6_put 69 = .ok (.if_icmp .le 6, 3) := by decide +kernel
theorem dX6_put_72 : decode cX6_put 72 = .ok (.bipush (-4), 2) := by decide +kernel
theorem dX6_put_74 : decode cX6_put 74 = .ok (.ireturn, 1) := by decide +kernel
theorem dX6_put_75 : decode cX6_put 75 = .ok (.iload_n 3, 1) := by decide +kernel
theorem dX6_put_76 : decode cX6_put 76 = .ok (.iconst 1, 1) := by decide +kernel
theorem dX6_put_77 : decode cX6_put 77 = .ok (.isub, 1) := by decide +kernel
theorem dX6_put_78 : decode cX6_put 78 = .ok (.istore 7, 2) := by decide +kernel
theorem dX6_put_80 : decode cX6_put 80 = .ok (.iload 7, 2) := by decide +kernel
theorem dX6_put_82 : decode cX6_put 82 = .ok (.ifCond .lt 41, 3) := by decide +kernel
theorem dX6_put_85 : decode cX6_put 85 = .ok (.aload_n 0, 1) := by decide +kernel
theorem dX6_put_86 : decode cX6_put 86 = .ok (.getfield 26, 3) := by decide +kernel
theorem dX6_put_89 : decode cX6_put 89 = .ok (.aload_n 0, 1) := by decide +kernel
theorem dX6_put_90 : decode cX6_put 90 = .ok (.getfield 135, 3) := by decide +kernel
theorem dX6_put_93 : decode cX6_put 93 = .ok (.lload_n 1, 1) := by decide +kernel
theorem dX6_put_94 : decode cX6_put 94 = .ok (.bipush 8, 2) := by decide +kernel
theorem dX6_put_96 : decode cX6_put 96 = .ok (.iload 7, 2) := by decide +kernel
theorem dX6_put_98 : decode cX6_put 98 = .ok (.imul, 1) := by decide +kernel
theorem dX6_put_99 : decode cX6_put 99 = .ok (.lushr, 1) := by decide +kernel
theorem dX6_put_100 : decode cX6_put 100 = .ok (.ldc2_w 150, 3) := by decide +kernel
theorem dX6_put_103 : decode cX6_put 103 = .ok (.land, 1) := by decide +kernel
theorem dX6_put_104 : decode cX6_put 104 = .ok (.l2i, 1) := by decide +kernel
theorem dX6_put_105 : decode cX6_put 105 = .ok (.i2c, 1) := by decide +kernel
theorem dX6_put_106 : decode cX6_put 106 = .ok (.castore, 1) := by decide +kernel
theorem dX6_put_107 : decode cX6_put 107 = .ok (.aload_n 0, 1) := by decide +kernel
theorem dX6_put_108 : decode cX6_put 108 = .ok (.dup, 1) := by decide +kernel
theorem dX6_put_109 : decode cX6_put 109 = .ok (.getfield 135, 3) := by decide +kernel
theorem dX6_put_112 : decode cX6_put 112 = .ok (.iconst 1, 1) := by decide +kernel
theorem dX6_put_113 : decode cX6_put 113 = .ok (.iadd, 1) := by decide +kernel
theorem dX6_put_114 : decode cX6_put 114 = .ok (.putfield 135, 3) := by decide +kernel
theorem dX6_put_117 : decode cX6_put 117 = .ok (.iinc 7 (-1), 3) := by decide +kernel
theorem dX6_put_120 : decode cX6_put 120 = .ok (.goto (-40), 3) := by decide +kernel
theorem dX6_put_123 : decode cX6_put 123 = .ok (.aload_n 0, 1) := by decide +kernel
theorem dX6_put_124 : decode cX6_put 124 = .ok (.getfield 135, 3) := by decide +kernel
theorem dX6_put_127 : decode cX6_put 127 = .ok (.ireturn, 1) := by decide +kernel
theorem dX6_wipe_0 : decode cX6_wipe 0 = .ok (.aload_n 0, 1) := by decide +kernel
theorem dX6_wipe_1 : decode cX6_wipe 1 = .ok (.getfield 135, 3) := by decide +kernel
theorem dX6_wipe_4 : decode cX6_wipe 4 = .ok (.istore_n 1, 1) := by decide +kernel
theorem dX6_wipe_5 : decode cX6_wipe 5 = .ok (.aload_n 0, 1) := by decide +kernel
theorem dX6_wipe_6 : decode cX6_wipe 6 = .ok (.iconst 0, 1) := by decide +kernel
theorem dX6_wipe_7 : decode cX6_wipe 7 = .ok (.putfield 135, 3) := by decide +kernel
theorem dX6_wipe_10 : decode cX6_wipe 10 = .ok (.iload_n 1, 1) := by decide +kernel
theorem dX6_wipe_11 : decode cX6_wipe 11 = .ok (.ireturn, 1) := by decide +kernel
theorem dX6_fault_0 : decode cX6_fault 0 = .ok (.iconst 1, 1) := by decide +kernel
theorem dX6_fault_1 : decode cX6_fault 1 = .ok (.istore_n 1, 1) := by decide +kernel
theorem dX6_fault_2 : decode cX6_fault 2 = .ok (.iconst 0, 1) := by decide +kernel
theorem dX6_fault_3 : decode cX6_fault 3 = .ok (.istore_n 2, 1) := by decide +kernel
theorem dX6_fault_4 : decode cX6_fault 4 = .ok (.iconst 0, 1) := by decide +kernel
theorem dX6_fault_5 : decode cX6_fault 5 = .ok (.istore_n 3, 1) := by decide +kernel
theorem dX6_fault_6 : decode cX6_fault 6 = .ok (.iload_n 3, 1) := by decide +kernel
theorem dX6_fault_7 : decode cX6_fault 7 = .ok (.aload_n 0, 1) := by decide +kernel
theorem dX6_fault_8 : decode cX6_fault 8 = .ok (.getfield 135, 3) := by decide +kernel
theorem dX6_fault_11 : decode cX6_fault 11 = .ok (.if_icmp .ge 156, 3) := by decide +kernel
theorem dX6_fault_14 : decode cX6_fault 14 = .ok (.aload_n 0, 1) := by decide +kernel
theorem dX6_fault_15 : decode cX6_fault 15 = .ok (.getfield 26, 3) := by decide +kernel
theorem dX6_fault_18 : decode cX6_fault 18 = .ok (.iload_n 3, 1) := by decide +kernel
theorem dX6_fault_19 : decode cX6_fault 19 = .ok (.caload, 1) := by decide +kernel
theorem dX6_fault_20 : decode cX6_fault 20 = .ok (.istore 4, 2) := by decide +kernel
theorem dX6_fault_22 : decode cX6_fault 22 = .ok (.iload 4, 2) := by decide +kernel
theorem dX6_fault_24 : decode cX6_fault 24 = .ok (.bipush 33, 2) := by decide +kernel
theorem dX6_fault_26 : decode cX6_fault 26 = .ok (.if_icmp .eq 10, 3) := by decide +kernel
theorem dX6_fault_29 : decode cX6_fault 29 = .ok (.iload 4, 2) := by decide +kernel
theorem dX6_fault_31 : decode cX6_fault 31 = .ok (.bipush 40, 2) := by decide +kernel
theorem dX6_fault_33 : decode cX6_fault 33 = .ok (.if_icmp .ne 7, 3) := by decide +kernel
theorem dX6_fault_36 : decode cX6_fault 36 = .ok (.iconst 1, 1) := by decide +kernel
theorem dX6_fault_37 : decode cX6_fault 37 = .ok (.goto 4, 3) := by decide +kernel
theorem dX6_fault_40 : decode cX6_fault 40 = .ok (.iconst 0, 1) := by decide +kernel
theorem dX6_fault_41 : decode cX6_fault 41 = .ok (.istore 5, 2) := by decide +kernel
theorem dX6_fault_43 : decode cX6_fault 43 = .ok (.iload 4, 2) := by decide +kernel
theorem dX6_fault_45 : decode cX6_fault 45 = .ok (.bipush 38, 2) := by decide +kernel
theorem dX6_fault_47 : decode cX6_fault 47 = .ok (.if_icmp .eq 10, 3) := by decide +kernel
theorem dX6_fault_50 : decode cX6_fault 50 = .ok (.iload 4, 2) := by decide +kernel
theorem dX6_fault_52 : decode cX6_fault 52 = .ok (.bipush 124, 2) := by decide +kernel
theorem dX6_fault_54 : decode cX6_fault 54 = .ok (.if_icmp .ne 7, 3) := by decide +kernel
theorem dX6_fault_57 : decode cX6_fault 57 = .ok (.iconst 1, 1) := by decide +kernel
theorem dX6_fault_58 : decode cX6_fault 58 = .ok (.goto 4, 3) := by decide +kernel
theorem dX6_fault_61 : decode cX6_fault 61 = .ok (.iconst 0, 1) := by decide +kernel
theorem dX6_fault_62 : decode cX6_fault 62 = .ok (.istore 6, 2) := by decide +kernel
theorem dX6_fault_64 : decode cX6_fault 64 = .ok (.iload_n 1, 1) := by decide +kernel
theorem dX6_fault_65 : decode cX6_fault 65 = .ok (.ifCond .eq 24, 3) := by decide +kernel
theorem dX6_fault_68 : decode cX6_fault 68 = .ok (.iload 5, 2) := by decide +kernel
theorem dX6_fault_70 : decode cX6_fault 70 = .ok (.ifCond .ne 11, 3) := by decide +kernel
theorem dX6_fault_73 : decode cX6_fault 73 = .ok (.iload 4, 2) := by decide +kernel
theorem dX6_fault_75 : decode cX6_fault 75 = .ok (.invokestatic 84, 3) := by decide +kernel
theorem dX6_fault_78 : decode cX6_fault 78 = .ok (.ifCond .eq 7, 3) := by decide +kernel
theorem dX6_fault_81 : decode cX6_fault 81 = .ok (.iconst 1, 1) := by decide +kernel
theorem dX6_fault_82 : decode cX6_fault 82 = .ok (.goto 28, 3) := by decide +kernel
theorem dX6_fault_85 : decode cX6_fault 85 = .ok (.iconst 0, 1) := by decide +kernel
theorem dX6_fault_86 : decode cX6_fault 86 = .ok (.goto 24, 3) := by decide +kernel
theorem dX6_fault_89 : decode cX6_fault 89 = .ok (.iload 6, 2) := by decide +kernel
theorem dX6_fault_91 : decode cX6_fault 91 = .ok (.ifCond .ne 14, 3) := by decide +kernel
theorem dX6_fault_94 : decode cX6_fault 94 = .ok (.iload 4, 2) := by decide +kernel
theorem dX6_fault_96 : decode cX6_fault 96 = .ok (.bipush 41, 2) := by decide +kernel
theorem dX6_fault_98 : decode cX6_fault 98 = .ok (.if_icmp .ne 11, 3) := by decide +kernel
theorem dX6_fault_101 : decode cX6_fault 101 = .ok (.iload_n 2, 1) := by decide +kernel
theorem dX6_fault_102 : decode cX6_fault 102 = .ok (.ifCond .le 7, 3) := by decide +kernel
theorem dX6_fault_105 : decode cX6_fault 105 = .ok (.iconst 1, 1) := by decide +kernel
theorem dX6_fault_106 : decode cX6_fault 106 = .ok (.goto 4, 3) := by decide +kernel
theorem dX6_fault_109 : decode cX6_fault 109 = .ok (.iconst 0, 1) := by decide +kernel
theorem dX6_fault_110 : decode cX6_fault 110 = .ok (.istore 7, 2) := by decide +kernel
theorem dX6_fault_112 : decode cX6_fault 112 = .ok (.iload 7, 2) := by decide +kernel
theorem dX6_fault_114 : decode cX6_fault 114 = .ok (.ifCond .ne 5, 3) := by decide +kernel
theorem dX6_fault_117 : decode cX6_fault 117 = .ok (.iload_n 3, 1) := by decide +kernel
theorem dX6_fault_118 : decode cX6_fault 118 = .ok (.ireturn, 1) := by decide +kernel
theorem dX6_fault_119 : decode cX6_fault 119 = .ok (.iload_n 2, 1) := by decide +kernel
theorem dX6_fault_120 : decode cX6_fault 120 = .ok (.iload 4, 2) := by decide +kernel
theorem dX6_fault_122 : decode cX6_fault 122 = .ok (.bipush 40, 2) := by decide +kernel
theorem dX6_fault_124 : decode cX6_fault 124 = .ok (.if_icmp .ne 7, 3) := by decide +kernel
theorem dX6_fault_127 : decode cX6_fault 127 = .ok (.iconst 1, 1) := by decide +kernel
theorem dX6_fault_128 : decode cX6_fault 128 = .ok (.goto 15, 3) := by decide +kernel
theorem dX6_fault_131 : decode cX6_fault 131 = .ok (.iload 4, 2) := by decide +kernel
theorem dX6_fault_133 : decode cX6_fault 133 = .ok (.bipush 41, 2) := by decide +kernel
theorem dX6_fault_135 : decode cX6_fault 135 = .ok (.if_icmp .ne 7, 3) := by decide +kernel
theorem dX6_fault_138 : decode cX6_fault 138 = .ok (.iconst (-1), 1) := by decide +kernel
theorem dX6_fault_139 : decode cX6_fault 139 = .ok (.goto 4, 3) := by decide +kernel
theorem dX6_fault_142 : decode cX6_fault 142 = .ok (.iconst 0, 1) := by decide +kernel
theorem dX6_fault_143 : decode cX6_fault 143 = .ok (.iadd, 1) := by decide +kernel
theorem dX6_fault_144 : decode cX6_fault 144 = .ok (.istore_n 2, 1) := by decide +kernel
theorem dX6_fault_145 : decode cX6_fault 145 = .ok (.iload 5, 2) := by decide +kernel
theorem dX6_fault_147 : decode cX6_fault 147 = .ok (.ifCond .ne 8, 3) := by decide +kernel
theorem dX6_fault_150 : decode cX6_fault 150 = .ok (.iload 6, 2) := by decide +kernel
theorem dX6_fault_152 : decode cX6_fault 152 = .ok (.ifCond .eq 7, 3) := by decide +kernel
theorem dX6_fault_155 : decode cX6_fault 155 = .ok (.iconst 1, 1) := by decide +kernel
theorem dX6_fault_156 : decode cX6_fault 156 = .ok (.goto 4, 3) := by decide +kernel
theorem dX6_fault_159 : decode cX6_fault 159 = .ok (.iconst 0, 1) := by decide +kernel
theorem dX6_fault_160 : decode cX6_fault 160 = .ok (.istore_n 1, 1) := by decide +kernel
theorem dX6_fault_161 : decode cX6_fault 161 = .ok (.iinc 3 1, 3) := by decide +kernel
theorem dX6_fault_164 : decode cX6_fault 164 = .ok (.goto (-158), 3) := by decide +kernel
theorem dX6_fault_167 : decode cX6_fault 167 = .ok (.iload_n 1, 1) := by decide +kernel
theorem dX6_fault_168 : decode cX6_fault 168 = .ok (.ifCond .ne 7, 3) := by decide +kernel
theorem dX6_fault_171 : decode cX6_fault 171 = .ok (.iload_n 2, 1) := by decide +kernel
theorem dX6_fault_172 : decode cX6_fault 172 = .ok (.ifCond .le 10, 3) := by decide +kernel
theorem dX6_fault_175 : decode cX6_fault 175 = .ok (.aload_n 0, 1) := by decide +kernel
theorem dX6_fault_176 : decode cX6_fault 176 = .ok (.getfield 135, 3) := by decide +kernel
theorem dX6_fault_179 : decode cX6_fault 179 = .ok (.goto 5, 3) := by decide +kernel
theorem dX6_fault_182 : decode cX6_fault 182 = .ok (.bipush (-6), 2) := by decide +kernel
theorem dX6_fault_184 : decode cX6_fault 184 = .ok (.ireturn, 1) := by decide +kernel
theorem dX6_load_0 : decode cX6_load 0 = .ok (.aload_n 0, 1) := by decide +kernel
theorem dX6_load_1 : decode cX6_load 1 = .ok (.invokevirtual 152, 3) := by decide +kernel
theorem dX6_load_4 : decode cX6_load 4 = .ok (.bipush (-6), 2) := by decide +kernel
theorem dX6_load_6 : decode cX6_load 6 = .ok (.if_icmp .eq 6, 3) := by decide +kernel
theorem dX6_load_9 : decode cX6_load 9 = .ok (.bipush (-3), 2) := by decide +kernel
theorem dX6_load_11 : decode cX6_load 11 = .ok (.ireturn, 1) := by decide +kernel
theorem dX6_load_12 : decode cX6_load 12 = .ok (.aload_n 0, 1) := by decide +kernel
theorem dX6_load_13 : decode cX6_load 13 = .ok (.invokevirtual 50, 3) := by decide +kernel
theorem dX6_load_16 : decode cX6_load 16 = .ok (.iconst 0, 1) := by decide +kernel
theorem dX6_load_17 : decode cX6_load 17 = .ok (.istore_n 1, 1) := by decide +kernel
theorem dX6_load_18 : decode cX6_load 18 = .ok (.iload_n 1, 1) := by decide +kernel
theorem dX6_load_19 : decode cX6_load 19 = .ok (.bipush 60, 2) := by decide +kernel
theorem dX6_load_21 : decode cX6_load 21 = .ok (.if_icmp .ge 36, 3) := by decide +kernel
theorem dX6_load_24 : decode cX6_load 24 = .ok (.aload_n 0, 1) := by decide +kernel
theorem dX6_load_25 : decode cX6_load 25 = .ok (.getfield 7, 3) := by decide +kernel
theorem dX6_load_28 : decode cX6_load 28 = .ok (.bipush 23, 2) := by decide +kernel
theorem dX6_load_30 : decode cX6_load 30 = .ok (.iload_n 1, 1) := by decide +kernel
theorem dX6_load_31 : decode cX6_load 31 = .ok (.iadd, 1) := by decide +kernel
theorem dX6_load_32 : decode cX6_load 32 = .ok (.iload_n 1, 1) := by decide +kernel
theorem dX6_load_33 : decode cX6_load 33 = .ok (.aload_n 0, 1) := by decide +kernel
theorem dX6_load_34 : decode cX6_load 34 = .ok (.getfield 135, 3) := by decide +kernel
theorem dX6_load_37 : decode cX6_load 37 = .ok (.if_icmp .ge 12, 3) := by decide +kernel
theorem dX6_load_40 : decode cX6_load 40 = .ok (.aload_n 0, 1) := by decide +kernel
theorem dX6_load_41 : decode cX6_load 41 = .ok (.getfield 26, 3) := by decide +kernel
theorem dX6_load_44 : decode cX6_load 44 = .ok (.iload_n 1, 1) := by decide +kernel
theorem dX6_load_45 : decode cX6_load 45 = .ok (.caload, 1) := by decide +kernel
theorem dX6_load_46 : decode cX6_load 46 = .ok (.goto 4, 3) := by decide +kernel
theorem dX6_load_49 : decode cX6_load 49 = .ok (.iconst 0, 1) := by decide +kernel
theorem dX6_load_50 : decode cX6_load 50 = .ok (.iastore, 1) := by decide +kernel
theorem dX6_load_51 : decode cX6_load 51 = .ok (.iinc 1 1, 3) := by decide +kernel
theorem dX6_load_54 : decode cX6_load 54 = .ok (.goto (-36), 3) := by decide +kernel
theorem dX6_load_57 : decode cX6_load 57 = .ok (.aload_n 0, 1) := by decide +kernel
theorem dX6_load_58 : decode cX6_load 58 = .ok (.getfield 7, 3) := by decide +kernel
theorem dX6_load_61 : decode cX6_load 61 = .ok (.bipush 22, 2) := by decide +kernel
theorem dX6_load_63 : decode cX6_load 63 = .ok (.aload_n 0, 1) := by decide +kernel
theorem dX6_load_64 : decode cX6_load 64 = .ok (.getfield 135, 3) := by decide +kernel
theorem dX6_load_67 : decode cX6_load 67 = .ok (.iastore, 1) := by decide +kernel
theorem dX6_load_68 : decode cX6_load 68 = .ok (.aload_n 0, 1) := by decide +kernel
theorem dX6_load_69 : decode cX6_load 69 = .ok (.iconst 0, 1) := by decide +kernel
theorem dX6_load_70 : decode cX6_load 70 = .ok (.putfield 135, 3) := by decide +kernel
theorem dX6_load_73 : decode cX6_load 73 = .ok (.aload_n 0, 1) := by decide +kernel
theorem dX6_load_74 : decode cX6_load 74 = .ok (.invokevirtual 87, 3) := by decide +kernel
theorem dX6_load_77 : decode cX6_load 77 = .ok (.ireturn, 1) := by decide +kernel
end
section
theorem dL_law_0 : decode cL_law 0 = .ok (.new 7, 3) := by decide +kernel
theorem dL_law_3 : decode cL_law 3 = .ok (.dup, 1) := by decide +kernel
theorem dL_law_4 : decode cL_law 4 = .ok (.invokespecial 9, 3) := by decide +kernel
theorem dL_law_7 : decode cL_law 7 = .ok (.astore_n 1, 1) := by decide +kernel
theorem dL_law_8 : decode cL_law 8 = .ok (.new 10, 3) := by decide +kernel
theorem dL_law_11 : decode cL_law 11 = .ok (.dup, 1) := by decide +kernel
theorem dL_law_12 : decode cL_law 12 = .ok (.invokespecial 12, 3) := by decide +kernel
theorem dL_law_15 : decode cL_law 15 = .ok (.astore_n 2, 1) := by decide +kernel
theorem dL_law_16 : decode cL_law 16 = .ok (.iconst 0, 1) := by decide +kernel
theorem dL_law_17 : decode cL_law 17 = .ok (.istore_n 3, 1) := by decide +kernel
theorem dL_law_18 : decode cL_law 18 = .ok (.iload_n 3, 1) := by decide +kernel
theorem dL_law_19 : decode cL_law 19 = .ok (.aload_n 0, 1) := by decide +kernel
theorem dL_law_20 : decode cL_law 20 = .ok (.arraylength, 1) := by decide +kernel
theorem dL_law_21 : decode cL_law 21 = .ok (.iconst 4, 1) := by decide +kernel
theorem dL_law_22 : decode cL_law 22 = .ok (.isub, 1) := by decide +kernel
theorem dL_law_23 : decode cL_law 23 = .ok (.if_icmp .gt 652, 3) := by decide +kernel
theorem dL_law_26 : decode cL_law 26 = .ok (.aload_n 0, 1) := by decide +kernel
theorem dL_law_27 : decode cL_law 27 = .ok (.iload_n 3, 1) := by decide +kernel
theorem dL_law_28 : decode cL_law 28 = .ok (.iaload, 1) := by decide +kernel
theorem dL_law_29 : decode cL_law 29 = .ok (.bipush 31, 2) := by decide +kernel
theorem dL_law_31 : decode cL_law 31 = .ok (.iand, 1) := by decide +kernel
theorem dL_law_32 : decode cL_law 32 = .ok (.tableswitch 637 0 22 #[108, 141, 164, 207, 220, 233, 256, 289, 322, 355, 378, 401, 414, 427, 450, 473, 486, 539, 552, 565, 578, 591, 614], 108) := by decide +kernel
theorem dL_law_140 : decode cL_law 140 = .ok (.aload_n 1, 1) := by decide +kernel
theorem dL_law_141 : decode cL_law 141 = .ok (.aload_n 0, 1) := by decide +kernel
theorem dL_law_142 : decode cL_law 142 = .ok (.iload_n 3, 1) := by decide +kernel
theorem dL_law_143 : decode cL_law 143 = .ok (.iconst 1, 1) := by decide +kernel
theorem dL_law_144 : decode cL_law 144 = .ok (.iadd, 1) := by decide +kernel
theorem dL_law_145 : decode cL_law 145 = .ok (.iaload, 1) := by decide +kernel
theorem dL_law_146 : decode cL_law 146 = .ok (.aload_n 0, 1) := by decide +kernel
theorem dL_law_147 : decode cL_law 147 = .ok (.iload_n 3, 1) := by decide +kernel
theorem dL_law_148 : decode cL_law 148 = .ok (.iconst 2, 1) := by decide +kernel
theorem dL_law_149 : decode cL_law 149 = .ok (.iadd, 1) := by decide +kernel
theorem dL_law_150 : decode cL_law 150 = .ok (.iaload, 1) := by decide +kernel
theorem dL_law_151 : decode cL_law 151 = .ok (.invokevirtual 13, 3) := by decide +kernel
theorem dL_law_154 : decode cL_law 154 = .ok (.aload_n 2, 1) := by decide +kernel
theorem dL_law_155 : decode cL_law 155 = .ok (.aload_n 0, 1) := by decide +kernel
theorem dL_law_156 : decode cL_law 156 = .ok (.iload_n 3, 1) := by decide +kernel
theorem dL_law_157 : decode cL_law 157 = .ok (.iconst 1, 1) := by decide +kernel
theorem dL_law_158 : decode cL_law 158 = .ok (.iadd, 1) := by decide +kernel
theorem dL_law_159 : decode cL_law 159 = .ok (.iaload, 1) := by decide +kernel
theorem dL_law_160 : decode cL_law 160 = .ok (.aload_n 0, 1) := by decide +kernel
theorem dL_law_161 : decode cL_law 161 = .ok (.iload_n 3, 1) := by decide +kernel
theorem dL_law_162 : decode cL_law 162 = .ok (.iconst 2, 1) := by decide +kernel
theorem dL_law_163 : decode cL_law 163 = .ok (.iadd, 1) := by decide +kernel
theorem dL_law_164 : decode cL_law 164 = .ok (.iaload, 1) := by decide +kernel
theorem dL_law_165 : decode cL_law 165 = .ok (.invokevirtual 17, 3) := by decide +kernel
theorem dL_law_168 : decode cL_law 168 = .ok (.if_icmp .eq 501, 3) := by decide +kernel
theorem dL_law_171 : decode cL_law 171 = .ok (.iconst 0, 1) := by decide +kernel
theorem dL_law_172 : decode cL_law 172 = .ok (.ireturn, 1) := by decide +kernel
theorem dL_law_173 : decode cL_law 173 = .ok (.aload_n 1, 1) := by decide +kernel
theorem dL_law_174 : decode cL_law 174 = .ok (.aload_n 0, 1) := by decide +kernel
theorem dL_law_175 : decode cL_law 175 = .ok (.iload_n 3, 1) := by decide +kernel
theorem dL_law_176 : decode cL_law 176 = .ok (.iconst 1, 1) := by decide +kernel
theorem dL_law_177 : decode cL_law 177 = .ok (.iadd, 1) := by decide +kernel
theorem dL_law_178 : decode cL_law 178 = .ok (.iaload, 1) := by decide +kernel
theorem dL_law_179 : decode cL_law 179 = .ok (.invokevirtual 18, 3) := by decide +kernel
theorem dL_law_182 : decode cL_law 182 = .ok (.aload_n 2, 1) := by decide +kernel
theorem dL_law_183 : decode cL_law 183 = .ok (.aload_n 0, 1) := by decide +kernel
theorem dL_law_184 : decode cL_law 184 = .ok (.iload_n 3, 1) := by decide +kernel
theorem dL_law_185 : decode cL_law 185 = .ok (.iconst 1, 1) := by decide +kernel
theorem dL_law_186 : decode cL_law 186 = .ok (.iadd, 1) := by decide +kernel
theorem dL_law_187 : decode cL_law 187 = .ok (.iaload, 1) := by decide +kernel
theorem dL_law_188 : decode cL_law 188 = .ok (.invokevirtual 22, 3) := by decide +kernel
theorem dL_law_191 : decode cL_law 191 = .ok (.if_icmp .eq 478, 3) := by decide +kernel
theorem dL_law_194 : decode cL_law 194 = .ok (.iconst 0, 1) := by decide +kernel
theorem dL_law_195 : decode cL_law 195 = .ok (.ireturn, 1) := by decide +kernel
theorem dL_law_196 : decode cL_law 196 = .ok (.aload_n 1, 1) := by decide +kernel
theorem dL_law_197 : decode cL_law 197 = .ok (.aload_n 0, 1) := by decide +kernel
theorem dL_law_198 : decode cL_law 198 = .ok (.iload_n 3, 1) := by decide +kernel
theorem dL_law_199 : decode cL_law 199 = .ok (.iconst 1, 1) := by decide +kernel
theorem dL_law_200 : decode cL_law 200 = .ok (.iadd, 1) := by decide +kernel
theorem dL_law_201 : decode cL_law 201 = .ok (.iaload, 1) := by decide +kernel
theorem dL_law_202 : decode cL_law 202 = .ok (.aload_n 0, 1) := by decide +kernel
theorem dL_law_203 : decode cL_law 203 = .ok (.iload_n 3, 1) := by decide +kernel
theorem dL_law_204 : decode cL_law 204 = .ok (.iconst 2, 1) := by decide +kernel
theorem dL_law_205 : decode cL_law 205 = .ok (.iadd, 1) := by decide +kernel
theorem dL_law_206 : decode cL_law 206 = .ok (.iaload, 1) := by decide +kernel
theorem dL_law_207 : decode cL_law 207 = .ok (.aload_n 0, 1) := by decide +kernel
theorem dL_law_208 : decode cL_law 208 = .ok (.iload_n 3, 1) := by decide +kernel
theorem dL_law_209 : decode cL_law 209 = .ok (.iconst 3, 1) := by decide +kernel
theorem dL_law_210 : decode cL_law 210 = .ok (.iadd, 1) := by decide +kernel
theorem dL_law_211 : decode cL_law 211 = .ok (.iaload, 1) := by decide +kernel
theorem dL_law_212 : decode cL_law 212 = .ok (.invokevirtual 23, 3) := by decide +kernel
theorem dL_law_215 : decode cL_law 215 = .ok (.aload_n 2, 1) := by decide +kernel
theorem dL_law_216 : decode cL_law 216 = .ok (.aload_n 0, 1) := by decide +kernel
theorem dL_law_217 : decode cL_law 217 = .ok (.iload_n 3, 1) := by decide +kernel
theorem dL_law_218 : decode cL_law 218 = .ok (.iconst 1, 1) := by decide +kernel
theorem dL_law_219 : decode cL_law 219 = .ok (.iadd, 1) := by decide +kernel
theorem dL_law_220 : decode cL_law 220 = .ok (.iaload, 1) := by decide +kernel
theorem dL_law_221 : decode cL_law 221 = .ok (.aload_n 0, 1) := by decide +kernel
theorem dL_law_222 : decode cL_law 222 = .ok (.iload_n 3, 1) := by decide +kernel
theorem dL_law_223 : decode cL_law 223 = .ok (.iconst 2, 1) := by decide +kernel
theorem dL_law_224 : decode cL_law 224 = .ok (.iadd, 1) := by decide +kernel
theorem dL_law_225 : decode cL_law 225 = .ok (.iaload, 1) := by decide +kernel
theorem dL_law_226 : decode cL_law 226 = .ok (.aload_n 0, 1) := by decide +kernel
theorem dL_law_227 : decode cL_law 227 = .ok (.iload_n 3, 1) := by decide +kernel
theorem dL_law_228 : decode cL_law 228 = .ok (.iconst 3, 1) := by decide +kernel
theorem dL_law_229 : decode cL_law 229 = .ok (.iadd, 1) := by decide +kernel
theorem dL_law_230 : decode cL_law 230 = .ok (.iaload, 1) := by decide +kernel
theorem dL_law_231 : decode cL_law 231 = .ok (.invokevirtual 27, 3) := by decide +kernel
theorem dL_law_234 : decode cL_law 234 = .ok (.if_icmp .eq 435, 3) := by decide +kernel
theorem dL_law_237 : decode cL_law 237 = .ok (.iconst 0, 1) := by decide +kernel
theorem dL_law_238 : decode cL_law 238 = .ok (.ireturn, 1) := by decide +kernel
theorem dL_law_239 : decode cL_law 239 = .ok (.aload_n 1, 1) := by decide +kernel
theorem dL_law_240 : decode cL_law 240 = .ok (.invokevirtual 28, 3) := by decide +kernel
theorem dL_law_243 : decode cL_law 243 = .ok (.aload_n 2, 1) := by decide +kernel
theorem dL_law_244 : decode cL_law 244 = .ok (.invokevirtual 32, 3) := by decide +kernel
theorem dL_law_247 : decode cL_law 247 = .ok (.if_icmp .eq 422, 3) := by decide +kernel
theorem dL_law_250 : decode cL_law 250 = .ok (.iconst 0, 1) := by decide +kernel
theorem dL_law_251 : decode cL_law 251 = .ok (.ireturn, 1) := by decide +kernel
theorem dL_law_252 : decode cL_law 252 = .ok (.aload_n 1, 1) := by decide +kernel
theorem dL_law_253 : decode cL_law 253 = .ok (.invokevirtual 33, 3) := by decide +kernel
theorem dL_law_256 : decode cL_law 256 = .ok (.aload_n 2, 1) := by decide +kernel
theorem dL_law_257 : decode cL_law 257 = .ok (.invokevirtual 36, 3) := by decide +kernel
theorem dL_law_260 : decode cL_law 260 = .ok (.if_icmp .eq 409, 3) := by decide +kernel
theorem dL_law_263 : decode cL_law 263 = .ok (.iconst 0, 1) := by decide +kernel
theorem dL_law_264 : decode cL_law 264 = .ok (.ireturn, 1) := by decide +kernel
theorem dL_law_265 : decode cL_law 265 = .ok (.aload_n 1, 1) := by decide +kernel
theorem dL_law_266 : decode cL_law 266 = .ok (.aload_n 0, 1) := by decide +kernel
theorem dL_law_267 : decode cL_law 267 = .ok (.iload_n 3, 1) := by decide +kernel
theorem dL_law_268 : decode cL_law 268 = .ok (.iconst 1, 1) := by decide +kernel
theorem dL_law_269 : decode cL_law 269 = .ok (.iadd, 1) := by decide +kernel
theorem dL_law_270 : decode cL_law 270 = .ok (.iaload, 1) := by decide +kernel
theorem dL_law_271 : decode cL_law 271 = .ok (.invokevirtual 37, 3) := by decide +kernel
theorem dL_law_274 : decode cL_law 274 = .ok (.aload_n 2, 1) := by decide +kernel
theorem dL_law_275 : decode cL_law 275 = .ok (.aload_n 0, 1) := by decide +kernel
theorem dL_law_276 : decode cL_law 276 = .ok (.iload_n 3, 1) := by decide +kernel
theorem dL_law_277 : decode cL_law 277 = .ok (.iconst 1, 1) := by decide +kernel
theorem dL_law_278 : decode cL_law 278 = .ok (.iadd, 1) := by decide +kernel
theorem dL_law_279 : decode cL_law 279 = .ok (.iaload, 1) := by decide +kernel
theorem dL_law_280 : decode cL_law 280 = .ok (.invokevirtual 40, 3) := by decide +kernel
theorem dL_law_283 : decode cL_law 283 = .ok (.if_icmp .eq 386, 3) := by decide +kernel
theorem dL_law_286 : decode cL_law 286 = .ok (.iconst 0, 1) := by decide +kernel
theorem dL_law_287 : decode cL_law 287 = .ok (.ireturn, 1) := by decide +kernel
theorem dL_law_288 : decode cL_law 288 = .ok (.aload_n 1, 1) := by decide +kernel
theorem dL_law_289 : decode cL_law 289 = .ok (.aload_n 0, 1) := by decide +kernel
theorem dL_law_290 : decode cL_law 290 = .ok (.iload_n 3, 1) := by decide +kernel
theorem dL_law_291 : decode cL_law 291 = .ok (.iconst 1, 1) := by decide +kernel
theorem dL_law_292 : decode cL_law 292 = .ok (.iadd, 1) := by decide +kernel
theorem dL_law_293 : decode cL_law 293 = .ok (.iaload, 1) := by decide +kernel
theorem dL_law_294 : decode cL_law 294 = .ok (.aload_n 0, 1) := by decide +kernel
theorem dL_law_295 : decode cL_law 295 = .ok (.iload_n 3, 1) := by decide +kernel
theorem dL_law_296 : decode cL_law 296 = .ok (.iconst 2, 1) := by decide +kernel
theorem dL_law_297 : decode cL_law 297 = .ok (.iadd, 1) := by decide +kernel
theorem dL_law_298 : decode cL_law 298 = .ok (.iaload, 1) := by decide +kernel
theorem dL_law_299 : decode cL_law 299 = .ok (.invokevirtual 41, 3) := by decide +kernel
theorem dL_law_302 : decode cL_law 302 = .ok (.aload_n 2, 1) := by decide +kernel
theorem dL_law_303 : decode cL_law 303 = .ok (.aload_n 0, 1) := by decide +kernel
theorem dL_law_304 : decode cL_law 304 = .ok (.iload_n 3, 1) := by decide +kernel
theorem dL_law_305 : decode cL_law 305 = .ok (.iconst 1, 1) := by decide +kernel
theorem dL_law_306 : decode cL_law 306 = .ok (.iadd, 1) := by decide +kernel
theorem dL_law_307 : decode cL_law 307 = .ok (.iaload, 1) := by decide +kernel
theorem dL_law_308 : decode cL_law 308 = .ok (.aload_n 0, 1) := by decide +kernel
theorem dL_law_309 : decode cL_law 309 = .ok (.iload_n 3, 1) := by decide +kernel
theorem dL_law_310 : decode cL_law 310 = .ok (.iconst 2, 1) := by decide +kernel
theorem dL_law_311 : decode cL_law 311 = .ok (.iadd, 1) := by decide +kernel
theorem dL_law_312 : decode cL_law 312 = .ok (.iaload, 1) := by decide +kernel
theorem dL_law_313 : decode cL_law 313 = .ok (.invokevirtual 44, 3) := by decide +kernel
theorem dL_law_316 : decode cL_law 316 = .ok (.if_icmp .eq 353, 3) := by decide +kernel
theorem dL_law_319 : decode cL_law 319 = .ok (.iconst 0, 1) := by decide +kernel
theorem dL_law_320 : decode cL_law 320 = .ok (.ireturn, 1) := by decide +kernel
theorem dL_law_321 : decode cL_law 321 = .ok (.aload_n 1, 1) := by decide +kernel
theorem dL_law_322 : decode cL_law 322 = .ok (.aload_n 0, 1) := by decide +kernel
theorem dL_law_323 : decode cL_law 323 = .ok (.iload_n 3, 1) := by decide +kernel
theorem dL_law_324 : decode cL_law 324 = .ok (.iconst 1, 1) := by decide +kernel
theorem dL_law_325 : decode cL_law 325 = .ok (.iadd, 1) := by decide +kernel
theorem dL_law_326 : decode cL_law 326 = .ok (.iaload, 1) := by decide +kernel
theorem dL_law_327 : decode cL_law 327 = .ok (.aload_n 0, 1) := by decide +kernel
theorem dL_law_328 : decode cL_law 328 = .ok (.iload_n 3, 1) := by decide +kernel
theorem dL_law_329 : decode cL_law 329 = .ok (.iconst 2, 1) := by decide +kernel
theorem dL_law_330 : decode cL_law 330 = .ok (.iadd, 1) := by decide +kernel
theorem dL_law_331 : decode cL_law 331 = .ok (.iaload, 1) := by decide +kernel
theorem dL_law_332 : decode cL_law 332 = .ok (.invokevirtual 45, 3) := by decide +kernel
theorem dL_law_335 : decode cL_law 335 = .ok (.aload_n 2, 1) := by decide +kernel
theorem dL_law_336 : decode cL_law 336 = .ok (.aload_n 0, 1) := by decide +kernel
theorem dL_law_337 : decode cL_law 337 = .ok (.iload_n 3, 1) := by decide +kernel
theorem dL_law_338 : decode cL_law 338 = .ok (.iconst 1, 1) := by decide +kernel
theorem dL_law_339 : decode cL_law 339 = .ok (.iadd, 1) := by decide +kernel
theorem dL_law_340 : decode cL_law 340 = .ok (.iaload, 1) := by decide +kernel
theorem dL_law_341 : decode cL_law 341 = .ok (.aload_n 0, 1) := by decide +kernel
theorem dL_law_342 : decode cL_law 342 = .ok (.iload_n 3, 1) := by decide +kernel
theorem dL_law_343 : decode cL_law 343 = .ok (.iconst 2, 1) := by decide +kernel
theorem dL_law_344 : decode cL_law 344 = .ok (.iadd, 1) := by decide +kernel
theorem dL_law_345 : decode cL_law 345 = .ok (.iaload, 1) := by decide +kernel
theorem dL_law_346 : decode cL_law 346 = .ok (.invokevirtual 48, 3) := by decide +kernel
theorem dL_law_349 : decode cL_law 349 = .ok (.if_icmp .eq 320, 3) := by decide +kernel
theorem dL_law_352 : decode cL_law 352 = .ok (.iconst 0, 1) := by decide +kernel
theorem dL_law_353 : decode cL_law 353 = .ok (.ireturn, 1) := by decide +kernel
theorem dL_law_354 : decode cL_law 354 = .ok (.aload_n 1, 1) := by decide +kernel
theorem dL_law_355 : decode cL_law 355 = .ok (.aload_n 0, 1) := by decide +kernel
theorem dL_law_356 : decode cL_law 356 = .ok (.iload_n 3, 1) := by decide +kernel
theorem dL_law_357 : decode cL_law 357 = .ok (.iconst 1, 1) := by decide +kernel
theorem dL_law_358 : decode cL_law 358 = .ok (.iadd, 1) := by decide +kernel
theorem dL_law_359 : decode cL_law 359 = .ok (.iaload, 1) := by decide +kernel
theorem dL_law_360 : decode cL_law 360 = .ok (.aload_n 0, 1) := by decide +kernel
theorem dL_law_361 : decode cL_law 361 = .ok (.iload_n 3, 1) := by decide +kernel
theorem dL_law_362 : decode cL_law 362 = .ok (.iconst 2, 1) := by decide +kernel
theorem dL_law_363 : decode cL_law 363 = .ok (.iadd, 1) := by decide +kernel
theorem dL_law_364 : decode cL_law 364 = .ok (.iaload, 1) := by decide +kernel
theorem dL_law_365 : decode cL_law 365 = .ok (.invokevirtual 49, 3) := by decide +kernel
theorem dL_law_368 : decode cL_law 368 = .ok (.aload_n 2, 1) := by decide +kernel
theorem dL_law_369 : decode cL_law 369 = .ok (.aload_n 0, 1) := by decide +kernel
theorem dL_law_370 : decode cL_law 370 = .ok (.iload_n 3, 1) := by decide +kernel
theorem dL_law_371 : decode cL_law 371 = .ok (.iconst 1, 1) := by decide +kernel
theorem dL_law_372 : decode cL_law 372 = .ok (.iadd, 1) := by decide +kernel
theorem dL_law_373 : decode cL_law 373 = .ok (.iaload, 1) := by decide +kernel
theorem dL_law_374 : decode cL_law 374 = .ok (.aload_n 0, 1) := by decide +kernel
theorem dL_law_375 : decode cL_law 375 = .ok (.iload_n 3, 1) := by decide +kernel
theorem dL_law_376 : decode cL_law 376 = .ok (.iconst 2, 1) := by decide +kernel
theorem dL_law_377 : decode cL_law 377 = .ok (.iadd, 1) := by decide +kernel
theorem dL_law_378 : decode cL_law 378 = .ok (.iaload, 1) := by decide +kernel
theorem dL_law_379 : decode cL_law 379 = .ok (.invokevirtual 52, 3) := by decide +kernel
theorem dL_law_382 : decode cL_law 382 = .ok (.if_icmp .eq 287, 3) := by decide +kernel
theorem dL_law_385 : decode cL_law 385 = .ok (.iconst 0, 1) := by decide +kernel
theorem dL_law_386 : decode cL_law 386 = .ok (.ireturn, 1) := by decide +kernel
theorem dL_law_387 : decode cL_law 387 = .ok (.aload_n 1, 1) := by decide +kernel
theorem dL_law_388 : decode cL_law 388 = .ok (.aload_n 0, 1) := by decide +kernel
theorem dL_law_389 : decode cL_law 389 = .ok (.iload_n 3, 1) := by decide +kernel
theorem dL_law_390 : decode cL_law 390 = .ok (.iconst 1, 1) := by decide +kernel
theorem dL_law_391 : decode cL_law 391 = .ok (.iadd, 1) := by decide +kernel
theorem dL_law_392 : decode cL_law 392 = .ok (.iaload, 1) := by decide +kernel
theorem dL_law_393 : decode cL_law 393 = .ok (.invokevirtual 53, 3) := by decide +kernel
theorem dL_law_396 : decode cL_law 396 = .ok (.aload_n 2, 1) := by decide +kernel
theorem dL_law_397 : decode cL_law 397 = .ok (.aload_n 0, 1) := by decide +kernel
theorem dL_law_398 : decode cL_law 398 = .ok (.iload_n 3, 1) := by decide +kernel
theorem dL_law_399 : decode cL_law 399 = .ok (.iconst 1, 1) := by decide +kernel
theorem dL_law_400 : decode cL_law 400 = .ok (.iadd, 1) := by decide +kernel
theorem dL_law_401 : decode cL_law 401 = .ok (.iaload, 1) := by decide +kernel
theorem dL_law_402 : decode cL_law 402 = .ok (.invokevirtual 56, 3) := by decide +kernel
theorem dL_law_405 : decode cL_law 405 = .ok (.if_icmp .eq 264, 3) := by decide +kernel
theorem dL_law_408 : decode cL_law 408 = .ok (.iconst 0, 1) := by decide +kernel
theorem dL_law_409 : decode cL_law 409 = .ok (.ireturn, 1) := by decide +kernel
theorem dL_law_410 : decode cL_law 410 = .ok (.aload_n 1, 1) := by decide +kernel
theorem dL_law_411 : decode cL_law 411 = .ok (.aload_n 0, 1) := by decide +kernel
theorem dL_law_412 : decode cL_law 412 = .ok (.iload_n 3, 1) := by decide +kernel
theorem dL_law_413 : decode cL_law 413 = .ok (.iconst 1, 1) := by decide +kernel
theorem dL_law_414 : decode cL_law 414 = .ok (.iadd, 1) := by decide +kernel
theorem dL_law_415 : decode cL_law 415 = .ok (.iaload, 1) := by decide +kernel
theorem dL_law_416 : decode cL_law 416 = .ok (.invokevirtual 57, 3) := by decide +kernel
theorem dL_law_419 : decode cL_law 419 = .ok (.aload_n 2, 1) := by decide +kernel
theorem dL_law_420 : decode cL_law 420 = .ok (.aload_n 0, 1) := by decide +kernel
theorem dL_law_421 : decode cL_law 421 = .ok (.iload_n 3, 1) := by decide +kernel
theorem dL_law_422 : decode cL_law 422 = .ok (.iconst 1, 1) := by decide +kernel
theorem dL_law_423 : decode cL_law 423 = .ok (.iadd, 1) := by decide +kernel
theorem dL_law_424 : decode cL_law 424 = .ok (.iaload, 1) := by decide +kernel
theorem dL_law_425 : decode cL_law 425 = .ok (.invokevirtual 60, 3) := by decide +kernel
theorem dL_law_428 : decode cL_law 428 = .ok (.if_icmp .eq 241, 3) := by decide +kernel
theorem dL_law_431 : decode cL_law 431 = .ok (.iconst 0, 1) := by decide +kernel
theorem dL_law_432 : decode cL_law 432 = .ok (.ireturn, 1) := by decide +kernel
theorem dL_law_433 : decode cL_law 433 = .ok (.aload_n 1, 1) := by decide +kernel
theorem dL_law_434 : decode cL_law 434 = .ok (.invokevirtual 61, 3) := by decide +kernel
theorem dL_law_437 : decode cL_law 437 = .ok (.aload_n 2, 1) := by decide +kernel
theorem dL_law_438 : decode cL_law 438 = .ok (.invokevirtual 64, 3) := by decide +kernel
theorem dL_law_441 : decode cL_law 441 = .ok (.if_icmp .eq 228, 3) := by decide +kernel
theorem dL_law_444 : decode cL_law 444 = .ok (.iconst 0, 1) := by decide +kernel
theorem dL_law_445 : decode cL_law 445 = .ok (.ireturn, 1) := by decide +kernel
theorem dL_law_446 : decode cL_law 446 = .ok (.aload_n 1, 1) := by decide +kernel
theorem dL_law_447 : decode cL_law 447 = .ok (.invokevirtual 65, 3) := by decide +kernel
theorem dL_law_450 : decode cL_law 450 = .ok (.aload_n 2, 1) := by decide +kernel
theorem dL_law_451 : decode cL_law 451 = .ok (.invokevirtual 68, 3) := by decide +kernel
theorem dL_law_454 : decode cL_law 454 = .ok (.if_icmp .eq 215, 3) := by decide +kernel
theorem dL_law_457 : decode cL_law 457 = .ok (.iconst 0, 1) := by decide +kernel
theorem dL_law_458 : decode cL_law 458 = .ok (.ireturn, 1) := by decide +kernel
theorem dL_law_459 : decode cL_law 459 = .ok (.aload_n 1, 1) := by decide +kernel
theorem dL_law_460 : decode cL_law 460 = .ok (.aload_n 0, 1) := by decide +kernel
theorem dL_law_461 : decode cL_law 461 = .ok (.iload_n 3, 1) := by decide +kernel
theorem dL_law_462 : decode cL_law 462 = .ok (.iconst 1, 1) := by decide +kernel
theorem dL_law_463 : decode cL_law 463 = .ok (.iadd, 1) := by decide +kernel
theorem dL_law_464 : decode cL_law 464 = .ok (.iaload, 1) := by decide +kernel
theorem dL_law_465 : decode cL_law 465 = .ok (.invokevirtual 69, 3) := by decide +kernel
theorem dL_law_468 : decode cL_law 468 = .ok (.aload_n 2, 1) := by decide +kernel
theorem dL_law_469 : decode cL_law 469 = .ok (.aload_n 0, 1) := by decide +kernel
theorem dL_law_470 : decode cL_law 470 = .ok (.iload_n 3, 1) := by decide +kernel
theorem dL_law_471 : decode cL_law 471 = .ok (.iconst 1, 1) := by decide +kernel
theorem dL_law_472 : decode cL_law 472 = .ok (.iadd, 1) := by decide +kernel
theorem dL_law_473 : decode cL_law 473 = .ok (.iaload, 1) := by decide +kernel
theorem dL_law_474 : decode cL_law 474 = .ok (.invokevirtual 72, 3) := by decide +kernel
theorem dL_law_477 : decode cL_law 477 = .ok (.if_icmp .eq 192, 3) := by decide +kernel
theorem dL_law_480 : decode cL_law 480 = .ok (.iconst 0, 1) := by decide +kernel
theorem dL_law_481 : decode cL_law 481 = .ok (.ireturn, 1) := by decide +kernel
theorem dL_law_482 : decode cL_law 482 = .ok (.aload_n 1, 1) := by decide +kernel
theorem dL_law_483 : decode cL_law 483 = .ok (.aload_n 0, 1) := by decide +kernel
theorem dL_law_484 : decode cL_law 484 = .ok (.iload_n 3, 1) := by decide +kernel
theorem dL_law_485 : decode cL_law 485 = .ok (.iconst 1, 1) := by decide +kernel
theorem dL_law_486 : decode cL_law 486 = .ok (.iadd, 1) := by decide +kernel
theorem dL_law_487 : decode cL_law 487 = .ok (.iaload, 1) := by decide +kernel
theorem dL_law_488 : decode cL_law 488 = .ok (.invokevirtual 73, 3) := by decide +kernel
theorem dL_law_491 : decode cL_law 491 = .ok (.aload_n 2, 1) := by decide +kernel
theorem dL_law_492 : decode cL_law 492 = .ok (.aload_n 0, 1) := by decide +kernel
theorem dL_law_493 : decode cL_law 493 = .ok (.iload_n 3, 1) := by decide +kernel
theorem dL_law_494 : decode cL_law 494 = .ok (.iconst 1, 1) := by decide +kernel
theorem dL_law_495 : decode cL_law 495 = .ok (.iadd, 1) := by decide +kernel
theorem dL_law_496 : decode cL_law 496 = .ok (.iaload, 1) := by decide +kernel
theorem dL_law_497 : decode cL_law 497 = .ok (.invokevirtual 76, 3) := by decide +kernel
theorem dL_law_500 : decode cL_law 500 = .ok (.if_icmp .eq 169, 3) := by decide +kernel
theorem dL_law_503 : decode cL_law 503 = .ok (.iconst 0, 1) := by decide +kernel
theorem dL_law_504 : decode cL_law 504 = .ok (.ireturn, 1) := by decide +kernel
theorem dL_law_505 : decode cL_law 505 = .ok (.aload_n 1, 1) := by decide +kernel
theorem dL_law_506 : decode cL_law 506 = .ok (.invokevirtual 77, 3) := by decide +kernel
theorem dL_law_509 : decode cL_law 509 = .ok (.aload_n 2, 1) := by decide +kernel
theorem dL_law_510 : decode cL_law 510 = .ok (.invokevirtual 80, 3) := by decide +kernel
theorem dL_law_513 : decode cL_law 513 = .ok (.if_icmp .eq 156, 3) := by decide +kernel
theorem dL_law_516 : decode cL_law 516 = .ok (.iconst 0, 1) := by decide +kernel
theorem dL_law_517 : decode cL_law 517 = .ok (.ireturn, 1) := by decide +kernel
theorem dL_law_518 : decode cL_law 518 = .ok (.aload_n 1, 1) := by decide +kernel
theorem dL_law_519 : decode cL_law 519 = .ok (.aload_n 0, 1) := by decide +kernel
theorem dL_law_520 : decode cL_law 520 = .ok (.iload_n 3, 1) := by decide +kernel
theorem dL_law_521 : decode cL_law 521 = .ok (.iconst 1, 1) := by decide +kernel
theorem dL_law_522 : decode cL_law 522 = .ok (.iadd, 1) := by decide +kernel
theorem dL_law_523 : decode cL_law 523 = .ok (.iaload, 1) := by decide +kernel
theorem dL_law_524 : decode cL_law 524 = .ok (.i2l, 1) := by decide +kernel
theorem dL_law_525 : decode cL_law 525 = .ok (.bipush 32, 2) := by decide +kernel
theorem dL_law_527 : decode cL_law 527 = .ok (.lshl, 1) := by decide +kernel
theorem dL_law_528 : decode cL_law 528 = .ok (.aload_n 0, 1) := by decide +kernel
theorem dL_law_529 : decode cL_law 529 = .ok (.iload_n 3, 1) := by decide +kernel
theorem dL_law_530 : decode cL_law 530 = .ok (.iconst 2, 1) := by decide +kernel
theorem dL_law_531 : decode cL_law 531 = .ok (.iadd, 1) := by decide +kernel
theorem dL_law_532 : decode cL_law 532 = .ok (.iaload, 1) := by decide +kernel
theorem dL_law_533 : decode cL_law 533 = .ok (.i2l, 1) := by decide +kernel
theorem dL_law_534 : decode cL_law 534 = .ok (.ldc2_w 81, 3) := by decide +kernel
theorem dL_law_537 : decode cL_law 537 = .ok (.land, 1) := by decide +kernel
theorem dL_law_538 : decode cL_law 538 = .ok (.lor, 1) := by decide +kernel
theorem dL_law_539 : decode cL_law 539 = .ok (.invokevirtual 83, 3) := by decide +kernel
theorem dL_law_542 : decode cL_law 542 = .ok (.aload_n 2, 1) := by decide +kernel
theorem dL_law_543 : decode cL_law 543 = .ok (.aload_n 0, 1) := by decide +kernel
theorem dL_law_544 : decode cL_law 544 = .ok (.iload_n 3, 1) := by decide +kernel
theorem dL_law_545 : decode cL_law 545 = .ok (.iconst 1, 1) := by decide +kernel
theorem dL_law_546 : decode cL_law 546 = .ok (.iadd, 1) := by decide +kernel
theorem dL_law_547 : decode cL_law 547 = .ok (.iaload, 1) := by decide +kernel
theorem dL_law_548 : decode cL_law 548 = .ok (.i2l, 1) := by decide +kernel
theorem dL_law_549 : decode cL_law 549 = .ok (.bipush 32, 2) := by decide +kernel
theorem dL_law_551 : decode cL_law 551 = .ok (.lshl, 1) := by decide +kernel
theorem dL_law_552 : decode cL_law 552 = .ok (.aload_n 0, 1) := by decide +kernel
theorem dL_law_553 : decode cL_law 553 = .ok (.iload_n 3, 1) := by decide +kernel
theorem dL_law_554 : decode cL_law 554 = .ok (.iconst 2, 1) := by decide +kernel
theorem dL_law_555 : decode cL_law 555 = .ok (.iadd, 1) := by decide +kernel
theorem dL_law_556 : decode cL_law 556 = .ok (.iaload, 1) := by decide +kernel
theorem dL_law_557 : decode cL_law 557 = .ok (.i2l, 1) := by decide +kernel
theorem dL_law_558 : decode cL_law 558 = .ok (.ldc2_w 81, 3) := by decide +kernel
theorem dL_law_561 : decode cL_law 561 = .ok (.land, 1) := by decide +kernel
theorem dL_law_562 : decode cL_law 562 = .ok (.lor, 1) := by decide +kernel
theorem dL_law_563 : decode cL_law 563 = .ok (.invokevirtual 87, 3) := by decide +kernel
theorem dL_law_566 : decode cL_law 566 = .ok (.if_icmp .eq 103, 3) := by decide +kernel
theorem dL_law_569 : decode cL_law 569 = .ok (.iconst 0, 1) := by decide +kernel
theorem dL_law_570 : decode cL_law 570 = .ok (.ireturn, 1) := by decide +kernel
theorem dL_law_571 : decode cL_law 571 = .ok (.aload_n 1, 1) := by decide +kernel
theorem dL_law_572 : decode cL_law 572 = .ok (.invokevirtual 88, 3) := by decide +kernel
theorem dL_law_575 : decode cL_law 575 = .ok (.aload_n 2, 1) := by decide +kernel
theorem dL_law_576 : decode cL_law 576 = .ok (.invokevirtual 91, 3) := by decide +kernel
theorem dL_law_579 : decode cL_law 579 = .ok (.if_icmp .eq 90, 3) := by decide +kernel
theorem dL_law_582 : decode cL_law 582 = .ok (.iconst 0, 1) := by decide +kernel
theorem dL_law_583 : decode cL_law 583 = .ok (.ireturn, 1) := by decide +kernel
theorem dL_law_584 : decode cL_law 584 = .ok (.aload_n 1, 1) := by decide +kernel
theorem dL_law_585 : decode cL_law 585 = .ok (.invokevirtual 92, 3) := by decide +kernel
theorem dL_law_588 : decode cL_law 588 = .ok (.aload_n 2, 1) := by decide +kernel
theorem dL_law_589 : decode cL_law 589 = .ok (.invokevirtual 95, 3) := by decide +kernel
theorem dL_law_592 : decode cL_law 592 = .ok (.if_icmp .eq 77, 3) := by decide +kernel
theorem dL_law_595 : decode cL_law 595 = .ok (.iconst 0, 1) := by decide +kernel
theorem dL_law_596 : decode cL_law 596 = .ok (.ireturn, 1) := by decide +kernel
theorem dL_law_597 : decode cL_law 597 = .ok (.aload_n 1, 1) := by decide +kernel
theorem dL_law_598 : decode cL_law 598 = .ok (.invokevirtual 96, 3) := by decide +kernel
theorem dL_law_601 : decode cL_law 601 = .ok (.aload_n 2, 1) := by decide +kernel
theorem dL_law_602 : decode cL_law 602 = .ok (.invokevirtual 99, 3) := by decide +kernel
theorem dL_law_605 : decode cL_law 605 = .ok (.if_icmp .eq 64, 3) := by decide +kernel
theorem dL_law_608 : decode cL_law 608 = .ok (.iconst 0, 1) := by decide +kernel
theorem dL_law_609 : decode cL_law 609 = .ok (.ireturn, 1) := by decide +kernel
theorem dL_law_610 : decode cL_law 610 = .ok (.aload_n 1, 1) := by decide +kernel
theorem dL_law_611 : decode cL_law 611 = .ok (.invokevirtual 100, 3) := by decide +kernel
theorem dL_law_614 : decode cL_law 614 = .ok (.aload_n 2, 1) := by decide +kernel
theorem dL_law_615 : decode cL_law 615 = .ok (.invokevirtual 103, 3) := by decide +kernel
theorem dL_law_618 : decode cL_law 618 = .ok (.if_icmp .eq 51, 3) := by decide +kernel
theorem dL_law_621 : decode cL_law 621 = .ok (.iconst 0, 1) := by decide +kernel
theorem dL_law_622 : decode cL_law 622 = .ok (.ireturn, 1) := by decide +kernel
theorem dL_law_623 : decode cL_law 623 = .ok (.aload_n 1, 1) := by decide +kernel
theorem dL_law_624 : decode cL_law 624 = .ok (.aload_n 0, 1) := by decide +kernel
theorem dL_law_625 : decode cL_law 625 = .ok (.iload_n 3, 1) := by decide +kernel
theorem dL_law_626 : decode cL_law 626 = .ok (.iconst 1, 1) := by decide +kernel
theorem dL_law_627 : decode cL_law 627 = .ok (.iadd, 1) := by decide +kernel
theorem dL_law_628 : decode cL_law 628 = .ok (.iaload, 1) := by decide +kernel
theorem dL_law_629 : decode cL_law 629 = .ok (.invokevirtual 104, 3) := by decide +kernel
theorem dL_law_632 : decode cL_law 632 = .ok (.aload_n 2, 1) := by decide +kernel
theorem dL_law_633 : decode cL_law 633 = .ok (.aload_n 0, 1) := by decide +kernel
theorem dL_law_634 : decode cL_law 634 = .ok (.iload_n 3, 1) := by decide +kernel
theorem dL_law_635 : decode cL_law 635 = .ok (.iconst 1, 1) := by decide +kernel
theorem dL_law_636 : decode cL_law 636 = .ok (.iadd, 1) := by decide +kernel
theorem dL_law_637 : decode cL_law 637 = .ok (.iaload, 1) := by decide +kernel
theorem dL_law_638 : decode cL_law 638 = .ok (.invokevirtual 107, 3) := by decide +kernel
theorem dL_law_641 : decode cL_law 641 = .ok (.if_icmp .eq 28, 3) := by decide +kernel
theorem dL_law_644 : decode cL_law 644 = .ok (.iconst 0, 1) := by decide +kernel
theorem dL_law_645 : decode cL_law 645 = .ok (.ireturn, 1) := by decide +kernel
theorem dL_law_646 : decode cL_law 646 = .ok (.aload_n 1, 1) := by decide +kernel
theorem dL_law_647 : decode cL_law 647 = .ok (.aload_n 0, 1) := by decide +kernel
theorem dL_law_648 : decode cL_law 648 = .ok (.iload_n 3, 1) := by decide +kernel
theorem dL_law_649 : decode cL_law 649 = .ok (.iconst 1, 1) := by decide +kernel
theorem dL_law_650 : decode cL_law 650 = .ok (.iadd, 1) := by decide +kernel
theorem dL_law_651 : decode cL_law 651 = .ok (.iaload, 1) := by decide +kernel
theorem dL_law_652 : decode cL_law 652 = .ok (.invokevirtual 108, 3) := by decide +kernel
theorem dL_law_655 : decode cL_law 655 = .ok (.aload_n 2, 1) := by decide +kernel
theorem dL_law_656 : decode cL_law 656 = .ok (.aload_n 0, 1) := by decide +kernel
theorem dL_law_657 : decode cL_law 657 = .ok (.iload_n 3, 1) := by decide +kernel
theorem dL_law_658 : decode cL_law 658 = .ok (.iconst 1, 1) := by decide +kernel
theorem dL_law_659 : decode cL_law 659 = .ok (.iadd, 1) := by decide +kernel
theorem dL_law_660 : decode cL_law 660 = .ok (.iaload, 1) := by decide +kernel
theorem dL_law_661 : decode cL_law 661 = .ok (.invokevirtual 111, 3) := by decide +kernel
theorem dL_law_664 : decode cL_law 664 = .ok (.if_icmp .eq 5, 3) := by decide +kernel
theorem dL_law_667 : decode cL_law 667 = .ok (.iconst 0, 1) := by decide +kernel
theorem dL_law_668 : decode cL_law 668 = .ok (.ireturn, 1) := by decide +kernel
theorem dL_law_669 : decode cL_law 669 = .ok (.iinc 3 4, 3) := by decide +kernel
theorem dL_law_672 : decode cL_law 672 = .ok (.goto (-654), 3) := by decide +kernel
theorem dL_law_675 : decode cL_law 675 = .ok (.iconst 1, 1) := by decide +kernel
theorem dL_law_676 : decode cL_law 676 = .ok (.ireturn, 1) := by decide +kernel
end
section
def tb : List Cond := lw_tbl.filter goodWord
theorem tb_in {w : Cond} (h : w ∈ lw_tbl) (hg : goodWord w = true) : w ∈ tb := List.mem_filter.mpr ⟨h, hg⟩
theorem tb_of {w : Cond} (h : w ∈ tb) : w ∈ lw_tbl := (List.mem_filter.mp h).1
theorem tb_good {w : Cond} (h : w ∈ tb) : (w.onTables && w.keeps) = true ∨ ∃ ty, w = .arrayClass ty := good_of_word (List.mem_filter.mp h).2
theorem mt_0 : (Cond.initialized "SoftStairsLaw") ∈ tb := tb_in (List.mem_append_right _ (List.mem_append_left _ (List.mem_of_getElem? (l := tables_1_1) (i := 0) (by decide +kernel)))) (by decide +kernel)
theorem mt_1 : (Cond.initialized "SoftStairs") ∈ tb := tb_in (List.mem_append_right _ (List.mem_append_left _ (List.mem_of_getElem? (l := tables_1_1) (i := 1) (by decide +kernel)))) (by decide +kernel)
theorem mt_2 : (Cond.initialized "SoftStairs$Pad") ∈ tb := tb_in (List.mem_append_right _ (List.mem_append_left _ (List.mem_of_getElem? (l := tables_1_1) (i := 2) (by decide +kernel)))) (by decide +kernel)
theorem mt_3 : (Cond.initialized "SoftStairs$Reader") ∈ tb := tb_in (List.mem_append_right _ (List.mem_append_left _ (List.mem_of_getElem? (l := tables_1_1) (i := 3) (by decide +kernel)))) (by decide +kernel)
theorem mt_4 : (Cond.initialized "java/lang/String") ∈ tb := tb_in (List.mem_append_right _ (List.mem_append_left _ (List.mem_of_getElem? (l := tables_1_1) (i := 4) (by decide +kernel)))) (by decide +kernel)
theorem mt_5 : (Cond.initialized "java/lang/StringLatin1") ∈ tb := tb_in (List.mem_append_right _ (List.mem_append_left _ (List.mem_of_getElem? (l := tables_1_1) (i := 5) (by decide +kernel)))) (by decide +kernel)
theorem mt_6 : (Cond.initialized "java/lang/StringUTF16") ∈ tb := tb_in (List.mem_append_right _ (List.mem_append_left _ (List.mem_of_getElem? (l := tables_1_1) (i := 6) (by decide +kernel)))) (by decide +kernel)
theorem mt_7 : (Cond.initialized "jdk/internal/util/Preconditions") ∈ tb := tb_in (List.mem_append_right _ (List.mem_append_left _ (List.mem_of_getElem? (l := tables_1_1) (i := 7) (by decide +kernel)))) (by decide +kernel)
theorem mt_8 : (Cond.initialized "SoftStairs$Rule") ∈ tb := tb_in (List.mem_append_right _ (List.mem_append_left _ (List.mem_of_getElem? (l := tables_1_1) (i := 8) (by decide +kernel)))) (by decide +kernel)
theorem mt_9 : (Cond.initialized "java/lang/Math") ∈ tb := tb_in (List.mem_append_right _ (List.mem_append_left _ (List.mem_of_getElem? (l := tables_1_1) (i := 9) (by decide +kernel)))) (by decide +kernel)
theorem mt_10 : (Cond.initialized "SoftStairs$Stairs") ∈ tb := tb_in (List.mem_append_right _ (List.mem_append_left _ (List.mem_of_getElem? (l := tables_1_1) (i := 10) (by decide +kernel)))) (by decide +kernel)
theorem mt_11 : (Cond.initialized "java/lang/System") ∈ tb := tb_in (List.mem_append_right _ (List.mem_append_left _ (List.mem_of_getElem? (l := tables_1_1) (i := 11) (by decide +kernel)))) (by decide +kernel)
theorem mt_12 : (Cond.initialized "SoftStairs$History") ∈ tb := tb_in (List.mem_append_right _ (List.mem_append_left _ (List.mem_of_getElem? (l := tables_1_1) (i := 12) (by decide +kernel)))) (by decide +kernel)
theorem mt_13 : (Cond.initialized "SoftStairsModel") ∈ tb := tb_in (List.mem_append_right _ (List.mem_append_left _ (List.mem_of_getElem? (l := tables_1_1) (i := 13) (by decide +kernel)))) (by decide +kernel)
theorem mt_14 : (Cond.initialized "java/lang/Long") ∈ tb := tb_in (List.mem_append_right _ (List.mem_append_left _ (List.mem_of_getElem? (l := tables_1_1) (i := 14) (by decide +kernel)))) (by decide +kernel)
theorem mt_15 : (Cond.initialized "java/lang/Integer") ∈ tb := tb_in (List.mem_append_right _ (List.mem_append_left _ (List.mem_of_getElem? (l := tables_1_1) (i := 15) (by decide +kernel)))) (by decide +kernel)
theorem mt_16 : (Cond.classLink "SoftStairsLaw" (7 : Nat) "SoftStairs") ∈ tb := tb_in (List.mem_append_right _ (List.mem_append_left _ (List.mem_of_getElem? (l := tables_1_1) (i := 16) (by decide +kernel)))) (by decide +kernel)
theorem mt_17 : (Cond.instantiable "SoftStairs" (7 : Nat)) ∈ tb := tb_in (List.mem_append_right _ (List.mem_append_left _ (List.mem_of_getElem? (l := tables_1_1) (i := 17) (by decide +kernel)))) (by decide +kernel)
theorem mt_18 : (Cond.methodLink "SoftStairsLaw" (9 : Nat) ({ cls := "SoftStairs", name := "<init>", desc := "()V" } : MethodName)) ∈ tb := tb_in (List.mem_append_right _ (List.mem_append_left _ (List.mem_of_getElem? (l := tables_1_1) (i := 18) (by decide +kernel)))) (by decide +kernel)
theorem mt_19 : (Cond.instanceMethod ({ cls := "SoftStairs", name := "<init>", desc := "()V" } : MethodName)) ∈ tb := tb_in (List.mem_append_right _ (List.mem_append_left _ (List.mem_of_getElem? (l := tables_1_1) (i := 19) (by decide +kernel)))) (by decide +kernel)
theorem mt_20 : (Cond.code ({ cls := "SoftStairs", name := "<init>", desc := "()V" } : MethodName) prog_1_method_1_code (3 : Nat) (Option.none : Option FieldType)) ∈ tb := tb_in (List.mem_append_right _ (List.mem_append_left _ (List.mem_of_getElem? (l := tables_1_1) (i := 20) (by decide +kernel)))) (by decide +kernel)
theorem mt_21 : (Cond.methodLink "SoftStairs" (1 : Nat) ({ cls := "java/lang/Object", name := "<init>", desc := "()V" } : MethodName)) ∈ tb := tb_in (List.mem_append_right _ (List.mem_append_left _ (List.mem_of_getElem? (l := tables_1_1) (i := 21) (by decide +kernel)))) (by decide +kernel)
theorem mt_22 : (Cond.instanceMethod ({ cls := "java/lang/Object", name := "<init>", desc := "()V" } : MethodName)) ∈ tb := tb_in (List.mem_append_right _ (List.mem_append_left _ (List.mem_of_getElem? (l := tables_1_1) (i := 22) (by decide +kernel)))) (by decide +kernel)
theorem mt_23 : (Cond.code ({ cls := "java/lang/Object", name := "<init>", desc := "()V" } : MethodName) object_method_1_code (1 : Nat) (Option.none : Option FieldType)) ∈ tb := tb_in (List.mem_append_right _ (List.mem_append_left _ (List.mem_of_getElem? (l := tables_1_1) (i := 23) (by decide +kernel)))) (by decide +kernel)
theorem mt_24 : (Cond.classLink "SoftStairs" (7 : Nat) "SoftStairs$Pad") ∈ tb := tb_in (List.mem_append_right _ (List.mem_append_left _ (List.mem_of_getElem? (l := tables_1_1) (i := 24) (by decide +kernel)))) (by decide +kernel)
theorem mt_25 : (Cond.instantiable "SoftStairs$Pad" (2 : Nat)) ∈ tb := tb_in (List.mem_append_right _ (List.mem_append_left _ (List.mem_of_getElem? (l := tables_1_1) (i := 25) (by decide +kernel)))) (by decide +kernel)
theorem ml_26 : (Cond.methodLinkNest "SoftStairs" (9 : Nat) ({ cls := "SoftStairs$Pad", name := "<init>", desc := "()V" } : MethodName) "SoftStairs") ∈ lw_tbl := List.mem_append_right _ (List.mem_append_left _ (List.mem_of_getElem? (l := tables_1_1) (i := 26) (by decide +kernel)))
theorem mt_27 : (Cond.instanceMethod ({ cls := "SoftStairs$Pad", name := "<init>", desc := "()V" } : MethodName)) ∈ tb := tb_in (List.mem_append_right _ (List.mem_append_left _ (List.mem_of_getElem? (l := tables_1_1) (i := 27) (by decide +kernel)))) (by decide +kernel)
theorem mt_28 : (Cond.code ({ cls := "SoftStairs$Pad", name := "<init>", desc := "()V" } : MethodName) prog_3_method_1_code (1 : Nat) (Option.none : Option FieldType)) ∈ tb := tb_in (List.mem_append_right _ (List.mem_append_left _ (List.mem_of_getElem? (l := tables_1_1) (i := 28) (by decide +kernel)))) (by decide +kernel)
theorem mt_29 : (Cond.methodLink "SoftStairs$Pad" (3 : Nat) ({ cls := "java/lang/Object", name := "<init>", desc := "()V" } : MethodName)) ∈ tb := tb_in (List.mem_append_right _ (List.mem_append_left _ (List.mem_of_getElem? (l := tables_1_1) (i := 29) (by decide +kernel)))) (by decide +kernel)
theorem mt_30 : (Cond.fieldLink "SoftStairs$Pad" (9 : Nat) "SoftStairs$Pad" "text" "[C") ∈ tb := tb_in (List.mem_append_right _ (List.mem_append_left _ (List.mem_of_getElem? (l := tables_1_1) (i := 30) (by decide +kernel)))) (by decide +kernel)
theorem mt_31 : (Cond.fieldLink "SoftStairs" (195 : Nat) "SoftStairs$Pad" "text" "[C") ∈ tb := tb_in (List.mem_append_right _ (List.mem_append_left _ (List.mem_of_getElem? (l := tables_1_1) (i := 31) (by decide +kernel)))) (by decide +kernel)
theorem mt_32 : (Cond.fieldLink "SoftStairs$Pad" (21 : Nat) "SoftStairs$Pad" "length" "I") ∈ tb := tb_in (List.mem_append_right _ (List.mem_append_left _ (List.mem_of_getElem? (l := tables_1_1) (i := 32) (by decide +kernel)))) (by decide +kernel)
theorem mt_33 : (Cond.fieldLink "SoftStairs" (157 : Nat) "SoftStairs$Pad" "length" "I") ∈ tb := tb_in (List.mem_append_right _ (List.mem_append_left _ (List.mem_of_getElem? (l := tables_1_1) (i := 33) (by decide +kernel)))) (by decide +kernel)
theorem mt_34 : (Cond.laysFinal "SoftStairs$Pad" "SoftStairs$Pad" "text" "[C") ∈ tb := tb_in (List.mem_append_right _ (List.mem_append_left _ (List.mem_of_getElem? (l := tables_1_1) (i := 34) (by decide +kernel)))) (by decide +kernel)
theorem mt_35 : (Cond.soleField "SoftStairs$Pad" "text") ∈ tb := tb_in (List.mem_append_right _ (List.mem_append_left _ (List.mem_of_getElem? (l := tables_1_1) (i := 35) (by decide +kernel)))) (by decide +kernel)
theorem mt_36 : (Cond.lays "SoftStairs$Pad" "SoftStairs$Pad" "length" "I") ∈ tb := tb_in (List.mem_append_right _ (List.mem_append_left _ (List.mem_of_getElem? (l := tables_1_1) (i := 36) (by decide +kernel)))) (by decide +kernel)
theorem mt_37 : (Cond.soleField "SoftStairs$Pad" "length") ∈ tb := tb_in (List.mem_append_right _ (List.mem_append_left _ (List.mem_of_getElem? (l := tables_1_1) (i := 37) (by decide +kernel)))) (by decide +kernel)
theorem mt_38 : (Cond.superclass "SoftStairs$Pad" "java/lang/Object") ∈ tb := tb_in (List.mem_append_right _ (List.mem_append_left _ (List.mem_of_getElem? (l := tables_1_1) (i := 38) (by decide +kernel)))) (by decide +kernel)
theorem mt_39 : (Cond.arrayClass FieldType.char) ∈ tb := tb_in (List.mem_append_right _ (List.mem_append_left _ (List.mem_of_getElem? (l := tables_1_1) (i := 39) (by decide +kernel)))) (by decide +kernel)
theorem mt_40 : (Cond.classLink "SoftStairs" (16 : Nat) "SoftStairs$Reader") ∈ tb := tb_in (List.mem_append_right _ (List.mem_append_left _ (List.mem_of_getElem? (l := tables_1_1) (i := 40) (by decide +kernel)))) (by decide +kernel)
theorem mt_41 : (Cond.instantiable "SoftStairs$Reader" (4 : Nat)) ∈ tb := tb_in (List.mem_append_right _ (List.mem_append_left _ (List.mem_of_getElem? (l := tables_1_1) (i := 41) (by decide +kernel)))) (by decide +kernel)
theorem ml_42 : (Cond.methodLinkNest "SoftStairs" (18 : Nat) ({ cls := "SoftStairs$Reader", name := "<init>", desc := "()V" } : MethodName) "SoftStairs") ∈ lw_tbl := List.mem_append_right _ (List.mem_append_left _ (List.mem_of_getElem? (l := tables_1_1) (i := 42) (by decide +kernel)))
theorem mt_43 : (Cond.instanceMethod ({ cls := "SoftStairs$Reader", name := "<init>", desc := "()V" } : MethodName)) ∈ tb := tb_in (List.mem_append_right _ (List.mem_append_left _ (List.mem_of_getElem? (l := tables_1_1) (i := 43) (by decide +kernel)))) (by decide +kernel)
theorem mt_44 : (Cond.code ({ cls := "SoftStairs$Reader", name := "<init>", desc := "()V" } : MethodName) prog_4_method_1_code (1 : Nat) (Option.none : Option FieldType)) ∈ tb := tb_in (List.mem_append_right _ (List.mem_append_left _ (List.mem_of_getElem? (l := tables_1_1) (i := 44) (by decide +kernel)))) (by decide +kernel)
theorem mt_45 : (Cond.methodLink "SoftStairs$Reader" (3 : Nat) ({ cls := "java/lang/Object", name := "<init>", desc := "()V" } : MethodName)) ∈ tb := tb_in (List.mem_append_right _ (List.mem_append_left _ (List.mem_of_getElem? (l := tables_1_1) (i := 45) (by decide +kernel)))) (by decide +kernel)
theorem mt_46 : (Cond.fieldLink "SoftStairs$Reader" (9 : Nat) "SoftStairs$Reader" "waiting" "[C") ∈ tb := tb_in (List.mem_append_right _ (List.mem_append_left _ (List.mem_of_getElem? (l := tables_1_1) (i := 46) (by decide +kernel)))) (by decide +kernel)
theorem mt_47 : (Cond.fieldLink "SoftStairs$Reader" (15 : Nat) "SoftStairs$Reader" "free" "[I") ∈ tb := tb_in (List.mem_append_right _ (List.mem_append_left _ (List.mem_of_getElem? (l := tables_1_1) (i := 47) (by decide +kernel)))) (by decide +kernel)
theorem mt_48 : (Cond.fieldLink "SoftStairs$Reader" (22 : Nat) "SoftStairs$Reader" "waitingSigns" "I") ∈ tb := tb_in (List.mem_append_right _ (List.mem_append_left _ (List.mem_of_getElem? (l := tables_1_1) (i := 48) (by decide +kernel)))) (by decide +kernel)
theorem mt_49 : (Cond.fieldLink "SoftStairs$Reader" (26 : Nat) "SoftStairs$Reader" "freeParts" "I") ∈ tb := tb_in (List.mem_append_right _ (List.mem_append_left _ (List.mem_of_getElem? (l := tables_1_1) (i := 49) (by decide +kernel)))) (by decide +kernel)
theorem mt_50 : (Cond.laysFinal "SoftStairs$Reader" "SoftStairs$Reader" "waiting" "[C") ∈ tb := tb_in (List.mem_append_right _ (List.mem_append_left _ (List.mem_of_getElem? (l := tables_1_1) (i := 50) (by decide +kernel)))) (by decide +kernel)
theorem mt_51 : (Cond.soleField "SoftStairs$Reader" "waiting") ∈ tb := tb_in (List.mem_append_right _ (List.mem_append_left _ (List.mem_of_getElem? (l := tables_1_1) (i := 51) (by decide +kernel)))) (by decide +kernel)
theorem mt_52 : (Cond.laysFinal "SoftStairs$Reader" "SoftStairs$Reader" "free" "[I") ∈ tb := tb_in (List.mem_append_right _ (List.mem_append_left _ (List.mem_of_getElem? (l := tables_1_1) (i := 52) (by decide +kernel)))) (by decide +kernel)
theorem mt_53 : (Cond.soleField "SoftStairs$Reader" "free") ∈ tb := tb_in (List.mem_append_right _ (List.mem_append_left _ (List.mem_of_getElem? (l := tables_1_1) (i := 53) (by decide +kernel)))) (by decide +kernel)
theorem mt_54 : (Cond.lays "SoftStairs$Reader" "SoftStairs$Reader" "waitingSigns" "I") ∈ tb := tb_in (List.mem_append_right _ (List.mem_append_left _ (List.mem_of_getElem? (l := tables_1_1) (i := 54) (by decide +kernel)))) (by decide +kernel)
theorem mt_55 : (Cond.soleField "SoftStairs$Reader" "waitingSigns") ∈ tb := tb_in (List.mem_append_right _ (List.mem_append_left _ (List.mem_of_getElem? (l := tables_1_1) (i := 55) (by decide +kernel)))) (by decide +kernel)
theorem mt_56 : (Cond.lays "SoftStairs$Reader" "SoftStairs$Reader" "freeParts" "I") ∈ tb := tb_in (List.mem_append_right _ (List.mem_append_left _ (List.mem_of_getElem? (l := tables_1_1) (i := 56) (by decide +kernel)))) (by decide +kernel)
theorem mt_57 : (Cond.soleField "SoftStairs$Reader" "freeParts") ∈ tb := tb_in (List.mem_append_right _ (List.mem_append_left _ (List.mem_of_getElem? (l := tables_1_1) (i := 57) (by decide +kernel)))) (by decide +kernel)
theorem mt_58 : (Cond.superclass "SoftStairs$Reader" "java/lang/Object") ∈ tb := tb_in (List.mem_append_right _ (List.mem_append_left _ (List.mem_of_getElem? (l := tables_1_1) (i := 58) (by decide +kernel)))) (by decide +kernel)
theorem mt_59 : (Cond.arrayClass FieldType.int) ∈ tb := tb_in (List.mem_append_right _ (List.mem_append_left _ (List.mem_of_getElem? (l := tables_1_1) (i := 59) (by decide +kernel)))) (by decide +kernel)
theorem mt_60 : (Cond.classLink "SoftStairs" (23 : Nat) "SoftStairs$Stairs") ∈ tb := tb_in (List.mem_append_right _ (List.mem_append_left _ (List.mem_of_getElem? (l := tables_1_1) (i := 60) (by decide +kernel)))) (by decide +kernel)
theorem ml_61 : (Cond.arrayOver (FieldType.object "SoftStairs$Stairs")) ∈ lw_tbl := List.mem_append_right _ (List.mem_append_left _ (List.mem_of_getElem? (l := tables_1_1) (i := 61) (by decide +kernel)))
theorem ml_62 : (Cond.stringRef "SoftStairs" (33 : Nat) "A|B|C|D") ∈ lw_tbl := List.mem_append_right _ (List.mem_append_left _ (List.mem_of_getElem? (l := tables_1_1) (i := 62) (by decide +kernel)))
theorem mt_63 : (Cond.methodLink "SoftStairs" (35 : Nat) ({ cls := "java/lang/String", name := "toCharArray", desc := "()[C" } : MethodName)) ∈ tb := tb_in (List.mem_append_right _ (List.mem_append_left _ (List.mem_of_getElem? (l := tables_1_1) (i := 63) (by decide +kernel)))) (by decide +kernel)
theorem mt_64 : (Cond.instanceMethod ({ cls := "java/lang/String", name := "toCharArray", desc := "()[C" } : MethodName)) ∈ tb := tb_in (List.mem_append_right _ (List.mem_append_left _ (List.mem_of_getElem? (l := tables_1_1) (i := 64) (by decide +kernel)))) (by decide +kernel)
theorem mt_65 : (Cond.selects "java/lang/String" ({ cls := "java/lang/String", name := "toCharArray", desc := "()[C" } : MethodName) ({ cls := "java/lang/String", name := "toCharArray", desc := "()[C" } : MethodName)) ∈ tb := tb_in (List.mem_append_right _ (List.mem_append_left _ (List.mem_of_getElem? (l := tables_1_1) (i := 65) (by decide +kernel)))) (by decide +kernel)
theorem mt_66 : (Cond.code ({ cls := "java/lang/String", name := "toCharArray", desc := "()[C" } : MethodName) prog_12_method_129_code (1 : Nat) (Option.some (FieldType.array FieldType.char))) ∈ tb := tb_in (List.mem_append_right _ (List.mem_append_left _ (List.mem_of_getElem? (l := tables_1_1) (i := 66) (by decide +kernel)))) (by decide +kernel)
theorem mt_67 : (Cond.methodLink "java/lang/String" (492 : Nat) ({ cls := "java/lang/String", name := "isLatin1", desc := "()Z" } : MethodName)) ∈ tb := tb_in (List.mem_append_right _ (List.mem_append_left _ (List.mem_of_getElem? (l := tables_1_1) (i := 67) (by decide +kernel)))) (by decide +kernel)
theorem mt_68 : (Cond.instanceMethod ({ cls := "java/lang/String", name := "isLatin1", desc := "()Z" } : MethodName)) ∈ tb := tb_in (List.mem_append_right _ (List.mem_append_left _ (List.mem_of_getElem? (l := tables_1_1) (i := 68) (by decide +kernel)))) (by decide +kernel)
theorem mt_69 : (Cond.selects "java/lang/String" ({ cls := "java/lang/String", name := "isLatin1", desc := "()Z" } : MethodName) ({ cls := "java/lang/String", name := "isLatin1", desc := "()Z" } : MethodName)) ∈ tb := tb_in (List.mem_append_right _ (List.mem_append_left _ (List.mem_of_getElem? (l := tables_1_1) (i := 69) (by decide +kernel)))) (by decide +kernel)
theorem mt_70 : (Cond.code ({ cls := "java/lang/String", name := "isLatin1", desc := "()Z" } : MethodName) prog_12_method_154_code (1 : Nat) (Option.some FieldType.boolean)) ∈ tb := tb_in (List.mem_append_right _ (List.mem_append_left _ (List.mem_of_getElem? (l := tables_1_1) (i := 70) (by decide +kernel)))) (by decide +kernel)
theorem mt_71 : (Cond.fieldLink "java/lang/String" (38 : Nat) "java/lang/String" "COMPACT_STRINGS" "Z") ∈ tb := tb_in (List.mem_append_right _ (List.mem_append_left _ (List.mem_of_getElem? (l := tables_1_1) (i := 71) (by decide +kernel)))) (by decide +kernel)
theorem ml_72 : (Cond.laysStatic "java/lang/String" "COMPACT_STRINGS" "Z") ∈ lw_tbl := List.mem_append_right _ (List.mem_append_left _ (List.mem_of_getElem? (l := tables_1_1) (i := 72) (by decide +kernel)))
theorem mt_73 : (Cond.methodLink "java/lang/String" (299 : Nat) ({ cls := "java/lang/StringLatin1", name := "toChars", desc := "([B)[C" } : MethodName)) ∈ tb := tb_in (List.mem_append_right _ (List.mem_append_left _ (List.mem_of_getElem? (l := tables_1_1) (i := 73) (by decide +kernel)))) (by decide +kernel)
theorem mt_74 : (Cond.static ({ cls := "java/lang/StringLatin1", name := "toChars", desc := "([B)[C" } : MethodName)) ∈ tb := tb_in (List.mem_append_right _ (List.mem_append_left _ (List.mem_of_getElem? (l := tables_1_1) (i := 74) (by decide +kernel)))) (by decide +kernel)
theorem mt_75 : (Cond.code ({ cls := "java/lang/StringLatin1", name := "toChars", desc := "([B)[C" } : MethodName) prog_13_method_9_code (2 : Nat) (Option.some (FieldType.array FieldType.char))) ∈ tb := tb_in (List.mem_append_right _ (List.mem_append_left _ (List.mem_of_getElem? (l := tables_1_1) (i := 75) (by decide +kernel)))) (by decide +kernel)
theorem mt_76 : (Cond.methodLink "java/lang/StringLatin1" (13 : Nat) ({ cls := "java/lang/StringLatin1", name := "inflate", desc := "([BI[CII)V" } : MethodName)) ∈ tb := tb_in (List.mem_append_right _ (List.mem_append_left _ (List.mem_of_getElem? (l := tables_1_1) (i := 76) (by decide +kernel)))) (by decide +kernel)
theorem mt_77 : (Cond.static ({ cls := "java/lang/StringLatin1", name := "inflate", desc := "([BI[CII)V" } : MethodName)) ∈ tb := tb_in (List.mem_append_right _ (List.mem_append_left _ (List.mem_of_getElem? (l := tables_1_1) (i := 77) (by decide +kernel)))) (by decide +kernel)
theorem mt_78 : (Cond.code ({ cls := "java/lang/StringLatin1", name := "inflate", desc := "([BI[CII)V" } : MethodName) prog_13_method_49_code (6 : Nat) (Option.none : Option FieldType)) ∈ tb := tb_in (List.mem_append_right _ (List.mem_append_left _ (List.mem_of_getElem? (l := tables_1_1) (i := 78) (by decide +kernel)))) (by decide +kernel)
theorem mt_79 : (Cond.methodLink "java/lang/String" (303 : Nat) ({ cls := "java/lang/StringUTF16", name := "toChars", desc := "([B)[C" } : MethodName)) ∈ tb := tb_in (List.mem_append_right _ (List.mem_append_left _ (List.mem_of_getElem? (l := tables_1_1) (i := 79) (by decide +kernel)))) (by decide +kernel)
theorem mt_80 : (Cond.static ({ cls := "java/lang/StringUTF16", name := "toChars", desc := "([B)[C" } : MethodName)) ∈ tb := tb_in (List.mem_append_right _ (List.mem_append_left _ (List.mem_of_getElem? (l := tables_1_1) (i := 80) (by decide +kernel)))) (by decide +kernel)
theorem mt_81 : (Cond.code ({ cls := "java/lang/StringUTF16", name := "toChars", desc := "([B)[C" } : MethodName) prog_14_method_13_code (2 : Nat) (Option.some (FieldType.array FieldType.char))) ∈ tb := tb_in (List.mem_append_right _ (List.mem_append_left _ (List.mem_of_getElem? (l := tables_1_1) (i := 81) (by decide +kernel)))) (by decide +kernel)
theorem mt_82 : (Cond.methodLink "java/lang/StringUTF16" (103 : Nat) ({ cls := "java/lang/StringUTF16", name := "getChars", desc := "([BII[CI)V" } : MethodName)) ∈ tb := tb_in (List.mem_append_right _ (List.mem_append_left _ (List.mem_of_getElem? (l := tables_1_1) (i := 82) (by decide +kernel)))) (by decide +kernel)
theorem mt_83 : (Cond.static ({ cls := "java/lang/StringUTF16", name := "getChars", desc := "([BII[CI)V" } : MethodName)) ∈ tb := tb_in (List.mem_append_right _ (List.mem_append_left _ (List.mem_of_getElem? (l := tables_1_1) (i := 83) (by decide +kernel)))) (by decide +kernel)
theorem mt_84 : (Cond.code ({ cls := "java/lang/StringUTF16", name := "getChars", desc := "([BII[CI)V" } : MethodName) prog_14_method_26_code (6 : Nat) (Option.none : Option FieldType)) ∈ tb := tb_in (List.mem_append_right _ (List.mem_append_left _ (List.mem_of_getElem? (l := tables_1_1) (i := 84) (by decide +kernel)))) (by decide +kernel)
theorem mt_85 : (Cond.methodLink "java/lang/StringUTF16" (173 : Nat) ({ cls := "java/lang/StringUTF16", name := "checkBoundsOffCount", desc := "(II[B)V" } : MethodName)) ∈ tb := tb_in (List.mem_append_right _ (List.mem_append_left _ (List.mem_of_getElem? (l := tables_1_1) (i := 85) (by decide +kernel)))) (by decide +kernel)
theorem mt_86 : (Cond.static ({ cls := "java/lang/StringUTF16", name := "checkBoundsOffCount", desc := "(II[B)V" } : MethodName)) ∈ tb := tb_in (List.mem_append_right _ (List.mem_append_left _ (List.mem_of_getElem? (l := tables_1_1) (i := 86) (by decide +kernel)))) (by decide +kernel)
theorem mt_87 : (Cond.code ({ cls := "java/lang/StringUTF16", name := "checkBoundsOffCount", desc := "(II[B)V" } : MethodName) prog_14_method_94_code (3 : Nat) (Option.none : Option FieldType)) ∈ tb := tb_in (List.mem_append_right _ (List.mem_append_left _ (List.mem_of_getElem? (l := tables_1_1) (i := 87) (by decide +kernel)))) (by decide +kernel)
theorem mt_88 : (Cond.methodLink "java/lang/StringUTF16" (48 : Nat) ({ cls := "java/lang/StringUTF16", name := "length", desc := "([B)I" } : MethodName)) ∈ tb := tb_in (List.mem_append_right _ (List.mem_append_left _ (List.mem_of_getElem? (l := tables_1_1) (i := 88) (by decide +kernel)))) (by decide +kernel)
theorem mt_89 : (Cond.static ({ cls := "java/lang/StringUTF16", name := "length", desc := "([B)I" } : MethodName)) ∈ tb := tb_in (List.mem_append_right _ (List.mem_append_left _ (List.mem_of_getElem? (l := tables_1_1) (i := 89) (by decide +kernel)))) (by decide +kernel)
theorem mt_90 : (Cond.code ({ cls := "java/lang/StringUTF16", name := "length", desc := "([B)I" } : MethodName) prog_14_method_6_code (1 : Nat) (Option.some FieldType.int)) ∈ tb := tb_in (List.mem_append_right _ (List.mem_append_left _ (List.mem_of_getElem? (l := tables_1_1) (i := 90) (by decide +kernel)))) (by decide +kernel)
theorem mt_91 : (Cond.methodLink "java/lang/StringUTF16" (419 : Nat) ({ cls := "java/lang/String", name := "checkBoundsOffCount", desc := "(III)I" } : MethodName)) ∈ tb := tb_in (List.mem_append_right _ (List.mem_append_left _ (List.mem_of_getElem? (l := tables_1_1) (i := 91) (by decide +kernel)))) (by decide +kernel)
theorem mt_92 : (Cond.static ({ cls := "java/lang/String", name := "checkBoundsOffCount", desc := "(III)I" } : MethodName)) ∈ tb := tb_in (List.mem_append_right _ (List.mem_append_left _ (List.mem_of_getElem? (l := tables_1_1) (i := 92) (by decide +kernel)))) (by decide +kernel)
theorem mt_93 : (Cond.code ({ cls := "java/lang/String", name := "checkBoundsOffCount", desc := "(III)I" } : MethodName) prog_12_method_157_code (3 : Nat) (Option.some FieldType.int)) ∈ tb := tb_in (List.mem_append_right _ (List.mem_append_left _ (List.mem_of_getElem? (l := tables_1_1) (i := 93) (by decide +kernel)))) (by decide +kernel)
theorem mt_94 : (Cond.fieldLink "java/lang/String" (1053 : Nat) "jdk/internal/util/Preconditions" "SIOOBE_FORMATTER" "Ljava/util/function/BiFunction;") ∈ tb := tb_in (List.mem_append_right _ (List.mem_append_left _ (List.mem_of_getElem? (l := tables_1_1) (i := 94) (by decide +kernel)))) (by decide +kernel)
theorem ml_95 : (Cond.laysStatic "jdk/internal/util/Preconditions" "SIOOBE_FORMATTER" "Ljava/util/function/BiFunction;") ∈ lw_tbl := List.mem_append_right _ (List.mem_append_left _ (List.mem_of_getElem? (l := tables_1_1) (i := 95) (by decide +kernel)))
theorem mt_96 : (Cond.methodLink "java/lang/String" (1065 : Nat) ({ cls := "jdk/internal/util/Preconditions", name := "checkFromIndexSize", desc := "(IIILjava/util/function/BiFunction;)I" } : MethodName)) ∈ tb := tb_in (List.mem_append_right _ (List.mem_append_left _ (List.mem_of_getElem? (l := tables_1_1) (i := 96) (by decide +kernel)))) (by decide +kernel)
theorem mt_97 : (Cond.static ({ cls := "jdk/internal/util/Preconditions", name := "checkFromIndexSize", desc := "(IIILjava/util/function/BiFunction;)I" } : MethodName)) ∈ tb := tb_in (List.mem_append_right _ (List.mem_append_left _ (List.mem_of_getElem? (l := tables_1_1) (i := 97) (by decide +kernel)))) (by decide +kernel)
theorem mt_98 : (Cond.code ({ cls := "jdk/internal/util/Preconditions", name := "checkFromIndexSize", desc := "(IIILjava/util/function/BiFunction;)I" } : MethodName) prog_16_method_13_code (4 : Nat) (Option.some FieldType.int)) ∈ tb := tb_in (List.mem_append_right _ (List.mem_append_left _ (List.mem_of_getElem? (l := tables_1_1) (i := 98) (by decide +kernel)))) (by decide +kernel)
theorem mt_99 : (Cond.methodLink "java/lang/StringUTF16" (71 : Nat) ({ cls := "java/lang/StringUTF16", name := "getChar", desc := "([BI)C" } : MethodName)) ∈ tb := tb_in (List.mem_append_right _ (List.mem_append_left _ (List.mem_of_getElem? (l := tables_1_1) (i := 99) (by decide +kernel)))) (by decide +kernel)
theorem mt_100 : (Cond.static ({ cls := "java/lang/StringUTF16", name := "getChar", desc := "([BI)C" } : MethodName)) ∈ tb := tb_in (List.mem_append_right _ (List.mem_append_left _ (List.mem_of_getElem? (l := tables_1_1) (i := 100) (by decide +kernel)))) (by decide +kernel)
theorem mt_101 : (Cond.code ({ cls := "java/lang/StringUTF16", name := "getChar", desc := "([BI)C" } : MethodName) prog_14_method_5_code (2 : Nat) (Option.some FieldType.char)) ∈ tb := tb_in (List.mem_append_right _ (List.mem_append_left _ (List.mem_of_getElem? (l := tables_1_1) (i := 101) (by decide +kernel)))) (by decide +kernel)
theorem mt_102 : (Cond.fieldLink "java/lang/StringUTF16" (44 : Nat) "java/lang/StringUTF16" "$assertionsDisabled" "Z") ∈ tb := tb_in (List.mem_append_right _ (List.mem_append_left _ (List.mem_of_getElem? (l := tables_1_1) (i := 102) (by decide +kernel)))) (by decide +kernel)
theorem ml_103 : (Cond.laysStatic "java/lang/StringUTF16" "$assertionsDisabled" "Z") ∈ lw_tbl := List.mem_append_right _ (List.mem_append_left _ (List.mem_of_getElem? (l := tables_1_1) (i := 103) (by decide +kernel)))
theorem mt_104 : (Cond.fieldLink "java/lang/StringUTF16" (59 : Nat) "java/lang/StringUTF16" "HI_BYTE_SHIFT" "I") ∈ tb := tb_in (List.mem_append_right _ (List.mem_append_left _ (List.mem_of_getElem? (l := tables_1_1) (i := 104) (by decide +kernel)))) (by decide +kernel)
theorem ml_105 : (Cond.laysStatic "java/lang/StringUTF16" "HI_BYTE_SHIFT" "I") ∈ lw_tbl := List.mem_append_right _ (List.mem_append_left _ (List.mem_of_getElem? (l := tables_1_1) (i := 105) (by decide +kernel)))
theorem mt_106 : (Cond.fieldLink "java/lang/StringUTF16" (63 : Nat) "java/lang/StringUTF16" "LO_BYTE_SHIFT" "I") ∈ tb := tb_in (List.mem_append_right _ (List.mem_append_left _ (List.mem_of_getElem? (l := tables_1_1) (i := 106) (by decide +kernel)))) (by decide +kernel)
theorem ml_107 : (Cond.laysStatic "java/lang/StringUTF16" "LO_BYTE_SHIFT" "I") ∈ lw_tbl := List.mem_append_right _ (List.mem_append_left _ (List.mem_of_getElem? (l := tables_1_1) (i := 107) (by decide +kernel)))
theorem mt_108 : (Cond.methodLink "SoftStairs" (41 : Nat) ({ cls := "java/lang/String", name := "length", desc := "()I" } : MethodName)) ∈ tb := tb_in (List.mem_append_right _ (List.mem_append_left _ (List.mem_of_getElem? (l := tables_1_1) (i := 108) (by decide +kernel)))) (by decide +kernel)
theorem mt_109 : (Cond.instanceMethod ({ cls := "java/lang/String", name := "length", desc := "()I" } : MethodName)) ∈ tb := tb_in (List.mem_append_right _ (List.mem_append_left _ (List.mem_of_getElem? (l := tables_1_1) (i := 109) (by decide +kernel)))) (by decide +kernel)
theorem mt_110 : (Cond.selects "java/lang/String" ({ cls := "java/lang/String", name := "length", desc := "()I" } : MethodName) ({ cls := "java/lang/String", name := "length", desc := "()I" } : MethodName)) ∈ tb := tb_in (List.mem_append_right _ (List.mem_append_left _ (List.mem_of_getElem? (l := tables_1_1) (i := 110) (by decide +kernel)))) (by decide +kernel)
theorem mt_111 : (Cond.code ({ cls := "java/lang/String", name := "length", desc := "()I" } : MethodName) prog_12_method_54_code (1 : Nat) (Option.some FieldType.int)) ∈ tb := tb_in (List.mem_append_right _ (List.mem_append_left _ (List.mem_of_getElem? (l := tables_1_1) (i := 111) (by decide +kernel)))) (by decide +kernel)
theorem mt_112 : (Cond.methodLink "java/lang/String" (335 : Nat) ({ cls := "java/lang/String", name := "coder", desc := "()B" } : MethodName)) ∈ tb := tb_in (List.mem_append_right _ (List.mem_append_left _ (List.mem_of_getElem? (l := tables_1_1) (i := 112) (by decide +kernel)))) (by decide +kernel)
theorem mt_113 : (Cond.instanceMethod ({ cls := "java/lang/String", name := "coder", desc := "()B" } : MethodName)) ∈ tb := tb_in (List.mem_append_right _ (List.mem_append_left _ (List.mem_of_getElem? (l := tables_1_1) (i := 113) (by decide +kernel)))) (by decide +kernel)
theorem mt_114 : (Cond.selects "java/lang/String" ({ cls := "java/lang/String", name := "coder", desc := "()B" } : MethodName) ({ cls := "java/lang/String", name := "coder", desc := "()B" } : MethodName)) ∈ tb := tb_in (List.mem_append_right _ (List.mem_append_left _ (List.mem_of_getElem? (l := tables_1_1) (i := 114) (by decide +kernel)))) (by decide +kernel)
theorem mt_115 : (Cond.code ({ cls := "java/lang/String", name := "coder", desc := "()B" } : MethodName) prog_12_method_152_code (1 : Nat) (Option.some FieldType.byte)) ∈ tb := tb_in (List.mem_append_right _ (List.mem_append_left _ (List.mem_of_getElem? (l := tables_1_1) (i := 115) (by decide +kernel)))) (by decide +kernel)
theorem mt_116 : (Cond.methodLink "SoftStairs" (45 : Nat) ({ cls := "SoftStairs$Reader", name := "read", desc := "([CI)LSoftStairs$Rule;" } : MethodName)) ∈ tb := tb_in (List.mem_append_right _ (List.mem_append_left _ (List.mem_of_getElem? (l := tables_1_1) (i := 116) (by decide +kernel)))) (by decide +kernel)
theorem mt_117 : (Cond.instanceMethod ({ cls := "SoftStairs$Reader", name := "read", desc := "([CI)LSoftStairs$Rule;" } : MethodName)) ∈ tb := tb_in (List.mem_append_right _ (List.mem_append_left _ (List.mem_of_getElem? (l := tables_1_1) (i := 117) (by decide +kernel)))) (by decide +kernel)
theorem mt_118 : (Cond.selects "SoftStairs$Reader" ({ cls := "SoftStairs$Reader", name := "read", desc := "([CI)LSoftStairs$Rule;" } : MethodName) ({ cls := "SoftStairs$Reader", name := "read", desc := "([CI)LSoftStairs$Rule;" } : MethodName)) ∈ tb := tb_in (List.mem_append_right _ (List.mem_append_left _ (List.mem_of_getElem? (l := tables_1_1) (i := 118) (by decide +kernel)))) (by decide +kernel)
theorem mt_119 : (Cond.code ({ cls := "SoftStairs$Reader", name := "read", desc := "([CI)LSoftStairs$Rule;" } : MethodName) prog_4_method_2_code (5 : Nat) (Option.some (FieldType.object "SoftStairs$Rule"))) ∈ tb := tb_in (List.mem_append_right _ (List.mem_append_left _ (List.mem_of_getElem? (l := tables_1_1) (i := 119) (by decide +kernel)))) (by decide +kernel)
theorem mt_120 : (Cond.classLink "SoftStairs$Reader" (19 : Nat) "SoftStairs$Rule") ∈ tb := tb_in (List.mem_append_right _ (List.mem_append_left _ (List.mem_of_getElem? (l := tables_1_1) (i := 120) (by decide +kernel)))) (by decide +kernel)
theorem mt_121 : (Cond.instantiable "SoftStairs$Rule" (6 : Nat)) ∈ tb := tb_in (List.mem_append_right _ (List.mem_append_left _ (List.mem_of_getElem? (l := tables_1_1) (i := 121) (by decide +kernel)))) (by decide +kernel)
theorem ml_122 : (Cond.methodLinkNest "SoftStairs$Reader" (21 : Nat) ({ cls := "SoftStairs$Rule", name := "<init>", desc := "()V" } : MethodName) "SoftStairs") ∈ lw_tbl := List.mem_append_right _ (List.mem_append_left _ (List.mem_of_getElem? (l := tables_1_1) (i := 122) (by decide +kernel)))
theorem mt_123 : (Cond.instanceMethod ({ cls := "SoftStairs$Rule", name := "<init>", desc := "()V" } : MethodName)) ∈ tb := tb_in (List.mem_append_right _ (List.mem_append_left _ (List.mem_of_getElem? (l := tables_1_1) (i := 123) (by decide +kernel)))) (by decide +kernel)
theorem mt_124 : (Cond.code ({ cls := "SoftStairs$Rule", name := "<init>", desc := "()V" } : MethodName) prog_5_method_1_code (1 : Nat) (Option.none : Option FieldType)) ∈ tb := tb_in (List.mem_append_right _ (List.mem_append_left _ (List.mem_of_getElem? (l := tables_1_1) (i := 124) (by decide +kernel)))) (by decide +kernel)
theorem mt_125 : (Cond.methodLink "SoftStairs$Rule" (3 : Nat) ({ cls := "java/lang/Object", name := "<init>", desc := "()V" } : MethodName)) ∈ tb := tb_in (List.mem_append_right _ (List.mem_append_left _ (List.mem_of_getElem? (l := tables_1_1) (i := 125) (by decide +kernel)))) (by decide +kernel)
theorem mt_126 : (Cond.fieldLink "SoftStairs$Rule" (9 : Nat) "SoftStairs$Rule" "signs" "[C") ∈ tb := tb_in (List.mem_append_right _ (List.mem_append_left _ (List.mem_of_getElem? (l := tables_1_1) (i := 126) (by decide +kernel)))) (by decide +kernel)
theorem mt_127 : (Cond.fieldLink "SoftStairs$Rule" (15 : Nat) "SoftStairs$Rule" "firsts" "[I") ∈ tb := tb_in (List.mem_append_right _ (List.mem_append_left _ (List.mem_of_getElem? (l := tables_1_1) (i := 127) (by decide +kernel)))) (by decide +kernel)
theorem mt_128 : (Cond.fieldLink "SoftStairs$Rule" (19 : Nat) "SoftStairs$Rule" "seconds" "[I") ∈ tb := tb_in (List.mem_append_right _ (List.mem_append_left _ (List.mem_of_getElem? (l := tables_1_1) (i := 128) (by decide +kernel)))) (by decide +kernel)
theorem mt_129 : (Cond.fieldLink "SoftStairs$Rule" (22 : Nat) "SoftStairs$Rule" "depths" "[I") ∈ tb := tb_in (List.mem_append_right _ (List.mem_append_left _ (List.mem_of_getElem? (l := tables_1_1) (i := 129) (by decide +kernel)))) (by decide +kernel)
theorem mt_130 : (Cond.fieldLink "SoftStairs$Rule" (47 : Nat) "SoftStairs$Rule" "parts" "I") ∈ tb := tb_in (List.mem_append_right _ (List.mem_append_left _ (List.mem_of_getElem? (l := tables_1_1) (i := 130) (by decide +kernel)))) (by decide +kernel)
theorem mt_131 : (Cond.fieldLink "SoftStairs" (139 : Nat) "SoftStairs$Rule" "parts" "I") ∈ tb := tb_in (List.mem_append_right _ (List.mem_append_left _ (List.mem_of_getElem? (l := tables_1_1) (i := 131) (by decide +kernel)))) (by decide +kernel)
theorem mt_132 : (Cond.fieldLink "SoftStairs$Rule" (25 : Nat) "SoftStairs$Rule" "letters" "I") ∈ tb := tb_in (List.mem_append_right _ (List.mem_append_left _ (List.mem_of_getElem? (l := tables_1_1) (i := 132) (by decide +kernel)))) (by decide +kernel)
theorem mt_133 : (Cond.fieldLink "SoftStairs" (147 : Nat) "SoftStairs$Rule" "letters" "I") ∈ tb := tb_in (List.mem_append_right _ (List.mem_append_left _ (List.mem_of_getElem? (l := tables_1_1) (i := 133) (by decide +kernel)))) (by decide +kernel)
theorem mt_134 : (Cond.laysFinal "SoftStairs$Rule" "SoftStairs$Rule" "signs" "[C") ∈ tb := tb_in (List.mem_append_right _ (List.mem_append_left _ (List.mem_of_getElem? (l := tables_1_1) (i := 134) (by decide +kernel)))) (by decide +kernel)
theorem mt_135 : (Cond.soleField "SoftStairs$Rule" "signs") ∈ tb := tb_in (List.mem_append_right _ (List.mem_append_left _ (List.mem_of_getElem? (l := tables_1_1) (i := 135) (by decide +kernel)))) (by decide +kernel)
theorem mt_136 : (Cond.laysFinal "SoftStairs$Rule" "SoftStairs$Rule" "firsts" "[I") ∈ tb := tb_in (List.mem_append_right _ (List.mem_append_left _ (List.mem_of_getElem? (l := tables_1_1) (i := 136) (by decide +kernel)))) (by decide +kernel)
theorem mt_137 : (Cond.soleField "SoftStairs$Rule" "firsts") ∈ tb := tb_in (List.mem_append_right _ (List.mem_append_left _ (List.mem_of_getElem? (l := tables_1_1) (i := 137) (by decide +kernel)))) (by decide +kernel)
theorem mt_138 : (Cond.laysFinal "SoftStairs$Rule" "SoftStairs$Rule" "seconds" "[I") ∈ tb := tb_in (List.mem_append_right _ (List.mem_append_left _ (List.mem_of_getElem? (l := tables_1_1) (i := 138) (by decide +kernel)))) (by decide +kernel)
theorem mt_139 : (Cond.soleField "SoftStairs$Rule" "seconds") ∈ tb := tb_in (List.mem_append_right _ (List.mem_append_left _ (List.mem_of_getElem? (l := tables_1_1) (i := 139) (by decide +kernel)))) (by decide +kernel)
theorem mt_140 : (Cond.laysFinal "SoftStairs$Rule" "SoftStairs$Rule" "depths" "[I") ∈ tb := tb_in (List.mem_append_right _ (List.mem_append_left _ (List.mem_of_getElem? (l := tables_1_1) (i := 140) (by decide +kernel)))) (by decide +kernel)
theorem mt_141 : (Cond.soleField "SoftStairs$Rule" "depths") ∈ tb := tb_in (List.mem_append_right _ (List.mem_append_left _ (List.mem_of_getElem? (l := tables_1_1) (i := 141) (by decide +kernel)))) (by decide +kernel)
theorem mt_142 : (Cond.lays "SoftStairs$Rule" "SoftStairs$Rule" "parts" "I") ∈ tb := tb_in (List.mem_append_right _ (List.mem_append_left _ (List.mem_of_getElem? (l := tables_1_1) (i := 142) (by decide +kernel)))) (by decide +kernel)
theorem mt_143 : (Cond.soleField "SoftStairs$Rule" "parts") ∈ tb := tb_in (List.mem_append_right _ (List.mem_append_left _ (List.mem_of_getElem? (l := tables_1_1) (i := 143) (by decide +kernel)))) (by decide +kernel)
theorem mt_144 : (Cond.lays "SoftStairs$Rule" "SoftStairs$Rule" "letters" "I") ∈ tb := tb_in (List.mem_append_right _ (List.mem_append_left _ (List.mem_of_getElem? (l := tables_1_1) (i := 144) (by decide +kernel)))) (by decide +kernel)
theorem mt_145 : (Cond.soleField "SoftStairs$Rule" "letters") ∈ tb := tb_in (List.mem_append_right _ (List.mem_append_left _ (List.mem_of_getElem? (l := tables_1_1) (i := 145) (by decide +kernel)))) (by decide +kernel)
theorem mt_146 : (Cond.superclass "SoftStairs$Rule" "java/lang/Object") ∈ tb := tb_in (List.mem_append_right _ (List.mem_append_left _ (List.mem_of_getElem? (l := tables_1_1) (i := 146) (by decide +kernel)))) (by decide +kernel)
theorem mt_147 : (Cond.arrayClass FieldType.boolean) ∈ tb := tb_in (List.mem_append_right _ (List.mem_append_left _ (List.mem_of_getElem? (l := tables_1_1) (i := 147) (by decide +kernel)))) (by decide +kernel)
theorem mt_148 : (Cond.arrayClass FieldType.byte) ∈ tb := tb_in (List.mem_append_right _ (List.mem_append_left _ (List.mem_of_getElem? (l := tables_1_1) (i := 148) (by decide +kernel)))) (by decide +kernel)
theorem mt_149 : (Cond.methodLink "SoftStairs$Reader" (29 : Nat) ({ cls := "SoftStairs$Reader", name := "take", desc := "(CLSoftStairs$Rule;)V" } : MethodName)) ∈ tb := tb_in (List.mem_append_right _ (List.mem_append_left _ (List.mem_of_getElem? (l := tables_1_1) (i := 149) (by decide +kernel)))) (by decide +kernel)
theorem mt_151 : (Cond.instanceMethod ({ cls := "SoftStairs$Reader", name := "take", desc := "(CLSoftStairs$Rule;)V" } : MethodName)) ∈ tb := tb_in (List.mem_append_right _ (List.mem_append_left _ (List.mem_of_getElem? (l := tables_1_1) (i := 151) (by decide +kernel)))) (by decide +kernel)
theorem mt_152 : (Cond.code ({ cls := "SoftStairs$Reader", name := "take", desc := "(CLSoftStairs$Rule;)V" } : MethodName) prog_4_method_3_code (3 : Nat) (Option.none : Option FieldType)) ∈ tb := tb_in (List.mem_append_right _ (List.mem_append_left _ (List.mem_of_getElem? (l := tables_1_1) (i := 152) (by decide +kernel)))) (by decide +kernel)
theorem mt_153 : (Cond.methodLink "SoftStairs$Reader" (37 : Nat) ({ cls := "SoftStairs$Reader", name := "keepWaiting", desc := "(C)V" } : MethodName)) ∈ tb := tb_in (List.mem_append_right _ (List.mem_append_left _ (List.mem_of_getElem? (l := tables_1_1) (i := 153) (by decide +kernel)))) (by decide +kernel)
theorem mt_155 : (Cond.instanceMethod ({ cls := "SoftStairs$Reader", name := "keepWaiting", desc := "(C)V" } : MethodName)) ∈ tb := tb_in (List.mem_append_right _ (List.mem_append_left _ (List.mem_of_getElem? (l := tables_1_1) (i := 155) (by decide +kernel)))) (by decide +kernel)
theorem mt_156 : (Cond.code ({ cls := "SoftStairs$Reader", name := "keepWaiting", desc := "(C)V" } : MethodName) prog_4_method_7_code (2 : Nat) (Option.none : Option FieldType)) ∈ tb := tb_in (List.mem_append_right _ (List.mem_append_left _ (List.mem_of_getElem? (l := tables_1_1) (i := 156) (by decide +kernel)))) (by decide +kernel)
theorem mt_157 : (Cond.methodLink "SoftStairs$Reader" (33 : Nat) ({ cls := "SoftStairs$Reader", name := "joinWaiting", desc := "(ILSoftStairs$Rule;)V" } : MethodName)) ∈ tb := tb_in (List.mem_append_right _ (List.mem_append_left _ (List.mem_of_getElem? (l := tables_1_1) (i := 157) (by decide +kernel)))) (by decide +kernel)
theorem mt_159 : (Cond.instanceMethod ({ cls := "SoftStairs$Reader", name := "joinWaiting", desc := "(ILSoftStairs$Rule;)V" } : MethodName)) ∈ tb := tb_in (List.mem_append_right _ (List.mem_append_left _ (List.mem_of_getElem? (l := tables_1_1) (i := 159) (by decide +kernel)))) (by decide +kernel)
theorem mt_160 : (Cond.code ({ cls := "SoftStairs$Reader", name := "joinWaiting", desc := "(ILSoftStairs$Rule;)V" } : MethodName) prog_4_method_5_code (3 : Nat) (Option.none : Option FieldType)) ∈ tb := tb_in (List.mem_append_right _ (List.mem_append_left _ (List.mem_of_getElem? (l := tables_1_1) (i := 160) (by decide +kernel)))) (by decide +kernel)
theorem mt_161 : (Cond.methodLink "SoftStairs$Reader" (47 : Nat) ({ cls := "SoftStairs$Reader", name := "strength", desc := "(C)I" } : MethodName)) ∈ tb := tb_in (List.mem_append_right _ (List.mem_append_left _ (List.mem_of_getElem? (l := tables_1_1) (i := 161) (by decide +kernel)))) (by decide +kernel)
theorem mt_163 : (Cond.instanceMethod ({ cls := "SoftStairs$Reader", name := "strength", desc := "(C)I" } : MethodName)) ∈ tb := tb_in (List.mem_append_right _ (List.mem_append_left _ (List.mem_of_getElem? (l := tables_1_1) (i := 163) (by decide +kernel)))) (by decide +kernel)
theorem mt_164 : (Cond.code ({ cls := "SoftStairs$Reader", name := "strength", desc := "(C)I" } : MethodName) prog_4_method_4_code (2 : Nat) (Option.some FieldType.int)) ∈ tb := tb_in (List.mem_append_right _ (List.mem_append_left _ (List.mem_of_getElem? (l := tables_1_1) (i := 164) (by decide +kernel)))) (by decide +kernel)
theorem mt_165 : (Cond.methodLink "SoftStairs$Reader" (58 : Nat) ({ cls := "SoftStairs$Reader", name := "joinFree", desc := "(CLSoftStairs$Rule;)V" } : MethodName)) ∈ tb := tb_in (List.mem_append_right _ (List.mem_append_left _ (List.mem_of_getElem? (l := tables_1_1) (i := 165) (by decide +kernel)))) (by decide +kernel)
theorem mt_167 : (Cond.instanceMethod ({ cls := "SoftStairs$Reader", name := "joinFree", desc := "(CLSoftStairs$Rule;)V" } : MethodName)) ∈ tb := tb_in (List.mem_append_right _ (List.mem_append_left _ (List.mem_of_getElem? (l := tables_1_1) (i := 167) (by decide +kernel)))) (by decide +kernel)
theorem mt_168 : (Cond.code ({ cls := "SoftStairs$Reader", name := "joinFree", desc := "(CLSoftStairs$Rule;)V" } : MethodName) prog_4_method_6_code (5 : Nat) (Option.none : Option FieldType)) ∈ tb := tb_in (List.mem_append_right _ (List.mem_append_left _ (List.mem_of_getElem? (l := tables_1_1) (i := 168) (by decide +kernel)))) (by decide +kernel)
theorem mt_169 : (Cond.methodLink "SoftStairs$Reader" (61 : Nat) ({ cls := "SoftStairs$Reader", name := "takeFree", desc := "()I" } : MethodName)) ∈ tb := tb_in (List.mem_append_right _ (List.mem_append_left _ (List.mem_of_getElem? (l := tables_1_1) (i := 169) (by decide +kernel)))) (by decide +kernel)
theorem mt_171 : (Cond.instanceMethod ({ cls := "SoftStairs$Reader", name := "takeFree", desc := "()I" } : MethodName)) ∈ tb := tb_in (List.mem_append_right _ (List.mem_append_left _ (List.mem_of_getElem? (l := tables_1_1) (i := 171) (by decide +kernel)))) (by decide +kernel)
theorem mt_172 : (Cond.code ({ cls := "SoftStairs$Reader", name := "takeFree", desc := "()I" } : MethodName) prog_4_method_9_code (1 : Nat) (Option.some FieldType.int)) ∈ tb := tb_in (List.mem_append_right _ (List.mem_append_left _ (List.mem_of_getElem? (l := tables_1_1) (i := 172) (by decide +kernel)))) (by decide +kernel)
theorem mt_173 : (Cond.methodLink "SoftStairs$Reader" (65 : Nat) ({ cls := "SoftStairs$Rule", name := "addJoint", desc := "(CII)I" } : MethodName)) ∈ tb := tb_in (List.mem_append_right _ (List.mem_append_left _ (List.mem_of_getElem? (l := tables_1_1) (i := 173) (by decide +kernel)))) (by decide +kernel)
theorem mt_174 : (Cond.instanceMethod ({ cls := "SoftStairs$Rule", name := "addJoint", desc := "(CII)I" } : MethodName)) ∈ tb := tb_in (List.mem_append_right _ (List.mem_append_left _ (List.mem_of_getElem? (l := tables_1_1) (i := 174) (by decide +kernel)))) (by decide +kernel)
theorem mt_175 : (Cond.selects "SoftStairs$Rule" ({ cls := "SoftStairs$Rule", name := "addJoint", desc := "(CII)I" } : MethodName) ({ cls := "SoftStairs$Rule", name := "addJoint", desc := "(CII)I" } : MethodName)) ∈ tb := tb_in (List.mem_append_right _ (List.mem_append_left _ (List.mem_of_getElem? (l := tables_1_1) (i := 175) (by decide +kernel)))) (by decide +kernel)
theorem mt_176 : (Cond.code ({ cls := "SoftStairs$Rule", name := "addJoint", desc := "(CII)I" } : MethodName) prog_5_method_3_code (5 : Nat) (Option.some FieldType.int)) ∈ tb := tb_in (List.mem_append_right _ (List.mem_append_left _ (List.mem_of_getElem? (l := tables_1_1) (i := 176) (by decide +kernel)))) (by decide +kernel)
theorem mt_177 : (Cond.methodLink "SoftStairs$Rule" (37 : Nat) ({ cls := "SoftStairs$Rule", name := "depthOf", desc := "(I)I" } : MethodName)) ∈ tb := tb_in (List.mem_append_right _ (List.mem_append_left _ (List.mem_of_getElem? (l := tables_1_1) (i := 177) (by decide +kernel)))) (by decide +kernel)
theorem mt_179 : (Cond.instanceMethod ({ cls := "SoftStairs$Rule", name := "depthOf", desc := "(I)I" } : MethodName)) ∈ tb := tb_in (List.mem_append_right _ (List.mem_append_left _ (List.mem_of_getElem? (l := tables_1_1) (i := 179) (by decide +kernel)))) (by decide +kernel)
theorem mt_180 : (Cond.code ({ cls := "SoftStairs$Rule", name := "depthOf", desc := "(I)I" } : MethodName) prog_5_method_5_code (2 : Nat) (Option.some FieldType.int)) ∈ tb := tb_in (List.mem_append_right _ (List.mem_append_left _ (List.mem_of_getElem? (l := tables_1_1) (i := 180) (by decide +kernel)))) (by decide +kernel)
theorem mt_181 : (Cond.methodLink "SoftStairs$Rule" (41 : Nat) ({ cls := "java/lang/Math", name := "max", desc := "(II)I" } : MethodName)) ∈ tb := tb_in (List.mem_append_right _ (List.mem_append_left _ (List.mem_of_getElem? (l := tables_1_1) (i := 181) (by decide +kernel)))) (by decide +kernel)
theorem mt_182 : (Cond.static ({ cls := "java/lang/Math", name := "max", desc := "(II)I" } : MethodName)) ∈ tb := tb_in (List.mem_append_right _ (List.mem_append_left _ (List.mem_of_getElem? (l := tables_1_1) (i := 182) (by decide +kernel)))) (by decide +kernel)
theorem mt_183 : (Cond.code ({ cls := "java/lang/Math", name := "max", desc := "(II)I" } : MethodName) prog_11_method_65_code (2 : Nat) (Option.some FieldType.int)) ∈ tb := tb_in (List.mem_append_right _ (List.mem_append_left _ (List.mem_of_getElem? (l := tables_1_1) (i := 183) (by decide +kernel)))) (by decide +kernel)
theorem mt_184 : (Cond.methodLink "SoftStairs$Rule" (33 : Nat) ({ cls := "SoftStairs$Rule", name := "add", desc := "(CIII)I" } : MethodName)) ∈ tb := tb_in (List.mem_append_right _ (List.mem_append_left _ (List.mem_of_getElem? (l := tables_1_1) (i := 184) (by decide +kernel)))) (by decide +kernel)
theorem mt_186 : (Cond.instanceMethod ({ cls := "SoftStairs$Rule", name := "add", desc := "(CIII)I" } : MethodName)) ∈ tb := tb_in (List.mem_append_right _ (List.mem_append_left _ (List.mem_of_getElem? (l := tables_1_1) (i := 186) (by decide +kernel)))) (by decide +kernel)
theorem mt_187 : (Cond.code ({ cls := "SoftStairs$Rule", name := "add", desc := "(CIII)I" } : MethodName) prog_5_method_4_code (5 : Nat) (Option.some FieldType.int)) ∈ tb := tb_in (List.mem_append_right _ (List.mem_append_left _ (List.mem_of_getElem? (l := tables_1_1) (i := 187) (by decide +kernel)))) (by decide +kernel)
theorem mt_188 : (Cond.methodLink "SoftStairs$Reader" (54 : Nat) ({ cls := "SoftStairs$Reader", name := "keepFree", desc := "(I)V" } : MethodName)) ∈ tb := tb_in (List.mem_append_right _ (List.mem_append_left _ (List.mem_of_getElem? (l := tables_1_1) (i := 188) (by decide +kernel)))) (by decide +kernel)
theorem mt_190 : (Cond.instanceMethod ({ cls := "SoftStairs$Reader", name := "keepFree", desc := "(I)V" } : MethodName)) ∈ tb := tb_in (List.mem_append_right _ (List.mem_append_left _ (List.mem_of_getElem? (l := tables_1_1) (i := 190) (by decide +kernel)))) (by decide +kernel)
theorem mt_191 : (Cond.code ({ cls := "SoftStairs$Reader", name := "keepFree", desc := "(I)V" } : MethodName) prog_4_method_8_code (2 : Nat) (Option.none : Option FieldType)) ∈ tb := tb_in (List.mem_append_right _ (List.mem_append_left _ (List.mem_of_getElem? (l := tables_1_1) (i := 191) (by decide +kernel)))) (by decide +kernel)
theorem mt_192 : (Cond.methodLink "SoftStairs$Reader" (41 : Nat) ({ cls := "java/lang/Math", name := "max", desc := "(II)I" } : MethodName)) ∈ tb := tb_in (List.mem_append_right _ (List.mem_append_left _ (List.mem_of_getElem? (l := tables_1_1) (i := 192) (by decide +kernel)))) (by decide +kernel)
theorem mt_193 : (Cond.methodLink "SoftStairs$Reader" (51 : Nat) ({ cls := "SoftStairs$Rule", name := "addLetter", desc := "(C)I" } : MethodName)) ∈ tb := tb_in (List.mem_append_right _ (List.mem_append_left _ (List.mem_of_getElem? (l := tables_1_1) (i := 193) (by decide +kernel)))) (by decide +kernel)
theorem mt_194 : (Cond.instanceMethod ({ cls := "SoftStairs$Rule", name := "addLetter", desc := "(C)I" } : MethodName)) ∈ tb := tb_in (List.mem_append_right _ (List.mem_append_left _ (List.mem_of_getElem? (l := tables_1_1) (i := 194) (by decide +kernel)))) (by decide +kernel)
theorem mt_195 : (Cond.selects "SoftStairs$Rule" ({ cls := "SoftStairs$Rule", name := "addLetter", desc := "(C)I" } : MethodName) ({ cls := "SoftStairs$Rule", name := "addLetter", desc := "(C)I" } : MethodName)) ∈ tb := tb_in (List.mem_append_right _ (List.mem_append_left _ (List.mem_of_getElem? (l := tables_1_1) (i := 195) (by decide +kernel)))) (by decide +kernel)
theorem mt_196 : (Cond.code ({ cls := "SoftStairs$Rule", name := "addLetter", desc := "(C)I" } : MethodName) prog_5_method_2_code (2 : Nat) (Option.some FieldType.int)) ∈ tb := tb_in (List.mem_append_right _ (List.mem_append_left _ (List.mem_of_getElem? (l := tables_1_1) (i := 196) (by decide +kernel)))) (by decide +kernel)
theorem mt_197 : (Cond.methodLink "SoftStairs$Rule" (29 : Nat) ({ cls := "SoftStairs$Rule", name := "letterNumber", desc := "(C)I" } : MethodName)) ∈ tb := tb_in (List.mem_append_right _ (List.mem_append_left _ (List.mem_of_getElem? (l := tables_1_1) (i := 197) (by decide +kernel)))) (by decide +kernel)
theorem mt_199 : (Cond.instanceMethod ({ cls := "SoftStairs$Rule", name := "letterNumber", desc := "(C)I" } : MethodName)) ∈ tb := tb_in (List.mem_append_right _ (List.mem_append_left _ (List.mem_of_getElem? (l := tables_1_1) (i := 199) (by decide +kernel)))) (by decide +kernel)
theorem mt_200 : (Cond.code ({ cls := "SoftStairs$Rule", name := "letterNumber", desc := "(C)I" } : MethodName) prog_5_method_13_code (2 : Nat) (Option.some FieldType.int)) ∈ tb := tb_in (List.mem_append_right _ (List.mem_append_left _ (List.mem_of_getElem? (l := tables_1_1) (i := 200) (by decide +kernel)))) (by decide +kernel)
theorem mt_201 : (Cond.instantiable "SoftStairs$Stairs" (18 : Nat)) ∈ tb := tb_in (List.mem_append_right _ (List.mem_append_left _ (List.mem_of_getElem? (l := tables_1_1) (i := 201) (by decide +kernel)))) (by decide +kernel)
theorem mt_202 : (Cond.methodLink "SoftStairs" (49 : Nat) ({ cls := "SoftStairs$Stairs", name := "<init>", desc := "(LSoftStairs$Rule;)V" } : MethodName)) ∈ tb := tb_in (List.mem_append_right _ (List.mem_append_left _ (List.mem_of_getElem? (l := tables_1_1) (i := 202) (by decide +kernel)))) (by decide +kernel)
theorem mt_203 : (Cond.instanceMethod ({ cls := "SoftStairs$Stairs", name := "<init>", desc := "(LSoftStairs$Rule;)V" } : MethodName)) ∈ tb := tb_in (List.mem_append_right _ (List.mem_append_left _ (List.mem_of_getElem? (l := tables_1_1) (i := 203) (by decide +kernel)))) (by decide +kernel)
theorem mt_204 : (Cond.code ({ cls := "SoftStairs$Stairs", name := "<init>", desc := "(LSoftStairs$Rule;)V" } : MethodName) prog_6_method_1_code (2 : Nat) (Option.none : Option FieldType)) ∈ tb := tb_in (List.mem_append_right _ (List.mem_append_left _ (List.mem_of_getElem? (l := tables_1_1) (i := 204) (by decide +kernel)))) (by decide +kernel)
theorem mt_205 : (Cond.methodLink "SoftStairs$Stairs" (3 : Nat) ({ cls := "java/lang/Object", name := "<init>", desc := "()V" } : MethodName)) ∈ tb := tb_in (List.mem_append_right _ (List.mem_append_left _ (List.mem_of_getElem? (l := tables_1_1) (i := 205) (by decide +kernel)))) (by decide +kernel)
theorem ml_206 : (Cond.fieldLinkNest "SoftStairs$Stairs" (38 : Nat) "SoftStairs" "AT_FIRST" "[I" "SoftStairs") ∈ lw_tbl := List.mem_append_right _ (List.mem_append_left _ (List.mem_of_getElem? (l := tables_1_1) (i := 206) (by decide +kernel)))
theorem ml_207 : (Cond.laysStatic "SoftStairs" "AT_FIRST" "[I") ∈ lw_tbl := List.mem_append_right _ (List.mem_append_left _ (List.mem_of_getElem? (l := tables_1_1) (i := 207) (by decide +kernel)))
theorem mt_208 : (Cond.methodLink "SoftStairs$Stairs" (41 : Nat) ({ cls := "java/lang/System", name := "arraycopy", desc := "(Ljava/lang/Object;ILjava/lang/Object;II)V" } : MethodName)) ∈ tb := tb_in (List.mem_append_right _ (List.mem_append_left _ (List.mem_of_getElem? (l := tables_1_1) (i := 208) (by decide +kernel)))) (by decide +kernel)
theorem mt_209 : (Cond.static ({ cls := "java/lang/System", name := "arraycopy", desc := "(Ljava/lang/Object;ILjava/lang/Object;II)V" } : MethodName)) ∈ tb := tb_in (List.mem_append_right _ (List.mem_append_left _ (List.mem_of_getElem? (l := tables_1_1) (i := 209) (by decide +kernel)))) (by decide +kernel)
theorem mt_210 : (Cond.native ({ cls := "java/lang/System", name := "arraycopy", desc := "(Ljava/lang/Object;ILjava/lang/Object;II)V" } : MethodName)) ∈ tb := tb_in (List.mem_append_right _ (List.mem_append_left _ (List.mem_of_getElem? (l := tables_1_1) (i := 210) (by decide +kernel)))) (by decide +kernel)
theorem mt_211 : (Cond.fieldLink "SoftStairs$Stairs" (9 : Nat) "SoftStairs$Stairs" "settings" "[I") ∈ tb := tb_in (List.mem_append_right _ (List.mem_append_left _ (List.mem_of_getElem? (l := tables_1_1) (i := 211) (by decide +kernel)))) (by decide +kernel)
theorem mt_212 : (Cond.fieldLink "SoftStairs" (77 : Nat) "SoftStairs$Stairs" "settings" "[I") ∈ tb := tb_in (List.mem_append_right _ (List.mem_append_left _ (List.mem_of_getElem? (l := tables_1_1) (i := 212) (by decide +kernel)))) (by decide +kernel)
theorem mt_213 : (Cond.fieldLink "SoftStairs$Stairs" (15 : Nat) "SoftStairs$Stairs" "places" "[I") ∈ tb := tb_in (List.mem_append_right _ (List.mem_append_left _ (List.mem_of_getElem? (l := tables_1_1) (i := 213) (by decide +kernel)))) (by decide +kernel)
theorem mt_214 : (Cond.fieldLink "SoftStairs" (117 : Nat) "SoftStairs$Stairs" "places" "[I") ∈ tb := tb_in (List.mem_append_right _ (List.mem_append_left _ (List.mem_of_getElem? (l := tables_1_1) (i := 214) (by decide +kernel)))) (by decide +kernel)
theorem mt_215 : (Cond.fieldLink "SoftStairs$Stairs" (18 : Nat) "SoftStairs$Stairs" "weights" "[I") ∈ tb := tb_in (List.mem_append_right _ (List.mem_append_left _ (List.mem_of_getElem? (l := tables_1_1) (i := 215) (by decide +kernel)))) (by decide +kernel)
theorem mt_216 : (Cond.fieldLink "SoftStairs" (120 : Nat) "SoftStairs$Stairs" "weights" "[I") ∈ tb := tb_in (List.mem_append_right _ (List.mem_append_left _ (List.mem_of_getElem? (l := tables_1_1) (i := 216) (by decide +kernel)))) (by decide +kernel)
theorem mt_217 : (Cond.fieldLink "SoftStairs$Stairs" (21 : Nat) "SoftStairs$Stairs" "cameAt" "[I") ∈ tb := tb_in (List.mem_append_right _ (List.mem_append_left _ (List.mem_of_getElem? (l := tables_1_1) (i := 217) (by decide +kernel)))) (by decide +kernel)
theorem mt_218 : (Cond.fieldLink "SoftStairs" (123 : Nat) "SoftStairs$Stairs" "cameAt" "[I") ∈ tb := tb_in (List.mem_append_right _ (List.mem_append_left _ (List.mem_of_getElem? (l := tables_1_1) (i := 218) (by decide +kernel)))) (by decide +kernel)
theorem mt_219 : (Cond.fieldLink "SoftStairs$Stairs" (24 : Nat) "SoftStairs$Stairs" "disagreed" "[I") ∈ tb := tb_in (List.mem_append_right _ (List.mem_append_left _ (List.mem_of_getElem? (l := tables_1_1) (i := 219) (by decide +kernel)))) (by decide +kernel)
theorem mt_220 : (Cond.fieldLink "SoftStairs" (126 : Nat) "SoftStairs$Stairs" "disagreed" "[I") ∈ tb := tb_in (List.mem_append_right _ (List.mem_append_left _ (List.mem_of_getElem? (l := tables_1_1) (i := 220) (by decide +kernel)))) (by decide +kernel)
theorem mt_221 : (Cond.fieldLink "SoftStairs$Stairs" (27 : Nat) "SoftStairs$Stairs" "kept" "[I") ∈ tb := tb_in (List.mem_append_right _ (List.mem_append_left _ (List.mem_of_getElem? (l := tables_1_1) (i := 221) (by decide +kernel)))) (by decide +kernel)
theorem mt_222 : (Cond.fieldLink "SoftStairs" (132 : Nat) "SoftStairs$Stairs" "kept" "[I") ∈ tb := tb_in (List.mem_append_right _ (List.mem_append_left _ (List.mem_of_getElem? (l := tables_1_1) (i := 222) (by decide +kernel)))) (by decide +kernel)
theorem mt_223 : (Cond.fieldLink "SoftStairs$Stairs" (34 : Nat) "SoftStairs$Stairs" "rule" "LSoftStairs$Rule;") ∈ tb := tb_in (List.mem_append_right _ (List.mem_append_left _ (List.mem_of_getElem? (l := tables_1_1) (i := 223) (by decide +kernel)))) (by decide +kernel)
theorem mt_224 : (Cond.fieldLink "SoftStairs" (135 : Nat) "SoftStairs$Stairs" "rule" "LSoftStairs$Rule;") ∈ tb := tb_in (List.mem_append_right _ (List.mem_append_left _ (List.mem_of_getElem? (l := tables_1_1) (i := 224) (by decide +kernel)))) (by decide +kernel)
theorem mt_225 : (Cond.fieldLink "SoftStairs$Stairs" (47 : Nat) "SoftStairs$Stairs" "people" "I") ∈ tb := tb_in (List.mem_append_right _ (List.mem_append_left _ (List.mem_of_getElem? (l := tables_1_1) (i := 225) (by decide +kernel)))) (by decide +kernel)
theorem mt_226 : (Cond.fieldLink "SoftStairs" (80 : Nat) "SoftStairs$Stairs" "people" "I") ∈ tb := tb_in (List.mem_append_right _ (List.mem_append_left _ (List.mem_of_getElem? (l := tables_1_1) (i := 226) (by decide +kernel)))) (by decide +kernel)
theorem mt_227 : (Cond.fieldLink "SoftStairs$Stairs" (50 : Nat) "SoftStairs$Stairs" "sensors" "I") ∈ tb := tb_in (List.mem_append_right _ (List.mem_append_left _ (List.mem_of_getElem? (l := tables_1_1) (i := 227) (by decide +kernel)))) (by decide +kernel)
theorem mt_228 : (Cond.fieldLink "SoftStairs" (150 : Nat) "SoftStairs$Stairs" "sensors" "I") ∈ tb := tb_in (List.mem_append_right _ (List.mem_append_left _ (List.mem_of_getElem? (l := tables_1_1) (i := 228) (by decide +kernel)))) (by decide +kernel)
theorem mt_229 : (Cond.fieldLink "SoftStairs$Stairs" (30 : Nat) "SoftStairs$Stairs" "mode" "I") ∈ tb := tb_in (List.mem_append_right _ (List.mem_append_left _ (List.mem_of_getElem? (l := tables_1_1) (i := 229) (by decide +kernel)))) (by decide +kernel)
theorem mt_230 : (Cond.fieldLink "SoftStairs" (84 : Nat) "SoftStairs$Stairs" "mode" "I") ∈ tb := tb_in (List.mem_append_right _ (List.mem_append_left _ (List.mem_of_getElem? (l := tables_1_1) (i := 230) (by decide +kernel)))) (by decide +kernel)
theorem mt_231 : (Cond.fieldLink "SoftStairs$Stairs" (53 : Nat) "SoftStairs$Stairs" "tick" "I") ∈ tb := tb_in (List.mem_append_right _ (List.mem_append_left _ (List.mem_of_getElem? (l := tables_1_1) (i := 231) (by decide +kernel)))) (by decide +kernel)
theorem mt_232 : (Cond.fieldLink "SoftStairs" (109 : Nat) "SoftStairs$Stairs" "tick" "I") ∈ tb := tb_in (List.mem_append_right _ (List.mem_append_left _ (List.mem_of_getElem? (l := tables_1_1) (i := 232) (by decide +kernel)))) (by decide +kernel)
theorem mt_233 : (Cond.fieldLink "SoftStairs$Stairs" (56 : Nat) "SoftStairs$Stairs" "speed" "I") ∈ tb := tb_in (List.mem_append_right _ (List.mem_append_left _ (List.mem_of_getElem? (l := tables_1_1) (i := 233) (by decide +kernel)))) (by decide +kernel)
theorem mt_234 : (Cond.fieldLink "SoftStairs" (102 : Nat) "SoftStairs$Stairs" "speed" "I") ∈ tb := tb_in (List.mem_append_right _ (List.mem_append_left _ (List.mem_of_getElem? (l := tables_1_1) (i := 234) (by decide +kernel)))) (by decide +kernel)
theorem mt_235 : (Cond.fieldLink "SoftStairs$Stairs" (59 : Nat) "SoftStairs$Stairs" "offPeople" "I") ∈ tb := tb_in (List.mem_append_right _ (List.mem_append_left _ (List.mem_of_getElem? (l := tables_1_1) (i := 235) (by decide +kernel)))) (by decide +kernel)
theorem mt_236 : (Cond.fieldLink "SoftStairs$Stairs" (62 : Nat) "SoftStairs$Stairs" "offWeight" "I") ∈ tb := tb_in (List.mem_append_right _ (List.mem_append_left _ (List.mem_of_getElem? (l := tables_1_1) (i := 236) (by decide +kernel)))) (by decide +kernel)
theorem mt_237 : (Cond.fieldLink "SoftStairs$Stairs" (65 : Nat) "SoftStairs$Stairs" "stops" "I") ∈ tb := tb_in (List.mem_append_right _ (List.mem_append_left _ (List.mem_of_getElem? (l := tables_1_1) (i := 237) (by decide +kernel)))) (by decide +kernel)
theorem mt_238 : (Cond.fieldLink "SoftStairs" (129 : Nat) "SoftStairs$Stairs" "stops" "I") ∈ tb := tb_in (List.mem_append_right _ (List.mem_append_left _ (List.mem_of_getElem? (l := tables_1_1) (i := 238) (by decide +kernel)))) (by decide +kernel)
theorem mt_239 : (Cond.fieldLink "SoftStairs$Stairs" (68 : Nat) "SoftStairs$Stairs" "emptyTicks" "I") ∈ tb := tb_in (List.mem_append_right _ (List.mem_append_left _ (List.mem_of_getElem? (l := tables_1_1) (i := 239) (by decide +kernel)))) (by decide +kernel)
theorem mt_240 : (Cond.fieldLink "SoftStairs$Stairs" (71 : Nat) "SoftStairs$Stairs" "units" "I") ∈ tb := tb_in (List.mem_append_right _ (List.mem_append_right _ (List.mem_append_left _ (List.mem_of_getElem? (l := tables_1_2) (i := 0) (by decide +kernel))))) (by decide +kernel)
theorem mt_241 : (Cond.fieldLink "SoftStairs$Stairs" (74 : Nat) "SoftStairs$Stairs" "greatestChange" "I") ∈ tb := tb_in (List.mem_append_right _ (List.mem_append_right _ (List.mem_append_left _ (List.mem_of_getElem? (l := tables_1_2) (i := 1) (by decide +kernel))))) (by decide +kernel)
theorem mt_242 : (Cond.laysFinal "SoftStairs$Stairs" "SoftStairs$Stairs" "settings" "[I") ∈ tb := tb_in (List.mem_append_right _ (List.mem_append_right _ (List.mem_append_left _ (List.mem_of_getElem? (l := tables_1_2) (i := 2) (by decide +kernel))))) (by decide +kernel)
theorem mt_243 : (Cond.soleField "SoftStairs$Stairs" "settings") ∈ tb := tb_in (List.mem_append_right _ (List.mem_append_right _ (List.mem_append_left _ (List.mem_of_getElem? (l := tables_1_2) (i := 3) (by decide +kernel))))) (by decide +kernel)
theorem mt_244 : (Cond.laysFinal "SoftStairs$Stairs" "SoftStairs$Stairs" "places" "[I") ∈ tb := tb_in (List.mem_append_right _ (List.mem_append_right _ (List.mem_append_left _ (List.mem_of_getElem? (l := tables_1_2) (i := 4) (by decide +kernel))))) (by decide +kernel)
theorem mt_245 : (Cond.soleField "SoftStairs$Stairs" "places") ∈ tb := tb_in (List.mem_append_right _ (List.mem_append_right _ (List.mem_append_left _ (List.mem_of_getElem? (l := tables_1_2) (i := 5) (by decide +kernel))))) (by decide +kernel)
theorem mt_246 : (Cond.laysFinal "SoftStairs$Stairs" "SoftStairs$Stairs" "weights" "[I") ∈ tb := tb_in (List.mem_append_right _ (List.mem_append_right _ (List.mem_append_left _ (List.mem_of_getElem? (l := tables_1_2) (i := 6) (by decide +kernel))))) (by decide +kernel)
theorem mt_247 : (Cond.soleField "SoftStairs$Stairs" "weights") ∈ tb := tb_in (List.mem_append_right _ (List.mem_append_right _ (List.mem_append_left _ (List.mem_of_getElem? (l := tables_1_2) (i := 7) (by decide +kernel))))) (by decide +kernel)
theorem mt_248 : (Cond.laysFinal "SoftStairs$Stairs" "SoftStairs$Stairs" "cameAt" "[I") ∈ tb := tb_in (List.mem_append_right _ (List.mem_append_right _ (List.mem_append_left _ (List.mem_of_getElem? (l := tables_1_2) (i := 8) (by decide +kernel))))) (by decide +kernel)
theorem mt_249 : (Cond.soleField "SoftStairs$Stairs" "cameAt") ∈ tb := tb_in (List.mem_append_right _ (List.mem_append_right _ (List.mem_append_left _ (List.mem_of_getElem? (l := tables_1_2) (i := 9) (by decide +kernel))))) (by decide +kernel)
theorem mt_250 : (Cond.laysFinal "SoftStairs$Stairs" "SoftStairs$Stairs" "disagreed" "[I") ∈ tb := tb_in (List.mem_append_right _ (List.mem_append_right _ (List.mem_append_left _ (List.mem_of_getElem? (l := tables_1_2) (i := 10) (by decide +kernel))))) (by decide +kernel)
theorem mt_251 : (Cond.soleField "SoftStairs$Stairs" "disagreed") ∈ tb := tb_in (List.mem_append_right _ (List.mem_append_right _ (List.mem_append_left _ (List.mem_of_getElem? (l := tables_1_2) (i := 11) (by decide +kernel))))) (by decide +kernel)
theorem mt_252 : (Cond.laysFinal "SoftStairs$Stairs" "SoftStairs$Stairs" "kept" "[I") ∈ tb := tb_in (List.mem_append_right _ (List.mem_append_right _ (List.mem_append_left _ (List.mem_of_getElem? (l := tables_1_2) (i := 12) (by decide +kernel))))) (by decide +kernel)
theorem mt_253 : (Cond.soleField "SoftStairs$Stairs" "kept") ∈ tb := tb_in (List.mem_append_right _ (List.mem_append_right _ (List.mem_append_left _ (List.mem_of_getElem? (l := tables_1_2) (i := 13) (by decide +kernel))))) (by decide +kernel)
theorem mt_254 : (Cond.lays "SoftStairs$Stairs" "SoftStairs$Stairs" "rule" "LSoftStairs$Rule;") ∈ tb := tb_in (List.mem_append_right _ (List.mem_append_right _ (List.mem_append_left _ (List.mem_of_getElem? (l := tables_1_2) (i := 14) (by decide +kernel))))) (by decide +kernel)
theorem mt_255 : (Cond.soleField "SoftStairs$Stairs" "rule") ∈ tb := tb_in (List.mem_append_right _ (List.mem_append_right _ (List.mem_append_left _ (List.mem_of_getElem? (l := tables_1_2) (i := 15) (by decide +kernel))))) (by decide +kernel)
theorem mt_256 : (Cond.lays "SoftStairs$Stairs" "SoftStairs$Stairs" "people" "I") ∈ tb := tb_in (List.mem_append_right _ (List.mem_append_right _ (List.mem_append_left _ (List.mem_of_getElem? (l := tables_1_2) (i := 16) (by decide +kernel))))) (by decide +kernel)
theorem mt_257 : (Cond.soleField "SoftStairs$Stairs" "people") ∈ tb := tb_in (List.mem_append_right _ (List.mem_append_right _ (List.mem_append_left _ (List.mem_of_getElem? (l := tables_1_2) (i := 17) (by decide +kernel))))) (by decide +kernel)
theorem mt_258 : (Cond.lays "SoftStairs$Stairs" "SoftStairs$Stairs" "sensors" "I") ∈ tb := tb_in (List.mem_append_right _ (List.mem_append_right _ (List.mem_append_left _ (List.mem_of_getElem? (l := tables_1_2) (i := 18) (by decide +kernel))))) (by decide +kernel)
theorem mt_259 : (Cond.soleField "SoftStairs$Stairs" "sensors") ∈ tb := tb_in (List.mem_append_right _ (List.mem_append_right _ (List.mem_append_left _ (List.mem_of_getElem? (l := tables_1_2) (i := 19) (by decide +kernel))))) (by decide +kernel)
theorem mt_260 : (Cond.lays "SoftStairs$Stairs" "SoftStairs$Stairs" "mode" "I") ∈ tb := tb_in (List.mem_append_right _ (List.mem_append_right _ (List.mem_append_left _ (List.mem_of_getElem? (l := tables_1_2) (i := 20) (by decide +kernel))))) (by decide +kernel)
theorem mt_261 : (Cond.soleField "SoftStairs$Stairs" "mode") ∈ tb := tb_in (List.mem_append_right _ (List.mem_append_right _ (List.mem_append_left _ (List.mem_of_getElem? (l := tables_1_2) (i := 21) (by decide +kernel))))) (by decide +kernel)
theorem mt_262 : (Cond.lays "SoftStairs$Stairs" "SoftStairs$Stairs" "tick" "I") ∈ tb := tb_in (List.mem_append_right _ (List.mem_append_right _ (List.mem_append_left _ (List.mem_of_getElem? (l := tables_1_2) (i := 22) (by decide +kernel))))) (by decide +kernel)
theorem mt_263 : (Cond.soleField "SoftStairs$Stairs" "tick") ∈ tb := tb_in (List.mem_append_right _ (List.mem_append_right _ (List.mem_append_left _ (List.mem_of_getElem? (l := tables_1_2) (i := 23) (by decide +kernel))))) (by decide +kernel)
theorem mt_264 : (Cond.lays "SoftStairs$Stairs" "SoftStairs$Stairs" "speed" "I") ∈ tb := tb_in (List.mem_append_right _ (List.mem_append_right _ (List.mem_append_left _ (List.mem_of_getElem? (l := tables_1_2) (i := 24) (by decide +kernel))))) (by decide +kernel)
theorem mt_265 : (Cond.soleField "SoftStairs$Stairs" "speed") ∈ tb := tb_in (List.mem_append_right _ (List.mem_append_right _ (List.mem_append_left _ (List.mem_of_getElem? (l := tables_1_2) (i := 25) (by decide +kernel))))) (by decide +kernel)
theorem mt_266 : (Cond.lays "SoftStairs$Stairs" "SoftStairs$Stairs" "offPeople" "I") ∈ tb := tb_in (List.mem_append_right _ (List.mem_append_right _ (List.mem_append_left _ (List.mem_of_getElem? (l := tables_1_2) (i := 26) (by decide +kernel))))) (by decide +kernel)
theorem mt_267 : (Cond.soleField "SoftStairs$Stairs" "offPeople") ∈ tb := tb_in (List.mem_append_right _ (List.mem_append_right _ (List.mem_append_left _ (List.mem_of_getElem? (l := tables_1_2) (i := 27) (by decide +kernel))))) (by decide +kernel)
theorem mt_268 : (Cond.lays "SoftStairs$Stairs" "SoftStairs$Stairs" "offWeight" "I") ∈ tb := tb_in (List.mem_append_right _ (List.mem_append_right _ (List.mem_append_left _ (List.mem_of_getElem? (l := tables_1_2) (i := 28) (by decide +kernel))))) (by decide +kernel)
theorem mt_269 : (Cond.soleField "SoftStairs$Stairs" "offWeight") ∈ tb := tb_in (List.mem_append_right _ (List.mem_append_right _ (List.mem_append_left _ (List.mem_of_getElem? (l := tables_1_2) (i := 29) (by decide +kernel))))) (by decide +kernel)
theorem mt_270 : (Cond.lays "SoftStairs$Stairs" "SoftStairs$Stairs" "stops" "I") ∈ tb := tb_in (List.mem_append_right _ (List.mem_append_right _ (List.mem_append_left _ (List.mem_of_getElem? (l := tables_1_2) (i := 30) (by decide +kernel))))) (by decide +kernel)
theorem mt_271 : (Cond.soleField "SoftStairs$Stairs" "stops") ∈ tb := tb_in (List.mem_append_right _ (List.mem_append_right _ (List.mem_append_left _ (List.mem_of_getElem? (l := tables_1_2) (i := 31) (by decide +kernel))))) (by decide +kernel)
theorem mt_272 : (Cond.lays "SoftStairs$Stairs" "SoftStairs$Stairs" "emptyTicks" "I") ∈ tb := tb_in (List.mem_append_right _ (List.mem_append_right _ (List.mem_append_left _ (List.mem_of_getElem? (l := tables_1_2) (i := 32) (by decide +kernel))))) (by decide +kernel)
theorem mt_273 : (Cond.soleField "SoftStairs$Stairs" "emptyTicks") ∈ tb := tb_in (List.mem_append_right _ (List.mem_append_right _ (List.mem_append_left _ (List.mem_of_getElem? (l := tables_1_2) (i := 33) (by decide +kernel))))) (by decide +kernel)
theorem mt_274 : (Cond.lays "SoftStairs$Stairs" "SoftStairs$Stairs" "units" "I") ∈ tb := tb_in (List.mem_append_right _ (List.mem_append_right _ (List.mem_append_left _ (List.mem_of_getElem? (l := tables_1_2) (i := 34) (by decide +kernel))))) (by decide +kernel)
theorem mt_275 : (Cond.soleField "SoftStairs$Stairs" "units") ∈ tb := tb_in (List.mem_append_right _ (List.mem_append_right _ (List.mem_append_left _ (List.mem_of_getElem? (l := tables_1_2) (i := 35) (by decide +kernel))))) (by decide +kernel)
theorem mt_276 : (Cond.lays "SoftStairs$Stairs" "SoftStairs$Stairs" "greatestChange" "I") ∈ tb := tb_in (List.mem_append_right _ (List.mem_append_right _ (List.mem_append_left _ (List.mem_of_getElem? (l := tables_1_2) (i := 36) (by decide +kernel))))) (by decide +kernel)
theorem mt_277 : (Cond.soleField "SoftStairs$Stairs" "greatestChange") ∈ tb := tb_in (List.mem_append_right _ (List.mem_append_right _ (List.mem_append_left _ (List.mem_of_getElem? (l := tables_1_2) (i := 37) (by decide +kernel))))) (by decide +kernel)
theorem mt_278 : (Cond.superclass "SoftStairs$Stairs" "java/lang/Object") ∈ tb := tb_in (List.mem_append_right _ (List.mem_append_right _ (List.mem_append_left _ (List.mem_of_getElem? (l := tables_1_2) (i := 38) (by decide +kernel))))) (by decide +kernel)
theorem mt_279 : (Cond.classLink "SoftStairs" (59 : Nat) "SoftStairs$History") ∈ tb := tb_in (List.mem_append_right _ (List.mem_append_right _ (List.mem_append_left _ (List.mem_of_getElem? (l := tables_1_2) (i := 39) (by decide +kernel))))) (by decide +kernel)
theorem mt_280 : (Cond.instantiable "SoftStairs$History" (3 : Nat)) ∈ tb := tb_in (List.mem_append_right _ (List.mem_append_right _ (List.mem_append_left _ (List.mem_of_getElem? (l := tables_1_2) (i := 40) (by decide +kernel))))) (by decide +kernel)
theorem mt_281 : (Cond.methodLink "SoftStairs" (61 : Nat) ({ cls := "SoftStairs$History", name := "<init>", desc := "(LSoftStairs$Rule;)V" } : MethodName)) ∈ tb := tb_in (List.mem_append_right _ (List.mem_append_right _ (List.mem_append_left _ (List.mem_of_getElem? (l := tables_1_2) (i := 41) (by decide +kernel))))) (by decide +kernel)
theorem mt_282 : (Cond.instanceMethod ({ cls := "SoftStairs$History", name := "<init>", desc := "(LSoftStairs$Rule;)V" } : MethodName)) ∈ tb := tb_in (List.mem_append_right _ (List.mem_append_right _ (List.mem_append_left _ (List.mem_of_getElem? (l := tables_1_2) (i := 42) (by decide +kernel))))) (by decide +kernel)
theorem mt_283 : (Cond.code ({ cls := "SoftStairs$History", name := "<init>", desc := "(LSoftStairs$Rule;)V" } : MethodName) prog_2_method_1_code (3 : Nat) (Option.none : Option FieldType)) ∈ tb := tb_in (List.mem_append_right _ (List.mem_append_right _ (List.mem_append_left _ (List.mem_of_getElem? (l := tables_1_2) (i := 43) (by decide +kernel))))) (by decide +kernel)
theorem mt_284 : (Cond.methodLink "SoftStairs$History" (3 : Nat) ({ cls := "java/lang/Object", name := "<init>", desc := "()V" } : MethodName)) ∈ tb := tb_in (List.mem_append_right _ (List.mem_append_right _ (List.mem_append_left _ (List.mem_of_getElem? (l := tables_1_2) (i := 44) (by decide +kernel))))) (by decide +kernel)
theorem mt_285 : (Cond.classLink "SoftStairs$History" (9 : Nat) "SoftStairs$Stairs") ∈ tb := tb_in (List.mem_append_right _ (List.mem_append_right _ (List.mem_append_left _ (List.mem_of_getElem? (l := tables_1_2) (i := 45) (by decide +kernel))))) (by decide +kernel)
theorem mt_286 : (Cond.methodLink "SoftStairs$History" (17 : Nat) ({ cls := "SoftStairs$Stairs", name := "<init>", desc := "(LSoftStairs$Rule;)V" } : MethodName)) ∈ tb := tb_in (List.mem_append_right _ (List.mem_append_right _ (List.mem_append_left _ (List.mem_of_getElem? (l := tables_1_2) (i := 46) (by decide +kernel))))) (by decide +kernel)
theorem mt_287 : (Cond.fieldLink "SoftStairs$History" (11 : Nat) "SoftStairs$History" "states" "[LSoftStairs$Stairs;") ∈ tb := tb_in (List.mem_append_right _ (List.mem_append_right _ (List.mem_append_left _ (List.mem_of_getElem? (l := tables_1_2) (i := 47) (by decide +kernel))))) (by decide +kernel)
theorem mt_288 : (Cond.fieldLink "SoftStairs$History" (20 : Nat) "SoftStairs$History" "latest" "I") ∈ tb := tb_in (List.mem_append_right _ (List.mem_append_right _ (List.mem_append_left _ (List.mem_of_getElem? (l := tables_1_2) (i := 48) (by decide +kernel))))) (by decide +kernel)
theorem mt_289 : (Cond.fieldLink "SoftStairs$History" (28 : Nat) "SoftStairs$History" "length" "I") ∈ tb := tb_in (List.mem_append_right _ (List.mem_append_right _ (List.mem_append_left _ (List.mem_of_getElem? (l := tables_1_2) (i := 49) (by decide +kernel))))) (by decide +kernel)
theorem mt_290 : (Cond.fieldLink "SoftStairs" (159 : Nat) "SoftStairs$History" "length" "I") ∈ tb := tb_in (List.mem_append_right _ (List.mem_append_right _ (List.mem_append_left _ (List.mem_of_getElem? (l := tables_1_2) (i := 50) (by decide +kernel))))) (by decide +kernel)
theorem mt_291 : (Cond.laysFinal "SoftStairs$History" "SoftStairs$History" "states" "[LSoftStairs$Stairs;") ∈ tb := tb_in (List.mem_append_right _ (List.mem_append_right _ (List.mem_append_left _ (List.mem_of_getElem? (l := tables_1_2) (i := 51) (by decide +kernel))))) (by decide +kernel)
theorem mt_292 : (Cond.soleField "SoftStairs$History" "states") ∈ tb := tb_in (List.mem_append_right _ (List.mem_append_right _ (List.mem_append_left _ (List.mem_of_getElem? (l := tables_1_2) (i := 52) (by decide +kernel))))) (by decide +kernel)
theorem mt_293 : (Cond.lays "SoftStairs$History" "SoftStairs$History" "latest" "I") ∈ tb := tb_in (List.mem_append_right _ (List.mem_append_right _ (List.mem_append_left _ (List.mem_of_getElem? (l := tables_1_2) (i := 53) (by decide +kernel))))) (by decide +kernel)
theorem mt_294 : (Cond.soleField "SoftStairs$History" "latest") ∈ tb := tb_in (List.mem_append_right _ (List.mem_append_right _ (List.mem_append_left _ (List.mem_of_getElem? (l := tables_1_2) (i := 54) (by decide +kernel))))) (by decide +kernel)
theorem mt_295 : (Cond.lays "SoftStairs$History" "SoftStairs$History" "length" "I") ∈ tb := tb_in (List.mem_append_right _ (List.mem_append_right _ (List.mem_append_left _ (List.mem_of_getElem? (l := tables_1_2) (i := 55) (by decide +kernel))))) (by decide +kernel)
theorem mt_296 : (Cond.soleField "SoftStairs$History" "length") ∈ tb := tb_in (List.mem_append_right _ (List.mem_append_right _ (List.mem_append_left _ (List.mem_of_getElem? (l := tables_1_2) (i := 56) (by decide +kernel))))) (by decide +kernel)
theorem mt_297 : (Cond.superclass "SoftStairs$History" "java/lang/Object") ∈ tb := tb_in (List.mem_append_right _ (List.mem_append_right _ (List.mem_append_left _ (List.mem_of_getElem? (l := tables_1_2) (i := 57) (by decide +kernel))))) (by decide +kernel)
theorem mt_298 : (Cond.fieldLink "SoftStairs" (10 : Nat) "SoftStairs" "pad" "LSoftStairs$Pad;") ∈ tb := tb_in (List.mem_append_right _ (List.mem_append_right _ (List.mem_append_left _ (List.mem_of_getElem? (l := tables_1_2) (i := 58) (by decide +kernel))))) (by decide +kernel)
theorem mt_299 : (Cond.fieldLink "SoftStairs" (19 : Nat) "SoftStairs" "reader" "LSoftStairs$Reader;") ∈ tb := tb_in (List.mem_append_right _ (List.mem_append_right _ (List.mem_append_left _ (List.mem_of_getElem? (l := tables_1_2) (i := 59) (by decide +kernel))))) (by decide +kernel)
theorem mt_300 : (Cond.fieldLink "SoftStairs" (52 : Nat) "SoftStairs" "now" "LSoftStairs$Stairs;") ∈ tb := tb_in (List.mem_append_right _ (List.mem_append_right _ (List.mem_append_left _ (List.mem_of_getElem? (l := tables_1_2) (i := 60) (by decide +kernel))))) (by decide +kernel)
theorem mt_301 : (Cond.fieldLink "SoftStairs" (56 : Nat) "SoftStairs" "trial" "LSoftStairs$Stairs;") ∈ tb := tb_in (List.mem_append_right _ (List.mem_append_right _ (List.mem_append_left _ (List.mem_of_getElem? (l := tables_1_2) (i := 61) (by decide +kernel))))) (by decide +kernel)
theorem mt_302 : (Cond.fieldLink "SoftStairs" (62 : Nat) "SoftStairs" "history" "LSoftStairs$History;") ∈ tb := tb_in (List.mem_append_right _ (List.mem_append_right _ (List.mem_append_left _ (List.mem_of_getElem? (l := tables_1_2) (i := 62) (by decide +kernel))))) (by decide +kernel)
theorem mt_303 : (Cond.fieldLink "SoftStairs" (25 : Nat) "SoftStairs" "slots" "[LSoftStairs$Stairs;") ∈ tb := tb_in (List.mem_append_right _ (List.mem_append_right _ (List.mem_append_left _ (List.mem_of_getElem? (l := tables_1_2) (i := 63) (by decide +kernel))))) (by decide +kernel)
theorem mt_304 : (Cond.fieldLink "SoftStairs" (29 : Nat) "SoftStairs" "saved" "[Z") ∈ tb := tb_in (List.mem_append_right _ (List.mem_append_right _ (List.mem_append_left _ (List.mem_of_getElem? (l := tables_1_2) (i := 64) (by decide +kernel))))) (by decide +kernel)
theorem mt_305 : (Cond.laysFinal "SoftStairs" "SoftStairs" "pad" "LSoftStairs$Pad;") ∈ tb := tb_in (List.mem_append_right _ (List.mem_append_right _ (List.mem_append_left _ (List.mem_of_getElem? (l := tables_1_2) (i := 65) (by decide +kernel))))) (by decide +kernel)
theorem mt_306 : (Cond.soleField "SoftStairs" "pad") ∈ tb := tb_in (List.mem_append_right _ (List.mem_append_right _ (List.mem_append_left _ (List.mem_of_getElem? (l := tables_1_2) (i := 66) (by decide +kernel))))) (by decide +kernel)
theorem mt_307 : (Cond.laysFinal "SoftStairs" "SoftStairs" "reader" "LSoftStairs$Reader;") ∈ tb := tb_in (List.mem_append_right _ (List.mem_append_right _ (List.mem_append_left _ (List.mem_of_getElem? (l := tables_1_2) (i := 67) (by decide +kernel))))) (by decide +kernel)
theorem mt_308 : (Cond.soleField "SoftStairs" "reader") ∈ tb := tb_in (List.mem_append_right _ (List.mem_append_right _ (List.mem_append_left _ (List.mem_of_getElem? (l := tables_1_2) (i := 68) (by decide +kernel))))) (by decide +kernel)
theorem mt_309 : (Cond.laysFinal "SoftStairs" "SoftStairs" "now" "LSoftStairs$Stairs;") ∈ tb := tb_in (List.mem_append_right _ (List.mem_append_right _ (List.mem_append_left _ (List.mem_of_getElem? (l := tables_1_2) (i := 69) (by decide +kernel))))) (by decide +kernel)
theorem mt_310 : (Cond.soleField "SoftStairs" "now") ∈ tb := tb_in (List.mem_append_right _ (List.mem_append_right _ (List.mem_append_left _ (List.mem_of_getElem? (l := tables_1_2) (i := 70) (by decide +kernel))))) (by decide +kernel)
theorem mt_311 : (Cond.laysFinal "SoftStairs" "SoftStairs" "trial" "LSoftStairs$Stairs;") ∈ tb := tb_in (List.mem_append_right _ (List.mem_append_right _ (List.mem_append_left _ (List.mem_of_getElem? (l := tables_1_2) (i := 71) (by decide +kernel))))) (by decide +kernel)
theorem mt_312 : (Cond.soleField "SoftStairs" "trial") ∈ tb := tb_in (List.mem_append_right _ (List.mem_append_right _ (List.mem_append_left _ (List.mem_of_getElem? (l := tables_1_2) (i := 72) (by decide +kernel))))) (by decide +kernel)
theorem mt_313 : (Cond.laysFinal "SoftStairs" "SoftStairs" "history" "LSoftStairs$History;") ∈ tb := tb_in (List.mem_append_right _ (List.mem_append_right _ (List.mem_append_left _ (List.mem_of_getElem? (l := tables_1_2) (i := 73) (by decide +kernel))))) (by decide +kernel)
theorem mt_314 : (Cond.soleField "SoftStairs" "history") ∈ tb := tb_in (List.mem_append_right _ (List.mem_append_right _ (List.mem_append_left _ (List.mem_of_getElem? (l := tables_1_2) (i := 74) (by decide +kernel))))) (by decide +kernel)
theorem mt_315 : (Cond.laysFinal "SoftStairs" "SoftStairs" "slots" "[LSoftStairs$Stairs;") ∈ tb := tb_in (List.mem_append_right _ (List.mem_append_right _ (List.mem_append_left _ (List.mem_of_getElem? (l := tables_1_2) (i := 75) (by decide +kernel))))) (by decide +kernel)
theorem mt_316 : (Cond.soleField "SoftStairs" "slots") ∈ tb := tb_in (List.mem_append_right _ (List.mem_append_right _ (List.mem_append_left _ (List.mem_of_getElem? (l := tables_1_2) (i := 76) (by decide +kernel))))) (by decide +kernel)
theorem mt_317 : (Cond.laysFinal "SoftStairs" "SoftStairs" "saved" "[Z") ∈ tb := tb_in (List.mem_append_right _ (List.mem_append_right _ (List.mem_append_left _ (List.mem_of_getElem? (l := tables_1_2) (i := 77) (by decide +kernel))))) (by decide +kernel)
theorem mt_318 : (Cond.soleField "SoftStairs" "saved") ∈ tb := tb_in (List.mem_append_right _ (List.mem_append_right _ (List.mem_append_left _ (List.mem_of_getElem? (l := tables_1_2) (i := 78) (by decide +kernel))))) (by decide +kernel)
theorem mt_319 : (Cond.superclass "SoftStairs" "java/lang/Object") ∈ tb := tb_in (List.mem_append_right _ (List.mem_append_right _ (List.mem_append_left _ (List.mem_of_getElem? (l := tables_1_2) (i := 79) (by decide +kernel))))) (by decide +kernel)
theorem mt_320 : (Cond.methodLink "SoftStairsLaw" (13 : Nat) ({ cls := "SoftStairs", name := "set", desc := "(II)I" } : MethodName)) ∈ tb := tb_in (List.mem_append_right _ (List.mem_append_right _ (List.mem_append_left _ (List.mem_of_getElem? (l := tables_1_2) (i := 80) (by decide +kernel))))) (by decide +kernel)
theorem mt_321 : (Cond.instanceMethod ({ cls := "SoftStairs", name := "set", desc := "(II)I" } : MethodName)) ∈ tb := tb_in (List.mem_append_right _ (List.mem_append_right _ (List.mem_append_left _ (List.mem_of_getElem? (l := tables_1_2) (i := 81) (by decide +kernel))))) (by decide +kernel)
theorem mt_322 : (Cond.selects "SoftStairs" ({ cls := "SoftStairs", name := "set", desc := "(II)I" } : MethodName) ({ cls := "SoftStairs", name := "set", desc := "(II)I" } : MethodName)) ∈ tb := tb_in (List.mem_append_right _ (List.mem_append_right _ (List.mem_append_left _ (List.mem_of_getElem? (l := tables_1_2) (i := 82) (by decide +kernel))))) (by decide +kernel)
theorem mt_323 : (Cond.code ({ cls := "SoftStairs", name := "set", desc := "(II)I" } : MethodName) prog_1_method_2_code (4 : Nat) (Option.some FieldType.int)) ∈ tb := tb_in (List.mem_append_right _ (List.mem_append_right _ (List.mem_append_left _ (List.mem_of_getElem? (l := tables_1_2) (i := 83) (by decide +kernel))))) (by decide +kernel)
theorem mt_324 : (Cond.fieldLink "SoftStairs" (66 : Nat) "SoftStairs" "LEAST" "[I") ∈ tb := tb_in (List.mem_append_right _ (List.mem_append_right _ (List.mem_append_left _ (List.mem_of_getElem? (l := tables_1_2) (i := 84) (by decide +kernel))))) (by decide +kernel)
theorem ml_325 : (Cond.laysStatic "SoftStairs" "LEAST" "[I") ∈ lw_tbl := List.mem_append_right _ (List.mem_append_right _ (List.mem_append_left _ (List.mem_of_getElem? (l := tables_1_2) (i := 85) (by decide +kernel))))
theorem mt_326 : (Cond.fieldLink "SoftStairs" (70 : Nat) "SoftStairs" "GREATEST" "[I") ∈ tb := tb_in (List.mem_append_right _ (List.mem_append_right _ (List.mem_append_left _ (List.mem_of_getElem? (l := tables_1_2) (i := 86) (by decide +kernel))))) (by decide +kernel)
theorem ml_327 : (Cond.laysStatic "SoftStairs" "GREATEST" "[I") ∈ lw_tbl := List.mem_append_right _ (List.mem_append_right _ (List.mem_append_left _ (List.mem_of_getElem? (l := tables_1_2) (i := 87) (by decide +kernel))))
theorem mt_328 : (Cond.methodLink "SoftStairs" (73 : Nat) ({ cls := "SoftStairs$History", name := "record", desc := "(LSoftStairs$Stairs;)V" } : MethodName)) ∈ tb := tb_in (List.mem_append_right _ (List.mem_append_right _ (List.mem_append_left _ (List.mem_of_getElem? (l := tables_1_2) (i := 88) (by decide +kernel))))) (by decide +kernel)
theorem mt_329 : (Cond.instanceMethod ({ cls := "SoftStairs$History", name := "record", desc := "(LSoftStairs$Stairs;)V" } : MethodName)) ∈ tb := tb_in (List.mem_append_right _ (List.mem_append_right _ (List.mem_append_left _ (List.mem_of_getElem? (l := tables_1_2) (i := 89) (by decide +kernel))))) (by decide +kernel)
theorem mt_330 : (Cond.selects "SoftStairs$History" ({ cls := "SoftStairs$History", name := "record", desc := "(LSoftStairs$Stairs;)V" } : MethodName) ({ cls := "SoftStairs$History", name := "record", desc := "(LSoftStairs$Stairs;)V" } : MethodName)) ∈ tb := tb_in (List.mem_append_right _ (List.mem_append_right _ (List.mem_append_left _ (List.mem_of_getElem? (l := tables_1_2) (i := 90) (by decide +kernel))))) (by decide +kernel)
theorem mt_331 : (Cond.code ({ cls := "SoftStairs$History", name := "record", desc := "(LSoftStairs$Stairs;)V" } : MethodName) prog_2_method_2_code (2 : Nat) (Option.none : Option FieldType)) ∈ tb := tb_in (List.mem_append_right _ (List.mem_append_right _ (List.mem_append_left _ (List.mem_of_getElem? (l := tables_1_2) (i := 91) (by decide +kernel))))) (by decide +kernel)
theorem mt_332 : (Cond.methodLink "SoftStairs$History" (24 : Nat) ({ cls := "SoftStairs$Stairs", name := "copy", desc := "(LSoftStairs$Stairs;)V" } : MethodName)) ∈ tb := tb_in (List.mem_append_right _ (List.mem_append_right _ (List.mem_append_left _ (List.mem_of_getElem? (l := tables_1_2) (i := 92) (by decide +kernel))))) (by decide +kernel)
theorem mt_333 : (Cond.instanceMethod ({ cls := "SoftStairs$Stairs", name := "copy", desc := "(LSoftStairs$Stairs;)V" } : MethodName)) ∈ tb := tb_in (List.mem_append_right _ (List.mem_append_right _ (List.mem_append_left _ (List.mem_of_getElem? (l := tables_1_2) (i := 93) (by decide +kernel))))) (by decide +kernel)
theorem mt_334 : (Cond.selects "SoftStairs$Stairs" ({ cls := "SoftStairs$Stairs", name := "copy", desc := "(LSoftStairs$Stairs;)V" } : MethodName) ({ cls := "SoftStairs$Stairs", name := "copy", desc := "(LSoftStairs$Stairs;)V" } : MethodName)) ∈ tb := tb_in (List.mem_append_right _ (List.mem_append_right _ (List.mem_append_left _ (List.mem_of_getElem? (l := tables_1_2) (i := 94) (by decide +kernel))))) (by decide +kernel)
theorem mt_335 : (Cond.code ({ cls := "SoftStairs$Stairs", name := "copy", desc := "(LSoftStairs$Stairs;)V" } : MethodName) prog_6_method_2_code (2 : Nat) (Option.none : Option FieldType)) ∈ tb := tb_in (List.mem_append_right _ (List.mem_append_right _ (List.mem_append_left _ (List.mem_of_getElem? (l := tables_1_2) (i := 95) (by decide +kernel))))) (by decide +kernel)
theorem mt_336 : (Cond.methodLink "SoftStairs$History" (31 : Nat) ({ cls := "java/lang/Math", name := "min", desc := "(II)I" } : MethodName)) ∈ tb := tb_in (List.mem_append_right _ (List.mem_append_right _ (List.mem_append_left _ (List.mem_of_getElem? (l := tables_1_2) (i := 96) (by decide +kernel))))) (by decide +kernel)
theorem mt_337 : (Cond.static ({ cls := "java/lang/Math", name := "min", desc := "(II)I" } : MethodName)) ∈ tb := tb_in (List.mem_append_right _ (List.mem_append_right _ (List.mem_append_left _ (List.mem_of_getElem? (l := tables_1_2) (i := 97) (by decide +kernel))))) (by decide +kernel)
theorem mt_338 : (Cond.code ({ cls := "java/lang/Math", name := "min", desc := "(II)I" } : MethodName) prog_11_method_69_code (2 : Nat) (Option.some FieldType.int)) ∈ tb := tb_in (List.mem_append_right _ (List.mem_append_right _ (List.mem_append_left _ (List.mem_of_getElem? (l := tables_1_2) (i := 98) (by decide +kernel))))) (by decide +kernel)
theorem mt_339 : (Cond.methodLink "SoftStairsLaw" (18 : Nat) ({ cls := "SoftStairs", name := "come", desc := "(I)I" } : MethodName)) ∈ tb := tb_in (List.mem_append_right _ (List.mem_append_right _ (List.mem_append_left _ (List.mem_of_getElem? (l := tables_1_2) (i := 99) (by decide +kernel))))) (by decide +kernel)
theorem mt_340 : (Cond.instanceMethod ({ cls := "SoftStairs", name := "come", desc := "(I)I" } : MethodName)) ∈ tb := tb_in (List.mem_append_right _ (List.mem_append_right _ (List.mem_append_left _ (List.mem_of_getElem? (l := tables_1_2) (i := 100) (by decide +kernel))))) (by decide +kernel)
theorem mt_341 : (Cond.selects "SoftStairs" ({ cls := "SoftStairs", name := "come", desc := "(I)I" } : MethodName) ({ cls := "SoftStairs", name := "come", desc := "(I)I" } : MethodName)) ∈ tb := tb_in (List.mem_append_right _ (List.mem_append_right _ (List.mem_append_left _ (List.mem_of_getElem? (l := tables_1_2) (i := 101) (by decide +kernel))))) (by decide +kernel)
theorem mt_342 : (Cond.code ({ cls := "SoftStairs", name := "come", desc := "(I)I" } : MethodName) prog_1_method_3_code (2 : Nat) (Option.some FieldType.int)) ∈ tb := tb_in (List.mem_append_right _ (List.mem_append_right _ (List.mem_append_left _ (List.mem_of_getElem? (l := tables_1_2) (i := 102) (by decide +kernel))))) (by decide +kernel)
theorem mt_343 : (Cond.methodLink "SoftStairs" (87 : Nat) ({ cls := "SoftStairs$Stairs", name := "stepOn", desc := "(I)V" } : MethodName)) ∈ tb := tb_in (List.mem_append_right _ (List.mem_append_right _ (List.mem_append_left _ (List.mem_of_getElem? (l := tables_1_2) (i := 103) (by decide +kernel))))) (by decide +kernel)
theorem mt_344 : (Cond.instanceMethod ({ cls := "SoftStairs$Stairs", name := "stepOn", desc := "(I)V" } : MethodName)) ∈ tb := tb_in (List.mem_append_right _ (List.mem_append_right _ (List.mem_append_left _ (List.mem_of_getElem? (l := tables_1_2) (i := 104) (by decide +kernel))))) (by decide +kernel)
theorem mt_345 : (Cond.selects "SoftStairs$Stairs" ({ cls := "SoftStairs$Stairs", name := "stepOn", desc := "(I)V" } : MethodName) ({ cls := "SoftStairs$Stairs", name := "stepOn", desc := "(I)V" } : MethodName)) ∈ tb := tb_in (List.mem_append_right _ (List.mem_append_right _ (List.mem_append_left _ (List.mem_of_getElem? (l := tables_1_2) (i := 105) (by decide +kernel))))) (by decide +kernel)
theorem mt_346 : (Cond.code ({ cls := "SoftStairs$Stairs", name := "stepOn", desc := "(I)V" } : MethodName) prog_6_method_6_code (2 : Nat) (Option.none : Option FieldType)) ∈ tb := tb_in (List.mem_append_right _ (List.mem_append_right _ (List.mem_append_left _ (List.mem_of_getElem? (l := tables_1_2) (i := 106) (by decide +kernel))))) (by decide +kernel)
theorem mt_347 : (Cond.methodLink "SoftStairsLaw" (23 : Nat) ({ cls := "SoftStairs", name := "sense", desc := "(III)I" } : MethodName)) ∈ tb := tb_in (List.mem_append_right _ (List.mem_append_right _ (List.mem_append_left _ (List.mem_of_getElem? (l := tables_1_2) (i := 107) (by decide +kernel))))) (by decide +kernel)
theorem mt_348 : (Cond.instanceMethod ({ cls := "SoftStairs", name := "sense", desc := "(III)I" } : MethodName)) ∈ tb := tb_in (List.mem_append_right _ (List.mem_append_right _ (List.mem_append_left _ (List.mem_of_getElem? (l := tables_1_2) (i := 108) (by decide +kernel))))) (by decide +kernel)
theorem mt_349 : (Cond.selects "SoftStairs" ({ cls := "SoftStairs", name := "sense", desc := "(III)I" } : MethodName) ({ cls := "SoftStairs", name := "sense", desc := "(III)I" } : MethodName)) ∈ tb := tb_in (List.mem_append_right _ (List.mem_append_right _ (List.mem_append_left _ (List.mem_of_getElem? (l := tables_1_2) (i := 109) (by decide +kernel))))) (by decide +kernel)
theorem mt_350 : (Cond.code ({ cls := "SoftStairs", name := "sense", desc := "(III)I" } : MethodName) prog_1_method_4_code (5 : Nat) (Option.some FieldType.int)) ∈ tb := tb_in (List.mem_append_right _ (List.mem_append_right _ (List.mem_append_left _ (List.mem_of_getElem? (l := tables_1_2) (i := 110) (by decide +kernel))))) (by decide +kernel)
theorem mt_351 : (Cond.methodLink "SoftStairs" (91 : Nat) ({ cls := "SoftStairs$Stairs", name := "complains", desc := "(II)I" } : MethodName)) ∈ tb := tb_in (List.mem_append_right _ (List.mem_append_right _ (List.mem_append_left _ (List.mem_of_getElem? (l := tables_1_2) (i := 111) (by decide +kernel))))) (by decide +kernel)
theorem mt_352 : (Cond.instanceMethod ({ cls := "SoftStairs$Stairs", name := "complains", desc := "(II)I" } : MethodName)) ∈ tb := tb_in (List.mem_append_right _ (List.mem_append_right _ (List.mem_append_left _ (List.mem_of_getElem? (l := tables_1_2) (i := 112) (by decide +kernel))))) (by decide +kernel)
theorem mt_353 : (Cond.selects "SoftStairs$Stairs" ({ cls := "SoftStairs$Stairs", name := "complains", desc := "(II)I" } : MethodName) ({ cls := "SoftStairs$Stairs", name := "complains", desc := "(II)I" } : MethodName)) ∈ tb := tb_in (List.mem_append_right _ (List.mem_append_right _ (List.mem_append_left _ (List.mem_of_getElem? (l := tables_1_2) (i := 113) (by decide +kernel))))) (by decide +kernel)
theorem mt_354 : (Cond.code ({ cls := "SoftStairs$Stairs", name := "complains", desc := "(II)I" } : MethodName) prog_6_method_7_code (3 : Nat) (Option.some FieldType.int)) ∈ tb := tb_in (List.mem_append_right _ (List.mem_append_right _ (List.mem_append_left _ (List.mem_of_getElem? (l := tables_1_2) (i := 114) (by decide +kernel))))) (by decide +kernel)
theorem mt_355 : (Cond.methodLink "SoftStairs" (95 : Nat) ({ cls := "SoftStairs$Stairs", name := "setComplaint", desc := "(III)V" } : MethodName)) ∈ tb := tb_in (List.mem_append_right _ (List.mem_append_right _ (List.mem_append_left _ (List.mem_of_getElem? (l := tables_1_2) (i := 115) (by decide +kernel))))) (by decide +kernel)
theorem mt_356 : (Cond.instanceMethod ({ cls := "SoftStairs$Stairs", name := "setComplaint", desc := "(III)V" } : MethodName)) ∈ tb := tb_in (List.mem_append_right _ (List.mem_append_right _ (List.mem_append_left _ (List.mem_of_getElem? (l := tables_1_2) (i := 116) (by decide +kernel))))) (by decide +kernel)
theorem mt_357 : (Cond.selects "SoftStairs$Stairs" ({ cls := "SoftStairs$Stairs", name := "setComplaint", desc := "(III)V" } : MethodName) ({ cls := "SoftStairs$Stairs", name := "setComplaint", desc := "(III)V" } : MethodName)) ∈ tb := tb_in (List.mem_append_right _ (List.mem_append_right _ (List.mem_append_left _ (List.mem_of_getElem? (l := tables_1_2) (i := 117) (by decide +kernel))))) (by decide +kernel)
theorem mt_358 : (Cond.code ({ cls := "SoftStairs$Stairs", name := "setComplaint", desc := "(III)V" } : MethodName) prog_6_method_8_code (5 : Nat) (Option.none : Option FieldType)) ∈ tb := tb_in (List.mem_append_right _ (List.mem_append_right _ (List.mem_append_left _ (List.mem_of_getElem? (l := tables_1_2) (i := 118) (by decide +kernel))))) (by decide +kernel)
theorem mt_359 : (Cond.methodLink "SoftStairsLaw" (28 : Nat) ({ cls := "SoftStairs", name := "stop", desc := "()I" } : MethodName)) ∈ tb := tb_in (List.mem_append_right _ (List.mem_append_right _ (List.mem_append_left _ (List.mem_of_getElem? (l := tables_1_2) (i := 119) (by decide +kernel))))) (by decide +kernel)
theorem mt_360 : (Cond.instanceMethod ({ cls := "SoftStairs", name := "stop", desc := "()I" } : MethodName)) ∈ tb := tb_in (List.mem_append_right _ (List.mem_append_right _ (List.mem_append_left _ (List.mem_of_getElem? (l := tables_1_2) (i := 120) (by decide +kernel))))) (by decide +kernel)
theorem mt_361 : (Cond.selects "SoftStairs" ({ cls := "SoftStairs", name := "stop", desc := "()I" } : MethodName) ({ cls := "SoftStairs", name := "stop", desc := "()I" } : MethodName)) ∈ tb := tb_in (List.mem_append_right _ (List.mem_append_right _ (List.mem_append_left _ (List.mem_of_getElem? (l := tables_1_2) (i := 121) (by decide +kernel))))) (by decide +kernel)
theorem mt_362 : (Cond.code ({ cls := "SoftStairs", name := "stop", desc := "()I" } : MethodName) prog_1_method_5_code (1 : Nat) (Option.some FieldType.int)) ∈ tb := tb_in (List.mem_append_right _ (List.mem_append_right _ (List.mem_append_left _ (List.mem_of_getElem? (l := tables_1_2) (i := 122) (by decide +kernel))))) (by decide +kernel)
theorem mt_363 : (Cond.methodLink "SoftStairs" (99 : Nat) ({ cls := "SoftStairs$Stairs", name := "beginStop", desc := "(I)V" } : MethodName)) ∈ tb := tb_in (List.mem_append_right _ (List.mem_append_right _ (List.mem_append_left _ (List.mem_of_getElem? (l := tables_1_2) (i := 123) (by decide +kernel))))) (by decide +kernel)
theorem mt_364 : (Cond.instanceMethod ({ cls := "SoftStairs$Stairs", name := "beginStop", desc := "(I)V" } : MethodName)) ∈ tb := tb_in (List.mem_append_right _ (List.mem_append_right _ (List.mem_append_left _ (List.mem_of_getElem? (l := tables_1_2) (i := 124) (by decide +kernel))))) (by decide +kernel)
theorem mt_365 : (Cond.selects "SoftStairs$Stairs" ({ cls := "SoftStairs$Stairs", name := "beginStop", desc := "(I)V" } : MethodName) ({ cls := "SoftStairs$Stairs", name := "beginStop", desc := "(I)V" } : MethodName)) ∈ tb := tb_in (List.mem_append_right _ (List.mem_append_right _ (List.mem_append_left _ (List.mem_of_getElem? (l := tables_1_2) (i := 125) (by decide +kernel))))) (by decide +kernel)
theorem mt_366 : (Cond.code ({ cls := "SoftStairs$Stairs", name := "beginStop", desc := "(I)V" } : MethodName) prog_6_method_10_code (2 : Nat) (Option.none : Option FieldType)) ∈ tb := tb_in (List.mem_append_right _ (List.mem_append_right _ (List.mem_append_left _ (List.mem_of_getElem? (l := tables_1_2) (i := 126) (by decide +kernel))))) (by decide +kernel)
theorem mt_367 : (Cond.methodLink "SoftStairs$Stairs" (77 : Nat) ({ cls := "SoftStairs$Stairs", name := "totalWeight", desc := "()I" } : MethodName)) ∈ tb := tb_in (List.mem_append_right _ (List.mem_append_right _ (List.mem_append_left _ (List.mem_of_getElem? (l := tables_1_2) (i := 127) (by decide +kernel))))) (by decide +kernel)
theorem mt_368 : (Cond.instanceMethod ({ cls := "SoftStairs$Stairs", name := "totalWeight", desc := "()I" } : MethodName)) ∈ tb := tb_in (List.mem_append_right _ (List.mem_append_right _ (List.mem_append_left _ (List.mem_of_getElem? (l := tables_1_2) (i := 128) (by decide +kernel))))) (by decide +kernel)
theorem mt_369 : (Cond.selects "SoftStairs$Stairs" ({ cls := "SoftStairs$Stairs", name := "totalWeight", desc := "()I" } : MethodName) ({ cls := "SoftStairs$Stairs", name := "totalWeight", desc := "()I" } : MethodName)) ∈ tb := tb_in (List.mem_append_right _ (List.mem_append_right _ (List.mem_append_left _ (List.mem_of_getElem? (l := tables_1_2) (i := 129) (by decide +kernel))))) (by decide +kernel)
theorem mt_370 : (Cond.code ({ cls := "SoftStairs$Stairs", name := "totalWeight", desc := "()I" } : MethodName) prog_6_method_5_code (3 : Nat) (Option.some FieldType.int)) ∈ tb := tb_in (List.mem_append_right _ (List.mem_append_right _ (List.mem_append_left _ (List.mem_of_getElem? (l := tables_1_2) (i := 130) (by decide +kernel))))) (by decide +kernel)
theorem mt_371 : (Cond.methodLink "SoftStairsLaw" (33 : Nat) ({ cls := "SoftStairs", name := "restart", desc := "()I" } : MethodName)) ∈ tb := tb_in (List.mem_append_right _ (List.mem_append_right _ (List.mem_append_left _ (List.mem_of_getElem? (l := tables_1_2) (i := 131) (by decide +kernel))))) (by decide +kernel)
theorem mt_372 : (Cond.instanceMethod ({ cls := "SoftStairs", name := "restart", desc := "()I" } : MethodName)) ∈ tb := tb_in (List.mem_append_right _ (List.mem_append_right _ (List.mem_append_left _ (List.mem_of_getElem? (l := tables_1_2) (i := 132) (by decide +kernel))))) (by decide +kernel)
theorem mt_373 : (Cond.selects "SoftStairs" ({ cls := "SoftStairs", name := "restart", desc := "()I" } : MethodName) ({ cls := "SoftStairs", name := "restart", desc := "()I" } : MethodName)) ∈ tb := tb_in (List.mem_append_right _ (List.mem_append_right _ (List.mem_append_left _ (List.mem_of_getElem? (l := tables_1_2) (i := 133) (by decide +kernel))))) (by decide +kernel)
theorem mt_374 : (Cond.code ({ cls := "SoftStairs", name := "restart", desc := "()I" } : MethodName) prog_1_method_6_code (1 : Nat) (Option.some FieldType.int)) ∈ tb := tb_in (List.mem_append_right _ (List.mem_append_right _ (List.mem_append_left _ (List.mem_of_getElem? (l := tables_1_2) (i := 134) (by decide +kernel))))) (by decide +kernel)
theorem mt_375 : (Cond.methodLink "SoftStairs" (105 : Nat) ({ cls := "SoftStairs$Stairs", name := "ruleHolds", desc := "()Z" } : MethodName)) ∈ tb := tb_in (List.mem_append_right _ (List.mem_append_right _ (List.mem_append_left _ (List.mem_of_getElem? (l := tables_1_2) (i := 135) (by decide +kernel))))) (by decide +kernel)
theorem mt_376 : (Cond.instanceMethod ({ cls := "SoftStairs$Stairs", name := "ruleHolds", desc := "()Z" } : MethodName)) ∈ tb := tb_in (List.mem_append_right _ (List.mem_append_right _ (List.mem_append_left _ (List.mem_of_getElem? (l := tables_1_2) (i := 136) (by decide +kernel))))) (by decide +kernel)
theorem mt_377 : (Cond.selects "SoftStairs$Stairs" ({ cls := "SoftStairs$Stairs", name := "ruleHolds", desc := "()Z" } : MethodName) ({ cls := "SoftStairs$Stairs", name := "ruleHolds", desc := "()Z" } : MethodName)) ∈ tb := tb_in (List.mem_append_right _ (List.mem_append_right _ (List.mem_append_left _ (List.mem_of_getElem? (l := tables_1_2) (i := 137) (by decide +kernel))))) (by decide +kernel)
theorem mt_378 : (Cond.code ({ cls := "SoftStairs$Stairs", name := "ruleHolds", desc := "()Z" } : MethodName) prog_6_method_9_code (1 : Nat) (Option.some FieldType.boolean)) ∈ tb := tb_in (List.mem_append_right _ (List.mem_append_right _ (List.mem_append_left _ (List.mem_of_getElem? (l := tables_1_2) (i := 138) (by decide +kernel))))) (by decide +kernel)
theorem mt_379 : (Cond.methodLink "SoftStairs$Stairs" (85 : Nat) ({ cls := "SoftStairs$Rule", name := "holds", desc := "(I)Z" } : MethodName)) ∈ tb := tb_in (List.mem_append_right _ (List.mem_append_right _ (List.mem_append_left _ (List.mem_of_getElem? (l := tables_1_2) (i := 139) (by decide +kernel))))) (by decide +kernel)
theorem mt_380 : (Cond.instanceMethod ({ cls := "SoftStairs$Rule", name := "holds", desc := "(I)Z" } : MethodName)) ∈ tb := tb_in (List.mem_append_right _ (List.mem_append_right _ (List.mem_append_left _ (List.mem_of_getElem? (l := tables_1_2) (i := 140) (by decide +kernel))))) (by decide +kernel)
theorem mt_381 : (Cond.selects "SoftStairs$Rule" ({ cls := "SoftStairs$Rule", name := "holds", desc := "(I)Z" } : MethodName) ({ cls := "SoftStairs$Rule", name := "holds", desc := "(I)Z" } : MethodName)) ∈ tb := tb_in (List.mem_append_right _ (List.mem_append_right _ (List.mem_append_left _ (List.mem_of_getElem? (l := tables_1_2) (i := 141) (by decide +kernel))))) (by decide +kernel)
theorem mt_382 : (Cond.code ({ cls := "SoftStairs$Rule", name := "holds", desc := "(I)Z" } : MethodName) prog_5_method_7_code (2 : Nat) (Option.some FieldType.boolean)) ∈ tb := tb_in (List.mem_append_right _ (List.mem_append_right _ (List.mem_append_left _ (List.mem_of_getElem? (l := tables_1_2) (i := 142) (by decide +kernel))))) (by decide +kernel)
theorem mt_383 : (Cond.methodLink "SoftStairs$Rule" (50 : Nat) ({ cls := "SoftStairs$Rule", name := "holding", desc := "(I)J" } : MethodName)) ∈ tb := tb_in (List.mem_append_right _ (List.mem_append_right _ (List.mem_append_left _ (List.mem_of_getElem? (l := tables_1_2) (i := 143) (by decide +kernel))))) (by decide +kernel)
theorem mt_385 : (Cond.instanceMethod ({ cls := "SoftStairs$Rule", name := "holding", desc := "(I)J" } : MethodName)) ∈ tb := tb_in (List.mem_append_right _ (List.mem_append_right _ (List.mem_append_left _ (List.mem_of_getElem? (l := tables_1_2) (i := 145) (by decide +kernel))))) (by decide +kernel)
theorem mt_386 : (Cond.code ({ cls := "SoftStairs$Rule", name := "holding", desc := "(I)J" } : MethodName) prog_5_method_10_code (5 : Nat) (Option.some FieldType.long)) ∈ tb := tb_in (List.mem_append_right _ (List.mem_append_right _ (List.mem_append_left _ (List.mem_of_getElem? (l := tables_1_2) (i := 146) (by decide +kernel))))) (by decide +kernel)
theorem mt_387 : (Cond.methodLink "SoftStairs$Rule" (71 : Nat) ({ cls := "SoftStairs$Rule", name := "partHolds", desc := "(IIJ)Z" } : MethodName)) ∈ tb := tb_in (List.mem_append_right _ (List.mem_append_right _ (List.mem_append_left _ (List.mem_of_getElem? (l := tables_1_2) (i := 147) (by decide +kernel))))) (by decide +kernel)
theorem mt_389 : (Cond.instanceMethod ({ cls := "SoftStairs$Rule", name := "partHolds", desc := "(IIJ)Z" } : MethodName)) ∈ tb := tb_in (List.mem_append_right _ (List.mem_append_right _ (List.mem_append_left _ (List.mem_of_getElem? (l := tables_1_2) (i := 149) (by decide +kernel))))) (by decide +kernel)
theorem mt_390 : (Cond.code ({ cls := "SoftStairs$Rule", name := "partHolds", desc := "(IIJ)Z" } : MethodName) prog_5_method_11_code (7 : Nat) (Option.some FieldType.boolean)) ∈ tb := tb_in (List.mem_append_right _ (List.mem_append_right _ (List.mem_append_left _ (List.mem_of_getElem? (l := tables_1_2) (i := 150) (by decide +kernel))))) (by decide +kernel)
theorem mt_391 : (Cond.methodLink "SoftStairs$Rule" (54 : Nat) ({ cls := "SoftStairs$Rule", name := "isIn", desc := "(JI)Z" } : MethodName)) ∈ tb := tb_in (List.mem_append_right _ (List.mem_append_right _ (List.mem_append_left _ (List.mem_of_getElem? (l := tables_1_2) (i := 151) (by decide +kernel))))) (by decide +kernel)
theorem mt_393 : (Cond.instanceMethod ({ cls := "SoftStairs$Rule", name := "isIn", desc := "(JI)Z" } : MethodName)) ∈ tb := tb_in (List.mem_append_right _ (List.mem_append_right _ (List.mem_append_left _ (List.mem_of_getElem? (l := tables_1_2) (i := 153) (by decide +kernel))))) (by decide +kernel)
theorem mt_394 : (Cond.code ({ cls := "SoftStairs$Rule", name := "isIn", desc := "(JI)Z" } : MethodName) prog_5_method_14_code (4 : Nat) (Option.some FieldType.boolean)) ∈ tb := tb_in (List.mem_append_right _ (List.mem_append_right _ (List.mem_append_left _ (List.mem_of_getElem? (l := tables_1_2) (i := 154) (by decide +kernel))))) (by decide +kernel)
theorem mt_395 : (Cond.methodLink "SoftStairs$Rule" (75 : Nat) ({ cls := "SoftStairs$Rule", name := "letterHolds", desc := "(II)Z" } : MethodName)) ∈ tb := tb_in (List.mem_append_right _ (List.mem_append_right _ (List.mem_append_left _ (List.mem_of_getElem? (l := tables_1_2) (i := 155) (by decide +kernel))))) (by decide +kernel)
theorem mt_397 : (Cond.instanceMethod ({ cls := "SoftStairs$Rule", name := "letterHolds", desc := "(II)Z" } : MethodName)) ∈ tb := tb_in (List.mem_append_right _ (List.mem_append_right _ (List.mem_append_left _ (List.mem_of_getElem? (l := tables_1_2) (i := 157) (by decide +kernel))))) (by decide +kernel)
theorem mt_398 : (Cond.code ({ cls := "SoftStairs$Rule", name := "letterHolds", desc := "(II)Z" } : MethodName) prog_5_method_12_code (5 : Nat) (Option.some FieldType.boolean)) ∈ tb := tb_in (List.mem_append_right _ (List.mem_append_right _ (List.mem_append_left _ (List.mem_of_getElem? (l := tables_1_2) (i := 158) (by decide +kernel))))) (by decide +kernel)
theorem mt_399 : (Cond.methodLink "SoftStairsLaw" (37 : Nat) ({ cls := "SoftStairs", name := "pass", desc := "(I)I" } : MethodName)) ∈ tb := tb_in (List.mem_append_right _ (List.mem_append_right _ (List.mem_append_left _ (List.mem_of_getElem? (l := tables_1_2) (i := 159) (by decide +kernel))))) (by decide +kernel)
theorem mt_400 : (Cond.instanceMethod ({ cls := "SoftStairs", name := "pass", desc := "(I)I" } : MethodName)) ∈ tb := tb_in (List.mem_append_right _ (List.mem_append_right _ (List.mem_append_left _ (List.mem_of_getElem? (l := tables_1_2) (i := 160) (by decide +kernel))))) (by decide +kernel)
theorem mt_401 : (Cond.selects "SoftStairs" ({ cls := "SoftStairs", name := "pass", desc := "(I)I" } : MethodName) ({ cls := "SoftStairs", name := "pass", desc := "(I)I" } : MethodName)) ∈ tb := tb_in (List.mem_append_right _ (List.mem_append_right _ (List.mem_append_left _ (List.mem_of_getElem? (l := tables_1_2) (i := 161) (by decide +kernel))))) (by decide +kernel)
theorem mt_402 : (Cond.code ({ cls := "SoftStairs", name := "pass", desc := "(I)I" } : MethodName) prog_1_method_7_code (4 : Nat) (Option.some FieldType.int)) ∈ tb := tb_in (List.mem_append_right _ (List.mem_append_right _ (List.mem_append_left _ (List.mem_of_getElem? (l := tables_1_2) (i := 162) (by decide +kernel))))) (by decide +kernel)
theorem mt_403 : (Cond.constant "SoftStairs" (112 : Nat) (99999 : Int32)) ∈ tb := tb_in (List.mem_append_right _ (List.mem_append_right _ (List.mem_append_left _ (List.mem_of_getElem? (l := tables_1_2) (i := 163) (by decide +kernel))))) (by decide +kernel)
theorem mt_404 : (Cond.methodLink "SoftStairs" (113 : Nat) ({ cls := "SoftStairs$Stairs", name := "passTick", desc := "(Z)V" } : MethodName)) ∈ tb := tb_in (List.mem_append_right _ (List.mem_append_right _ (List.mem_append_left _ (List.mem_of_getElem? (l := tables_1_2) (i := 164) (by decide +kernel))))) (by decide +kernel)
theorem mt_405 : (Cond.instanceMethod ({ cls := "SoftStairs$Stairs", name := "passTick", desc := "(Z)V" } : MethodName)) ∈ tb := tb_in (List.mem_append_right _ (List.mem_append_right _ (List.mem_append_left _ (List.mem_of_getElem? (l := tables_1_2) (i := 165) (by decide +kernel))))) (by decide +kernel)
theorem mt_406 : (Cond.selects "SoftStairs$Stairs" ({ cls := "SoftStairs$Stairs", name := "passTick", desc := "(Z)V" } : MethodName) ({ cls := "SoftStairs$Stairs", name := "passTick", desc := "(Z)V" } : MethodName)) ∈ tb := tb_in (List.mem_append_right _ (List.mem_append_right _ (List.mem_append_left _ (List.mem_of_getElem? (l := tables_1_2) (i := 166) (by decide +kernel))))) (by decide +kernel)
theorem mt_407 : (Cond.code ({ cls := "SoftStairs$Stairs", name := "passTick", desc := "(Z)V" } : MethodName) prog_6_method_11_code (3 : Nat) (Option.none : Option FieldType)) ∈ tb := tb_in (List.mem_append_right _ (List.mem_append_right _ (List.mem_append_left _ (List.mem_of_getElem? (l := tables_1_2) (i := 167) (by decide +kernel))))) (by decide +kernel)
theorem mt_408 : (Cond.methodLink "SoftStairs$Stairs" (91 : Nat) ({ cls := "SoftStairs$Stairs", name := "beginStop", desc := "(I)V" } : MethodName)) ∈ tb := tb_in (List.mem_append_right _ (List.mem_append_right _ (List.mem_append_left _ (List.mem_of_getElem? (l := tables_1_2) (i := 168) (by decide +kernel))))) (by decide +kernel)
theorem mt_409 : (Cond.methodLink "SoftStairs$Stairs" (95 : Nat) ({ cls := "SoftStairs$Stairs", name := "countDisagreements", desc := "()V" } : MethodName)) ∈ tb := tb_in (List.mem_append_right _ (List.mem_append_right _ (List.mem_append_left _ (List.mem_of_getElem? (l := tables_1_2) (i := 169) (by decide +kernel))))) (by decide +kernel)
theorem mt_411 : (Cond.instanceMethod ({ cls := "SoftStairs$Stairs", name := "countDisagreements", desc := "()V" } : MethodName)) ∈ tb := tb_in (List.mem_append_right _ (List.mem_append_right _ (List.mem_append_left _ (List.mem_of_getElem? (l := tables_1_2) (i := 171) (by decide +kernel))))) (by decide +kernel)
theorem mt_412 : (Cond.code ({ cls := "SoftStairs$Stairs", name := "countDisagreements", desc := "()V" } : MethodName) prog_6_method_12_code (3 : Nat) (Option.none : Option FieldType)) ∈ tb := tb_in (List.mem_append_right _ (List.mem_append_right _ (List.mem_append_left _ (List.mem_of_getElem? (l := tables_1_2) (i := 172) (by decide +kernel))))) (by decide +kernel)
theorem mt_413 : (Cond.methodLink "SoftStairs$Stairs" (108 : Nat) ({ cls := "SoftStairs$Stairs", name := "complains", desc := "(II)I" } : MethodName)) ∈ tb := tb_in (List.mem_append_right _ (List.mem_append_right _ (List.mem_append_left _ (List.mem_of_getElem? (l := tables_1_2) (i := 173) (by decide +kernel))))) (by decide +kernel)
theorem mt_414 : (Cond.methodLink "SoftStairs$Stairs" (98 : Nat) ({ cls := "SoftStairs$Stairs", name := "wantedSpeed", desc := "(I)I" } : MethodName)) ∈ tb := tb_in (List.mem_append_right _ (List.mem_append_right _ (List.mem_append_left _ (List.mem_of_getElem? (l := tables_1_2) (i := 174) (by decide +kernel))))) (by decide +kernel)
theorem mt_416 : (Cond.instanceMethod ({ cls := "SoftStairs$Stairs", name := "wantedSpeed", desc := "(I)I" } : MethodName)) ∈ tb := tb_in (List.mem_append_right _ (List.mem_append_right _ (List.mem_append_left _ (List.mem_of_getElem? (l := tables_1_2) (i := 176) (by decide +kernel))))) (by decide +kernel)
theorem mt_417 : (Cond.code ({ cls := "SoftStairs$Stairs", name := "wantedSpeed", desc := "(I)I" } : MethodName) prog_6_method_13_code (4 : Nat) (Option.some FieldType.int)) ∈ tb := tb_in (List.mem_append_right _ (List.mem_append_right _ (List.mem_append_left _ (List.mem_of_getElem? (l := tables_1_2) (i := 177) (by decide +kernel))))) (by decide +kernel)
theorem mt_418 : (Cond.methodLink "SoftStairs$Stairs" (112 : Nat) ({ cls := "SoftStairs$Stairs", name := "isInDoubt", desc := "()Z" } : MethodName)) ∈ tb := tb_in (List.mem_append_right _ (List.mem_append_right _ (List.mem_append_left _ (List.mem_of_getElem? (l := tables_1_2) (i := 178) (by decide +kernel))))) (by decide +kernel)
theorem mt_420 : (Cond.instanceMethod ({ cls := "SoftStairs$Stairs", name := "isInDoubt", desc := "()Z" } : MethodName)) ∈ tb := tb_in (List.mem_append_right _ (List.mem_append_right _ (List.mem_append_left _ (List.mem_of_getElem? (l := tables_1_2) (i := 180) (by decide +kernel))))) (by decide +kernel)
theorem mt_421 : (Cond.code ({ cls := "SoftStairs$Stairs", name := "isInDoubt", desc := "()Z" } : MethodName) prog_6_method_14_code (2 : Nat) (Option.some FieldType.boolean)) ∈ tb := tb_in (List.mem_append_right _ (List.mem_append_right _ (List.mem_append_left _ (List.mem_of_getElem? (l := tables_1_2) (i := 181) (by decide +kernel))))) (by decide +kernel)
theorem mt_422 : (Cond.methodLink "SoftStairs$Stairs" (116 : Nat) ({ cls := "java/lang/Math", name := "max", desc := "(II)I" } : MethodName)) ∈ tb := tb_in (List.mem_append_right _ (List.mem_append_right _ (List.mem_append_left _ (List.mem_of_getElem? (l := tables_1_2) (i := 182) (by decide +kernel))))) (by decide +kernel)
theorem mt_423 : (Cond.methodLink "SoftStairs$Stairs" (101 : Nat) ({ cls := "SoftStairs$Stairs", name := "changeSpeed", desc := "(II)V" } : MethodName)) ∈ tb := tb_in (List.mem_append_right _ (List.mem_append_right _ (List.mem_append_left _ (List.mem_of_getElem? (l := tables_1_2) (i := 183) (by decide +kernel))))) (by decide +kernel)
theorem mt_425 : (Cond.instanceMethod ({ cls := "SoftStairs$Stairs", name := "changeSpeed", desc := "(II)V" } : MethodName)) ∈ tb := tb_in (List.mem_append_right _ (List.mem_append_right _ (List.mem_append_left _ (List.mem_of_getElem? (l := tables_1_2) (i := 185) (by decide +kernel))))) (by decide +kernel)
theorem mt_426 : (Cond.code ({ cls := "SoftStairs$Stairs", name := "changeSpeed", desc := "(II)V" } : MethodName) prog_6_method_15_code (6 : Nat) (Option.none : Option FieldType)) ∈ tb := tb_in (List.mem_append_right _ (List.mem_append_right _ (List.mem_append_left _ (List.mem_of_getElem? (l := tables_1_2) (i := 186) (by decide +kernel))))) (by decide +kernel)
theorem mt_427 : (Cond.methodLink "SoftStairs$Stairs" (121 : Nat) ({ cls := "java/lang/Math", name := "min", desc := "(II)I" } : MethodName)) ∈ tb := tb_in (List.mem_append_right _ (List.mem_append_right _ (List.mem_append_left _ (List.mem_of_getElem? (l := tables_1_2) (i := 187) (by decide +kernel))))) (by decide +kernel)
theorem mt_428 : (Cond.methodLink "SoftStairs$Stairs" (124 : Nat) ({ cls := "java/lang/Math", name := "abs", desc := "(I)I" } : MethodName)) ∈ tb := tb_in (List.mem_append_right _ (List.mem_append_right _ (List.mem_append_left _ (List.mem_of_getElem? (l := tables_1_2) (i := 188) (by decide +kernel))))) (by decide +kernel)
theorem mt_429 : (Cond.static ({ cls := "java/lang/Math", name := "abs", desc := "(I)I" } : MethodName)) ∈ tb := tb_in (List.mem_append_right _ (List.mem_append_right _ (List.mem_append_left _ (List.mem_of_getElem? (l := tables_1_2) (i := 189) (by decide +kernel))))) (by decide +kernel)
theorem mt_430 : (Cond.code ({ cls := "java/lang/Math", name := "abs", desc := "(I)I" } : MethodName) prog_11_method_59_code (1 : Nat) (Option.some FieldType.int)) ∈ tb := tb_in (List.mem_append_right _ (List.mem_append_right _ (List.mem_append_left _ (List.mem_of_getElem? (l := tables_1_2) (i := 190) (by decide +kernel))))) (by decide +kernel)
theorem mt_431 : (Cond.methodLink "SoftStairs$Stairs" (105 : Nat) ({ cls := "SoftStairs$Stairs", name := "carryPeople", desc := "()V" } : MethodName)) ∈ tb := tb_in (List.mem_append_right _ (List.mem_append_right _ (List.mem_append_left _ (List.mem_of_getElem? (l := tables_1_2) (i := 191) (by decide +kernel))))) (by decide +kernel)
theorem mt_433 : (Cond.instanceMethod ({ cls := "SoftStairs$Stairs", name := "carryPeople", desc := "()V" } : MethodName)) ∈ tb := tb_in (List.mem_append_right _ (List.mem_append_right _ (List.mem_append_left _ (List.mem_of_getElem? (l := tables_1_2) (i := 193) (by decide +kernel))))) (by decide +kernel)
theorem mt_434 : (Cond.code ({ cls := "SoftStairs$Stairs", name := "carryPeople", desc := "()V" } : MethodName) prog_6_method_16_code (4 : Nat) (Option.none : Option FieldType)) ∈ tb := tb_in (List.mem_append_right _ (List.mem_append_right _ (List.mem_append_left _ (List.mem_of_getElem? (l := tables_1_2) (i := 194) (by decide +kernel))))) (by decide +kernel)
theorem mt_435 : (Cond.methodLink "SoftStairsLaw" (41 : Nat) ({ cls := "SoftStairs", name := "of", desc := "(II)I" } : MethodName)) ∈ tb := tb_in (List.mem_append_right _ (List.mem_append_right _ (List.mem_append_left _ (List.mem_of_getElem? (l := tables_1_2) (i := 195) (by decide +kernel))))) (by decide +kernel)
theorem mt_436 : (Cond.instanceMethod ({ cls := "SoftStairs", name := "of", desc := "(II)I" } : MethodName)) ∈ tb := tb_in (List.mem_append_right _ (List.mem_append_right _ (List.mem_append_left _ (List.mem_of_getElem? (l := tables_1_2) (i := 196) (by decide +kernel))))) (by decide +kernel)
theorem mt_437 : (Cond.selects "SoftStairs" ({ cls := "SoftStairs", name := "of", desc := "(II)I" } : MethodName) ({ cls := "SoftStairs", name := "of", desc := "(II)I" } : MethodName)) ∈ tb := tb_in (List.mem_append_right _ (List.mem_append_right _ (List.mem_append_left _ (List.mem_of_getElem? (l := tables_1_2) (i := 197) (by decide +kernel))))) (by decide +kernel)
theorem mt_438 : (Cond.code ({ cls := "SoftStairs", name := "of", desc := "(II)I" } : MethodName) prog_1_method_8_code (3 : Nat) (Option.some FieldType.int)) ∈ tb := tb_in (List.mem_append_right _ (List.mem_append_right _ (List.mem_append_left _ (List.mem_of_getElem? (l := tables_1_2) (i := 198) (by decide +kernel))))) (by decide +kernel)
theorem mt_439 : (Cond.methodLink "SoftStairsLaw" (45 : Nat) ({ cls := "SoftStairs", name := "ofSpot", desc := "(II)I" } : MethodName)) ∈ tb := tb_in (List.mem_append_right _ (List.mem_append_right _ (List.mem_append_left _ (List.mem_of_getElem? (l := tables_1_2) (i := 199) (by decide +kernel))))) (by decide +kernel)
theorem mt_440 : (Cond.instanceMethod ({ cls := "SoftStairs", name := "ofSpot", desc := "(II)I" } : MethodName)) ∈ tb := tb_in (List.mem_append_right _ (List.mem_append_right _ (List.mem_append_left _ (List.mem_of_getElem? (l := tables_1_2) (i := 200) (by decide +kernel))))) (by decide +kernel)
theorem mt_441 : (Cond.selects "SoftStairs" ({ cls := "SoftStairs", name := "ofSpot", desc := "(II)I" } : MethodName) ({ cls := "SoftStairs", name := "ofSpot", desc := "(II)I" } : MethodName)) ∈ tb := tb_in (List.mem_append_right _ (List.mem_append_right _ (List.mem_append_left _ (List.mem_of_getElem? (l := tables_1_2) (i := 201) (by decide +kernel))))) (by decide +kernel)
theorem mt_442 : (Cond.code ({ cls := "SoftStairs", name := "ofSpot", desc := "(II)I" } : MethodName) prog_1_method_9_code (3 : Nat) (Option.some FieldType.int)) ∈ tb := tb_in (List.mem_append_right _ (List.mem_append_right _ (List.mem_append_left _ (List.mem_of_getElem? (l := tables_1_2) (i := 202) (by decide +kernel))))) (by decide +kernel)
theorem mt_443 : (Cond.methodLink "SoftStairsLaw" (49 : Nat) ({ cls := "SoftStairs", name := "ofStop", desc := "(II)I" } : MethodName)) ∈ tb := tb_in (List.mem_append_right _ (List.mem_append_right _ (List.mem_append_left _ (List.mem_of_getElem? (l := tables_1_2) (i := 203) (by decide +kernel))))) (by decide +kernel)
theorem mt_444 : (Cond.instanceMethod ({ cls := "SoftStairs", name := "ofStop", desc := "(II)I" } : MethodName)) ∈ tb := tb_in (List.mem_append_right _ (List.mem_append_right _ (List.mem_append_left _ (List.mem_of_getElem? (l := tables_1_2) (i := 204) (by decide +kernel))))) (by decide +kernel)
theorem mt_445 : (Cond.selects "SoftStairs" ({ cls := "SoftStairs", name := "ofStop", desc := "(II)I" } : MethodName) ({ cls := "SoftStairs", name := "ofStop", desc := "(II)I" } : MethodName)) ∈ tb := tb_in (List.mem_append_right _ (List.mem_append_right _ (List.mem_append_left _ (List.mem_of_getElem? (l := tables_1_2) (i := 205) (by decide +kernel))))) (by decide +kernel)
theorem mt_446 : (Cond.code ({ cls := "SoftStairs", name := "ofStop", desc := "(II)I" } : MethodName) prog_1_method_10_code (3 : Nat) (Option.some FieldType.int)) ∈ tb := tb_in (List.mem_append_right _ (List.mem_append_right _ (List.mem_append_left _ (List.mem_of_getElem? (l := tables_1_2) (i := 206) (by decide +kernel))))) (by decide +kernel)
theorem mt_447 : (Cond.methodLink "SoftStairsLaw" (53 : Nat) ({ cls := "SoftStairs", name := "rule", desc := "(I)I" } : MethodName)) ∈ tb := tb_in (List.mem_append_right _ (List.mem_append_right _ (List.mem_append_left _ (List.mem_of_getElem? (l := tables_1_2) (i := 207) (by decide +kernel))))) (by decide +kernel)
theorem mt_448 : (Cond.instanceMethod ({ cls := "SoftStairs", name := "rule", desc := "(I)I" } : MethodName)) ∈ tb := tb_in (List.mem_append_right _ (List.mem_append_right _ (List.mem_append_left _ (List.mem_of_getElem? (l := tables_1_2) (i := 208) (by decide +kernel))))) (by decide +kernel)
theorem mt_449 : (Cond.selects "SoftStairs" ({ cls := "SoftStairs", name := "rule", desc := "(I)I" } : MethodName) ({ cls := "SoftStairs", name := "rule", desc := "(I)I" } : MethodName)) ∈ tb := tb_in (List.mem_append_right _ (List.mem_append_right _ (List.mem_append_left _ (List.mem_of_getElem? (l := tables_1_2) (i := 209) (by decide +kernel))))) (by decide +kernel)
theorem mt_450 : (Cond.code ({ cls := "SoftStairs", name := "rule", desc := "(I)I" } : MethodName) prog_1_method_11_code (2 : Nat) (Option.some FieldType.int)) ∈ tb := tb_in (List.mem_append_right _ (List.mem_append_right _ (List.mem_append_left _ (List.mem_of_getElem? (l := tables_1_2) (i := 210) (by decide +kernel))))) (by decide +kernel)
theorem mt_451 : (Cond.methodLink "SoftStairs" (144 : Nat) ({ cls := "SoftStairs$Rule", name := "depth", desc := "()I" } : MethodName)) ∈ tb := tb_in (List.mem_append_right _ (List.mem_append_right _ (List.mem_append_left _ (List.mem_of_getElem? (l := tables_1_2) (i := 211) (by decide +kernel))))) (by decide +kernel)
theorem mt_452 : (Cond.instanceMethod ({ cls := "SoftStairs$Rule", name := "depth", desc := "()I" } : MethodName)) ∈ tb := tb_in (List.mem_append_right _ (List.mem_append_right _ (List.mem_append_left _ (List.mem_of_getElem? (l := tables_1_2) (i := 212) (by decide +kernel))))) (by decide +kernel)
theorem mt_453 : (Cond.selects "SoftStairs$Rule" ({ cls := "SoftStairs$Rule", name := "depth", desc := "()I" } : MethodName) ({ cls := "SoftStairs$Rule", name := "depth", desc := "()I" } : MethodName)) ∈ tb := tb_in (List.mem_append_right _ (List.mem_append_right _ (List.mem_append_left _ (List.mem_of_getElem? (l := tables_1_2) (i := 213) (by decide +kernel))))) (by decide +kernel)
theorem mt_454 : (Cond.code ({ cls := "SoftStairs$Rule", name := "depth", desc := "()I" } : MethodName) prog_5_method_6_code (1 : Nat) (Option.some FieldType.int)) ∈ tb := tb_in (List.mem_append_right _ (List.mem_append_right _ (List.mem_append_left _ (List.mem_of_getElem? (l := tables_1_2) (i := 214) (by decide +kernel))))) (by decide +kernel)
theorem mt_455 : (Cond.methodLink "SoftStairs" (153 : Nat) ({ cls := "SoftStairs$Rule", name := "lookedAt", desc := "(I)I" } : MethodName)) ∈ tb := tb_in (List.mem_append_right _ (List.mem_append_right _ (List.mem_append_left _ (List.mem_of_getElem? (l := tables_1_2) (i := 215) (by decide +kernel))))) (by decide +kernel)
theorem mt_456 : (Cond.instanceMethod ({ cls := "SoftStairs$Rule", name := "lookedAt", desc := "(I)I" } : MethodName)) ∈ tb := tb_in (List.mem_append_right _ (List.mem_append_right _ (List.mem_append_left _ (List.mem_of_getElem? (l := tables_1_2) (i := 216) (by decide +kernel))))) (by decide +kernel)
theorem mt_457 : (Cond.selects "SoftStairs$Rule" ({ cls := "SoftStairs$Rule", name := "lookedAt", desc := "(I)I" } : MethodName) ({ cls := "SoftStairs$Rule", name := "lookedAt", desc := "(I)I" } : MethodName)) ∈ tb := tb_in (List.mem_append_right _ (List.mem_append_right _ (List.mem_append_left _ (List.mem_of_getElem? (l := tables_1_2) (i := 217) (by decide +kernel))))) (by decide +kernel)
theorem mt_458 : (Cond.code ({ cls := "SoftStairs$Rule", name := "lookedAt", desc := "(I)I" } : MethodName) prog_5_method_8_code (7 : Nat) (Option.some FieldType.int)) ∈ tb := tb_in (List.mem_append_right _ (List.mem_append_right _ (List.mem_append_left _ (List.mem_of_getElem? (l := tables_1_2) (i := 218) (by decide +kernel))))) (by decide +kernel)
theorem mt_459 : (Cond.methodLink "SoftStairs$Rule" (58 : Nat) ({ cls := "java/lang/Math", name := "min", desc := "(II)I" } : MethodName)) ∈ tb := tb_in (List.mem_append_right _ (List.mem_append_right _ (List.mem_append_left _ (List.mem_of_getElem? (l := tables_1_2) (i := 219) (by decide +kernel))))) (by decide +kernel)
theorem mt_460 : (Cond.methodLink "SoftStairs$Rule" (61 : Nat) ({ cls := "SoftStairs$Rule", name := "lookedAtFrom", desc := "(IJ)J" } : MethodName)) ∈ tb := tb_in (List.mem_append_right _ (List.mem_append_right _ (List.mem_append_left _ (List.mem_of_getElem? (l := tables_1_2) (i := 220) (by decide +kernel))))) (by decide +kernel)
theorem mt_462 : (Cond.instanceMethod ({ cls := "SoftStairs$Rule", name := "lookedAtFrom", desc := "(IJ)J" } : MethodName)) ∈ tb := tb_in (List.mem_append_right _ (List.mem_append_right _ (List.mem_append_left _ (List.mem_of_getElem? (l := tables_1_2) (i := 222) (by decide +kernel))))) (by decide +kernel)
theorem mt_463 : (Cond.code ({ cls := "SoftStairs$Rule", name := "lookedAtFrom", desc := "(IJ)J" } : MethodName) prog_5_method_9_code (9 : Nat) (Option.some FieldType.long)) ∈ tb := tb_in (List.mem_append_right _ (List.mem_append_right _ (List.mem_append_left _ (List.mem_of_getElem? (l := tables_1_2) (i := 223) (by decide +kernel))))) (by decide +kernel)
theorem mt_464 : (Cond.methodLink "SoftStairs$Rule" (65 : Nat) ({ cls := "java/lang/Long", name := "bitCount", desc := "(J)I" } : MethodName)) ∈ tb := tb_in (List.mem_append_right _ (List.mem_append_right _ (List.mem_append_left _ (List.mem_of_getElem? (l := tables_1_2) (i := 224) (by decide +kernel))))) (by decide +kernel)
theorem mt_465 : (Cond.static ({ cls := "java/lang/Long", name := "bitCount", desc := "(J)I" } : MethodName)) ∈ tb := tb_in (List.mem_append_right _ (List.mem_append_right _ (List.mem_append_left _ (List.mem_of_getElem? (l := tables_1_2) (i := 225) (by decide +kernel))))) (by decide +kernel)
theorem mt_466 : (Cond.code ({ cls := "java/lang/Long", name := "bitCount", desc := "(J)I" } : MethodName) prog_10_method_50_code (2 : Nat) (Option.some FieldType.int)) ∈ tb := tb_in (List.mem_append_right _ (List.mem_append_right _ (List.mem_append_left _ (List.mem_of_getElem? (l := tables_1_2) (i := 226) (by decide +kernel))))) (by decide +kernel)
theorem mt_467 : (Cond.constantLong "java/lang/Long" (314 : Nat) (6148914691236517205 : Int64)) ∈ tb := tb_in (List.mem_append_right _ (List.mem_append_right _ (List.mem_append_left _ (List.mem_of_getElem? (l := tables_1_2) (i := 227) (by decide +kernel))))) (by decide +kernel)
theorem mt_468 : (Cond.constantLong "java/lang/Long" (316 : Nat) (3689348814741910323 : Int64)) ∈ tb := tb_in (List.mem_append_right _ (List.mem_append_right _ (List.mem_append_left _ (List.mem_of_getElem? (l := tables_1_2) (i := 228) (by decide +kernel))))) (by decide +kernel)
theorem mt_469 : (Cond.constantLong "java/lang/Long" (318 : Nat) (1085102592571150095 : Int64)) ∈ tb := tb_in (List.mem_append_right _ (List.mem_append_right _ (List.mem_append_left _ (List.mem_of_getElem? (l := tables_1_2) (i := 229) (by decide +kernel))))) (by decide +kernel)
theorem mt_470 : (Cond.methodLink "SoftStairsLaw" (57 : Nat) ({ cls := "SoftStairs", name := "count", desc := "(I)I" } : MethodName)) ∈ tb := tb_in (List.mem_append_right _ (List.mem_append_right _ (List.mem_append_left _ (List.mem_of_getElem? (l := tables_1_2) (i := 230) (by decide +kernel))))) (by decide +kernel)
theorem mt_471 : (Cond.instanceMethod ({ cls := "SoftStairs", name := "count", desc := "(I)I" } : MethodName)) ∈ tb := tb_in (List.mem_append_right _ (List.mem_append_right _ (List.mem_append_left _ (List.mem_of_getElem? (l := tables_1_2) (i := 231) (by decide +kernel))))) (by decide +kernel)
theorem mt_472 : (Cond.selects "SoftStairs" ({ cls := "SoftStairs", name := "count", desc := "(I)I" } : MethodName) ({ cls := "SoftStairs", name := "count", desc := "(I)I" } : MethodName)) ∈ tb := tb_in (List.mem_append_right _ (List.mem_append_right _ (List.mem_append_left _ (List.mem_of_getElem? (l := tables_1_2) (i := 232) (by decide +kernel))))) (by decide +kernel)
theorem mt_473 : (Cond.code ({ cls := "SoftStairs", name := "count", desc := "(I)I" } : MethodName) prog_1_method_12_code (2 : Nat) (Option.some FieldType.int)) ∈ tb := tb_in (List.mem_append_right _ (List.mem_append_right _ (List.mem_append_left _ (List.mem_of_getElem? (l := tables_1_2) (i := 233) (by decide +kernel))))) (by decide +kernel)
theorem mt_474 : (Cond.methodLink "SoftStairs" (160 : Nat) ({ cls := "SoftStairs$Stairs", name := "number", desc := "(I)I" } : MethodName)) ∈ tb := tb_in (List.mem_append_right _ (List.mem_append_right _ (List.mem_append_left _ (List.mem_of_getElem? (l := tables_1_2) (i := 234) (by decide +kernel))))) (by decide +kernel)
theorem mt_475 : (Cond.instanceMethod ({ cls := "SoftStairs$Stairs", name := "number", desc := "(I)I" } : MethodName)) ∈ tb := tb_in (List.mem_append_right _ (List.mem_append_right _ (List.mem_append_left _ (List.mem_of_getElem? (l := tables_1_2) (i := 235) (by decide +kernel))))) (by decide +kernel)
theorem mt_476 : (Cond.selects "SoftStairs$Stairs" ({ cls := "SoftStairs$Stairs", name := "number", desc := "(I)I" } : MethodName) ({ cls := "SoftStairs$Stairs", name := "number", desc := "(I)I" } : MethodName)) ∈ tb := tb_in (List.mem_append_right _ (List.mem_append_right _ (List.mem_append_left _ (List.mem_of_getElem? (l := tables_1_2) (i := 236) (by decide +kernel))))) (by decide +kernel)
theorem mt_477 : (Cond.code ({ cls := "SoftStairs$Stairs", name := "number", desc := "(I)I" } : MethodName) prog_6_method_3_code (2 : Nat) (Option.some FieldType.int)) ∈ tb := tb_in (List.mem_append_right _ (List.mem_append_right _ (List.mem_append_left _ (List.mem_of_getElem? (l := tables_1_2) (i := 237) (by decide +kernel))))) (by decide +kernel)
theorem mt_478 : (Cond.methodLink "SoftStairs$Stairs" (81 : Nat) ({ cls := "SoftStairs$Stairs", name := "settingCounted", desc := "(I)I" } : MethodName)) ∈ tb := tb_in (List.mem_append_right _ (List.mem_append_right _ (List.mem_append_left _ (List.mem_of_getElem? (l := tables_1_2) (i := 238) (by decide +kernel))))) (by decide +kernel)
theorem mt_480 : (Cond.instanceMethod ({ cls := "SoftStairs$Stairs", name := "settingCounted", desc := "(I)I" } : MethodName)) ∈ tb := tb_in (List.mem_append_right _ (List.mem_append_right _ (List.mem_append_right _ (List.mem_append_left _ (List.mem_of_getElem? (l := tables_1_3) (i := 0) (by decide +kernel)))))) (by decide +kernel)
theorem mt_481 : (Cond.code ({ cls := "SoftStairs$Stairs", name := "settingCounted", desc := "(I)I" } : MethodName) prog_6_method_4_code (2 : Nat) (Option.some FieldType.int)) ∈ tb := tb_in (List.mem_append_right _ (List.mem_append_right _ (List.mem_append_right _ (List.mem_append_left _ (List.mem_of_getElem? (l := tables_1_3) (i := 1) (by decide +kernel)))))) (by decide +kernel)
theorem mt_482 : (Cond.methodLink "SoftStairsLaw" (61 : Nat) ({ cls := "SoftStairs", name := "way", desc := "()I" } : MethodName)) ∈ tb := tb_in (List.mem_append_right _ (List.mem_append_right _ (List.mem_append_right _ (List.mem_append_left _ (List.mem_of_getElem? (l := tables_1_3) (i := 2) (by decide +kernel)))))) (by decide +kernel)
theorem mt_483 : (Cond.instanceMethod ({ cls := "SoftStairs", name := "way", desc := "()I" } : MethodName)) ∈ tb := tb_in (List.mem_append_right _ (List.mem_append_right _ (List.mem_append_right _ (List.mem_append_left _ (List.mem_of_getElem? (l := tables_1_3) (i := 3) (by decide +kernel)))))) (by decide +kernel)
theorem mt_484 : (Cond.selects "SoftStairs" ({ cls := "SoftStairs", name := "way", desc := "()I" } : MethodName) ({ cls := "SoftStairs", name := "way", desc := "()I" } : MethodName)) ∈ tb := tb_in (List.mem_append_right _ (List.mem_append_right _ (List.mem_append_right _ (List.mem_append_left _ (List.mem_of_getElem? (l := tables_1_3) (i := 4) (by decide +kernel)))))) (by decide +kernel)
theorem mt_485 : (Cond.code ({ cls := "SoftStairs", name := "way", desc := "()I" } : MethodName) prog_1_method_13_code (1 : Nat) (Option.some FieldType.int)) ∈ tb := tb_in (List.mem_append_right _ (List.mem_append_right _ (List.mem_append_right _ (List.mem_append_left _ (List.mem_of_getElem? (l := tables_1_3) (i := 5) (by decide +kernel)))))) (by decide +kernel)
theorem mt_486 : (Cond.methodLink "SoftStairs" (163 : Nat) ({ cls := "SoftStairs", name := "wayWith", desc := "(I)I" } : MethodName)) ∈ tb := tb_in (List.mem_append_right _ (List.mem_append_right _ (List.mem_append_right _ (List.mem_append_left _ (List.mem_of_getElem? (l := tables_1_3) (i := 6) (by decide +kernel)))))) (by decide +kernel)
theorem mt_488 : (Cond.instanceMethod ({ cls := "SoftStairs", name := "wayWith", desc := "(I)I" } : MethodName)) ∈ tb := tb_in (List.mem_append_right _ (List.mem_append_right _ (List.mem_append_right _ (List.mem_append_left _ (List.mem_of_getElem? (l := tables_1_3) (i := 8) (by decide +kernel)))))) (by decide +kernel)
theorem mt_489 : (Cond.code ({ cls := "SoftStairs", name := "wayWith", desc := "(I)I" } : MethodName) prog_1_method_18_code (2 : Nat) (Option.some FieldType.int)) ∈ tb := tb_in (List.mem_append_right _ (List.mem_append_right _ (List.mem_append_right _ (List.mem_append_left _ (List.mem_of_getElem? (l := tables_1_3) (i := 9) (by decide +kernel)))))) (by decide +kernel)
theorem mt_490 : (Cond.methodLink "SoftStairs" (166 : Nat) ({ cls := "SoftStairs$Stairs", name := "copy", desc := "(LSoftStairs$Stairs;)V" } : MethodName)) ∈ tb := tb_in (List.mem_append_right _ (List.mem_append_right _ (List.mem_append_right _ (List.mem_append_left _ (List.mem_of_getElem? (l := tables_1_3) (i := 10) (by decide +kernel)))))) (by decide +kernel)
theorem mt_491 : (Cond.methodLink "SoftStairs" (181 : Nat) ({ cls := "SoftStairs$Stairs", name := "unitsUntilStopped", desc := "()I" } : MethodName)) ∈ tb := tb_in (List.mem_append_right _ (List.mem_append_right _ (List.mem_append_right _ (List.mem_append_left _ (List.mem_of_getElem? (l := tables_1_3) (i := 11) (by decide +kernel)))))) (by decide +kernel)
theorem mt_492 : (Cond.instanceMethod ({ cls := "SoftStairs$Stairs", name := "unitsUntilStopped", desc := "()I" } : MethodName)) ∈ tb := tb_in (List.mem_append_right _ (List.mem_append_right _ (List.mem_append_right _ (List.mem_append_left _ (List.mem_of_getElem? (l := tables_1_3) (i := 12) (by decide +kernel)))))) (by decide +kernel)
theorem mt_493 : (Cond.selects "SoftStairs$Stairs" ({ cls := "SoftStairs$Stairs", name := "unitsUntilStopped", desc := "()I" } : MethodName) ({ cls := "SoftStairs$Stairs", name := "unitsUntilStopped", desc := "()I" } : MethodName)) ∈ tb := tb_in (List.mem_append_right _ (List.mem_append_right _ (List.mem_append_right _ (List.mem_append_left _ (List.mem_of_getElem? (l := tables_1_3) (i := 13) (by decide +kernel)))))) (by decide +kernel)
theorem mt_494 : (Cond.code ({ cls := "SoftStairs$Stairs", name := "unitsUntilStopped", desc := "()I" } : MethodName) prog_6_method_17_code (3 : Nat) (Option.some FieldType.int)) ∈ tb := tb_in (List.mem_append_right _ (List.mem_append_right _ (List.mem_append_right _ (List.mem_append_left _ (List.mem_of_getElem? (l := tables_1_3) (i := 14) (by decide +kernel)))))) (by decide +kernel)
theorem mt_495 : (Cond.methodLink "SoftStairs$Stairs" (127 : Nat) ({ cls := "SoftStairs$Stairs", name := "passTick", desc := "(Z)V" } : MethodName)) ∈ tb := tb_in (List.mem_append_right _ (List.mem_append_right _ (List.mem_append_right _ (List.mem_append_left _ (List.mem_of_getElem? (l := tables_1_3) (i := 15) (by decide +kernel)))))) (by decide +kernel)
theorem mt_496 : (Cond.methodLink "SoftStairsLaw" (65 : Nat) ({ cls := "SoftStairs", name := "emptyIn", desc := "()I" } : MethodName)) ∈ tb := tb_in (List.mem_append_right _ (List.mem_append_right _ (List.mem_append_right _ (List.mem_append_left _ (List.mem_of_getElem? (l := tables_1_3) (i := 16) (by decide +kernel)))))) (by decide +kernel)
theorem mt_497 : (Cond.instanceMethod ({ cls := "SoftStairs", name := "emptyIn", desc := "()I" } : MethodName)) ∈ tb := tb_in (List.mem_append_right _ (List.mem_append_right _ (List.mem_append_right _ (List.mem_append_left _ (List.mem_of_getElem? (l := tables_1_3) (i := 17) (by decide +kernel)))))) (by decide +kernel)
theorem mt_498 : (Cond.selects "SoftStairs" ({ cls := "SoftStairs", name := "emptyIn", desc := "()I" } : MethodName) ({ cls := "SoftStairs", name := "emptyIn", desc := "()I" } : MethodName)) ∈ tb := tb_in (List.mem_append_right _ (List.mem_append_right _ (List.mem_append_right _ (List.mem_append_left _ (List.mem_of_getElem? (l := tables_1_3) (i := 18) (by decide +kernel)))))) (by decide +kernel)
theorem mt_499 : (Cond.code ({ cls := "SoftStairs", name := "emptyIn", desc := "()I" } : MethodName) prog_1_method_14_code (1 : Nat) (Option.some FieldType.int)) ∈ tb := tb_in (List.mem_append_right _ (List.mem_append_right _ (List.mem_append_right _ (List.mem_append_left _ (List.mem_of_getElem? (l := tables_1_3) (i := 19) (by decide +kernel)))))) (by decide +kernel)
theorem mt_500 : (Cond.methodLink "SoftStairs" (169 : Nat) ({ cls := "SoftStairs$Stairs", name := "ticksUntilEmpty", desc := "()I" } : MethodName)) ∈ tb := tb_in (List.mem_append_right _ (List.mem_append_right _ (List.mem_append_right _ (List.mem_append_left _ (List.mem_of_getElem? (l := tables_1_3) (i := 20) (by decide +kernel)))))) (by decide +kernel)
theorem mt_501 : (Cond.instanceMethod ({ cls := "SoftStairs$Stairs", name := "ticksUntilEmpty", desc := "()I" } : MethodName)) ∈ tb := tb_in (List.mem_append_right _ (List.mem_append_right _ (List.mem_append_right _ (List.mem_append_left _ (List.mem_of_getElem? (l := tables_1_3) (i := 21) (by decide +kernel)))))) (by decide +kernel)
theorem mt_502 : (Cond.selects "SoftStairs$Stairs" ({ cls := "SoftStairs$Stairs", name := "ticksUntilEmpty", desc := "()I" } : MethodName) ({ cls := "SoftStairs$Stairs", name := "ticksUntilEmpty", desc := "()I" } : MethodName)) ∈ tb := tb_in (List.mem_append_right _ (List.mem_append_right _ (List.mem_append_right _ (List.mem_append_left _ (List.mem_of_getElem? (l := tables_1_3) (i := 22) (by decide +kernel)))))) (by decide +kernel)
theorem mt_503 : (Cond.code ({ cls := "SoftStairs$Stairs", name := "ticksUntilEmpty", desc := "()I" } : MethodName) prog_6_method_18_code (3 : Nat) (Option.some FieldType.int)) ∈ tb := tb_in (List.mem_append_right _ (List.mem_append_right _ (List.mem_append_right _ (List.mem_append_left _ (List.mem_of_getElem? (l := tables_1_3) (i := 23) (by decide +kernel)))))) (by decide +kernel)
theorem mt_504 : (Cond.methodLink "SoftStairs$Stairs" (131 : Nat) ({ cls := "SoftStairs$Stairs", name := "ruleHolds", desc := "()Z" } : MethodName)) ∈ tb := tb_in (List.mem_append_right _ (List.mem_append_right _ (List.mem_append_right _ (List.mem_append_left _ (List.mem_of_getElem? (l := tables_1_3) (i := 24) (by decide +kernel)))))) (by decide +kernel)
theorem mt_505 : (Cond.methodLink "SoftStairsLaw" (69 : Nat) ({ cls := "SoftStairs", name := "leastRamp", desc := "(I)I" } : MethodName)) ∈ tb := tb_in (List.mem_append_right _ (List.mem_append_right _ (List.mem_append_right _ (List.mem_append_left _ (List.mem_of_getElem? (l := tables_1_3) (i := 25) (by decide +kernel)))))) (by decide +kernel)
theorem mt_506 : (Cond.instanceMethod ({ cls := "SoftStairs", name := "leastRamp", desc := "(I)I" } : MethodName)) ∈ tb := tb_in (List.mem_append_right _ (List.mem_append_right _ (List.mem_append_right _ (List.mem_append_left _ (List.mem_of_getElem? (l := tables_1_3) (i := 26) (by decide +kernel)))))) (by decide +kernel)
theorem mt_507 : (Cond.selects "SoftStairs" ({ cls := "SoftStairs", name := "leastRamp", desc := "(I)I" } : MethodName) ({ cls := "SoftStairs", name := "leastRamp", desc := "(I)I" } : MethodName)) ∈ tb := tb_in (List.mem_append_right _ (List.mem_append_right _ (List.mem_append_right _ (List.mem_append_left _ (List.mem_of_getElem? (l := tables_1_3) (i := 27) (by decide +kernel)))))) (by decide +kernel)
theorem mt_508 : (Cond.code ({ cls := "SoftStairs", name := "leastRamp", desc := "(I)I" } : MethodName) prog_1_method_15_code (3 : Nat) (Option.some FieldType.int)) ∈ tb := tb_in (List.mem_append_right _ (List.mem_append_right _ (List.mem_append_right _ (List.mem_append_left _ (List.mem_of_getElem? (l := tables_1_3) (i := 28) (by decide +kernel)))))) (by decide +kernel)
theorem mt_509 : (Cond.methodLink "SoftStairsLaw" (73 : Nat) ({ cls := "SoftStairs", name := "wouldHold", desc := "(I)I" } : MethodName)) ∈ tb := tb_in (List.mem_append_right _ (List.mem_append_right _ (List.mem_append_right _ (List.mem_append_left _ (List.mem_of_getElem? (l := tables_1_3) (i := 29) (by decide +kernel)))))) (by decide +kernel)
theorem mt_510 : (Cond.instanceMethod ({ cls := "SoftStairs", name := "wouldHold", desc := "(I)I" } : MethodName)) ∈ tb := tb_in (List.mem_append_right _ (List.mem_append_right _ (List.mem_append_right _ (List.mem_append_left _ (List.mem_of_getElem? (l := tables_1_3) (i := 30) (by decide +kernel)))))) (by decide +kernel)
theorem mt_511 : (Cond.selects "SoftStairs" ({ cls := "SoftStairs", name := "wouldHold", desc := "(I)I" } : MethodName) ({ cls := "SoftStairs", name := "wouldHold", desc := "(I)I" } : MethodName)) ∈ tb := tb_in (List.mem_append_right _ (List.mem_append_right _ (List.mem_append_right _ (List.mem_append_left _ (List.mem_of_getElem? (l := tables_1_3) (i := 31) (by decide +kernel)))))) (by decide +kernel)
theorem mt_512 : (Cond.code ({ cls := "SoftStairs", name := "wouldHold", desc := "(I)I" } : MethodName) prog_1_method_16_code (2 : Nat) (Option.some FieldType.int)) ∈ tb := tb_in (List.mem_append_right _ (List.mem_append_right _ (List.mem_append_right _ (List.mem_append_left _ (List.mem_of_getElem? (l := tables_1_3) (i := 32) (by decide +kernel)))))) (by decide +kernel)
theorem mt_513 : (Cond.methodLink "SoftStairs" (172 : Nat) ({ cls := "SoftStairs$Rule", name := "holds", desc := "(I)Z" } : MethodName)) ∈ tb := tb_in (List.mem_append_right _ (List.mem_append_right _ (List.mem_append_right _ (List.mem_append_left _ (List.mem_of_getElem? (l := tables_1_3) (i := 33) (by decide +kernel)))))) (by decide +kernel)
theorem mt_514 : (Cond.methodLink "SoftStairsLaw" (77 : Nat) ({ cls := "SoftStairs", name := "fewest", desc := "()I" } : MethodName)) ∈ tb := tb_in (List.mem_append_right _ (List.mem_append_right _ (List.mem_append_right _ (List.mem_append_left _ (List.mem_of_getElem? (l := tables_1_3) (i := 34) (by decide +kernel)))))) (by decide +kernel)
theorem mt_515 : (Cond.instanceMethod ({ cls := "SoftStairs", name := "fewest", desc := "()I" } : MethodName)) ∈ tb := tb_in (List.mem_append_right _ (List.mem_append_right _ (List.mem_append_right _ (List.mem_append_left _ (List.mem_of_getElem? (l := tables_1_3) (i := 35) (by decide +kernel)))))) (by decide +kernel)
theorem mt_516 : (Cond.selects "SoftStairs" ({ cls := "SoftStairs", name := "fewest", desc := "()I" } : MethodName) ({ cls := "SoftStairs", name := "fewest", desc := "()I" } : MethodName)) ∈ tb := tb_in (List.mem_append_right _ (List.mem_append_right _ (List.mem_append_right _ (List.mem_append_left _ (List.mem_of_getElem? (l := tables_1_3) (i := 36) (by decide +kernel)))))) (by decide +kernel)
theorem mt_517 : (Cond.code ({ cls := "SoftStairs", name := "fewest", desc := "()I" } : MethodName) prog_1_method_17_code (4 : Nat) (Option.some FieldType.int)) ∈ tb := tb_in (List.mem_append_right _ (List.mem_append_right _ (List.mem_append_right _ (List.mem_append_left _ (List.mem_of_getElem? (l := tables_1_3) (i := 37) (by decide +kernel)))))) (by decide +kernel)
theorem mt_518 : (Cond.methodLink "SoftStairs" (176 : Nat) ({ cls := "java/lang/Integer", name := "bitCount", desc := "(I)I" } : MethodName)) ∈ tb := tb_in (List.mem_append_right _ (List.mem_append_right _ (List.mem_append_right _ (List.mem_append_left _ (List.mem_of_getElem? (l := tables_1_3) (i := 38) (by decide +kernel)))))) (by decide +kernel)
theorem mt_519 : (Cond.static ({ cls := "java/lang/Integer", name := "bitCount", desc := "(I)I" } : MethodName)) ∈ tb := tb_in (List.mem_append_right _ (List.mem_append_right _ (List.mem_append_right _ (List.mem_append_left _ (List.mem_of_getElem? (l := tables_1_3) (i := 39) (by decide +kernel)))))) (by decide +kernel)
theorem mt_520 : (Cond.code ({ cls := "java/lang/Integer", name := "bitCount", desc := "(I)I" } : MethodName) prog_9_method_49_code (1 : Nat) (Option.some FieldType.int)) ∈ tb := tb_in (List.mem_append_right _ (List.mem_append_right _ (List.mem_append_right _ (List.mem_append_left _ (List.mem_of_getElem? (l := tables_1_3) (i := 40) (by decide +kernel)))))) (by decide +kernel)
theorem mt_521 : (Cond.constant "java/lang/Integer" (265 : Nat) (1431655765 : Int32)) ∈ tb := tb_in (List.mem_append_right _ (List.mem_append_right _ (List.mem_append_right _ (List.mem_append_left _ (List.mem_of_getElem? (l := tables_1_3) (i := 41) (by decide +kernel)))))) (by decide +kernel)
theorem mt_522 : (Cond.constant "java/lang/Integer" (266 : Nat) (858993459 : Int32)) ∈ tb := tb_in (List.mem_append_right _ (List.mem_append_right _ (List.mem_append_right _ (List.mem_append_left _ (List.mem_of_getElem? (l := tables_1_3) (i := 42) (by decide +kernel)))))) (by decide +kernel)
theorem mt_523 : (Cond.constant "java/lang/Integer" (267 : Nat) (252645135 : Int32)) ∈ tb := tb_in (List.mem_append_right _ (List.mem_append_right _ (List.mem_append_right _ (List.mem_append_left _ (List.mem_of_getElem? (l := tables_1_3) (i := 43) (by decide +kernel)))))) (by decide +kernel)
theorem mt_524 : (Cond.methodLink "SoftStairsLaw" (83 : Nat) ({ cls := "SoftStairs", name := "put", desc := "(J)I" } : MethodName)) ∈ tb := tb_in (List.mem_append_right _ (List.mem_append_right _ (List.mem_append_right _ (List.mem_append_left _ (List.mem_of_getElem? (l := tables_1_3) (i := 44) (by decide +kernel)))))) (by decide +kernel)
theorem mt_525 : (Cond.instanceMethod ({ cls := "SoftStairs", name := "put", desc := "(J)I" } : MethodName)) ∈ tb := tb_in (List.mem_append_right _ (List.mem_append_right _ (List.mem_append_right _ (List.mem_append_left _ (List.mem_of_getElem? (l := tables_1_3) (i := 45) (by decide +kernel)))))) (by decide +kernel)
theorem mt_526 : (Cond.selects "SoftStairs" ({ cls := "SoftStairs", name := "put", desc := "(J)I" } : MethodName) ({ cls := "SoftStairs", name := "put", desc := "(J)I" } : MethodName)) ∈ tb := tb_in (List.mem_append_right _ (List.mem_append_right _ (List.mem_append_right _ (List.mem_append_left _ (List.mem_of_getElem? (l := tables_1_3) (i := 46) (by decide +kernel)))))) (by decide +kernel)
theorem mt_527 : (Cond.code ({ cls := "SoftStairs", name := "put", desc := "(J)I" } : MethodName) prog_1_method_19_code (4 : Nat) (Option.some FieldType.int)) ∈ tb := tb_in (List.mem_append_right _ (List.mem_append_right _ (List.mem_append_right _ (List.mem_append_left _ (List.mem_of_getElem? (l := tables_1_3) (i := 47) (by decide +kernel)))))) (by decide +kernel)
theorem mt_528 : (Cond.methodLink "SoftStairs" (184 : Nat) ({ cls := "SoftStairs$Pad", name := "charactersIn", desc := "(J)I" } : MethodName)) ∈ tb := tb_in (List.mem_append_right _ (List.mem_append_right _ (List.mem_append_right _ (List.mem_append_left _ (List.mem_of_getElem? (l := tables_1_3) (i := 48) (by decide +kernel)))))) (by decide +kernel)
theorem mt_529 : (Cond.instanceMethod ({ cls := "SoftStairs$Pad", name := "charactersIn", desc := "(J)I" } : MethodName)) ∈ tb := tb_in (List.mem_append_right _ (List.mem_append_right _ (List.mem_append_right _ (List.mem_append_left _ (List.mem_of_getElem? (l := tables_1_3) (i := 49) (by decide +kernel)))))) (by decide +kernel)
theorem mt_530 : (Cond.selects "SoftStairs$Pad" ({ cls := "SoftStairs$Pad", name := "charactersIn", desc := "(J)I" } : MethodName) ({ cls := "SoftStairs$Pad", name := "charactersIn", desc := "(J)I" } : MethodName)) ∈ tb := tb_in (List.mem_append_right _ (List.mem_append_right _ (List.mem_append_right _ (List.mem_append_left _ (List.mem_of_getElem? (l := tables_1_3) (i := 50) (by decide +kernel)))))) (by decide +kernel)
theorem mt_531 : (Cond.code ({ cls := "SoftStairs$Pad", name := "charactersIn", desc := "(J)I" } : MethodName) prog_3_method_2_code (8 : Nat) (Option.some FieldType.int)) ∈ tb := tb_in (List.mem_append_right _ (List.mem_append_right _ (List.mem_append_right _ (List.mem_append_left _ (List.mem_of_getElem? (l := tables_1_3) (i := 51) (by decide +kernel)))))) (by decide +kernel)
theorem mt_532 : (Cond.constantLong "SoftStairs$Pad" (15 : Nat) (255 : Int64)) ∈ tb := tb_in (List.mem_append_right _ (List.mem_append_right _ (List.mem_append_right _ (List.mem_append_left _ (List.mem_of_getElem? (l := tables_1_3) (i := 52) (by decide +kernel)))))) (by decide +kernel)
theorem mt_533 : (Cond.constantLong "SoftStairs$Pad" (17 : Nat) (33 : Int64)) ∈ tb := tb_in (List.mem_append_right _ (List.mem_append_right _ (List.mem_append_right _ (List.mem_append_left _ (List.mem_of_getElem? (l := tables_1_3) (i := 53) (by decide +kernel)))))) (by decide +kernel)
theorem mt_534 : (Cond.constantLong "SoftStairs$Pad" (19 : Nat) (126 : Int64)) ∈ tb := tb_in (List.mem_append_right _ (List.mem_append_right _ (List.mem_append_right _ (List.mem_append_left _ (List.mem_of_getElem? (l := tables_1_3) (i := 54) (by decide +kernel)))))) (by decide +kernel)
theorem mt_535 : (Cond.methodLink "SoftStairs" (188 : Nat) ({ cls := "SoftStairs$Pad", name := "append", desc := "(JI)V" } : MethodName)) ∈ tb := tb_in (List.mem_append_right _ (List.mem_append_right _ (List.mem_append_right _ (List.mem_append_left _ (List.mem_of_getElem? (l := tables_1_3) (i := 55) (by decide +kernel)))))) (by decide +kernel)
theorem mt_536 : (Cond.instanceMethod ({ cls := "SoftStairs$Pad", name := "append", desc := "(JI)V" } : MethodName)) ∈ tb := tb_in (List.mem_append_right _ (List.mem_append_right _ (List.mem_append_right _ (List.mem_append_left _ (List.mem_of_getElem? (l := tables_1_3) (i := 56) (by decide +kernel)))))) (by decide +kernel)
theorem mt_537 : (Cond.selects "SoftStairs$Pad" ({ cls := "SoftStairs$Pad", name := "append", desc := "(JI)V" } : MethodName) ({ cls := "SoftStairs$Pad", name := "append", desc := "(JI)V" } : MethodName)) ∈ tb := tb_in (List.mem_append_right _ (List.mem_append_right _ (List.mem_append_right _ (List.mem_append_left _ (List.mem_of_getElem? (l := tables_1_3) (i := 57) (by decide +kernel)))))) (by decide +kernel)
theorem mt_538 : (Cond.code ({ cls := "SoftStairs$Pad", name := "append", desc := "(JI)V" } : MethodName) prog_3_method_3_code (5 : Nat) (Option.none : Option FieldType)) ∈ tb := tb_in (List.mem_append_right _ (List.mem_append_right _ (List.mem_append_right _ (List.mem_append_left _ (List.mem_of_getElem? (l := tables_1_3) (i := 58) (by decide +kernel)))))) (by decide +kernel)
theorem mt_539 : (Cond.methodLink "SoftStairsLaw" (88 : Nat) ({ cls := "SoftStairs", name := "wipe", desc := "()I" } : MethodName)) ∈ tb := tb_in (List.mem_append_right _ (List.mem_append_right _ (List.mem_append_right _ (List.mem_append_left _ (List.mem_of_getElem? (l := tables_1_3) (i := 59) (by decide +kernel)))))) (by decide +kernel)
theorem mt_540 : (Cond.instanceMethod ({ cls := "SoftStairs", name := "wipe", desc := "()I" } : MethodName)) ∈ tb := tb_in (List.mem_append_right _ (List.mem_append_right _ (List.mem_append_right _ (List.mem_append_left _ (List.mem_of_getElem? (l := tables_1_3) (i := 60) (by decide +kernel)))))) (by decide +kernel)
theorem mt_541 : (Cond.selects "SoftStairs" ({ cls := "SoftStairs", name := "wipe", desc := "()I" } : MethodName) ({ cls := "SoftStairs", name := "wipe", desc := "()I" } : MethodName)) ∈ tb := tb_in (List.mem_append_right _ (List.mem_append_right _ (List.mem_append_right _ (List.mem_append_left _ (List.mem_of_getElem? (l := tables_1_3) (i := 61) (by decide +kernel)))))) (by decide +kernel)
theorem mt_542 : (Cond.code ({ cls := "SoftStairs", name := "wipe", desc := "()I" } : MethodName) prog_1_method_20_code (2 : Nat) (Option.some FieldType.int)) ∈ tb := tb_in (List.mem_append_right _ (List.mem_append_right _ (List.mem_append_right _ (List.mem_append_left _ (List.mem_of_getElem? (l := tables_1_3) (i := 62) (by decide +kernel)))))) (by decide +kernel)
theorem mt_543 : (Cond.methodLink "SoftStairsLaw" (92 : Nat) ({ cls := "SoftStairs", name := "fault", desc := "()I" } : MethodName)) ∈ tb := tb_in (List.mem_append_right _ (List.mem_append_right _ (List.mem_append_right _ (List.mem_append_left _ (List.mem_of_getElem? (l := tables_1_3) (i := 63) (by decide +kernel)))))) (by decide +kernel)
theorem mt_544 : (Cond.instanceMethod ({ cls := "SoftStairs", name := "fault", desc := "()I" } : MethodName)) ∈ tb := tb_in (List.mem_append_right _ (List.mem_append_right _ (List.mem_append_right _ (List.mem_append_left _ (List.mem_of_getElem? (l := tables_1_3) (i := 64) (by decide +kernel)))))) (by decide +kernel)
theorem mt_545 : (Cond.selects "SoftStairs" ({ cls := "SoftStairs", name := "fault", desc := "()I" } : MethodName) ({ cls := "SoftStairs", name := "fault", desc := "()I" } : MethodName)) ∈ tb := tb_in (List.mem_append_right _ (List.mem_append_right _ (List.mem_append_right _ (List.mem_append_left _ (List.mem_of_getElem? (l := tables_1_3) (i := 65) (by decide +kernel)))))) (by decide +kernel)
theorem mt_546 : (Cond.code ({ cls := "SoftStairs", name := "fault", desc := "()I" } : MethodName) prog_1_method_21_code (1 : Nat) (Option.some FieldType.int)) ∈ tb := tb_in (List.mem_append_right _ (List.mem_append_right _ (List.mem_append_right _ (List.mem_append_left _ (List.mem_of_getElem? (l := tables_1_3) (i := 66) (by decide +kernel)))))) (by decide +kernel)
theorem mt_547 : (Cond.methodLink "SoftStairs" (192 : Nat) ({ cls := "SoftStairs$Pad", name := "findFault", desc := "()I" } : MethodName)) ∈ tb := tb_in (List.mem_append_right _ (List.mem_append_right _ (List.mem_append_right _ (List.mem_append_left _ (List.mem_of_getElem? (l := tables_1_3) (i := 67) (by decide +kernel)))))) (by decide +kernel)
theorem mt_548 : (Cond.instanceMethod ({ cls := "SoftStairs$Pad", name := "findFault", desc := "()I" } : MethodName)) ∈ tb := tb_in (List.mem_append_right _ (List.mem_append_right _ (List.mem_append_right _ (List.mem_append_left _ (List.mem_of_getElem? (l := tables_1_3) (i := 68) (by decide +kernel)))))) (by decide +kernel)
theorem mt_549 : (Cond.selects "SoftStairs$Pad" ({ cls := "SoftStairs$Pad", name := "findFault", desc := "()I" } : MethodName) ({ cls := "SoftStairs$Pad", name := "findFault", desc := "()I" } : MethodName)) ∈ tb := tb_in (List.mem_append_right _ (List.mem_append_right _ (List.mem_append_right _ (List.mem_append_left _ (List.mem_of_getElem? (l := tables_1_3) (i := 69) (by decide +kernel)))))) (by decide +kernel)
theorem mt_550 : (Cond.code ({ cls := "SoftStairs$Pad", name := "findFault", desc := "()I" } : MethodName) prog_3_method_4_code (5 : Nat) (Option.some FieldType.int)) ∈ tb := tb_in (List.mem_append_right _ (List.mem_append_right _ (List.mem_append_right _ (List.mem_append_left _ (List.mem_of_getElem? (l := tables_1_3) (i := 70) (by decide +kernel)))))) (by decide +kernel)
theorem mt_551 : (Cond.methodLink "SoftStairs$Pad" (25 : Nat) ({ cls := "SoftStairs$Pad", name := "beginsPart", desc := "(C)Z" } : MethodName)) ∈ tb := tb_in (List.mem_append_right _ (List.mem_append_right _ (List.mem_append_right _ (List.mem_append_left _ (List.mem_of_getElem? (l := tables_1_3) (i := 71) (by decide +kernel)))))) (by decide +kernel)
theorem mt_553 : (Cond.instanceMethod ({ cls := "SoftStairs$Pad", name := "beginsPart", desc := "(C)Z" } : MethodName)) ∈ tb := tb_in (List.mem_append_right _ (List.mem_append_right _ (List.mem_append_right _ (List.mem_append_left _ (List.mem_of_getElem? (l := tables_1_3) (i := 73) (by decide +kernel)))))) (by decide +kernel)
theorem mt_554 : (Cond.code ({ cls := "SoftStairs$Pad", name := "beginsPart", desc := "(C)Z" } : MethodName) prog_3_method_5_code (2 : Nat) (Option.some FieldType.boolean)) ∈ tb := tb_in (List.mem_append_right _ (List.mem_append_right _ (List.mem_append_right _ (List.mem_append_left _ (List.mem_of_getElem? (l := tables_1_3) (i := 74) (by decide +kernel)))))) (by decide +kernel)
theorem mt_555 : (Cond.methodLink "SoftStairs$Pad" (33 : Nat) ({ cls := "SoftStairs$Pad", name := "isLetter", desc := "(C)Z" } : MethodName)) ∈ tb := tb_in (List.mem_append_right _ (List.mem_append_right _ (List.mem_append_right _ (List.mem_append_left _ (List.mem_of_getElem? (l := tables_1_3) (i := 75) (by decide +kernel)))))) (by decide +kernel)
theorem mt_557 : (Cond.instanceMethod ({ cls := "SoftStairs$Pad", name := "isLetter", desc := "(C)Z" } : MethodName)) ∈ tb := tb_in (List.mem_append_right _ (List.mem_append_right _ (List.mem_append_right _ (List.mem_append_left _ (List.mem_of_getElem? (l := tables_1_3) (i := 77) (by decide +kernel)))))) (by decide +kernel)
theorem mt_558 : (Cond.code ({ cls := "SoftStairs$Pad", name := "isLetter", desc := "(C)Z" } : MethodName) prog_3_method_7_code (2 : Nat) (Option.some FieldType.boolean)) ∈ tb := tb_in (List.mem_append_right _ (List.mem_append_right _ (List.mem_append_right _ (List.mem_append_left _ (List.mem_of_getElem? (l := tables_1_3) (i := 78) (by decide +kernel)))))) (by decide +kernel)
theorem mt_559 : (Cond.methodLink "SoftStairs$Pad" (29 : Nat) ({ cls := "SoftStairs$Pad", name := "followsPart", desc := "(CI)Z" } : MethodName)) ∈ tb := tb_in (List.mem_append_right _ (List.mem_append_right _ (List.mem_append_right _ (List.mem_append_left _ (List.mem_of_getElem? (l := tables_1_3) (i := 79) (by decide +kernel)))))) (by decide +kernel)
theorem mt_561 : (Cond.instanceMethod ({ cls := "SoftStairs$Pad", name := "followsPart", desc := "(CI)Z" } : MethodName)) ∈ tb := tb_in (List.mem_append_right _ (List.mem_append_right _ (List.mem_append_right _ (List.mem_append_left _ (List.mem_of_getElem? (l := tables_1_3) (i := 81) (by decide +kernel)))))) (by decide +kernel)
theorem mt_562 : (Cond.code ({ cls := "SoftStairs$Pad", name := "followsPart", desc := "(CI)Z" } : MethodName) prog_3_method_6_code (3 : Nat) (Option.some FieldType.boolean)) ∈ tb := tb_in (List.mem_append_right _ (List.mem_append_right _ (List.mem_append_right _ (List.mem_append_left _ (List.mem_of_getElem? (l := tables_1_3) (i := 82) (by decide +kernel)))))) (by decide +kernel)
theorem mt_563 : (Cond.methodLink "SoftStairsLaw" (96 : Nat) ({ cls := "SoftStairs", name := "load", desc := "()I" } : MethodName)) ∈ tb := tb_in (List.mem_append_right _ (List.mem_append_right _ (List.mem_append_right _ (List.mem_append_left _ (List.mem_of_getElem? (l := tables_1_3) (i := 83) (by decide +kernel)))))) (by decide +kernel)
theorem mt_564 : (Cond.instanceMethod ({ cls := "SoftStairs", name := "load", desc := "()I" } : MethodName)) ∈ tb := tb_in (List.mem_append_right _ (List.mem_append_right _ (List.mem_append_right _ (List.mem_append_left _ (List.mem_of_getElem? (l := tables_1_3) (i := 84) (by decide +kernel)))))) (by decide +kernel)
theorem mt_565 : (Cond.selects "SoftStairs" ({ cls := "SoftStairs", name := "load", desc := "()I" } : MethodName) ({ cls := "SoftStairs", name := "load", desc := "()I" } : MethodName)) ∈ tb := tb_in (List.mem_append_right _ (List.mem_append_right _ (List.mem_append_right _ (List.mem_append_left _ (List.mem_of_getElem? (l := tables_1_3) (i := 85) (by decide +kernel)))))) (by decide +kernel)
theorem mt_566 : (Cond.code ({ cls := "SoftStairs", name := "load", desc := "()I" } : MethodName) prog_1_method_22_code (1 : Nat) (Option.some FieldType.int)) ∈ tb := tb_in (List.mem_append_right _ (List.mem_append_right _ (List.mem_append_right _ (List.mem_append_left _ (List.mem_of_getElem? (l := tables_1_3) (i := 86) (by decide +kernel)))))) (by decide +kernel)
theorem mt_567 : (Cond.methodLink "SoftStairsLaw" (100 : Nat) ({ cls := "SoftStairs", name := "undo", desc := "()I" } : MethodName)) ∈ tb := tb_in (List.mem_append_right _ (List.mem_append_right _ (List.mem_append_right _ (List.mem_append_left _ (List.mem_of_getElem? (l := tables_1_3) (i := 87) (by decide +kernel)))))) (by decide +kernel)
theorem mt_568 : (Cond.instanceMethod ({ cls := "SoftStairs", name := "undo", desc := "()I" } : MethodName)) ∈ tb := tb_in (List.mem_append_right _ (List.mem_append_right _ (List.mem_append_right _ (List.mem_append_left _ (List.mem_of_getElem? (l := tables_1_3) (i := 88) (by decide +kernel)))))) (by decide +kernel)
theorem mt_569 : (Cond.selects "SoftStairs" ({ cls := "SoftStairs", name := "undo", desc := "()I" } : MethodName) ({ cls := "SoftStairs", name := "undo", desc := "()I" } : MethodName)) ∈ tb := tb_in (List.mem_append_right _ (List.mem_append_right _ (List.mem_append_right _ (List.mem_append_left _ (List.mem_of_getElem? (l := tables_1_3) (i := 89) (by decide +kernel)))))) (by decide +kernel)
theorem mt_570 : (Cond.code ({ cls := "SoftStairs", name := "undo", desc := "()I" } : MethodName) prog_1_method_23_code (1 : Nat) (Option.some FieldType.int)) ∈ tb := tb_in (List.mem_append_right _ (List.mem_append_right _ (List.mem_append_right _ (List.mem_append_left _ (List.mem_of_getElem? (l := tables_1_3) (i := 90) (by decide +kernel)))))) (by decide +kernel)
theorem mt_571 : (Cond.methodLink "SoftStairs" (199 : Nat) ({ cls := "SoftStairs$History", name := "takeBack", desc := "(LSoftStairs$Stairs;)V" } : MethodName)) ∈ tb := tb_in (List.mem_append_right _ (List.mem_append_right _ (List.mem_append_right _ (List.mem_append_left _ (List.mem_of_getElem? (l := tables_1_3) (i := 91) (by decide +kernel)))))) (by decide +kernel)
theorem mt_572 : (Cond.instanceMethod ({ cls := "SoftStairs$History", name := "takeBack", desc := "(LSoftStairs$Stairs;)V" } : MethodName)) ∈ tb := tb_in (List.mem_append_right _ (List.mem_append_right _ (List.mem_append_right _ (List.mem_append_left _ (List.mem_of_getElem? (l := tables_1_3) (i := 92) (by decide +kernel)))))) (by decide +kernel)
theorem mt_573 : (Cond.selects "SoftStairs$History" ({ cls := "SoftStairs$History", name := "takeBack", desc := "(LSoftStairs$Stairs;)V" } : MethodName) ({ cls := "SoftStairs$History", name := "takeBack", desc := "(LSoftStairs$Stairs;)V" } : MethodName)) ∈ tb := tb_in (List.mem_append_right _ (List.mem_append_right _ (List.mem_append_right _ (List.mem_append_left _ (List.mem_of_getElem? (l := tables_1_3) (i := 93) (by decide +kernel)))))) (by decide +kernel)
theorem mt_574 : (Cond.code ({ cls := "SoftStairs$History", name := "takeBack", desc := "(LSoftStairs$Stairs;)V" } : MethodName) prog_2_method_3_code (2 : Nat) (Option.none : Option FieldType)) ∈ tb := tb_in (List.mem_append_right _ (List.mem_append_right _ (List.mem_append_right _ (List.mem_append_left _ (List.mem_of_getElem? (l := tables_1_3) (i := 94) (by decide +kernel)))))) (by decide +kernel)
theorem mt_575 : (Cond.methodLink "SoftStairsLaw" (104 : Nat) ({ cls := "SoftStairs", name := "save", desc := "(I)I" } : MethodName)) ∈ tb := tb_in (List.mem_append_right _ (List.mem_append_right _ (List.mem_append_right _ (List.mem_append_left _ (List.mem_of_getElem? (l := tables_1_3) (i := 95) (by decide +kernel)))))) (by decide +kernel)
theorem mt_576 : (Cond.instanceMethod ({ cls := "SoftStairs", name := "save", desc := "(I)I" } : MethodName)) ∈ tb := tb_in (List.mem_append_right _ (List.mem_append_right _ (List.mem_append_right _ (List.mem_append_left _ (List.mem_of_getElem? (l := tables_1_3) (i := 96) (by decide +kernel)))))) (by decide +kernel)
theorem mt_577 : (Cond.selects "SoftStairs" ({ cls := "SoftStairs", name := "save", desc := "(I)I" } : MethodName) ({ cls := "SoftStairs", name := "save", desc := "(I)I" } : MethodName)) ∈ tb := tb_in (List.mem_append_right _ (List.mem_append_right _ (List.mem_append_right _ (List.mem_append_left _ (List.mem_of_getElem? (l := tables_1_3) (i := 97) (by decide +kernel)))))) (by decide +kernel)
theorem mt_578 : (Cond.code ({ cls := "SoftStairs", name := "save", desc := "(I)I" } : MethodName) prog_1_method_24_code (2 : Nat) (Option.some FieldType.int)) ∈ tb := tb_in (List.mem_append_right _ (List.mem_append_right _ (List.mem_append_right _ (List.mem_append_left _ (List.mem_of_getElem? (l := tables_1_3) (i := 98) (by decide +kernel)))))) (by decide +kernel)
theorem mt_579 : (Cond.methodLink "SoftStairsLaw" (108 : Nat) ({ cls := "SoftStairs", name := "restore", desc := "(I)I" } : MethodName)) ∈ tb := tb_in (List.mem_append_right _ (List.mem_append_right _ (List.mem_append_right _ (List.mem_append_left _ (List.mem_of_getElem? (l := tables_1_3) (i := 99) (by decide +kernel)))))) (by decide +kernel)
theorem mt_580 : (Cond.instanceMethod ({ cls := "SoftStairs", name := "restore", desc := "(I)I" } : MethodName)) ∈ tb := tb_in (List.mem_append_right _ (List.mem_append_right _ (List.mem_append_right _ (List.mem_append_left _ (List.mem_of_getElem? (l := tables_1_3) (i := 100) (by decide +kernel)))))) (by decide +kernel)
theorem mt_581 : (Cond.selects "SoftStairs" ({ cls := "SoftStairs", name := "restore", desc := "(I)I" } : MethodName) ({ cls := "SoftStairs", name := "restore", desc := "(I)I" } : MethodName)) ∈ tb := tb_in (List.mem_append_right _ (List.mem_append_right _ (List.mem_append_right _ (List.mem_append_left _ (List.mem_of_getElem? (l := tables_1_3) (i := 101) (by decide +kernel)))))) (by decide +kernel)
theorem mt_582 : (Cond.code ({ cls := "SoftStairs", name := "restore", desc := "(I)I" } : MethodName) prog_1_method_25_code (2 : Nat) (Option.some FieldType.int)) ∈ tb := tb_in (List.mem_append_right _ (List.mem_append_right _ (List.mem_append_right _ (List.mem_append_left _ (List.mem_of_getElem? (l := tables_1_3) (i := 102) (by decide +kernel)))))) (by decide +kernel)
theorem mt_583 : (Cond.classLink "SoftStairsLaw" (10 : Nat) "SoftStairsModel") ∈ tb := tb_in (List.mem_append_right _ (List.mem_append_right _ (List.mem_append_right _ (List.mem_append_left _ (List.mem_of_getElem? (l := tables_1_3) (i := 103) (by decide +kernel)))))) (by decide +kernel)
theorem mt_584 : (Cond.instantiable "SoftStairsModel" (14 : Nat)) ∈ tb := tb_in (List.mem_append_right _ (List.mem_append_right _ (List.mem_append_right _ (List.mem_append_left _ (List.mem_of_getElem? (l := tables_1_3) (i := 104) (by decide +kernel)))))) (by decide +kernel)
theorem mt_585 : (Cond.methodLink "SoftStairsLaw" (12 : Nat) ({ cls := "SoftStairsModel", name := "<init>", desc := "()V" } : MethodName)) ∈ tb := tb_in (List.mem_append_right _ (List.mem_append_right _ (List.mem_append_right _ (List.mem_append_left _ (List.mem_of_getElem? (l := tables_1_3) (i := 105) (by decide +kernel)))))) (by decide +kernel)
theorem mt_586 : (Cond.instanceMethod ({ cls := "SoftStairsModel", name := "<init>", desc := "()V" } : MethodName)) ∈ tb := tb_in (List.mem_append_right _ (List.mem_append_right _ (List.mem_append_right _ (List.mem_append_left _ (List.mem_of_getElem? (l := tables_1_3) (i := 106) (by decide +kernel)))))) (by decide +kernel)
theorem mt_587 : (Cond.code ({ cls := "SoftStairsModel", name := "<init>", desc := "()V" } : MethodName) prog_8_method_1_code (2 : Nat) (Option.none : Option FieldType)) ∈ tb := tb_in (List.mem_append_right _ (List.mem_append_right _ (List.mem_append_right _ (List.mem_append_left _ (List.mem_of_getElem? (l := tables_1_3) (i := 107) (by decide +kernel)))))) (by decide +kernel)
theorem mt_588 : (Cond.methodLink "SoftStairsModel" (1 : Nat) ({ cls := "java/lang/Object", name := "<init>", desc := "()V" } : MethodName)) ∈ tb := tb_in (List.mem_append_right _ (List.mem_append_right _ (List.mem_append_right _ (List.mem_append_left _ (List.mem_of_getElem? (l := tables_1_3) (i := 108) (by decide +kernel)))))) (by decide +kernel)
theorem mt_589 : (Cond.fieldLink "SoftStairsModel" (7 : Nat) "SoftStairsModel" "z" "[I") ∈ tb := tb_in (List.mem_append_right _ (List.mem_append_right _ (List.mem_append_right _ (List.mem_append_left _ (List.mem_of_getElem? (l := tables_1_3) (i := 109) (by decide +kernel)))))) (by decide +kernel)
theorem mt_590 : (Cond.fieldLink "SoftStairsModel" (13 : Nat) "SoftStairsModel" "past" "[I") ∈ tb := tb_in (List.mem_append_right _ (List.mem_append_right _ (List.mem_append_right _ (List.mem_append_left _ (List.mem_of_getElem? (l := tables_1_3) (i := 110) (by decide +kernel)))))) (by decide +kernel)
theorem mt_591 : (Cond.fieldLink "SoftStairsModel" (16 : Nat) "SoftStairsModel" "slots" "[I") ∈ tb := tb_in (List.mem_append_right _ (List.mem_append_right _ (List.mem_append_right _ (List.mem_append_left _ (List.mem_of_getElem? (l := tables_1_3) (i := 111) (by decide +kernel)))))) (by decide +kernel)
theorem mt_592 : (Cond.fieldLink "SoftStairsModel" (19 : Nat) "SoftStairsModel" "isSaved" "[Z") ∈ tb := tb_in (List.mem_append_right _ (List.mem_append_right _ (List.mem_append_right _ (List.mem_append_left _ (List.mem_of_getElem? (l := tables_1_3) (i := 112) (by decide +kernel)))))) (by decide +kernel)
theorem mt_593 : (Cond.fieldLink "SoftStairsModel" (42 : Nat) "SoftStairsModel" "pastMany" "I") ∈ tb := tb_in (List.mem_append_right _ (List.mem_append_right _ (List.mem_append_right _ (List.mem_append_left _ (List.mem_of_getElem? (l := tables_1_3) (i := 113) (by decide +kernel)))))) (by decide +kernel)
theorem mt_594 : (Cond.fieldLink "SoftStairsModel" (23 : Nat) "SoftStairsModel" "spare" "[I") ∈ tb := tb_in (List.mem_append_right _ (List.mem_append_right _ (List.mem_append_right _ (List.mem_append_left _ (List.mem_of_getElem? (l := tables_1_3) (i := 114) (by decide +kernel)))))) (by decide +kernel)
theorem mt_595 : (Cond.fieldLink "SoftStairsModel" (26 : Nat) "SoftStairsModel" "pad" "[C") ∈ tb := tb_in (List.mem_append_right _ (List.mem_append_right _ (List.mem_append_right _ (List.mem_append_left _ (List.mem_of_getElem? (l := tables_1_3) (i := 115) (by decide +kernel)))))) (by decide +kernel)
theorem mt_596 : (Cond.fieldLink "SoftStairsModel" (135 : Nat) "SoftStairsModel" "typed" "I") ∈ tb := tb_in (List.mem_append_right _ (List.mem_append_right _ (List.mem_append_right _ (List.mem_append_left _ (List.mem_of_getElem? (l := tables_1_3) (i := 116) (by decide +kernel)))))) (by decide +kernel)
theorem mt_597 : (Cond.fieldLink "SoftStairsModel" (30 : Nat) "SoftStairsModel" "holds" "[Z") ∈ tb := tb_in (List.mem_append_right _ (List.mem_append_right _ (List.mem_append_right _ (List.mem_append_left _ (List.mem_of_getElem? (l := tables_1_3) (i := 117) (by decide +kernel)))))) (by decide +kernel)
theorem mt_598 : (Cond.fieldLink "SoftStairsModel" (33 : Nat) "SoftStairsModel" "deep" "[I") ∈ tb := tb_in (List.mem_append_right _ (List.mem_append_right _ (List.mem_append_right _ (List.mem_append_left _ (List.mem_of_getElem? (l := tables_1_3) (i := 118) (by decide +kernel)))))) (by decide +kernel)
theorem mt_599 : (Cond.fieldLink "SoftStairsModel" (36 : Nat) "SoftStairsModel" "looked" "[I") ∈ tb := tb_in (List.mem_append_right _ (List.mem_append_right _ (List.mem_append_right _ (List.mem_append_left _ (List.mem_of_getElem? (l := tables_1_3) (i := 119) (by decide +kernel)))))) (by decide +kernel)
theorem mt_600 : (Cond.fieldLink "SoftStairsModel" (56 : Nat) "SoftStairsModel" "partMany" "I") ∈ tb := tb_in (List.mem_append_right _ (List.mem_append_right _ (List.mem_append_right _ (List.mem_append_left _ (List.mem_of_getElem? (l := tables_1_3) (i := 120) (by decide +kernel)))))) (by decide +kernel)
theorem mt_601 : (Cond.fieldLink "SoftStairsModel" (39 : Nat) "SoftStairsModel" "waiting" "[I") ∈ tb := tb_in (List.mem_append_right _ (List.mem_append_right _ (List.mem_append_right _ (List.mem_append_left _ (List.mem_of_getElem? (l := tables_1_3) (i := 121) (by decide +kernel)))))) (by decide +kernel)
theorem mt_602 : (Cond.fieldLink "SoftStairsModel" (53 : Nat) "SoftStairsModel" "waitingMany" "I") ∈ tb := tb_in (List.mem_append_right _ (List.mem_append_right _ (List.mem_append_right _ (List.mem_append_left _ (List.mem_of_getElem? (l := tables_1_3) (i := 122) (by decide +kernel)))))) (by decide +kernel)
theorem mt_603 : (Cond.laysFinal "SoftStairsModel" "SoftStairsModel" "z" "[I") ∈ tb := tb_in (List.mem_append_right _ (List.mem_append_right _ (List.mem_append_right _ (List.mem_append_left _ (List.mem_of_getElem? (l := tables_1_3) (i := 123) (by decide +kernel)))))) (by decide +kernel)
theorem mt_604 : (Cond.soleField "SoftStairsModel" "z") ∈ tb := tb_in (List.mem_append_right _ (List.mem_append_right _ (List.mem_append_right _ (List.mem_append_left _ (List.mem_of_getElem? (l := tables_1_3) (i := 124) (by decide +kernel)))))) (by decide +kernel)
theorem mt_605 : (Cond.laysFinal "SoftStairsModel" "SoftStairsModel" "past" "[I") ∈ tb := tb_in (List.mem_append_right _ (List.mem_append_right _ (List.mem_append_right _ (List.mem_append_left _ (List.mem_of_getElem? (l := tables_1_3) (i := 125) (by decide +kernel)))))) (by decide +kernel)
theorem mt_606 : (Cond.soleField "SoftStairsModel" "past") ∈ tb := tb_in (List.mem_append_right _ (List.mem_append_right _ (List.mem_append_right _ (List.mem_append_left _ (List.mem_of_getElem? (l := tables_1_3) (i := 126) (by decide +kernel)))))) (by decide +kernel)
theorem mt_607 : (Cond.laysFinal "SoftStairsModel" "SoftStairsModel" "slots" "[I") ∈ tb := tb_in (List.mem_append_right _ (List.mem_append_right _ (List.mem_append_right _ (List.mem_append_left _ (List.mem_of_getElem? (l := tables_1_3) (i := 127) (by decide +kernel)))))) (by decide +kernel)
theorem mt_608 : (Cond.soleField "SoftStairsModel" "slots") ∈ tb := tb_in (List.mem_append_right _ (List.mem_append_right _ (List.mem_append_right _ (List.mem_append_left _ (List.mem_of_getElem? (l := tables_1_3) (i := 128) (by decide +kernel)))))) (by decide +kernel)
theorem mt_609 : (Cond.laysFinal "SoftStairsModel" "SoftStairsModel" "isSaved" "[Z") ∈ tb := tb_in (List.mem_append_right _ (List.mem_append_right _ (List.mem_append_right _ (List.mem_append_left _ (List.mem_of_getElem? (l := tables_1_3) (i := 129) (by decide +kernel)))))) (by decide +kernel)
theorem mt_610 : (Cond.soleField "SoftStairsModel" "isSaved") ∈ tb := tb_in (List.mem_append_right _ (List.mem_append_right _ (List.mem_append_right _ (List.mem_append_left _ (List.mem_of_getElem? (l := tables_1_3) (i := 130) (by decide +kernel)))))) (by decide +kernel)
theorem mt_611 : (Cond.lays "SoftStairsModel" "SoftStairsModel" "pastMany" "I") ∈ tb := tb_in (List.mem_append_right _ (List.mem_append_right _ (List.mem_append_right _ (List.mem_append_left _ (List.mem_of_getElem? (l := tables_1_3) (i := 131) (by decide +kernel)))))) (by decide +kernel)
theorem mt_612 : (Cond.soleField "SoftStairsModel" "pastMany") ∈ tb := tb_in (List.mem_append_right _ (List.mem_append_right _ (List.mem_append_right _ (List.mem_append_left _ (List.mem_of_getElem? (l := tables_1_3) (i := 132) (by decide +kernel)))))) (by decide +kernel)
theorem mt_613 : (Cond.laysFinal "SoftStairsModel" "SoftStairsModel" "spare" "[I") ∈ tb := tb_in (List.mem_append_right _ (List.mem_append_right _ (List.mem_append_right _ (List.mem_append_left _ (List.mem_of_getElem? (l := tables_1_3) (i := 133) (by decide +kernel)))))) (by decide +kernel)
theorem mt_614 : (Cond.soleField "SoftStairsModel" "spare") ∈ tb := tb_in (List.mem_append_right _ (List.mem_append_right _ (List.mem_append_right _ (List.mem_append_left _ (List.mem_of_getElem? (l := tables_1_3) (i := 134) (by decide +kernel)))))) (by decide +kernel)
theorem mt_615 : (Cond.laysFinal "SoftStairsModel" "SoftStairsModel" "pad" "[C") ∈ tb := tb_in (List.mem_append_right _ (List.mem_append_right _ (List.mem_append_right _ (List.mem_append_left _ (List.mem_of_getElem? (l := tables_1_3) (i := 135) (by decide +kernel)))))) (by decide +kernel)
theorem mt_616 : (Cond.soleField "SoftStairsModel" "pad") ∈ tb := tb_in (List.mem_append_right _ (List.mem_append_right _ (List.mem_append_right _ (List.mem_append_left _ (List.mem_of_getElem? (l := tables_1_3) (i := 136) (by decide +kernel)))))) (by decide +kernel)
theorem mt_617 : (Cond.lays "SoftStairsModel" "SoftStairsModel" "typed" "I") ∈ tb := tb_in (List.mem_append_right _ (List.mem_append_right _ (List.mem_append_right _ (List.mem_append_left _ (List.mem_of_getElem? (l := tables_1_3) (i := 137) (by decide +kernel)))))) (by decide +kernel)
theorem mt_618 : (Cond.soleField "SoftStairsModel" "typed") ∈ tb := tb_in (List.mem_append_right _ (List.mem_append_right _ (List.mem_append_right _ (List.mem_append_left _ (List.mem_of_getElem? (l := tables_1_3) (i := 138) (by decide +kernel)))))) (by decide +kernel)
theorem mt_619 : (Cond.laysFinal "SoftStairsModel" "SoftStairsModel" "holds" "[Z") ∈ tb := tb_in (List.mem_append_right _ (List.mem_append_right _ (List.mem_append_right _ (List.mem_append_left _ (List.mem_of_getElem? (l := tables_1_3) (i := 139) (by decide +kernel)))))) (by decide +kernel)
theorem mt_620 : (Cond.soleField "SoftStairsModel" "holds") ∈ tb := tb_in (List.mem_append_right _ (List.mem_append_right _ (List.mem_append_right _ (List.mem_append_left _ (List.mem_of_getElem? (l := tables_1_3) (i := 140) (by decide +kernel)))))) (by decide +kernel)
theorem mt_621 : (Cond.laysFinal "SoftStairsModel" "SoftStairsModel" "deep" "[I") ∈ tb := tb_in (List.mem_append_right _ (List.mem_append_right _ (List.mem_append_right _ (List.mem_append_left _ (List.mem_of_getElem? (l := tables_1_3) (i := 141) (by decide +kernel)))))) (by decide +kernel)
theorem mt_622 : (Cond.soleField "SoftStairsModel" "deep") ∈ tb := tb_in (List.mem_append_right _ (List.mem_append_right _ (List.mem_append_right _ (List.mem_append_left _ (List.mem_of_getElem? (l := tables_1_3) (i := 142) (by decide +kernel)))))) (by decide +kernel)
theorem mt_623 : (Cond.laysFinal "SoftStairsModel" "SoftStairsModel" "looked" "[I") ∈ tb := tb_in (List.mem_append_right _ (List.mem_append_right _ (List.mem_append_right _ (List.mem_append_left _ (List.mem_of_getElem? (l := tables_1_3) (i := 143) (by decide +kernel)))))) (by decide +kernel)
theorem mt_624 : (Cond.soleField "SoftStairsModel" "looked") ∈ tb := tb_in (List.mem_append_right _ (List.mem_append_right _ (List.mem_append_right _ (List.mem_append_left _ (List.mem_of_getElem? (l := tables_1_3) (i := 144) (by decide +kernel)))))) (by decide +kernel)
theorem mt_625 : (Cond.lays "SoftStairsModel" "SoftStairsModel" "partMany" "I") ∈ tb := tb_in (List.mem_append_right _ (List.mem_append_right _ (List.mem_append_right _ (List.mem_append_left _ (List.mem_of_getElem? (l := tables_1_3) (i := 145) (by decide +kernel)))))) (by decide +kernel)
theorem mt_626 : (Cond.soleField "SoftStairsModel" "partMany") ∈ tb := tb_in (List.mem_append_right _ (List.mem_append_right _ (List.mem_append_right _ (List.mem_append_left _ (List.mem_of_getElem? (l := tables_1_3) (i := 146) (by decide +kernel)))))) (by decide +kernel)
theorem mt_627 : (Cond.laysFinal "SoftStairsModel" "SoftStairsModel" "waiting" "[I") ∈ tb := tb_in (List.mem_append_right _ (List.mem_append_right _ (List.mem_append_right _ (List.mem_append_left _ (List.mem_of_getElem? (l := tables_1_3) (i := 147) (by decide +kernel)))))) (by decide +kernel)
theorem mt_628 : (Cond.soleField "SoftStairsModel" "waiting") ∈ tb := tb_in (List.mem_append_right _ (List.mem_append_right _ (List.mem_append_right _ (List.mem_append_left _ (List.mem_of_getElem? (l := tables_1_3) (i := 148) (by decide +kernel)))))) (by decide +kernel)
theorem mt_629 : (Cond.lays "SoftStairsModel" "SoftStairsModel" "waitingMany" "I") ∈ tb := tb_in (List.mem_append_right _ (List.mem_append_right _ (List.mem_append_right _ (List.mem_append_left _ (List.mem_of_getElem? (l := tables_1_3) (i := 149) (by decide +kernel)))))) (by decide +kernel)
theorem mt_630 : (Cond.soleField "SoftStairsModel" "waitingMany") ∈ tb := tb_in (List.mem_append_right _ (List.mem_append_right _ (List.mem_append_right _ (List.mem_append_left _ (List.mem_of_getElem? (l := tables_1_3) (i := 150) (by decide +kernel)))))) (by decide +kernel)
theorem mt_631 : (Cond.superclass "SoftStairsModel" "java/lang/Object") ∈ tb := tb_in (List.mem_append_right _ (List.mem_append_right _ (List.mem_append_right _ (List.mem_append_left _ (List.mem_of_getElem? (l := tables_1_3) (i := 151) (by decide +kernel)))))) (by decide +kernel)
theorem mt_632 : (Cond.methodLink "SoftStairsLaw" (103 : Nat) ({ cls := "SoftStairsModel", name := "undo", desc := "()I" } : MethodName)) ∈ tb := tb_in (List.mem_append_right _ (List.mem_append_right _ (List.mem_append_right _ (List.mem_append_left _ (List.mem_of_getElem? (l := tables_1_3) (i := 152) (by decide +kernel)))))) (by decide +kernel)
theorem mt_633 : (Cond.instanceMethod ({ cls := "SoftStairsModel", name := "undo", desc := "()I" } : MethodName)) ∈ tb := tb_in (List.mem_append_right _ (List.mem_append_right _ (List.mem_append_right _ (List.mem_append_left _ (List.mem_of_getElem? (l := tables_1_3) (i := 153) (by decide +kernel)))))) (by decide +kernel)
theorem mt_634 : (Cond.selects "SoftStairsModel" ({ cls := "SoftStairsModel", name := "undo", desc := "()I" } : MethodName) ({ cls := "SoftStairsModel", name := "undo", desc := "()I" } : MethodName)) ∈ tb := tb_in (List.mem_append_right _ (List.mem_append_right _ (List.mem_append_right _ (List.mem_append_left _ (List.mem_of_getElem? (l := tables_1_3) (i := 154) (by decide +kernel)))))) (by decide +kernel)
theorem mt_635 : (Cond.code ({ cls := "SoftStairsModel", name := "undo", desc := "()I" } : MethodName) prog_8_method_4_code (2 : Nat) (Option.some FieldType.int)) ∈ tb := tb_in (List.mem_append_right _ (List.mem_append_right _ (List.mem_append_right _ (List.mem_append_left _ (List.mem_of_getElem? (l := tables_1_3) (i := 155) (by decide +kernel)))))) (by decide +kernel)
theorem mt_636 : (Cond.methodLink "SoftStairsLaw" (107 : Nat) ({ cls := "SoftStairsModel", name := "save", desc := "(I)I" } : MethodName)) ∈ tb := tb_in (List.mem_append_right _ (List.mem_append_right _ (List.mem_append_right _ (List.mem_append_left _ (List.mem_of_getElem? (l := tables_1_3) (i := 156) (by decide +kernel)))))) (by decide +kernel)
theorem mt_637 : (Cond.instanceMethod ({ cls := "SoftStairsModel", name := "save", desc := "(I)I" } : MethodName)) ∈ tb := tb_in (List.mem_append_right _ (List.mem_append_right _ (List.mem_append_right _ (List.mem_append_left _ (List.mem_of_getElem? (l := tables_1_3) (i := 157) (by decide +kernel)))))) (by decide +kernel)
theorem mt_638 : (Cond.selects "SoftStairsModel" ({ cls := "SoftStairsModel", name := "save", desc := "(I)I" } : MethodName) ({ cls := "SoftStairsModel", name := "save", desc := "(I)I" } : MethodName)) ∈ tb := tb_in (List.mem_append_right _ (List.mem_append_right _ (List.mem_append_right _ (List.mem_append_left _ (List.mem_of_getElem? (l := tables_1_3) (i := 158) (by decide +kernel)))))) (by decide +kernel)
theorem mt_639 : (Cond.code ({ cls := "SoftStairsModel", name := "save", desc := "(I)I" } : MethodName) prog_8_method_5_code (3 : Nat) (Option.some FieldType.int)) ∈ tb := tb_in (List.mem_append_right _ (List.mem_append_right _ (List.mem_append_right _ (List.mem_append_left _ (List.mem_of_getElem? (l := tables_1_3) (i := 159) (by decide +kernel)))))) (by decide +kernel)
theorem mt_640 : (Cond.methodLink "SoftStairsModel" (46 : Nat) ({ cls := "SoftStairsModel", name := "in", desc := "(III)Z" } : MethodName)) ∈ tb := tb_in (List.mem_append_right _ (List.mem_append_right _ (List.mem_append_right _ (List.mem_append_left _ (List.mem_of_getElem? (l := tables_1_3) (i := 160) (by decide +kernel)))))) (by decide +kernel)
theorem mt_641 : (Cond.static ({ cls := "SoftStairsModel", name := "in", desc := "(III)Z" } : MethodName)) ∈ tb := tb_in (List.mem_append_right _ (List.mem_append_right _ (List.mem_append_right _ (List.mem_append_left _ (List.mem_of_getElem? (l := tables_1_3) (i := 161) (by decide +kernel)))))) (by decide +kernel)
theorem mt_642 : (Cond.code ({ cls := "SoftStairsModel", name := "in", desc := "(III)Z" } : MethodName) prog_8_method_2_code (3 : Nat) (Option.some FieldType.boolean)) ∈ tb := tb_in (List.mem_append_right _ (List.mem_append_right _ (List.mem_append_right _ (List.mem_append_left _ (List.mem_of_getElem? (l := tables_1_3) (i := 162) (by decide +kernel)))))) (by decide +kernel)
theorem mt_643 : (Cond.methodLink "SoftStairsLaw" (111 : Nat) ({ cls := "SoftStairsModel", name := "restore", desc := "(I)I" } : MethodName)) ∈ tb := tb_in (List.mem_append_right _ (List.mem_append_right _ (List.mem_append_right _ (List.mem_append_left _ (List.mem_of_getElem? (l := tables_1_3) (i := 163) (by decide +kernel)))))) (by decide +kernel)
theorem mt_644 : (Cond.instanceMethod ({ cls := "SoftStairsModel", name := "restore", desc := "(I)I" } : MethodName)) ∈ tb := tb_in (List.mem_append_right _ (List.mem_append_right _ (List.mem_append_right _ (List.mem_append_left _ (List.mem_of_getElem? (l := tables_1_3) (i := 164) (by decide +kernel)))))) (by decide +kernel)
theorem mt_645 : (Cond.selects "SoftStairsModel" ({ cls := "SoftStairsModel", name := "restore", desc := "(I)I" } : MethodName) ({ cls := "SoftStairsModel", name := "restore", desc := "(I)I" } : MethodName)) ∈ tb := tb_in (List.mem_append_right _ (List.mem_append_right _ (List.mem_append_right _ (List.mem_append_left _ (List.mem_of_getElem? (l := tables_1_3) (i := 165) (by decide +kernel)))))) (by decide +kernel)
theorem mt_646 : (Cond.code ({ cls := "SoftStairsModel", name := "restore", desc := "(I)I" } : MethodName) prog_8_method_6_code (3 : Nat) (Option.some FieldType.int)) ∈ tb := tb_in (List.mem_append_right _ (List.mem_append_right _ (List.mem_append_right _ (List.mem_append_left _ (List.mem_of_getElem? (l := tables_1_3) (i := 166) (by decide +kernel)))))) (by decide +kernel)
theorem mt_647 : (Cond.methodLink "SoftStairsModel" (50 : Nat) ({ cls := "SoftStairsModel", name := "record", desc := "()V" } : MethodName)) ∈ tb := tb_in (List.mem_append_right _ (List.mem_append_right _ (List.mem_append_right _ (List.mem_append_left _ (List.mem_of_getElem? (l := tables_1_3) (i := 167) (by decide +kernel)))))) (by decide +kernel)
theorem mt_649 : (Cond.instanceMethod ({ cls := "SoftStairsModel", name := "record", desc := "()V" } : MethodName)) ∈ tb := tb_in (List.mem_append_right _ (List.mem_append_right _ (List.mem_append_right _ (List.mem_append_left _ (List.mem_of_getElem? (l := tables_1_3) (i := 169) (by decide +kernel)))))) (by decide +kernel)
theorem mt_650 : (Cond.code ({ cls := "SoftStairsModel", name := "record", desc := "()V" } : MethodName) prog_8_method_3_code (2 : Nat) (Option.none : Option FieldType)) ∈ tb := tb_in (List.mem_append_right _ (List.mem_append_right _ (List.mem_append_right _ (List.mem_append_left _ (List.mem_of_getElem? (l := tables_1_3) (i := 170) (by decide +kernel)))))) (by decide +kernel)
theorem mt_651 : (Cond.methodLink "SoftStairsLaw" (56 : Nat) ({ cls := "SoftStairsModel", name := "rule", desc := "(I)I" } : MethodName)) ∈ tb := tb_in (List.mem_append_right _ (List.mem_append_right _ (List.mem_append_right _ (List.mem_append_left _ (List.mem_of_getElem? (l := tables_1_3) (i := 171) (by decide +kernel)))))) (by decide +kernel)
theorem mt_652 : (Cond.instanceMethod ({ cls := "SoftStairsModel", name := "rule", desc := "(I)I" } : MethodName)) ∈ tb := tb_in (List.mem_append_right _ (List.mem_append_right _ (List.mem_append_right _ (List.mem_append_left _ (List.mem_of_getElem? (l := tables_1_3) (i := 172) (by decide +kernel)))))) (by decide +kernel)
theorem mt_653 : (Cond.selects "SoftStairsModel" ({ cls := "SoftStairsModel", name := "rule", desc := "(I)I" } : MethodName) ({ cls := "SoftStairsModel", name := "rule", desc := "(I)I" } : MethodName)) ∈ tb := tb_in (List.mem_append_right _ (List.mem_append_right _ (List.mem_append_right _ (List.mem_append_left _ (List.mem_of_getElem? (l := tables_1_3) (i := 173) (by decide +kernel)))))) (by decide +kernel)
theorem mt_654 : (Cond.code ({ cls := "SoftStairsModel", name := "rule", desc := "(I)I" } : MethodName) prog_8_method_20_code (2 : Nat) (Option.some FieldType.int)) ∈ tb := tb_in (List.mem_append_right _ (List.mem_append_right _ (List.mem_append_right _ (List.mem_append_left _ (List.mem_of_getElem? (l := tables_1_3) (i := 174) (by decide +kernel)))))) (by decide +kernel)
theorem mt_655 : (Cond.methodLink "SoftStairsModel" (77 : Nat) ({ cls := "SoftStairsModel", name := "workOut", desc := "(I)V" } : MethodName)) ∈ tb := tb_in (List.mem_append_right _ (List.mem_append_right _ (List.mem_append_right _ (List.mem_append_left _ (List.mem_of_getElem? (l := tables_1_3) (i := 175) (by decide +kernel)))))) (by decide +kernel)
theorem mt_657 : (Cond.instanceMethod ({ cls := "SoftStairsModel", name := "workOut", desc := "(I)V" } : MethodName)) ∈ tb := tb_in (List.mem_append_right _ (List.mem_append_right _ (List.mem_append_right _ (List.mem_append_left _ (List.mem_of_getElem? (l := tables_1_3) (i := 177) (by decide +kernel)))))) (by decide +kernel)
theorem mt_658 : (Cond.code ({ cls := "SoftStairsModel", name := "workOut", desc := "(I)V" } : MethodName) prog_8_method_14_code (4 : Nat) (Option.none : Option FieldType)) ∈ tb := tb_in (List.mem_append_right _ (List.mem_append_right _ (List.mem_append_right _ (List.mem_append_left _ (List.mem_of_getElem? (l := tables_1_3) (i := 178) (by decide +kernel)))))) (by decide +kernel)
theorem mt_659 : (Cond.methodLink "SoftStairsModel" (66 : Nat) ({ cls := "SoftStairsModel", name := "push", desc := "(I)V" } : MethodName)) ∈ tb := tb_in (List.mem_append_right _ (List.mem_append_right _ (List.mem_append_right _ (List.mem_append_left _ (List.mem_of_getElem? (l := tables_1_3) (i := 179) (by decide +kernel)))))) (by decide +kernel)
theorem mt_661 : (Cond.instanceMethod ({ cls := "SoftStairsModel", name := "push", desc := "(I)V" } : MethodName)) ∈ tb := tb_in (List.mem_append_right _ (List.mem_append_right _ (List.mem_append_right _ (List.mem_append_left _ (List.mem_of_getElem? (l := tables_1_3) (i := 181) (by decide +kernel)))))) (by decide +kernel)
theorem mt_662 : (Cond.code ({ cls := "SoftStairsModel", name := "push", desc := "(I)V" } : MethodName) prog_8_method_13_code (2 : Nat) (Option.none : Option FieldType)) ∈ tb := tb_in (List.mem_append_right _ (List.mem_append_right _ (List.mem_append_right _ (List.mem_append_left _ (List.mem_of_getElem? (l := tables_1_3) (i := 182) (by decide +kernel)))))) (by decide +kernel)
theorem mt_663 : (Cond.methodLink "SoftStairsModel" (70 : Nat) ({ cls := "SoftStairsModel", name := "joinAll", desc := "(I)V" } : MethodName)) ∈ tb := tb_in (List.mem_append_right _ (List.mem_append_right _ (List.mem_append_right _ (List.mem_append_left _ (List.mem_of_getElem? (l := tables_1_3) (i := 183) (by decide +kernel)))))) (by decide +kernel)
theorem mt_665 : (Cond.instanceMethod ({ cls := "SoftStairsModel", name := "joinAll", desc := "(I)V" } : MethodName)) ∈ tb := tb_in (List.mem_append_right _ (List.mem_append_right _ (List.mem_append_right _ (List.mem_append_left _ (List.mem_of_getElem? (l := tables_1_3) (i := 185) (by decide +kernel)))))) (by decide +kernel)
theorem mt_666 : (Cond.code ({ cls := "SoftStairsModel", name := "joinAll", desc := "(I)V" } : MethodName) prog_8_method_12_code (2 : Nat) (Option.none : Option FieldType)) ∈ tb := tb_in (List.mem_append_right _ (List.mem_append_right _ (List.mem_append_right _ (List.mem_append_left _ (List.mem_of_getElem? (l := tables_1_3) (i := 186) (by decide +kernel)))))) (by decide +kernel)
theorem mt_667 : (Cond.methodLink "SoftStairsModel" (59 : Nat) ({ cls := "SoftStairsModel", name := "strength", desc := "(I)I" } : MethodName)) ∈ tb := tb_in (List.mem_append_right _ (List.mem_append_right _ (List.mem_append_right _ (List.mem_append_left _ (List.mem_of_getElem? (l := tables_1_3) (i := 187) (by decide +kernel)))))) (by decide +kernel)
theorem mt_668 : (Cond.static ({ cls := "SoftStairsModel", name := "strength", desc := "(I)I" } : MethodName)) ∈ tb := tb_in (List.mem_append_right _ (List.mem_append_right _ (List.mem_append_right _ (List.mem_append_left _ (List.mem_of_getElem? (l := tables_1_3) (i := 188) (by decide +kernel)))))) (by decide +kernel)
theorem mt_669 : (Cond.code ({ cls := "SoftStairsModel", name := "strength", desc := "(I)I" } : MethodName) prog_8_method_11_code (1 : Nat) (Option.some FieldType.int)) ∈ tb := tb_in (List.mem_append_right _ (List.mem_append_right _ (List.mem_append_right _ (List.mem_append_left _ (List.mem_of_getElem? (l := tables_1_3) (i := 189) (by decide +kernel)))))) (by decide +kernel)
theorem mt_670 : (Cond.methodLink "SoftStairsModel" (63 : Nat) ({ cls := "SoftStairsModel", name := "join", desc := "()V" } : MethodName)) ∈ tb := tb_in (List.mem_append_right _ (List.mem_append_right _ (List.mem_append_right _ (List.mem_append_left _ (List.mem_of_getElem? (l := tables_1_3) (i := 190) (by decide +kernel)))))) (by decide +kernel)
theorem mt_672 : (Cond.instanceMethod ({ cls := "SoftStairsModel", name := "join", desc := "()V" } : MethodName)) ∈ tb := tb_in (List.mem_append_right _ (List.mem_append_right _ (List.mem_append_right _ (List.mem_append_left _ (List.mem_of_getElem? (l := tables_1_3) (i := 192) (by decide +kernel)))))) (by decide +kernel)
theorem mt_673 : (Cond.code ({ cls := "SoftStairsModel", name := "join", desc := "()V" } : MethodName) prog_8_method_10_code (5 : Nat) (Option.none : Option FieldType)) ∈ tb := tb_in (List.mem_append_right _ (List.mem_append_right _ (List.mem_append_right _ (List.mem_append_left _ (List.mem_of_getElem? (l := tables_1_3) (i := 193) (by decide +kernel)))))) (by decide +kernel)
theorem mt_674 : (Cond.methodLink "SoftStairsModel" (73 : Nat) ({ cls := "SoftStairsModel", name := "isSo", desc := "(II)Z" } : MethodName)) ∈ tb := tb_in (List.mem_append_right _ (List.mem_append_right _ (List.mem_append_right _ (List.mem_append_left _ (List.mem_of_getElem? (l := tables_1_3) (i := 194) (by decide +kernel)))))) (by decide +kernel)
theorem mt_675 : (Cond.static ({ cls := "SoftStairsModel", name := "isSo", desc := "(II)Z" } : MethodName)) ∈ tb := tb_in (List.mem_append_right _ (List.mem_append_right _ (List.mem_append_right _ (List.mem_append_left _ (List.mem_of_getElem? (l := tables_1_3) (i := 195) (by decide +kernel)))))) (by decide +kernel)
theorem mt_676 : (Cond.code ({ cls := "SoftStairsModel", name := "isSo", desc := "(II)Z" } : MethodName) prog_8_method_9_code (4 : Nat) (Option.some FieldType.boolean)) ∈ tb := tb_in (List.mem_append_right _ (List.mem_append_right _ (List.mem_append_right _ (List.mem_append_left _ (List.mem_of_getElem? (l := tables_1_3) (i := 196) (by decide +kernel)))))) (by decide +kernel)
theorem mt_677 : (Cond.methodLink "SoftStairsModel" (87 : Nat) ({ cls := "SoftStairsModel", name := "parts", desc := "()I" } : MethodName)) ∈ tb := tb_in (List.mem_append_right _ (List.mem_append_right _ (List.mem_append_right _ (List.mem_append_left _ (List.mem_of_getElem? (l := tables_1_3) (i := 197) (by decide +kernel)))))) (by decide +kernel)
theorem mt_679 : (Cond.instanceMethod ({ cls := "SoftStairsModel", name := "parts", desc := "()I" } : MethodName)) ∈ tb := tb_in (List.mem_append_right _ (List.mem_append_right _ (List.mem_append_right _ (List.mem_append_left _ (List.mem_of_getElem? (l := tables_1_3) (i := 199) (by decide +kernel)))))) (by decide +kernel)
theorem mt_680 : (Cond.code ({ cls := "SoftStairsModel", name := "parts", desc := "()I" } : MethodName) prog_8_method_18_code (4 : Nat) (Option.some FieldType.int)) ∈ tb := tb_in (List.mem_append_right _ (List.mem_append_right _ (List.mem_append_right _ (List.mem_append_left _ (List.mem_of_getElem? (l := tables_1_3) (i := 200) (by decide +kernel)))))) (by decide +kernel)
theorem mt_681 : (Cond.methodLink "SoftStairsModel" (91 : Nat) ({ cls := "SoftStairsModel", name := "letters", desc := "()I" } : MethodName)) ∈ tb := tb_in (List.mem_append_right _ (List.mem_append_right _ (List.mem_append_right _ (List.mem_append_left _ (List.mem_of_getElem? (l := tables_1_3) (i := 201) (by decide +kernel)))))) (by decide +kernel)
theorem mt_683 : (Cond.instanceMethod ({ cls := "SoftStairsModel", name := "letters", desc := "()I" } : MethodName)) ∈ tb := tb_in (List.mem_append_right _ (List.mem_append_right _ (List.mem_append_right _ (List.mem_append_left _ (List.mem_of_getElem? (l := tables_1_3) (i := 203) (by decide +kernel)))))) (by decide +kernel)
theorem mt_684 : (Cond.code ({ cls := "SoftStairsModel", name := "letters", desc := "()I" } : MethodName) prog_8_method_19_code (4 : Nat) (Option.some FieldType.int)) ∈ tb := tb_in (List.mem_append_right _ (List.mem_append_right _ (List.mem_append_right _ (List.mem_append_left _ (List.mem_of_getElem? (l := tables_1_3) (i := 204) (by decide +kernel)))))) (by decide +kernel)
theorem mt_685 : (Cond.methodLink "SoftStairsModel" (84 : Nat) ({ cls := "SoftStairsModel", name := "isLetter", desc := "(I)Z" } : MethodName)) ∈ tb := tb_in (List.mem_append_right _ (List.mem_append_right _ (List.mem_append_right _ (List.mem_append_left _ (List.mem_of_getElem? (l := tables_1_3) (i := 205) (by decide +kernel)))))) (by decide +kernel)
theorem mt_686 : (Cond.static ({ cls := "SoftStairsModel", name := "isLetter", desc := "(I)Z" } : MethodName)) ∈ tb := tb_in (List.mem_append_right _ (List.mem_append_right _ (List.mem_append_right _ (List.mem_append_left _ (List.mem_of_getElem? (l := tables_1_3) (i := 206) (by decide +kernel)))))) (by decide +kernel)
theorem mt_687 : (Cond.code ({ cls := "SoftStairsModel", name := "isLetter", desc := "(I)Z" } : MethodName) prog_8_method_17_code (1 : Nat) (Option.some FieldType.boolean)) ∈ tb := tb_in (List.mem_append_right _ (List.mem_append_right _ (List.mem_append_right _ (List.mem_append_left _ (List.mem_of_getElem? (l := tables_1_3) (i := 207) (by decide +kernel)))))) (by decide +kernel)
theorem mt_688 : (Cond.methodLink "SoftStairsLaw" (17 : Nat) ({ cls := "SoftStairsModel", name := "set", desc := "(II)I" } : MethodName)) ∈ tb := tb_in (List.mem_append_right _ (List.mem_append_right _ (List.mem_append_right _ (List.mem_append_left _ (List.mem_of_getElem? (l := tables_1_3) (i := 208) (by decide +kernel)))))) (by decide +kernel)
theorem mt_689 : (Cond.instanceMethod ({ cls := "SoftStairsModel", name := "set", desc := "(II)I" } : MethodName)) ∈ tb := tb_in (List.mem_append_right _ (List.mem_append_right _ (List.mem_append_right _ (List.mem_append_left _ (List.mem_of_getElem? (l := tables_1_3) (i := 209) (by decide +kernel)))))) (by decide +kernel)
theorem mt_690 : (Cond.selects "SoftStairsModel" ({ cls := "SoftStairsModel", name := "set", desc := "(II)I" } : MethodName) ({ cls := "SoftStairsModel", name := "set", desc := "(II)I" } : MethodName)) ∈ tb := tb_in (List.mem_append_right _ (List.mem_append_right _ (List.mem_append_right _ (List.mem_append_left _ (List.mem_of_getElem? (l := tables_1_3) (i := 210) (by decide +kernel)))))) (by decide +kernel)
theorem mt_691 : (Cond.code ({ cls := "SoftStairsModel", name := "set", desc := "(II)I" } : MethodName) prog_8_method_32_code (4 : Nat) (Option.some FieldType.int)) ∈ tb := tb_in (List.mem_append_right _ (List.mem_append_right _ (List.mem_append_right _ (List.mem_append_left _ (List.mem_of_getElem? (l := tables_1_3) (i := 211) (by decide +kernel)))))) (by decide +kernel)
theorem mt_692 : (Cond.methodLink "SoftStairsModel" (122 : Nat) ({ cls := "SoftStairsModel", name := "leastOf", desc := "(I)I" } : MethodName)) ∈ tb := tb_in (List.mem_append_right _ (List.mem_append_right _ (List.mem_append_right _ (List.mem_append_left _ (List.mem_of_getElem? (l := tables_1_3) (i := 212) (by decide +kernel)))))) (by decide +kernel)
theorem mt_693 : (Cond.static ({ cls := "SoftStairsModel", name := "leastOf", desc := "(I)I" } : MethodName)) ∈ tb := tb_in (List.mem_append_right _ (List.mem_append_right _ (List.mem_append_right _ (List.mem_append_left _ (List.mem_of_getElem? (l := tables_1_3) (i := 213) (by decide +kernel)))))) (by decide +kernel)
theorem mt_694 : (Cond.code ({ cls := "SoftStairsModel", name := "leastOf", desc := "(I)I" } : MethodName) prog_8_method_30_code (1 : Nat) (Option.some FieldType.int)) ∈ tb := tb_in (List.mem_append_right _ (List.mem_append_right _ (List.mem_append_right _ (List.mem_append_left _ (List.mem_of_getElem? (l := tables_1_3) (i := 214) (by decide +kernel)))))) (by decide +kernel)
theorem mt_695 : (Cond.methodLink "SoftStairsModel" (125 : Nat) ({ cls := "SoftStairsModel", name := "mostOf", desc := "(I)I" } : MethodName)) ∈ tb := tb_in (List.mem_append_right _ (List.mem_append_right _ (List.mem_append_right _ (List.mem_append_left _ (List.mem_of_getElem? (l := tables_1_3) (i := 215) (by decide +kernel)))))) (by decide +kernel)
theorem mt_696 : (Cond.static ({ cls := "SoftStairsModel", name := "mostOf", desc := "(I)I" } : MethodName)) ∈ tb := tb_in (List.mem_append_right _ (List.mem_append_right _ (List.mem_append_right _ (List.mem_append_left _ (List.mem_of_getElem? (l := tables_1_3) (i := 216) (by decide +kernel)))))) (by decide +kernel)
theorem mt_697 : (Cond.code ({ cls := "SoftStairsModel", name := "mostOf", desc := "(I)I" } : MethodName) prog_8_method_31_code (1 : Nat) (Option.some FieldType.int)) ∈ tb := tb_in (List.mem_append_right _ (List.mem_append_right _ (List.mem_append_right _ (List.mem_append_left _ (List.mem_of_getElem? (l := tables_1_3) (i := 217) (by decide +kernel)))))) (by decide +kernel)
theorem mt_698 : (Cond.methodLink "SoftStairsLaw" (22 : Nat) ({ cls := "SoftStairsModel", name := "come", desc := "(I)I" } : MethodName)) ∈ tb := tb_in (List.mem_append_right _ (List.mem_append_right _ (List.mem_append_right _ (List.mem_append_left _ (List.mem_of_getElem? (l := tables_1_3) (i := 218) (by decide +kernel)))))) (by decide +kernel)
theorem mt_699 : (Cond.instanceMethod ({ cls := "SoftStairsModel", name := "come", desc := "(I)I" } : MethodName)) ∈ tb := tb_in (List.mem_append_right _ (List.mem_append_right _ (List.mem_append_right _ (List.mem_append_left _ (List.mem_of_getElem? (l := tables_1_3) (i := 219) (by decide +kernel)))))) (by decide +kernel)
theorem mt_700 : (Cond.selects "SoftStairsModel" ({ cls := "SoftStairsModel", name := "come", desc := "(I)I" } : MethodName) ({ cls := "SoftStairsModel", name := "come", desc := "(I)I" } : MethodName)) ∈ tb := tb_in (List.mem_append_right _ (List.mem_append_right _ (List.mem_append_right _ (List.mem_append_left _ (List.mem_of_getElem? (l := tables_1_3) (i := 220) (by decide +kernel)))))) (by decide +kernel)
theorem mt_701 : (Cond.code ({ cls := "SoftStairsModel", name := "come", desc := "(I)I" } : MethodName) prog_8_method_33_code (3 : Nat) (Option.some FieldType.int)) ∈ tb := tb_in (List.mem_append_right _ (List.mem_append_right _ (List.mem_append_right _ (List.mem_append_left _ (List.mem_of_getElem? (l := tables_1_3) (i := 221) (by decide +kernel)))))) (by decide +kernel)
theorem mt_702 : (Cond.methodLink "SoftStairsLaw" (27 : Nat) ({ cls := "SoftStairsModel", name := "sense", desc := "(III)I" } : MethodName)) ∈ tb := tb_in (List.mem_append_right _ (List.mem_append_right _ (List.mem_append_right _ (List.mem_append_left _ (List.mem_of_getElem? (l := tables_1_3) (i := 222) (by decide +kernel)))))) (by decide +kernel)
theorem mt_703 : (Cond.instanceMethod ({ cls := "SoftStairsModel", name := "sense", desc := "(III)I" } : MethodName)) ∈ tb := tb_in (List.mem_append_right _ (List.mem_append_right _ (List.mem_append_right _ (List.mem_append_left _ (List.mem_of_getElem? (l := tables_1_3) (i := 223) (by decide +kernel)))))) (by decide +kernel)
theorem mt_704 : (Cond.selects "SoftStairsModel" ({ cls := "SoftStairsModel", name := "sense", desc := "(III)I" } : MethodName) ({ cls := "SoftStairsModel", name := "sense", desc := "(III)I" } : MethodName)) ∈ tb := tb_in (List.mem_append_right _ (List.mem_append_right _ (List.mem_append_right _ (List.mem_append_left _ (List.mem_of_getElem? (l := tables_1_3) (i := 224) (by decide +kernel)))))) (by decide +kernel)
theorem mt_705 : (Cond.code ({ cls := "SoftStairsModel", name := "sense", desc := "(III)I" } : MethodName) prog_8_method_35_code (6 : Nat) (Option.some FieldType.int)) ∈ tb := tb_in (List.mem_append_right _ (List.mem_append_right _ (List.mem_append_right _ (List.mem_append_left _ (List.mem_of_getElem? (l := tables_1_3) (i := 225) (by decide +kernel)))))) (by decide +kernel)
theorem mt_706 : (Cond.methodLink "SoftStairsModel" (128 : Nat) ({ cls := "SoftStairsModel", name := "isSpot", desc := "(I)Z" } : MethodName)) ∈ tb := tb_in (List.mem_append_right _ (List.mem_append_right _ (List.mem_append_right _ (List.mem_append_left _ (List.mem_of_getElem? (l := tables_1_3) (i := 226) (by decide +kernel)))))) (by decide +kernel)
theorem mt_707 : (Cond.static ({ cls := "SoftStairsModel", name := "isSpot", desc := "(I)Z" } : MethodName)) ∈ tb := tb_in (List.mem_append_right _ (List.mem_append_right _ (List.mem_append_right _ (List.mem_append_left _ (List.mem_of_getElem? (l := tables_1_3) (i := 227) (by decide +kernel)))))) (by decide +kernel)
theorem mt_708 : (Cond.code ({ cls := "SoftStairsModel", name := "isSpot", desc := "(I)Z" } : MethodName) prog_8_method_34_code (1 : Nat) (Option.some FieldType.boolean)) ∈ tb := tb_in (List.mem_append_right _ (List.mem_append_right _ (List.mem_append_right _ (List.mem_append_left _ (List.mem_of_getElem? (l := tables_1_3) (i := 228) (by decide +kernel)))))) (by decide +kernel)
theorem mt_709 : (Cond.methodLink "SoftStairsLaw" (32 : Nat) ({ cls := "SoftStairsModel", name := "stop", desc := "()I" } : MethodName)) ∈ tb := tb_in (List.mem_append_right _ (List.mem_append_right _ (List.mem_append_right _ (List.mem_append_left _ (List.mem_of_getElem? (l := tables_1_3) (i := 229) (by decide +kernel)))))) (by decide +kernel)
theorem mt_710 : (Cond.instanceMethod ({ cls := "SoftStairsModel", name := "stop", desc := "()I" } : MethodName)) ∈ tb := tb_in (List.mem_append_right _ (List.mem_append_right _ (List.mem_append_right _ (List.mem_append_left _ (List.mem_of_getElem? (l := tables_1_3) (i := 230) (by decide +kernel)))))) (by decide +kernel)
theorem mt_711 : (Cond.selects "SoftStairsModel" ({ cls := "SoftStairsModel", name := "stop", desc := "()I" } : MethodName) ({ cls := "SoftStairsModel", name := "stop", desc := "()I" } : MethodName)) ∈ tb := tb_in (List.mem_append_right _ (List.mem_append_right _ (List.mem_append_right _ (List.mem_append_left _ (List.mem_of_getElem? (l := tables_1_3) (i := 231) (by decide +kernel)))))) (by decide +kernel)
theorem mt_712 : (Cond.code ({ cls := "SoftStairsModel", name := "stop", desc := "()I" } : MethodName) prog_8_method_36_code (1 : Nat) (Option.some FieldType.int)) ∈ tb := tb_in (List.mem_append_right _ (List.mem_append_right _ (List.mem_append_right _ (List.mem_append_left _ (List.mem_of_getElem? (l := tables_1_3) (i := 232) (by decide +kernel)))))) (by decide +kernel)
theorem mt_713 : (Cond.methodLink "SoftStairsModel" (110 : Nat) ({ cls := "SoftStairsModel", name := "halt", desc := "(I)V" } : MethodName)) ∈ tb := tb_in (List.mem_append_right _ (List.mem_append_right _ (List.mem_append_right _ (List.mem_append_left _ (List.mem_of_getElem? (l := tables_1_3) (i := 233) (by decide +kernel)))))) (by decide +kernel)
theorem mt_715 : (Cond.instanceMethod ({ cls := "SoftStairsModel", name := "halt", desc := "(I)V" } : MethodName)) ∈ tb := tb_in (List.mem_append_right _ (List.mem_append_right _ (List.mem_append_right _ (List.mem_append_left _ (List.mem_of_getElem? (l := tables_1_3) (i := 235) (by decide +kernel)))))) (by decide +kernel)
theorem mt_716 : (Cond.code ({ cls := "SoftStairsModel", name := "halt", desc := "(I)V" } : MethodName) prog_8_method_25_code (3 : Nat) (Option.none : Option FieldType)) ∈ tb := tb_in (List.mem_append_right _ (List.mem_append_right _ (List.mem_append_right _ (List.mem_append_left _ (List.mem_of_getElem? (l := tables_1_3) (i := 236) (by decide +kernel)))))) (by decide +kernel)
theorem mt_717 : (Cond.methodLink "SoftStairsModel" (100 : Nat) ({ cls := "SoftStairsModel", name := "loadNow", desc := "()I" } : MethodName)) ∈ tb := tb_in (List.mem_append_right _ (List.mem_append_right _ (List.mem_append_right _ (List.mem_append_left _ (List.mem_of_getElem? (l := tables_1_3) (i := 237) (by decide +kernel)))))) (by decide +kernel)
theorem mt_719 : (Cond.instanceMethod ({ cls := "SoftStairsModel", name := "loadNow", desc := "()I" } : MethodName)) ∈ tb := tb_in (List.mem_append_right _ (List.mem_append_right _ (List.mem_append_right _ (List.mem_append_left _ (List.mem_of_getElem? (l := tables_1_3) (i := 239) (by decide +kernel)))))) (by decide +kernel)
theorem mt_720 : (Cond.code ({ cls := "SoftStairsModel", name := "loadNow", desc := "()I" } : MethodName) prog_8_method_23_code (3 : Nat) (Option.some FieldType.int)) ∈ tb := tb_in (List.mem_append_right _ (List.mem_append_right _ (List.mem_append_right _ (List.mem_append_right _ (List.mem_of_getElem? (l := tables_1_4) (i := 0) (by decide +kernel)))))) (by decide +kernel)
theorem mt_721 : (Cond.methodLink "SoftStairsModel" (94 : Nat) ({ cls := "SoftStairsModel", name := "weight", desc := "(I)I" } : MethodName)) ∈ tb := tb_in (List.mem_append_right _ (List.mem_append_right _ (List.mem_append_right _ (List.mem_append_right _ (List.mem_of_getElem? (l := tables_1_4) (i := 1) (by decide +kernel)))))) (by decide +kernel)
theorem mt_723 : (Cond.instanceMethod ({ cls := "SoftStairsModel", name := "weight", desc := "(I)I" } : MethodName)) ∈ tb := tb_in (List.mem_append_right _ (List.mem_append_right _ (List.mem_append_right _ (List.mem_append_right _ (List.mem_of_getElem? (l := tables_1_4) (i := 3) (by decide +kernel)))))) (by decide +kernel)
theorem mt_724 : (Cond.code ({ cls := "SoftStairsModel", name := "weight", desc := "(I)I" } : MethodName) prog_8_method_21_code (2 : Nat) (Option.some FieldType.int)) ∈ tb := tb_in (List.mem_append_right _ (List.mem_append_right _ (List.mem_append_right _ (List.mem_append_right _ (List.mem_of_getElem? (l := tables_1_4) (i := 4) (by decide +kernel)))))) (by decide +kernel)
theorem mt_725 : (Cond.methodLink "SoftStairsLaw" (36 : Nat) ({ cls := "SoftStairsModel", name := "restart", desc := "()I" } : MethodName)) ∈ tb := tb_in (List.mem_append_right _ (List.mem_append_right _ (List.mem_append_right _ (List.mem_append_right _ (List.mem_of_getElem? (l := tables_1_4) (i := 5) (by decide +kernel)))))) (by decide +kernel)
theorem mt_726 : (Cond.instanceMethod ({ cls := "SoftStairsModel", name := "restart", desc := "()I" } : MethodName)) ∈ tb := tb_in (List.mem_append_right _ (List.mem_append_right _ (List.mem_append_right _ (List.mem_append_right _ (List.mem_of_getElem? (l := tables_1_4) (i := 6) (by decide +kernel)))))) (by decide +kernel)
theorem mt_727 : (Cond.selects "SoftStairsModel" ({ cls := "SoftStairsModel", name := "restart", desc := "()I" } : MethodName) ({ cls := "SoftStairsModel", name := "restart", desc := "()I" } : MethodName)) ∈ tb := tb_in (List.mem_append_right _ (List.mem_append_right _ (List.mem_append_right _ (List.mem_append_right _ (List.mem_of_getElem? (l := tables_1_4) (i := 7) (by decide +kernel)))))) (by decide +kernel)
theorem mt_728 : (Cond.code ({ cls := "SoftStairsModel", name := "restart", desc := "()I" } : MethodName) prog_8_method_37_code (1 : Nat) (Option.some FieldType.int)) ∈ tb := tb_in (List.mem_append_right _ (List.mem_append_right _ (List.mem_append_right _ (List.mem_append_right _ (List.mem_of_getElem? (l := tables_1_4) (i := 8) (by decide +kernel)))))) (by decide +kernel)
theorem mt_729 : (Cond.methodLink "SoftStairsModel" (107 : Nat) ({ cls := "SoftStairsModel", name := "holdsNow", desc := "()Z" } : MethodName)) ∈ tb := tb_in (List.mem_append_right _ (List.mem_append_right _ (List.mem_append_right _ (List.mem_append_right _ (List.mem_of_getElem? (l := tables_1_4) (i := 9) (by decide +kernel)))))) (by decide +kernel)
theorem mt_731 : (Cond.instanceMethod ({ cls := "SoftStairsModel", name := "holdsNow", desc := "()Z" } : MethodName)) ∈ tb := tb_in (List.mem_append_right _ (List.mem_append_right _ (List.mem_append_right _ (List.mem_append_right _ (List.mem_of_getElem? (l := tables_1_4) (i := 11) (by decide +kernel)))))) (by decide +kernel)
theorem mt_732 : (Cond.code ({ cls := "SoftStairsModel", name := "holdsNow", desc := "()Z" } : MethodName) prog_8_method_16_code (1 : Nat) (Option.some FieldType.boolean)) ∈ tb := tb_in (List.mem_append_right _ (List.mem_append_right _ (List.mem_append_right _ (List.mem_append_right _ (List.mem_of_getElem? (l := tables_1_4) (i := 12) (by decide +kernel)))))) (by decide +kernel)
theorem mt_733 : (Cond.methodLink "SoftStairsModel" (80 : Nat) ({ cls := "SoftStairsModel", name := "holdsWith", desc := "(I)Z" } : MethodName)) ∈ tb := tb_in (List.mem_append_right _ (List.mem_append_right _ (List.mem_append_right _ (List.mem_append_right _ (List.mem_of_getElem? (l := tables_1_4) (i := 13) (by decide +kernel)))))) (by decide +kernel)
theorem mt_735 : (Cond.instanceMethod ({ cls := "SoftStairsModel", name := "holdsWith", desc := "(I)Z" } : MethodName)) ∈ tb := tb_in (List.mem_append_right _ (List.mem_append_right _ (List.mem_append_right _ (List.mem_append_right _ (List.mem_of_getElem? (l := tables_1_4) (i := 15) (by decide +kernel)))))) (by decide +kernel)
theorem mt_736 : (Cond.code ({ cls := "SoftStairsModel", name := "holdsWith", desc := "(I)Z" } : MethodName) prog_8_method_15_code (2 : Nat) (Option.some FieldType.boolean)) ∈ tb := tb_in (List.mem_append_right _ (List.mem_append_right _ (List.mem_append_right _ (List.mem_append_right _ (List.mem_of_getElem? (l := tables_1_4) (i := 16) (by decide +kernel)))))) (by decide +kernel)
theorem mt_737 : (Cond.methodLink "SoftStairsLaw" (40 : Nat) ({ cls := "SoftStairsModel", name := "pass", desc := "(I)I" } : MethodName)) ∈ tb := tb_in (List.mem_append_right _ (List.mem_append_right _ (List.mem_append_right _ (List.mem_append_right _ (List.mem_of_getElem? (l := tables_1_4) (i := 17) (by decide +kernel)))))) (by decide +kernel)
theorem mt_738 : (Cond.instanceMethod ({ cls := "SoftStairsModel", name := "pass", desc := "(I)I" } : MethodName)) ∈ tb := tb_in (List.mem_append_right _ (List.mem_append_right _ (List.mem_append_right _ (List.mem_append_right _ (List.mem_of_getElem? (l := tables_1_4) (i := 18) (by decide +kernel)))))) (by decide +kernel)
theorem mt_739 : (Cond.selects "SoftStairsModel" ({ cls := "SoftStairsModel", name := "pass", desc := "(I)I" } : MethodName) ({ cls := "SoftStairsModel", name := "pass", desc := "(I)I" } : MethodName)) ∈ tb := tb_in (List.mem_append_right _ (List.mem_append_right _ (List.mem_append_right _ (List.mem_append_right _ (List.mem_of_getElem? (l := tables_1_4) (i := 19) (by decide +kernel)))))) (by decide +kernel)
theorem mt_740 : (Cond.code ({ cls := "SoftStairsModel", name := "pass", desc := "(I)I" } : MethodName) prog_8_method_38_code (3 : Nat) (Option.some FieldType.int)) ∈ tb := tb_in (List.mem_append_right _ (List.mem_append_right _ (List.mem_append_right _ (List.mem_append_right _ (List.mem_of_getElem? (l := tables_1_4) (i := 20) (by decide +kernel)))))) (by decide +kernel)
theorem mt_741 : (Cond.constant "SoftStairsModel" (131 : Nat) (99999 : Int32)) ∈ tb := tb_in (List.mem_append_right _ (List.mem_append_right _ (List.mem_append_right _ (List.mem_append_right _ (List.mem_of_getElem? (l := tables_1_4) (i := 21) (by decide +kernel)))))) (by decide +kernel)
theorem mt_742 : (Cond.methodLink "SoftStairsModel" (132 : Nat) ({ cls := "SoftStairsModel", name := "goTick", desc := "()V" } : MethodName)) ∈ tb := tb_in (List.mem_append_right _ (List.mem_append_right _ (List.mem_append_right _ (List.mem_append_right _ (List.mem_of_getElem? (l := tables_1_4) (i := 22) (by decide +kernel)))))) (by decide +kernel)
theorem mt_744 : (Cond.instanceMethod ({ cls := "SoftStairsModel", name := "goTick", desc := "()V" } : MethodName)) ∈ tb := tb_in (List.mem_append_right _ (List.mem_append_right _ (List.mem_append_right _ (List.mem_append_right _ (List.mem_of_getElem? (l := tables_1_4) (i := 24) (by decide +kernel)))))) (by decide +kernel)
theorem mt_745 : (Cond.code ({ cls := "SoftStairsModel", name := "goTick", desc := "()V" } : MethodName) prog_8_method_29_code (4 : Nat) (Option.none : Option FieldType)) ∈ tb := tb_in (List.mem_append_right _ (List.mem_append_right _ (List.mem_append_right _ (List.mem_append_right _ (List.mem_of_getElem? (l := tables_1_4) (i := 25) (by decide +kernel)))))) (by decide +kernel)
theorem mt_746 : (Cond.methodLink "SoftStairsModel" (113 : Nat) ({ cls := "SoftStairsModel", name := "disagrees", desc := "(I)Z" } : MethodName)) ∈ tb := tb_in (List.mem_append_right _ (List.mem_append_right _ (List.mem_append_right _ (List.mem_append_right _ (List.mem_of_getElem? (l := tables_1_4) (i := 26) (by decide +kernel)))))) (by decide +kernel)
theorem mt_748 : (Cond.instanceMethod ({ cls := "SoftStairsModel", name := "disagrees", desc := "(I)Z" } : MethodName)) ∈ tb := tb_in (List.mem_append_right _ (List.mem_append_right _ (List.mem_append_right _ (List.mem_append_right _ (List.mem_of_getElem? (l := tables_1_4) (i := 28) (by decide +kernel)))))) (by decide +kernel)
theorem mt_749 : (Cond.code ({ cls := "SoftStairsModel", name := "disagrees", desc := "(I)Z" } : MethodName) prog_8_method_26_code (3 : Nat) (Option.some FieldType.boolean)) ∈ tb := tb_in (List.mem_append_right _ (List.mem_append_right _ (List.mem_append_right _ (List.mem_append_right _ (List.mem_of_getElem? (l := tables_1_4) (i := 29) (by decide +kernel)))))) (by decide +kernel)
theorem mt_750 : (Cond.methodLink "SoftStairsModel" (116 : Nat) ({ cls := "SoftStairsModel", name := "wanted", desc := "()I" } : MethodName)) ∈ tb := tb_in (List.mem_append_right _ (List.mem_append_right _ (List.mem_append_right _ (List.mem_append_right _ (List.mem_of_getElem? (l := tables_1_4) (i := 30) (by decide +kernel)))))) (by decide +kernel)
theorem mt_752 : (Cond.instanceMethod ({ cls := "SoftStairsModel", name := "wanted", desc := "()I" } : MethodName)) ∈ tb := tb_in (List.mem_append_right _ (List.mem_append_right _ (List.mem_append_right _ (List.mem_append_right _ (List.mem_of_getElem? (l := tables_1_4) (i := 32) (by decide +kernel)))))) (by decide +kernel)
theorem mt_753 : (Cond.code ({ cls := "SoftStairsModel", name := "wanted", desc := "()I" } : MethodName) prog_8_method_28_code (2 : Nat) (Option.some FieldType.int)) ∈ tb := tb_in (List.mem_append_right _ (List.mem_append_right _ (List.mem_append_right _ (List.mem_append_right _ (List.mem_of_getElem? (l := tables_1_4) (i := 33) (by decide +kernel)))))) (by decide +kernel)
theorem mt_754 : (Cond.methodLink "SoftStairsModel" (103 : Nat) ({ cls := "SoftStairsModel", name := "isSlow", desc := "()Z" } : MethodName)) ∈ tb := tb_in (List.mem_append_right _ (List.mem_append_right _ (List.mem_append_right _ (List.mem_append_right _ (List.mem_of_getElem? (l := tables_1_4) (i := 34) (by decide +kernel)))))) (by decide +kernel)
theorem mt_756 : (Cond.instanceMethod ({ cls := "SoftStairsModel", name := "isSlow", desc := "()Z" } : MethodName)) ∈ tb := tb_in (List.mem_append_right _ (List.mem_append_right _ (List.mem_append_right _ (List.mem_append_right _ (List.mem_of_getElem? (l := tables_1_4) (i := 36) (by decide +kernel)))))) (by decide +kernel)
theorem mt_757 : (Cond.code ({ cls := "SoftStairsModel", name := "isSlow", desc := "()Z" } : MethodName) prog_8_method_27_code (3 : Nat) (Option.some FieldType.boolean)) ∈ tb := tb_in (List.mem_append_right _ (List.mem_append_right _ (List.mem_append_right _ (List.mem_append_right _ (List.mem_of_getElem? (l := tables_1_4) (i := 37) (by decide +kernel)))))) (by decide +kernel)
theorem mt_758 : (Cond.methodLink "SoftStairsModel" (119 : Nat) ({ cls := "SoftStairsModel", name := "carry", desc := "()V" } : MethodName)) ∈ tb := tb_in (List.mem_append_right _ (List.mem_append_right _ (List.mem_append_right _ (List.mem_append_right _ (List.mem_of_getElem? (l := tables_1_4) (i := 38) (by decide +kernel)))))) (by decide +kernel)
theorem mt_760 : (Cond.instanceMethod ({ cls := "SoftStairsModel", name := "carry", desc := "()V" } : MethodName)) ∈ tb := tb_in (List.mem_append_right _ (List.mem_append_right _ (List.mem_append_right _ (List.mem_append_right _ (List.mem_of_getElem? (l := tables_1_4) (i := 40) (by decide +kernel)))))) (by decide +kernel)
theorem mt_761 : (Cond.code ({ cls := "SoftStairsModel", name := "carry", desc := "()V" } : MethodName) prog_8_method_24_code (4 : Nat) (Option.none : Option FieldType)) ∈ tb := tb_in (List.mem_append_right _ (List.mem_append_right _ (List.mem_append_right _ (List.mem_append_right _ (List.mem_of_getElem? (l := tables_1_4) (i := 41) (by decide +kernel)))))) (by decide +kernel)
theorem mt_762 : (Cond.methodLink "SoftStairsModel" (97 : Nat) ({ cls := "SoftStairsModel", name := "placeOf", desc := "(I)I" } : MethodName)) ∈ tb := tb_in (List.mem_append_right _ (List.mem_append_right _ (List.mem_append_right _ (List.mem_append_right _ (List.mem_of_getElem? (l := tables_1_4) (i := 42) (by decide +kernel)))))) (by decide +kernel)
theorem mt_764 : (Cond.instanceMethod ({ cls := "SoftStairsModel", name := "placeOf", desc := "(I)I" } : MethodName)) ∈ tb := tb_in (List.mem_append_right _ (List.mem_append_right _ (List.mem_append_right _ (List.mem_append_right _ (List.mem_of_getElem? (l := tables_1_4) (i := 44) (by decide +kernel)))))) (by decide +kernel)
theorem mt_765 : (Cond.code ({ cls := "SoftStairsModel", name := "placeOf", desc := "(I)I" } : MethodName) prog_8_method_22_code (2 : Nat) (Option.some FieldType.int)) ∈ tb := tb_in (List.mem_append_right _ (List.mem_append_right _ (List.mem_append_right _ (List.mem_append_right _ (List.mem_of_getElem? (l := tables_1_4) (i := 45) (by decide +kernel)))))) (by decide +kernel)
theorem mt_766 : (Cond.methodLink "SoftStairsLaw" (44 : Nat) ({ cls := "SoftStairsModel", name := "of", desc := "(II)I" } : MethodName)) ∈ tb := tb_in (List.mem_append_right _ (List.mem_append_right _ (List.mem_append_right _ (List.mem_append_right _ (List.mem_of_getElem? (l := tables_1_4) (i := 46) (by decide +kernel)))))) (by decide +kernel)
theorem mt_767 : (Cond.instanceMethod ({ cls := "SoftStairsModel", name := "of", desc := "(II)I" } : MethodName)) ∈ tb := tb_in (List.mem_append_right _ (List.mem_append_right _ (List.mem_append_right _ (List.mem_append_right _ (List.mem_of_getElem? (l := tables_1_4) (i := 47) (by decide +kernel)))))) (by decide +kernel)
theorem mt_768 : (Cond.selects "SoftStairsModel" ({ cls := "SoftStairsModel", name := "of", desc := "(II)I" } : MethodName) ({ cls := "SoftStairsModel", name := "of", desc := "(II)I" } : MethodName)) ∈ tb := tb_in (List.mem_append_right _ (List.mem_append_right _ (List.mem_append_right _ (List.mem_append_right _ (List.mem_of_getElem? (l := tables_1_4) (i := 48) (by decide +kernel)))))) (by decide +kernel)
theorem mt_769 : (Cond.code ({ cls := "SoftStairsModel", name := "of", desc := "(II)I" } : MethodName) prog_8_method_39_code (3 : Nat) (Option.some FieldType.int)) ∈ tb := tb_in (List.mem_append_right _ (List.mem_append_right _ (List.mem_append_right _ (List.mem_append_right _ (List.mem_of_getElem? (l := tables_1_4) (i := 49) (by decide +kernel)))))) (by decide +kernel)
theorem mt_770 : (Cond.methodLink "SoftStairsLaw" (48 : Nat) ({ cls := "SoftStairsModel", name := "ofSpot", desc := "(II)I" } : MethodName)) ∈ tb := tb_in (List.mem_append_right _ (List.mem_append_right _ (List.mem_append_right _ (List.mem_append_right _ (List.mem_of_getElem? (l := tables_1_4) (i := 50) (by decide +kernel)))))) (by decide +kernel)
theorem mt_771 : (Cond.instanceMethod ({ cls := "SoftStairsModel", name := "ofSpot", desc := "(II)I" } : MethodName)) ∈ tb := tb_in (List.mem_append_right _ (List.mem_append_right _ (List.mem_append_right _ (List.mem_append_right _ (List.mem_of_getElem? (l := tables_1_4) (i := 51) (by decide +kernel)))))) (by decide +kernel)
theorem mt_772 : (Cond.selects "SoftStairsModel" ({ cls := "SoftStairsModel", name := "ofSpot", desc := "(II)I" } : MethodName) ({ cls := "SoftStairsModel", name := "ofSpot", desc := "(II)I" } : MethodName)) ∈ tb := tb_in (List.mem_append_right _ (List.mem_append_right _ (List.mem_append_right _ (List.mem_append_right _ (List.mem_of_getElem? (l := tables_1_4) (i := 52) (by decide +kernel)))))) (by decide +kernel)
theorem mt_773 : (Cond.code ({ cls := "SoftStairsModel", name := "ofSpot", desc := "(II)I" } : MethodName) prog_8_method_40_code (3 : Nat) (Option.some FieldType.int)) ∈ tb := tb_in (List.mem_append_right _ (List.mem_append_right _ (List.mem_append_right _ (List.mem_append_right _ (List.mem_of_getElem? (l := tables_1_4) (i := 53) (by decide +kernel)))))) (by decide +kernel)
theorem mt_774 : (Cond.methodLink "SoftStairsLaw" (52 : Nat) ({ cls := "SoftStairsModel", name := "ofStop", desc := "(II)I" } : MethodName)) ∈ tb := tb_in (List.mem_append_right _ (List.mem_append_right _ (List.mem_append_right _ (List.mem_append_right _ (List.mem_of_getElem? (l := tables_1_4) (i := 54) (by decide +kernel)))))) (by decide +kernel)
theorem mt_775 : (Cond.instanceMethod ({ cls := "SoftStairsModel", name := "ofStop", desc := "(II)I" } : MethodName)) ∈ tb := tb_in (List.mem_append_right _ (List.mem_append_right _ (List.mem_append_right _ (List.mem_append_right _ (List.mem_of_getElem? (l := tables_1_4) (i := 55) (by decide +kernel)))))) (by decide +kernel)
theorem mt_776 : (Cond.selects "SoftStairsModel" ({ cls := "SoftStairsModel", name := "ofStop", desc := "(II)I" } : MethodName) ({ cls := "SoftStairsModel", name := "ofStop", desc := "(II)I" } : MethodName)) ∈ tb := tb_in (List.mem_append_right _ (List.mem_append_right _ (List.mem_append_right _ (List.mem_append_right _ (List.mem_of_getElem? (l := tables_1_4) (i := 56) (by decide +kernel)))))) (by decide +kernel)
theorem mt_777 : (Cond.code ({ cls := "SoftStairsModel", name := "ofStop", desc := "(II)I" } : MethodName) prog_8_method_41_code (4 : Nat) (Option.some FieldType.int)) ∈ tb := tb_in (List.mem_append_right _ (List.mem_append_right _ (List.mem_append_right _ (List.mem_append_right _ (List.mem_of_getElem? (l := tables_1_4) (i := 57) (by decide +kernel)))))) (by decide +kernel)
theorem mt_778 : (Cond.methodLink "SoftStairsLaw" (60 : Nat) ({ cls := "SoftStairsModel", name := "count", desc := "(I)I" } : MethodName)) ∈ tb := tb_in (List.mem_append_right _ (List.mem_append_right _ (List.mem_append_right _ (List.mem_append_right _ (List.mem_of_getElem? (l := tables_1_4) (i := 58) (by decide +kernel)))))) (by decide +kernel)
theorem mt_779 : (Cond.instanceMethod ({ cls := "SoftStairsModel", name := "count", desc := "(I)I" } : MethodName)) ∈ tb := tb_in (List.mem_append_right _ (List.mem_append_right _ (List.mem_append_right _ (List.mem_append_right _ (List.mem_of_getElem? (l := tables_1_4) (i := 59) (by decide +kernel)))))) (by decide +kernel)
theorem mt_780 : (Cond.selects "SoftStairsModel" ({ cls := "SoftStairsModel", name := "count", desc := "(I)I" } : MethodName) ({ cls := "SoftStairsModel", name := "count", desc := "(I)I" } : MethodName)) ∈ tb := tb_in (List.mem_append_right _ (List.mem_append_right _ (List.mem_append_right _ (List.mem_append_right _ (List.mem_of_getElem? (l := tables_1_4) (i := 60) (by decide +kernel)))))) (by decide +kernel)
theorem mt_781 : (Cond.code ({ cls := "SoftStairsModel", name := "count", desc := "(I)I" } : MethodName) prog_8_method_42_code (2 : Nat) (Option.some FieldType.int)) ∈ tb := tb_in (List.mem_append_right _ (List.mem_append_right _ (List.mem_append_right _ (List.mem_append_right _ (List.mem_of_getElem? (l := tables_1_4) (i := 61) (by decide +kernel)))))) (by decide +kernel)
theorem mt_782 : (Cond.methodLink "SoftStairsLaw" (64 : Nat) ({ cls := "SoftStairsModel", name := "way", desc := "()I" } : MethodName)) ∈ tb := tb_in (List.mem_append_right _ (List.mem_append_right _ (List.mem_append_right _ (List.mem_append_right _ (List.mem_of_getElem? (l := tables_1_4) (i := 62) (by decide +kernel)))))) (by decide +kernel)
theorem mt_783 : (Cond.instanceMethod ({ cls := "SoftStairsModel", name := "way", desc := "()I" } : MethodName)) ∈ tb := tb_in (List.mem_append_right _ (List.mem_append_right _ (List.mem_append_right _ (List.mem_append_right _ (List.mem_of_getElem? (l := tables_1_4) (i := 63) (by decide +kernel)))))) (by decide +kernel)
theorem mt_784 : (Cond.selects "SoftStairsModel" ({ cls := "SoftStairsModel", name := "way", desc := "()I" } : MethodName) ({ cls := "SoftStairsModel", name := "way", desc := "()I" } : MethodName)) ∈ tb := tb_in (List.mem_append_right _ (List.mem_append_right _ (List.mem_append_right _ (List.mem_append_right _ (List.mem_of_getElem? (l := tables_1_4) (i := 64) (by decide +kernel)))))) (by decide +kernel)
theorem mt_785 : (Cond.code ({ cls := "SoftStairsModel", name := "way", desc := "()I" } : MethodName) prog_8_method_44_code (1 : Nat) (Option.some FieldType.int)) ∈ tb := tb_in (List.mem_append_right _ (List.mem_append_right _ (List.mem_append_right _ (List.mem_append_right _ (List.mem_of_getElem? (l := tables_1_4) (i := 65) (by decide +kernel)))))) (by decide +kernel)
theorem mt_786 : (Cond.methodLink "SoftStairsModel" (144 : Nat) ({ cls := "SoftStairsModel", name := "wayWith", desc := "(I)I" } : MethodName)) ∈ tb := tb_in (List.mem_append_right _ (List.mem_append_right _ (List.mem_append_right _ (List.mem_append_right _ (List.mem_of_getElem? (l := tables_1_4) (i := 66) (by decide +kernel)))))) (by decide +kernel)
theorem mt_788 : (Cond.instanceMethod ({ cls := "SoftStairsModel", name := "wayWith", desc := "(I)I" } : MethodName)) ∈ tb := tb_in (List.mem_append_right _ (List.mem_append_right _ (List.mem_append_right _ (List.mem_append_right _ (List.mem_of_getElem? (l := tables_1_4) (i := 68) (by decide +kernel)))))) (by decide +kernel)
theorem mt_789 : (Cond.code ({ cls := "SoftStairsModel", name := "wayWith", desc := "(I)I" } : MethodName) prog_8_method_43_code (4 : Nat) (Option.some FieldType.int)) ∈ tb := tb_in (List.mem_append_right _ (List.mem_append_right _ (List.mem_append_right _ (List.mem_append_right _ (List.mem_of_getElem? (l := tables_1_4) (i := 69) (by decide +kernel)))))) (by decide +kernel)
theorem mt_790 : (Cond.methodLink "SoftStairsModel" (138 : Nat) ({ cls := "SoftStairsModel", name := "putAside", desc := "()V" } : MethodName)) ∈ tb := tb_in (List.mem_append_right _ (List.mem_append_right _ (List.mem_append_right _ (List.mem_append_right _ (List.mem_of_getElem? (l := tables_1_4) (i := 70) (by decide +kernel)))))) (by decide +kernel)
theorem mt_792 : (Cond.instanceMethod ({ cls := "SoftStairsModel", name := "putAside", desc := "()V" } : MethodName)) ∈ tb := tb_in (List.mem_append_right _ (List.mem_append_right _ (List.mem_append_right _ (List.mem_append_right _ (List.mem_of_getElem? (l := tables_1_4) (i := 72) (by decide +kernel)))))) (by decide +kernel)
theorem mt_793 : (Cond.code ({ cls := "SoftStairsModel", name := "putAside", desc := "()V" } : MethodName) prog_8_method_7_code (2 : Nat) (Option.none : Option FieldType)) ∈ tb := tb_in (List.mem_append_right _ (List.mem_append_right _ (List.mem_append_right _ (List.mem_append_right _ (List.mem_of_getElem? (l := tables_1_4) (i := 73) (by decide +kernel)))))) (by decide +kernel)
theorem mt_794 : (Cond.methodLink "SoftStairsModel" (141 : Nat) ({ cls := "SoftStairsModel", name := "bringBack", desc := "()V" } : MethodName)) ∈ tb := tb_in (List.mem_append_right _ (List.mem_append_right _ (List.mem_append_right _ (List.mem_append_right _ (List.mem_of_getElem? (l := tables_1_4) (i := 74) (by decide +kernel)))))) (by decide +kernel)
theorem mt_796 : (Cond.instanceMethod ({ cls := "SoftStairsModel", name := "bringBack", desc := "()V" } : MethodName)) ∈ tb := tb_in (List.mem_append_right _ (List.mem_append_right _ (List.mem_append_right _ (List.mem_append_right _ (List.mem_of_getElem? (l := tables_1_4) (i := 76) (by decide +kernel)))))) (by decide +kernel)
theorem mt_797 : (Cond.code ({ cls := "SoftStairsModel", name := "bringBack", desc := "()V" } : MethodName) prog_8_method_8_code (2 : Nat) (Option.none : Option FieldType)) ∈ tb := tb_in (List.mem_append_right _ (List.mem_append_right _ (List.mem_append_right _ (List.mem_append_right _ (List.mem_of_getElem? (l := tables_1_4) (i := 77) (by decide +kernel)))))) (by decide +kernel)
theorem mt_798 : (Cond.methodLink "SoftStairsLaw" (68 : Nat) ({ cls := "SoftStairsModel", name := "emptyIn", desc := "()I" } : MethodName)) ∈ tb := tb_in (List.mem_append_right _ (List.mem_append_right _ (List.mem_append_right _ (List.mem_append_right _ (List.mem_of_getElem? (l := tables_1_4) (i := 78) (by decide +kernel)))))) (by decide +kernel)
theorem mt_799 : (Cond.instanceMethod ({ cls := "SoftStairsModel", name := "emptyIn", desc := "()I" } : MethodName)) ∈ tb := tb_in (List.mem_append_right _ (List.mem_append_right _ (List.mem_append_right _ (List.mem_append_right _ (List.mem_of_getElem? (l := tables_1_4) (i := 79) (by decide +kernel)))))) (by decide +kernel)
theorem mt_800 : (Cond.selects "SoftStairsModel" ({ cls := "SoftStairsModel", name := "emptyIn", desc := "()I" } : MethodName) ({ cls := "SoftStairsModel", name := "emptyIn", desc := "()I" } : MethodName)) ∈ tb := tb_in (List.mem_append_right _ (List.mem_append_right _ (List.mem_append_right _ (List.mem_append_right _ (List.mem_of_getElem? (l := tables_1_4) (i := 80) (by decide +kernel)))))) (by decide +kernel)
theorem mt_801 : (Cond.code ({ cls := "SoftStairsModel", name := "emptyIn", desc := "()I" } : MethodName) prog_8_method_45_code (2 : Nat) (Option.some FieldType.int)) ∈ tb := tb_in (List.mem_append_right _ (List.mem_append_right _ (List.mem_append_right _ (List.mem_append_right _ (List.mem_of_getElem? (l := tables_1_4) (i := 81) (by decide +kernel)))))) (by decide +kernel)
theorem mt_802 : (Cond.methodLink "SoftStairsLaw" (72 : Nat) ({ cls := "SoftStairsModel", name := "leastRamp", desc := "(I)I" } : MethodName)) ∈ tb := tb_in (List.mem_append_right _ (List.mem_append_right _ (List.mem_append_right _ (List.mem_append_right _ (List.mem_of_getElem? (l := tables_1_4) (i := 82) (by decide +kernel)))))) (by decide +kernel)
theorem mt_803 : (Cond.instanceMethod ({ cls := "SoftStairsModel", name := "leastRamp", desc := "(I)I" } : MethodName)) ∈ tb := tb_in (List.mem_append_right _ (List.mem_append_right _ (List.mem_append_right _ (List.mem_append_right _ (List.mem_of_getElem? (l := tables_1_4) (i := 83) (by decide +kernel)))))) (by decide +kernel)
theorem mt_804 : (Cond.selects "SoftStairsModel" ({ cls := "SoftStairsModel", name := "leastRamp", desc := "(I)I" } : MethodName) ({ cls := "SoftStairsModel", name := "leastRamp", desc := "(I)I" } : MethodName)) ∈ tb := tb_in (List.mem_append_right _ (List.mem_append_right _ (List.mem_append_right _ (List.mem_append_right _ (List.mem_of_getElem? (l := tables_1_4) (i := 84) (by decide +kernel)))))) (by decide +kernel)
theorem mt_805 : (Cond.code ({ cls := "SoftStairsModel", name := "leastRamp", desc := "(I)I" } : MethodName) prog_8_method_46_code (4 : Nat) (Option.some FieldType.int)) ∈ tb := tb_in (List.mem_append_right _ (List.mem_append_right _ (List.mem_append_right _ (List.mem_append_right _ (List.mem_of_getElem? (l := tables_1_4) (i := 85) (by decide +kernel)))))) (by decide +kernel)
theorem mt_806 : (Cond.methodLink "SoftStairsLaw" (76 : Nat) ({ cls := "SoftStairsModel", name := "wouldHold", desc := "(I)I" } : MethodName)) ∈ tb := tb_in (List.mem_append_right _ (List.mem_append_right _ (List.mem_append_right _ (List.mem_append_right _ (List.mem_of_getElem? (l := tables_1_4) (i := 86) (by decide +kernel)))))) (by decide +kernel)
theorem mt_807 : (Cond.instanceMethod ({ cls := "SoftStairsModel", name := "wouldHold", desc := "(I)I" } : MethodName)) ∈ tb := tb_in (List.mem_append_right _ (List.mem_append_right _ (List.mem_append_right _ (List.mem_append_right _ (List.mem_of_getElem? (l := tables_1_4) (i := 87) (by decide +kernel)))))) (by decide +kernel)
theorem mt_808 : (Cond.selects "SoftStairsModel" ({ cls := "SoftStairsModel", name := "wouldHold", desc := "(I)I" } : MethodName) ({ cls := "SoftStairsModel", name := "wouldHold", desc := "(I)I" } : MethodName)) ∈ tb := tb_in (List.mem_append_right _ (List.mem_append_right _ (List.mem_append_right _ (List.mem_append_right _ (List.mem_of_getElem? (l := tables_1_4) (i := 88) (by decide +kernel)))))) (by decide +kernel)
theorem mt_809 : (Cond.code ({ cls := "SoftStairsModel", name := "wouldHold", desc := "(I)I" } : MethodName) prog_8_method_47_code (2 : Nat) (Option.some FieldType.int)) ∈ tb := tb_in (List.mem_append_right _ (List.mem_append_right _ (List.mem_append_right _ (List.mem_append_right _ (List.mem_of_getElem? (l := tables_1_4) (i := 89) (by decide +kernel)))))) (by decide +kernel)
theorem mt_810 : (Cond.methodLink "SoftStairsLaw" (80 : Nat) ({ cls := "SoftStairsModel", name := "fewest", desc := "()I" } : MethodName)) ∈ tb := tb_in (List.mem_append_right _ (List.mem_append_right _ (List.mem_append_right _ (List.mem_append_right _ (List.mem_of_getElem? (l := tables_1_4) (i := 90) (by decide +kernel)))))) (by decide +kernel)
theorem mt_811 : (Cond.instanceMethod ({ cls := "SoftStairsModel", name := "fewest", desc := "()I" } : MethodName)) ∈ tb := tb_in (List.mem_append_right _ (List.mem_append_right _ (List.mem_append_right _ (List.mem_append_right _ (List.mem_of_getElem? (l := tables_1_4) (i := 91) (by decide +kernel)))))) (by decide +kernel)
theorem mt_812 : (Cond.selects "SoftStairsModel" ({ cls := "SoftStairsModel", name := "fewest", desc := "()I" } : MethodName) ({ cls := "SoftStairsModel", name := "fewest", desc := "()I" } : MethodName)) ∈ tb := tb_in (List.mem_append_right _ (List.mem_append_right _ (List.mem_append_right _ (List.mem_append_right _ (List.mem_of_getElem? (l := tables_1_4) (i := 92) (by decide +kernel)))))) (by decide +kernel)
theorem mt_813 : (Cond.code ({ cls := "SoftStairsModel", name := "fewest", desc := "()I" } : MethodName) prog_8_method_49_code (3 : Nat) (Option.some FieldType.int)) ∈ tb := tb_in (List.mem_append_right _ (List.mem_append_right _ (List.mem_append_right _ (List.mem_append_right _ (List.mem_of_getElem? (l := tables_1_4) (i := 93) (by decide +kernel)))))) (by decide +kernel)
theorem mt_814 : (Cond.methodLink "SoftStairsModel" (147 : Nat) ({ cls := "SoftStairsModel", name := "bits", desc := "(I)I" } : MethodName)) ∈ tb := tb_in (List.mem_append_right _ (List.mem_append_right _ (List.mem_append_right _ (List.mem_append_right _ (List.mem_of_getElem? (l := tables_1_4) (i := 94) (by decide +kernel)))))) (by decide +kernel)
theorem mt_815 : (Cond.static ({ cls := "SoftStairsModel", name := "bits", desc := "(I)I" } : MethodName)) ∈ tb := tb_in (List.mem_append_right _ (List.mem_append_right _ (List.mem_append_right _ (List.mem_append_right _ (List.mem_of_getElem? (l := tables_1_4) (i := 95) (by decide +kernel)))))) (by decide +kernel)
theorem mt_816 : (Cond.code ({ cls := "SoftStairsModel", name := "bits", desc := "(I)I" } : MethodName) prog_8_method_48_code (3 : Nat) (Option.some FieldType.int)) ∈ tb := tb_in (List.mem_append_right _ (List.mem_append_right _ (List.mem_append_right _ (List.mem_append_right _ (List.mem_of_getElem? (l := tables_1_4) (i := 96) (by decide +kernel)))))) (by decide +kernel)
theorem mt_817 : (Cond.methodLink "SoftStairsLaw" (87 : Nat) ({ cls := "SoftStairsModel", name := "put", desc := "(J)I" } : MethodName)) ∈ tb := tb_in (List.mem_append_right _ (List.mem_append_right _ (List.mem_append_right _ (List.mem_append_right _ (List.mem_of_getElem? (l := tables_1_4) (i := 97) (by decide +kernel)))))) (by decide +kernel)
theorem mt_818 : (Cond.instanceMethod ({ cls := "SoftStairsModel", name := "put", desc := "(J)I" } : MethodName)) ∈ tb := tb_in (List.mem_append_right _ (List.mem_append_right _ (List.mem_append_right _ (List.mem_append_right _ (List.mem_of_getElem? (l := tables_1_4) (i := 98) (by decide +kernel)))))) (by decide +kernel)
theorem mt_819 : (Cond.selects "SoftStairsModel" ({ cls := "SoftStairsModel", name := "put", desc := "(J)I" } : MethodName) ({ cls := "SoftStairsModel", name := "put", desc := "(J)I" } : MethodName)) ∈ tb := tb_in (List.mem_append_right _ (List.mem_append_right _ (List.mem_append_right _ (List.mem_append_right _ (List.mem_of_getElem? (l := tables_1_4) (i := 99) (by decide +kernel)))))) (by decide +kernel)
theorem mt_820 : (Cond.code ({ cls := "SoftStairsModel", name := "put", desc := "(J)I" } : MethodName) prog_8_method_50_code (8 : Nat) (Option.some FieldType.int)) ∈ tb := tb_in (List.mem_append_right _ (List.mem_append_right _ (List.mem_append_right _ (List.mem_append_right _ (List.mem_of_getElem? (l := tables_1_4) (i := 100) (by decide +kernel)))))) (by decide +kernel)
theorem mt_821 : (Cond.constantLong "SoftStairsModel" (150 : Nat) (255 : Int64)) ∈ tb := tb_in (List.mem_append_right _ (List.mem_append_right _ (List.mem_append_right _ (List.mem_append_right _ (List.mem_of_getElem? (l := tables_1_4) (i := 101) (by decide +kernel)))))) (by decide +kernel)
theorem mt_822 : (Cond.methodLink "SoftStairsLaw" (91 : Nat) ({ cls := "SoftStairsModel", name := "wipe", desc := "()I" } : MethodName)) ∈ tb := tb_in (List.mem_append_right _ (List.mem_append_right _ (List.mem_append_right _ (List.mem_append_right _ (List.mem_of_getElem? (l := tables_1_4) (i := 102) (by decide +kernel)))))) (by decide +kernel)
theorem mt_823 : (Cond.instanceMethod ({ cls := "SoftStairsModel", name := "wipe", desc := "()I" } : MethodName)) ∈ tb := tb_in (List.mem_append_right _ (List.mem_append_right _ (List.mem_append_right _ (List.mem_append_right _ (List.mem_of_getElem? (l := tables_1_4) (i := 103) (by decide +kernel)))))) (by decide +kernel)
theorem mt_824 : (Cond.selects "SoftStairsModel" ({ cls := "SoftStairsModel", name := "wipe", desc := "()I" } : MethodName) ({ cls := "SoftStairsModel", name := "wipe", desc := "()I" } : MethodName)) ∈ tb := tb_in (List.mem_append_right _ (List.mem_append_right _ (List.mem_append_right _ (List.mem_append_right _ (List.mem_of_getElem? (l := tables_1_4) (i := 104) (by decide +kernel)))))) (by decide +kernel)
theorem mt_825 : (Cond.code ({ cls := "SoftStairsModel", name := "wipe", desc := "()I" } : MethodName) prog_8_method_51_code (2 : Nat) (Option.some FieldType.int)) ∈ tb := tb_in (List.mem_append_right _ (List.mem_append_right _ (List.mem_append_right _ (List.mem_append_right _ (List.mem_of_getElem? (l := tables_1_4) (i := 105) (by decide +kernel)))))) (by decide +kernel)
theorem mt_826 : (Cond.methodLink "SoftStairsLaw" (95 : Nat) ({ cls := "SoftStairsModel", name := "fault", desc := "()I" } : MethodName)) ∈ tb := tb_in (List.mem_append_right _ (List.mem_append_right _ (List.mem_append_right _ (List.mem_append_right _ (List.mem_of_getElem? (l := tables_1_4) (i := 106) (by decide +kernel)))))) (by decide +kernel)
theorem mt_827 : (Cond.instanceMethod ({ cls := "SoftStairsModel", name := "fault", desc := "()I" } : MethodName)) ∈ tb := tb_in (List.mem_append_right _ (List.mem_append_right _ (List.mem_append_right _ (List.mem_append_right _ (List.mem_of_getElem? (l := tables_1_4) (i := 107) (by decide +kernel)))))) (by decide +kernel)
theorem mt_828 : (Cond.selects "SoftStairsModel" ({ cls := "SoftStairsModel", name := "fault", desc := "()I" } : MethodName) ({ cls := "SoftStairsModel", name := "fault", desc := "()I" } : MethodName)) ∈ tb := tb_in (List.mem_append_right _ (List.mem_append_right _ (List.mem_append_right _ (List.mem_append_right _ (List.mem_of_getElem? (l := tables_1_4) (i := 108) (by decide +kernel)))))) (by decide +kernel)
theorem mt_829 : (Cond.code ({ cls := "SoftStairsModel", name := "fault", desc := "()I" } : MethodName) prog_8_method_52_code (8 : Nat) (Option.some FieldType.int)) ∈ tb := tb_in (List.mem_append_right _ (List.mem_append_right _ (List.mem_append_right _ (List.mem_append_right _ (List.mem_of_getElem? (l := tables_1_4) (i := 109) (by decide +kernel)))))) (by decide +kernel)
theorem mt_830 : (Cond.methodLink "SoftStairsLaw" (99 : Nat) ({ cls := "SoftStairsModel", name := "load", desc := "()I" } : MethodName)) ∈ tb := tb_in (List.mem_append_right _ (List.mem_append_right _ (List.mem_append_right _ (List.mem_append_right _ (List.mem_of_getElem? (l := tables_1_4) (i := 110) (by decide +kernel)))))) (by decide +kernel)
theorem mt_831 : (Cond.instanceMethod ({ cls := "SoftStairsModel", name := "load", desc := "()I" } : MethodName)) ∈ tb := tb_in (List.mem_append_right _ (List.mem_append_right _ (List.mem_append_right _ (List.mem_append_right _ (List.mem_of_getElem? (l := tables_1_4) (i := 111) (by decide +kernel)))))) (by decide +kernel)
theorem mt_832 : (Cond.selects "SoftStairsModel" ({ cls := "SoftStairsModel", name := "load", desc := "()I" } : MethodName) ({ cls := "SoftStairsModel", name := "load", desc := "()I" } : MethodName)) ∈ tb := tb_in (List.mem_append_right _ (List.mem_append_right _ (List.mem_append_right _ (List.mem_append_right _ (List.mem_of_getElem? (l := tables_1_4) (i := 112) (by decide +kernel)))))) (by decide +kernel)
theorem mt_833 : (Cond.code ({ cls := "SoftStairsModel", name := "load", desc := "()I" } : MethodName) prog_8_method_53_code (2 : Nat) (Option.some FieldType.int)) ∈ tb := tb_in (List.mem_append_right _ (List.mem_append_right _ (List.mem_append_right _ (List.mem_append_right _ (List.mem_of_getElem? (l := tables_1_4) (i := 113) (by decide +kernel)))))) (by decide +kernel)
theorem mt_834 : (Cond.methodLink "SoftStairsModel" (152 : Nat) ({ cls := "SoftStairsModel", name := "fault", desc := "()I" } : MethodName)) ∈ tb := tb_in (List.mem_append_right _ (List.mem_append_right _ (List.mem_append_right _ (List.mem_append_right _ (List.mem_of_getElem? (l := tables_1_4) (i := 114) (by decide +kernel)))))) (by decide +kernel)
theorem mt_835 : (Cond.constantLong "SoftStairsLaw" (81 : Nat) (4294967295 : Int64)) ∈ tb := tb_in (List.mem_append_right _ (List.mem_append_right _ (List.mem_append_right _ (List.mem_append_right _ (List.mem_of_getElem? (l := tables_1_4) (i := 115) (by decide +kernel)))))) (by decide +kernel)
theorem mt_836 : (Cond.fieldLink "java/lang/String" (15 : Nat) "java/lang/String" "coder" "B") ∈ tb := tb_in (List.mem_append_right _ (List.mem_append_right _ (List.mem_append_right _ (List.mem_append_right _ (List.mem_of_getElem? (l := tables_1_4) (i := 116) (by decide +kernel)))))) (by decide +kernel)
theorem mt_837 : (Cond.fieldLink "java/lang/String" (9 : Nat) "java/lang/String" "value" "[B") ∈ tb := tb_in (List.mem_append_right _ (List.mem_append_right _ (List.mem_append_right _ (List.mem_append_right _ (List.mem_of_getElem? (l := tables_1_4) (i := 117) (by decide +kernel)))))) (by decide +kernel)
theorem mp_0 : Cond.selects "SoftStairs$Reader" ⟨"SoftStairs$Reader", "take", "(CLSoftStairs$Rule;)V"⟩ ⟨"SoftStairs$Reader", "take", "(CLSoftStairs$Rule;)V"⟩ ∈ tb := tb_in (List.mem_append_left _ (List.mem_of_getElem? (i := 0) (by decide +kernel))) (by decide +kernel)
theorem mp_1 : Cond.selects "SoftStairs$Reader" ⟨"SoftStairs$Reader", "keepWaiting", "(C)V"⟩ ⟨"SoftStairs$Reader", "keepWaiting", "(C)V"⟩ ∈ tb := tb_in (List.mem_append_left _ (List.mem_of_getElem? (i := 1) (by decide +kernel))) (by decide +kernel)
theorem mp_2 : Cond.selects "SoftStairs$Reader" ⟨"SoftStairs$Reader", "joinWaiting", "(ILSoftStairs$Rule;)V"⟩ ⟨"SoftStairs$Reader", "joinWaiting", "(ILSoftStairs$Rule;)V"⟩ ∈ tb := tb_in (List.mem_append_left _ (List.mem_of_getElem? (i := 2) (by decide +kernel))) (by decide +kernel)
theorem mp_3 : Cond.selects "SoftStairs$Reader" ⟨"SoftStairs$Reader", "strength", "(C)I"⟩ ⟨"SoftStairs$Reader", "strength", "(C)I"⟩ ∈ tb := tb_in (List.mem_append_left _ (List.mem_of_getElem? (i := 3) (by decide +kernel))) (by decide +kernel)
theorem mp_4 : Cond.selects "SoftStairs$Reader" ⟨"SoftStairs$Reader", "joinFree", "(CLSoftStairs$Rule;)V"⟩ ⟨"SoftStairs$Reader", "joinFree", "(CLSoftStairs$Rule;)V"⟩ ∈ tb := tb_in (List.mem_append_left _ (List.mem_of_getElem? (i := 4) (by decide +kernel))) (by decide +kernel)
theorem mp_5 : Cond.selects "SoftStairs$Reader" ⟨"SoftStairs$Reader", "takeFree", "()I"⟩ ⟨"SoftStairs$Reader", "takeFree", "()I"⟩ ∈ tb := tb_in (List.mem_append_left _ (List.mem_of_getElem? (i := 5) (by decide +kernel))) (by decide +kernel)
theorem mp_6 : Cond.selects "SoftStairs$Rule" ⟨"SoftStairs$Rule", "depthOf", "(I)I"⟩ ⟨"SoftStairs$Rule", "depthOf", "(I)I"⟩ ∈ tb := tb_in (List.mem_append_left _ (List.mem_of_getElem? (i := 6) (by decide +kernel))) (by decide +kernel)
theorem mp_7 : Cond.selects "SoftStairs$Rule" ⟨"SoftStairs$Rule", "add", "(CIII)I"⟩ ⟨"SoftStairs$Rule", "add", "(CIII)I"⟩ ∈ tb := tb_in (List.mem_append_left _ (List.mem_of_getElem? (i := 7) (by decide +kernel))) (by decide +kernel)
theorem mp_8 : Cond.selects "SoftStairs$Reader" ⟨"SoftStairs$Reader", "keepFree", "(I)V"⟩ ⟨"SoftStairs$Reader", "keepFree", "(I)V"⟩ ∈ tb := tb_in (List.mem_append_left _ (List.mem_of_getElem? (i := 8) (by decide +kernel))) (by decide +kernel)
theorem mp_9 : Cond.selects "SoftStairs$Rule" ⟨"SoftStairs$Rule", "letterNumber", "(C)I"⟩ ⟨"SoftStairs$Rule", "letterNumber", "(C)I"⟩ ∈ tb := tb_in (List.mem_append_left _ (List.mem_of_getElem? (i := 9) (by decide +kernel))) (by decide +kernel)
theorem mp_10 : Cond.selects "SoftStairs$Rule" ⟨"SoftStairs$Rule", "holding", "(I)J"⟩ ⟨"SoftStairs$Rule", "holding", "(I)J"⟩ ∈ tb := tb_in (List.mem_append_left _ (List.mem_of_getElem? (i := 10) (by decide +kernel))) (by decide +kernel)
theorem mp_11 : Cond.selects "SoftStairs$Rule" ⟨"SoftStairs$Rule", "partHolds", "(IIJ)Z"⟩ ⟨"SoftStairs$Rule", "partHolds", "(IIJ)Z"⟩ ∈ tb := tb_in (List.mem_append_left _ (List.mem_of_getElem? (i := 11) (by decide +kernel))) (by decide +kernel)
theorem mp_12 : Cond.selects "SoftStairs$Rule" ⟨"SoftStairs$Rule", "isIn", "(JI)Z"⟩ ⟨"SoftStairs$Rule", "isIn", "(JI)Z"⟩ ∈ tb := tb_in (List.mem_append_left _ (List.mem_of_getElem? (i := 12) (by decide +kernel))) (by decide +kernel)
theorem mp_13 : Cond.selects "SoftStairs$Rule" ⟨"SoftStairs$Rule", "letterHolds", "(II)Z"⟩ ⟨"SoftStairs$Rule", "letterHolds", "(II)Z"⟩ ∈ tb := tb_in (List.mem_append_left _ (List.mem_of_getElem? (i := 13) (by decide +kernel))) (by decide +kernel)
theorem mp_14 : Cond.selects "SoftStairs$Stairs" ⟨"SoftStairs$Stairs", "countDisagreements", "()V"⟩ ⟨"SoftStairs$Stairs", "countDisagreements", "()V"⟩ ∈ tb := tb_in (List.mem_append_left _ (List.mem_of_getElem? (i := 14) (by decide +kernel))) (by decide +kernel)
theorem mp_15 : Cond.selects "SoftStairs$Stairs" ⟨"SoftStairs$Stairs", "wantedSpeed", "(I)I"⟩ ⟨"SoftStairs$Stairs", "wantedSpeed", "(I)I"⟩ ∈ tb := tb_in (List.mem_append_left _ (List.mem_of_getElem? (i := 15) (by decide +kernel))) (by decide +kernel)
theorem mp_16 : Cond.selects "SoftStairs$Stairs" ⟨"SoftStairs$Stairs", "isInDoubt", "()Z"⟩ ⟨"SoftStairs$Stairs", "isInDoubt", "()Z"⟩ ∈ tb := tb_in (List.mem_append_left _ (List.mem_of_getElem? (i := 16) (by decide +kernel))) (by decide +kernel)
theorem mp_17 : Cond.selects "SoftStairs$Stairs" ⟨"SoftStairs$Stairs", "changeSpeed", "(II)V"⟩ ⟨"SoftStairs$Stairs", "changeSpeed", "(II)V"⟩ ∈ tb := tb_in (List.mem_append_left _ (List.mem_of_getElem? (i := 17) (by decide +kernel))) (by decide +kernel)
theorem mp_18 : Cond.selects "SoftStairs$Stairs" ⟨"SoftStairs$Stairs", "carryPeople", "()V"⟩ ⟨"SoftStairs$Stairs", "carryPeople", "()V"⟩ ∈ tb := tb_in (List.mem_append_left _ (List.mem_of_getElem? (i := 18) (by decide +kernel))) (by decide +kernel)
theorem mp_19 : Cond.selects "SoftStairs$Rule" ⟨"SoftStairs$Rule", "lookedAtFrom", "(IJ)J"⟩ ⟨"SoftStairs$Rule", "lookedAtFrom", "(IJ)J"⟩ ∈ tb := tb_in (List.mem_append_left _ (List.mem_of_getElem? (i := 19) (by decide +kernel))) (by decide +kernel)
theorem mp_20 : Cond.selects "SoftStairs$Stairs" ⟨"SoftStairs$Stairs", "settingCounted", "(I)I"⟩ ⟨"SoftStairs$Stairs", "settingCounted", "(I)I"⟩ ∈ tb := tb_in (List.mem_append_left _ (List.mem_of_getElem? (i := 20) (by decide +kernel))) (by decide +kernel)
theorem mp_21 : Cond.selects "SoftStairs" ⟨"SoftStairs", "wayWith", "(I)I"⟩ ⟨"SoftStairs", "wayWith", "(I)I"⟩ ∈ tb := tb_in (List.mem_append_left _ (List.mem_of_getElem? (i := 21) (by decide +kernel))) (by decide +kernel)
theorem mp_22 : Cond.selects "SoftStairs$Pad" ⟨"SoftStairs$Pad", "beginsPart", "(C)Z"⟩ ⟨"SoftStairs$Pad", "beginsPart", "(C)Z"⟩ ∈ tb := tb_in (List.mem_append_left _ (List.mem_of_getElem? (i := 22) (by decide +kernel))) (by decide +kernel)
theorem mp_23 : Cond.selects "SoftStairs$Pad" ⟨"SoftStairs$Pad", "isLetter", "(C)Z"⟩ ⟨"SoftStairs$Pad", "isLetter", "(C)Z"⟩ ∈ tb := tb_in (List.mem_append_left _ (List.mem_of_getElem? (i := 23) (by decide +kernel))) (by decide +kernel)
theorem mp_24 : Cond.selects "SoftStairs$Pad" ⟨"SoftStairs$Pad", "followsPart", "(CI)Z"⟩ ⟨"SoftStairs$Pad", "followsPart", "(CI)Z"⟩ ∈ tb := tb_in (List.mem_append_left _ (List.mem_of_getElem? (i := 24) (by decide +kernel))) (by decide +kernel)
theorem mp_25 : Cond.selects "SoftStairsModel" ⟨"SoftStairsModel", "record", "()V"⟩ ⟨"SoftStairsModel", "record", "()V"⟩ ∈ tb := tb_in (List.mem_append_left _ (List.mem_of_getElem? (i := 25) (by decide +kernel))) (by decide +kernel)
theorem mp_26 : Cond.selects "SoftStairsModel" ⟨"SoftStairsModel", "workOut", "(I)V"⟩ ⟨"SoftStairsModel", "workOut", "(I)V"⟩ ∈ tb := tb_in (List.mem_append_left _ (List.mem_of_getElem? (i := 26) (by decide +kernel))) (by decide +kernel)
theorem mp_27 : Cond.selects "SoftStairsModel" ⟨"SoftStairsModel", "push", "(I)V"⟩ ⟨"SoftStairsModel", "push", "(I)V"⟩ ∈ tb := tb_in (List.mem_append_left _ (List.mem_of_getElem? (i := 27) (by decide +kernel))) (by decide +kernel)
theorem mp_28 : Cond.selects "SoftStairsModel" ⟨"SoftStairsModel", "joinAll", "(I)V"⟩ ⟨"SoftStairsModel", "joinAll", "(I)V"⟩ ∈ tb := tb_in (List.mem_append_left _ (List.mem_of_getElem? (i := 28) (by decide +kernel))) (by decide +kernel)
theorem mp_29 : Cond.selects "SoftStairsModel" ⟨"SoftStairsModel", "join", "()V"⟩ ⟨"SoftStairsModel", "join", "()V"⟩ ∈ tb := tb_in (List.mem_append_left _ (List.mem_of_getElem? (i := 29) (by decide +kernel))) (by decide +kernel)
theorem mp_30 : Cond.selects "SoftStairsModel" ⟨"SoftStairsModel", "parts", "()I"⟩ ⟨"SoftStairsModel", "parts", "()I"⟩ ∈ tb := tb_in (List.mem_append_left _ (List.mem_of_getElem? (i := 30) (by decide +kernel))) (by decide +kernel)
theorem mp_31 : Cond.selects "SoftStairsModel" ⟨"SoftStairsModel", "letters", "()I"⟩ ⟨"SoftStairsModel", "letters", "()I"⟩ ∈ tb := tb_in (List.mem_append_left _ (List.mem_of_getElem? (i := 31) (by decide +kernel))) (by decide +kernel)
theorem mp_32 : Cond.selects "SoftStairsModel" ⟨"SoftStairsModel", "halt", "(I)V"⟩ ⟨"SoftStairsModel", "halt", "(I)V"⟩ ∈ tb := tb_in (List.mem_append_left _ (List.mem_of_getElem? (i := 32) (by decide +kernel))) (by decide +kernel)
theorem mp_33 : Cond.selects "SoftStairsModel" ⟨"SoftStairsModel", "loadNow", "()I"⟩ ⟨"SoftStairsModel", "loadNow", "()I"⟩ ∈ tb := tb_in (List.mem_append_left _ (List.mem_of_getElem? (i := 33) (by decide +kernel))) (by decide +kernel)
theorem mp_34 : Cond.selects "SoftStairsModel" ⟨"SoftStairsModel", "weight", "(I)I"⟩ ⟨"SoftStairsModel", "weight", "(I)I"⟩ ∈ tb := tb_in (List.mem_append_left _ (List.mem_of_getElem? (i := 34) (by decide +kernel))) (by decide +kernel)
theorem mp_35 : Cond.selects "SoftStairsModel" ⟨"SoftStairsModel", "holdsNow", "()Z"⟩ ⟨"SoftStairsModel", "holdsNow", "()Z"⟩ ∈ tb := tb_in (List.mem_append_left _ (List.mem_of_getElem? (i := 35) (by decide +kernel))) (by decide +kernel)
theorem mp_36 : Cond.selects "SoftStairsModel" ⟨"SoftStairsModel", "holdsWith", "(I)Z"⟩ ⟨"SoftStairsModel", "holdsWith", "(I)Z"⟩ ∈ tb := tb_in (List.mem_append_left _ (List.mem_of_getElem? (i := 36) (by decide +kernel))) (by decide +kernel)
theorem mp_37 : Cond.selects "SoftStairsModel" ⟨"SoftStairsModel", "goTick", "()V"⟩ ⟨"SoftStairsModel", "goTick", "()V"⟩ ∈ tb := tb_in (List.mem_append_left _ (List.mem_of_getElem? (i := 37) (by decide +kernel))) (by decide +kernel)
theorem mp_38 : Cond.selects "SoftStairsModel" ⟨"SoftStairsModel", "disagrees", "(I)Z"⟩ ⟨"SoftStairsModel", "disagrees", "(I)Z"⟩ ∈ tb := tb_in (List.mem_append_left _ (List.mem_of_getElem? (i := 38) (by decide +kernel))) (by decide +kernel)
theorem mp_39 : Cond.selects "SoftStairsModel" ⟨"SoftStairsModel", "wanted", "()I"⟩ ⟨"SoftStairsModel", "wanted", "()I"⟩ ∈ tb := tb_in (List.mem_append_left _ (List.mem_of_getElem? (i := 39) (by decide +kernel))) (by decide +kernel)
theorem mp_40 : Cond.selects "SoftStairsModel" ⟨"SoftStairsModel", "isSlow", "()Z"⟩ ⟨"SoftStairsModel", "isSlow", "()Z"⟩ ∈ tb := tb_in (List.mem_append_left _ (List.mem_of_getElem? (i := 40) (by decide +kernel))) (by decide +kernel)
theorem mp_41 : Cond.selects "SoftStairsModel" ⟨"SoftStairsModel", "carry", "()V"⟩ ⟨"SoftStairsModel", "carry", "()V"⟩ ∈ tb := tb_in (List.mem_append_left _ (List.mem_of_getElem? (i := 41) (by decide +kernel))) (by decide +kernel)
theorem mp_42 : Cond.selects "SoftStairsModel" ⟨"SoftStairsModel", "placeOf", "(I)I"⟩ ⟨"SoftStairsModel", "placeOf", "(I)I"⟩ ∈ tb := tb_in (List.mem_append_left _ (List.mem_of_getElem? (i := 42) (by decide +kernel))) (by decide +kernel)
theorem mp_43 : Cond.selects "SoftStairsModel" ⟨"SoftStairsModel", "wayWith", "(I)I"⟩ ⟨"SoftStairsModel", "wayWith", "(I)I"⟩ ∈ tb := tb_in (List.mem_append_left _ (List.mem_of_getElem? (i := 43) (by decide +kernel))) (by decide +kernel)
theorem mp_44 : Cond.selects "SoftStairsModel" ⟨"SoftStairsModel", "putAside", "()V"⟩ ⟨"SoftStairsModel", "putAside", "()V"⟩ ∈ tb := tb_in (List.mem_append_left _ (List.mem_of_getElem? (i := 44) (by decide +kernel))) (by decide +kernel)
theorem mp_45 : Cond.selects "SoftStairsModel" ⟨"SoftStairsModel", "bringBack", "()V"⟩ ⟨"SoftStairsModel", "bringBack", "()V"⟩ ∈ tb := tb_in (List.mem_append_left _ (List.mem_of_getElem? (i := 45) (by decide +kernel))) (by decide +kernel)
theorem mi_X0 : ∀ w ∈ u_ws RX0 TX0 3, w ∈ tb := by decide +kernel
theorem mi_X1 : ∀ w ∈ u_ws RX1 TX1 2, w ∈ tb := by decide +kernel
theorem mi_X2 : ∀ w ∈ u_ws RX2 TX2 4, w ∈ tb := by decide +kernel
theorem mi_X3 : ∀ w ∈ u_ws RX3 TX3 6, w ∈ tb := by decide +kernel
theorem mi_X4 : ∀ w ∈ u_ws RX4 TX4 18, w ∈ tb := by decide +kernel
theorem mi_X5 : ∀ w ∈ u_ws RX5 TX5 7, w ∈ tb := by decide +kernel
theorem mi_X6 : ∀ w ∈ u_ws RX6 TX6 14, w ∈ tb := by decide +kernel
end
section
/-! WORLDS AS ROWS OF SEGMENTS: the ghost values of a run, what is known of the tables and statics, places and permutations -/
abbrev Ev : Type := va_G × (ClassId × ClassId × ClassId × ClassId) × (Nat × Nat × Nat × Nat × Nat)
def tyE (E : Ev) : List (ClassId × FieldType) := [(E.2.1.1, .int), (E.2.1.2.1, .char), (E.2.1.2.2.1, .boolean), (E.2.1.2.2.2, .object "SoftStairs$Stairs")]
def KE (E : Ev) (U : State) : Prop := va_K E.1 vwCl (tyE E) U
def lstL : List Int32 := [10, 1, 1, 1, 1, 1, 1]
def lstG : List Int32 := [90, 40, 30, 99, 99, 999, 9999]
def lstF : List Int32 := [50, 10, 6, 20, 5, 100, 800]
def lstB : List Int32 := [65, 124, 66, 124, 67, 124, 68]
def SE (E : Ev) (A : Nat → Prop) (U : State) (H : Heap) : Prop :=
  (va_Z "SoftStairs" "LEAST" "[I" (.ref E.2.2.1) A U H ∧ va_T .int E.2.2.1 7 (fun j => .int (lstL.getD j 0)) A U H) ∧
  (va_Z "SoftStairs" "GREATEST" "[I" (.ref E.2.2.2.1) A U H ∧ va_T .int E.2.2.2.1 7 (fun j => .int (lstG.getD j 0)) A U H) ∧
  (va_Z "SoftStairs" "AT_FIRST" "[I" (.ref E.2.2.2.2.1) A U H ∧ va_X E.2.2.2.2.1 7 (fun j => lstF.getD j 0) U H ∧ ¬ A E.2.2.2.2.1) ∧
  (va_O "java/lang/String" E.2.2.2.2.2.1 A U H ∧ va_OF "java/lang/String" "coder" "B" (.int 0) E.2.2.2.2.2.1 A U H ∧ va_OF "java/lang/String" "value" "[B" (.ref E.2.2.2.2.2.2) E.2.2.2.2.2.1 A U H ∧ va_T .byte E.2.2.2.2.2.2 7 (fun j => .int (lstB.getD j 0)) A U H) ∧
  va_Z "java/lang/String" "COMPACT_STRINGS" "Z" (.int 1) A U H
def NE (E : Ev) (U : State) : Prop :=
  va_Nw (.methodLinkNest "SoftStairs" 9 ⟨"SoftStairs$Pad", "<init>", "()V"⟩ "SoftStairs") U ∧ va_Nw (.methodLinkNest "SoftStairs" 18 ⟨"SoftStairs$Reader", "<init>", "()V"⟩ "SoftStairs") U ∧
  va_Nw (.methodLinkNest "SoftStairs$Reader" 21 ⟨"SoftStairs$Rule", "<init>", "()V"⟩ "SoftStairs") U ∧ va_Nw (.fieldLinkNest "SoftStairs$Stairs" 38 "SoftStairs" "AT_FIRST" "[I" "SoftStairs") U ∧
  va_AO "SoftStairs$Stairs" U ∧ vk_R "SoftStairs" 33 "A|B|C|D" E.2.2.2.2.2.1 U
theorem KE.moved {E : Ev} {u U : State} (hvm : u.vm.Alike U.vm) (h : KE E u) : KE E U := va_K.moved hvm h
theorem SE.moved {E : Ev} {A : Nat → Prop} {u U : State} {H : Heap} (hvm : u.vm.Alike U.vm) (h : SE E A u H) : SE E A U H :=
  ⟨⟨h.1.1.moved hvm, h.1.2.moved hvm⟩, ⟨h.2.1.1.moved hvm, h.2.1.2.moved hvm⟩, ⟨h.2.2.1.1.moved hvm, h.2.2.1.2.1.moved hvm, h.2.2.1.2.2⟩, ⟨va_O.moved hvm h.2.2.2.1.1, va_OF.moved hvm h.2.2.2.1.2.1, va_OF.moved hvm h.2.2.2.1.2.2.1, va_T.moved hvm h.2.2.2.1.2.2.2⟩, h.2.2.2.2.moved hvm⟩
theorem SE.kept {E : Ev} {A : Nat → Prop} {U : State} {H H1 : Heap} (h : SE E A U H) (hq : ∀ a : Nat, a < H.size → ¬ A a → H1[a]? = H[a]?) : SE E A U H1 :=
  ⟨⟨h.1.1.kept hq, h.1.2.kept hq⟩, ⟨h.2.1.1.kept hq, h.2.1.2.kept hq⟩, ⟨h.2.2.1.1.kept hq, h.2.2.1.2.1.kept (hq _ (Array.getElem?_eq_some_iff.mp h.2.2.1.2.1.choose_spec.1).1 h.2.2.1.2.2), h.2.2.1.2.2⟩, ⟨h.2.2.2.1.1.kept hq, h.2.2.2.1.2.1.kept hq, h.2.2.2.1.2.2.1.kept hq, h.2.2.2.1.2.2.2.kept hq⟩, h.2.2.2.2.kept hq⟩
theorem SE.narrow {E : Ev} {A B : Nat → Prop} {U : State} {H : Heap} (h : SE E A U H) (hAB : ∀ q, B q → A q) : SE E B U H :=
  ⟨⟨h.1.1.narrow hAB, h.1.2.narrow hAB⟩, ⟨h.2.1.1.narrow hAB, h.2.1.2.narrow hAB⟩, ⟨h.2.2.1.1.narrow hAB, h.2.2.1.2.1, fun z => h.2.2.1.2.2 (hAB _ z)⟩, ⟨h.2.2.2.1.1.narrow hAB, h.2.2.2.1.2.1.narrow hAB, h.2.2.2.1.2.2.1.narrow hAB, h.2.2.2.1.2.2.2.narrow hAB⟩, h.2.2.2.2.narrow hAB⟩
theorem NE.same {E : Ev} {u U : State} (hv : u.vm = U.vm) (h : NE E u) : NE E U :=
  ⟨h.1.same rfl hv, h.2.1.same rfl hv, h.2.2.1.same rfl hv, h.2.2.2.1.same rfl hv, va_AO.moved (by rw [hv]; exact Vm.Alike.refl _) h.2.2.2.2.1, vk_R.same hv.symm h.2.2.2.2.2⟩
theorem NE.warm {E : Ev} {s U : State} (hW : s.WarmedH U.vm) (h : NE E s) : NE E U :=
  ⟨va_Nw.warmM hW h.1, va_Nw.warmM hW h.2.1, va_Nw.warmM hW h.2.2.1, va_Nw.warmF hW h.2.2.2.1, va_AO.moved hW.alike h.2.2.2.2.1, vk_R.warm hW h.2.2.2.2.2⟩
-- membership and pairs
theorem P_iff {D : va_G} {cl : List vw_C} {ws : va_W} {H : Heap} : va_P D cl ws H ↔ ∀ q ∈ ws, va_at D cl q H := by
  constructor
  · intro h q hq
    obtain ⟨k, hk⟩ := List.mem_iff_getElem?.mp hq
    exact h k q hk
  · intro h k q hk
    exact h q (List.mem_of_getElem? hk)
theorem D_iff {A : Nat → Prop} {ws : va_W} : va_D A ws ↔ ws.Pairwise (fun p q => p.1 ≠ q.1) ∧ ∀ q ∈ ws, A q.1 := by
  constructor
  · rintro ⟨h1, h2⟩
    refine ⟨List.pairwise_iff_getElem.mpr fun i j hi hj hij e => ?_, fun q hq => ?_⟩
    · have := h1 i j ws[i] ws[j] (List.getElem?_eq_getElem hi) (List.getElem?_eq_getElem hj) e
      omega
    · obtain ⟨k, hk⟩ := List.mem_iff_getElem?.mp hq
      exact h2 k q hk
  · rintro ⟨h1, h2⟩
    refine ⟨fun i j p q hi hj e => ?_, fun k q hk => h2 q (List.mem_of_getElem? hk)⟩
    have h3 := List.pairwise_iff_getElem.mp h1
    obtain ⟨li, ei⟩ := List.getElem?_eq_some_iff.mp hi
    obtain ⟨lj, ej⟩ := List.getElem?_eq_some_iff.mp hj
    rcases Nat.lt_trichotomy i j with h | h | h
    · exact absurd (by rw [ei, ej]; exact e) (h3 i j li lj h)
    · exact h
    · exact absurd (by rw [ei, ej]; exact e.symm) (h3 j i lj li h)
theorem P_perm {D : va_G} {cl : List vw_C} {w1 w2 : va_W} {H : Heap} (hp : w1.Perm w2) (h : va_P D cl w1 H) : va_P D cl w2 H :=
  P_iff.mpr fun q hq => P_iff.mp h q (hp.mem_iff.mpr hq)
theorem D_perm {A : Nat → Prop} {w1 w2 : va_W} (hp : w1.Perm w2) (h : va_D A w1) : va_D A w2 := by
  obtain ⟨h1, h2⟩ := D_iff.mp h
  exact D_iff.mpr ⟨(hp.pairwise_iff (fun {x y} (e : x.1 ≠ y.1) => Ne.symm e)).mp h1, fun q hq => h2 q (hp.mem_iff.mpr hq)⟩
-- segments put back in their places
def rep : List va_W → List Nat → List va_W → List va_W
  | Y, [], ss => Y ++ ss
  | Y, i :: is, [] => rep (Y.set i []) is []
  | Y, i :: is, s :: ss => rep (Y.set i s) is ss
def era : List va_W → List Nat → List va_W
  | Y, [] => Y
  | Y, i :: is => era (Y.set i []) is
theorem set_perm : ∀ (Y : List va_W) (i : Nat) (s : va_W), i < Y.length → (Y.set i s).flatten.Perm (s ++ (Y.set i []).flatten)
  | [], i, s, h => absurd h (Nat.not_lt_zero _)
  | y :: ys, 0, s, _ => by simp
  | y :: ys, i + 1, s, h => by
    have ih := set_perm ys i s (Nat.lt_of_succ_lt_succ h)
    simp only [List.set_cons_succ, List.flatten_cons]
    exact (ih.append_left y).trans (by
      rw [← List.append_assoc, ← List.append_assoc]
      exact List.Perm.append_right _ List.perm_append_comm)
theorem era_set : ∀ (ic : List Nat) (Y : List va_W) (i : Nat) (s : va_W), i ∉ ic → era (Y.set i s) ic = (era Y ic).set i s
  | [], Y, i, s, _ => rfl
  | j :: js, Y, i, s, h => by
    have hij : i ≠ j := fun e => h (by rw [e]; exact List.mem_cons_self)
    show era ((Y.set i s).set j []) js = (era (Y.set j []) js).set i s
    rw [List.set_comm _ _ hij]
    exact era_set js (Y.set j []) i s (fun q => h (List.mem_cons_of_mem _ q))
theorem era_len : ∀ (ic : List Nat) (Y : List va_W), (era Y ic).length = Y.length
  | [], Y => rfl
  | i :: is, Y => by rw [era, era_len is, List.length_set]
theorem perm_rep : ∀ (ic : List Nat) (Y Y1 : List va_W), ic.Nodup → (∀ i ∈ ic, i < Y.length) → (rep Y ic Y1).flatten.Perm (Y1.flatten ++ (era Y ic).flatten)
  | [], Y, Y1, _, _ => by
    show (Y ++ Y1).flatten.Perm _
    rw [List.flatten_append]
    exact List.perm_append_comm
  | i :: is, Y, [], hn, hl => perm_rep is (Y.set i []) [] (List.nodup_cons.mp hn).2 (fun j hj => by rw [List.length_set]; exact hl j (List.mem_cons_of_mem _ hj))
  | i :: is, Y, s :: ss, hn, hl => by
    have ih := perm_rep is (Y.set i s) ss (List.nodup_cons.mp hn).2 (fun j hj => by rw [List.length_set]; exact hl j (List.mem_cons_of_mem _ hj))
    rw [era_set is Y i s (List.nodup_cons.mp hn).1] at ih
    have h2 := set_perm (era Y is) i s (by rw [era_len]; exact hl i List.mem_cons_self)
    rw [← era_set is Y i [] (List.nodup_cons.mp hn).1] at h2
    refine ih.trans ((h2.append_left _).trans ?_)
    show (ss.flatten ++ (s ++ (era (Y.set i []) is).flatten)).Perm ((s ++ ss.flatten) ++ (era (Y.set i []) is).flatten)
    rw [← List.append_assoc]
    exact List.Perm.append_right _ List.perm_append_comm
theorem perm_split : ∀ (ic : List Nat) (Yc Y : List va_W), ic.Nodup → ic.map (fun i => Y[i]?) = Yc.map some → Y.flatten.Perm (Yc.flatten ++ (era Y ic).flatten)
  | [], Yc, Y, _, h => by
    cases Yc with
    | nil => exact List.Perm.refl _
    | cons c cs => simp at h
  | i :: is, Yc, Y, hn, h => by
    cases Yc with
    | nil => simp at h
    | cons c cs =>
      simp only [List.map_cons, List.cons.injEq] at h
      obtain ⟨h1, h2⟩ := h
      obtain ⟨hn1, hn2⟩ := List.nodup_cons.mp hn
      have hl := (List.getElem?_eq_some_iff.mp h1).1
      have e1 : Y.set i c = Y := by
        apply List.ext_getElem?
        intro j
        by_cases hj : i = j
        · subst hj
          rw [List.getElem?_set_self hl, h1]
        · rw [List.getElem?_set_ne hj]
      have ih := perm_split is cs (Y.set i []) hn2 (by
        rw [← h2]
        apply List.map_congr_left
        intro j hj
        rw [List.getElem?_set_ne (fun e => hn1 (by rw [e]; exact hj))])
      have h3 := set_perm Y i c hl
      rw [e1] at h3
      refine h3.trans ((ih.append_left c).trans ?_)
      show (c ++ (cs.flatten ++ (era (Y.set i []) is).flatten)).Perm ((c ++ cs.flatten) ++ (era (Y.set i []) is).flatten)
      rw [List.append_assoc]
theorem lens {ic : List Nat} {Yc Y : List va_W} (h : ic.map (fun i => Y[i]?) = Yc.map some) : ∀ i ∈ ic, i < Y.length := by
  intro i hi
  obtain ⟨k, hk⟩ := List.mem_iff_getElem?.mp hi
  have h1 : (ic.map (fun i => Y[i]?))[k]? = some Y[i]? := by rw [List.getElem?_map, hk]; rfl
  rw [h, List.getElem?_map] at h1
  cases hc : Yc[k]? with
  | none => rw [hc] at h1; cases h1
  | some c =>
    rw [hc] at h1
    have h2 : some c = Y[i]? := Option.some.inj h1
    exact (List.getElem?_eq_some_iff.mp h2.symm).1
theorem joinY {A0 : Nat → Prop} {D : va_G} {cl : List vw_C} {Y Yc Y1 : List va_W} {ic : List Nat} {H H1 : Heap} (hP : va_P D cl Y.flatten H) (hD : va_D A0 Y.flatten) (hic : ic.map (fun i => Y[i]?) = Yc.map some) (hn : ic.Nodup)
    (hk : ∀ q : Nat, q < H.size → ¬ va_A Yc.flatten H.size q → H1[q]? = H[q]?) (hF : ∀ q, va_A Yc.flatten H.size q → A0 q) (hP1 : va_P D cl Y1.flatten H1) (hD1 : va_D (va_A Yc.flatten H.size) Y1.flatten) :
    va_P D cl (rep Y ic Y1).flatten H1 ∧ va_D A0 (rep Y ic Y1).flatten := by
  have hs := perm_split ic Yc Y hn hic
  have hr := (perm_rep ic Y Y1 hn (lens hic)).symm
  have hP2 := P_iff.mp (P_perm hs hP)
  obtain ⟨d1, d2⟩ := D_iff.mp (D_perm hs hD)
  obtain ⟨-, d4, d5⟩ := List.pairwise_append.mp d1
  have apart : ∀ q ∈ (era Y ic).flatten, q.1 < H.size ∧ ¬ va_A Yc.flatten H.size q.1 := by
    intro q hq
    have hl : q.1 < H.size := (hP2 q (List.mem_append_right _ hq)).lt
    refine ⟨hl, fun h => ?_⟩
    rcases h with ⟨k, e, h⟩ | h
    · exact d5 (q.1, e) (List.mem_of_getElem? h) q hq rfl
    · omega
  obtain ⟨n1, n2⟩ := D_iff.mp hD1
  refine ⟨P_perm hr (P_iff.mpr fun q hq => ?_), D_perm hr (D_iff.mpr ⟨List.pairwise_append.mpr ⟨n1, d4, fun x hx y hy e => ?_⟩, fun q hq => ?_⟩)⟩
  · rcases List.mem_append.mp hq with h | h
    · exact P_iff.mp hP1 q h
    · obtain ⟨a1, a2⟩ := apart q h
      exact (hP2 q (List.mem_append_right _ h)).kept (hk q.1 a1 a2)
  · exact (apart y hy).2 (e ▸ n2 x hx)
  · rcases List.mem_append.mp hq with h | h
    · exact hF q.1 (n2 q h)
    · exact d2 q (List.mem_append_right _ h)
theorem subP {D : va_G} {cl : List vw_C} {Y Yc : List va_W} {ic : List Nat} {H : Heap} (hP : va_P D cl Y.flatten H) (hic : ic.map (fun i => Y[i]?) = Yc.map some) (hn : ic.Nodup) : va_P D cl Yc.flatten H :=
  P_iff.mpr fun q hq => P_iff.mp (P_perm (perm_split ic Yc Y hn hic) hP) q (List.mem_append_left _ hq)
theorem subD {A : Nat → Prop} {Y Yc : List va_W} {ic : List Nat} (hD : va_D A Y.flatten) (hic : ic.map (fun i => Y[i]?) = Yc.map some) (hn : ic.Nodup) : va_D A Yc.flatten := by
  obtain ⟨h1, h2⟩ := D_iff.mp (D_perm (perm_split ic Yc Y hn hic) hD)
  exact D_iff.mpr ⟨(List.pairwise_append.mp h1).1, fun q hq => h2 q (List.mem_append_left _ hq)⟩
theorem freeY {A0 : Nat → Prop} {Y Yc : List va_W} {ic : List Nat} {H0 H : Heap} {locs : List Loc} (hD : va_D A0 Y.flatten) (hS : va_S A0 H0 H locs) (hA : ∀ q, H0.size ≤ q → A0 q) (hic : ic.map (fun i => Y[i]?) = Yc.map some) (hn : ic.Nodup) : ∀ q, va_A Yc.flatten H.size q → A0 q := by
  intro q h
  rcases h with ⟨k, e, h⟩ | h
  · exact (D_iff.mp (subD hD hic hn)).2 (q, e) (List.mem_of_getElem? h)
  · exact hA q (Nat.le_trans hS.1 h)
-- a cell by segment and place
theorem fl_at : ∀ {Y : List va_W} {i : Nat} {g : va_W} {c : Nat × va_E}, Y[i]? = some g → c ∈ g → ∃ k : Nat, Y.flatten[k]? = some c := by
  intro Y i g c h hc
  exact List.mem_iff_getElem?.mp (List.mem_flatten.mpr ⟨g, List.mem_of_getElem? h, hc⟩)
theorem fl_set : ∀ (Y : List va_W) (i q : Nat) (g : va_W) (c : Nat × va_E), Y[i]? = some g → g[q]? = some c → ∃ k : Nat, Y.flatten[k]? = some c ∧ ∀ x, Y.flatten.set k x = (Y.set i (g.set q x)).flatten
  | [], i, q, g, c, h, _ => by simp at h
  | y :: ys, 0, q, g, c, h, hq => by
    have e : y = g := by simpa using h
    subst e
    have hl := (List.getElem?_eq_some_iff.mp hq).1
    refine ⟨q, ?_, fun x => ?_⟩
    · rw [List.flatten_cons, List.getElem?_append_left hl, hq]
    · rw [List.flatten_cons, List.set_append_left _ _ hl]
      rfl
  | y :: ys, i + 1, q, g, c, h, hq => by
    obtain ⟨k, h1, h2⟩ := fl_set ys i q g c (by simpa using h) hq
    refine ⟨y.length + k, ?_, fun x => ?_⟩
    · rw [List.flatten_cons, List.getElem?_append_right (Nat.le_add_right _ _), Nat.add_sub_cancel_left, h1]
    · rw [List.flatten_cons, List.set_append_right _ _ (Nat.le_add_right _ _), Nat.add_sub_cancel_left, h2]
      rfl
end
section
/-! THE JUDGEMENT G: at a program counter, with these segments, locals and stack, the machine comes to its end -/
abbrev Cx : Type := Program × Launch × Env × Room × State × MethodId × Array Value × List Frame × Method × Code × (Nat → Prop) × (State → Prop)
def G (E : Ev) (X : Cx) (mL : Nat) (Y : List va_W) (k n : Nat) (lv : List (Nat × Value)) (st : List Value) (pc : Nat) : Prop := match X with
  | (p, l, e, R, s, m, args, below, meth, c, A, Q) => ∀ (H : Heap) (locs : List Loc) (ls : Array Slot), va_P E.1 vwCl Y.flatten H → va_D A Y.flatten → va_S A s.heap H locs → lv_has ls mL lv → W p l e R s m args below meth c H locs k n Q (F0 m pc ls st)
/-- what stands during a method: the machine, its code, the tables, statics outside its cells -/
def Ct (E : Ev) (X : Cx) (cc : ByteArray) (own : String) (rm : Room) (mL : Nat) : Prop := match X with
  | (p, _, _, R, s, m, args, _, _, c, A, _) => p.tables.exec = Jvm.exec ∧ c.code = cc ∧ c.maxLocals = mL ∧ s.vm.findClass own = some m.cls ∧ (∀ w ∈ tb, w.before args s = true) ∧ KE E s ∧ SE E A s s.heap ∧ NE E s ∧ (∀ q, s.heap.size ≤ q → A q) ∧ R = rm
def QG (E : Ev) (post : Option Value → List va_W → Prop) (A : Nat → Prop) : Array Value → State → Outcome → State → Prop := fun _ st oc t => (∃ (v : Option Value) (Y : List va_W), oc = .returned v ∧ post v Y ∧ va_P E.1 vwCl Y.flatten t.heap ∧ KE E t ∧ va_D A Y.flatten) ∧ va_F A st t
/-- how a method ends -/
def Cr (E : Ev) (X : Cx) (post : Option Value → List va_W → Prop) (rm : Room) (ret : Option FieldType) : Prop := match X with
  | (_, _, _, _, s, _, args, below, meth, _, A, Q) => Q = MQ below (QG E post A) args s rm.cells rm.slots A ∧ meth.locks = false ∧ meth.sig.returnType = ret
def Ci (X : Cx) : Prop := match X with
  | (_, _, _, _, _, _, _, _, meth, _, _, _) => meth.name = "<init>"
/-- a contract: over these segments the method comes back, with an answer and segments of which 'post' holds -/
def MG (l : Launch) (y : MethodName) (cd : ByteArray) (mL : Nat) (ret : Option FieldType) (rm : Room) (E : Ev) (av : List Value) (Y : List va_W) (post : Option Value → List va_W → Prop) : Prop :=
  ∀ sz : Nat, Met l y (Cond.code y cd mL ret :: tb) rm (va_Pc av (fun U => U.heap.size = sz ∧ va_P E.1 vwCl Y.flatten U.heap ∧ KE E U ∧ va_D (fun _ => True) Y.flatten ∧ SE E (va_A Y.flatten sz) U U.heap ∧ NE E U)) (QG E post (va_A Y.flatten sz)) rm.cells rm.slots (va_A Y.flatten sz)
theorem MG.mk {y : MethodName} {cd : ByteArray} {mL : Nat} {ret : Option FieldType} {rm : Room} {E : Ev} {av : List Value} {Y : List va_W} {post : Option Value → List va_W → Prop} {own : String} {lv0 : List (Nat × Value)} (hy : plainName y.cls = true) (hcls : y.cls = own) (hlen : (lg_sl av).length ≤ mL) (hlv : lv_args 0 av = lv0)
    (body : ∀ X : Cx, Ct E X cd own rm mL → Cr E X post rm ret → (y.name = "<init>" → Ci X) → G E X mL Y 0 0 lv0 [] 0) : ∀ l, MG l y cd mL ret rm E av Y post := by
  intro l sz
  refine Met.ofW (cc := cd) (maxL := mL) (ret := ret) hy rfl ?_
  intro p e s m args below meth c s₁ B hml hv
  obtain ⟨rfl, hsz, hP, hK, hD0, hS0, hN⟩ := hv
  subst hsz
  subst hlv
  subst hcls
  have hpre := atoms_spec (ws := Cond.code y cd mL ret :: tb) B.pre
  have h := body (p, l, e, _, s, m, av.toArray, below, meth, c, va_A Y.flatten s.heap.size, _) ⟨B.exec, B.bytes, hml, findClass_of_methodNamed B.named, fun w hw => hpre w (List.mem_cons_of_mem _ hw), hK, hS0, hN, fun q hq => Or.inr hq, rfl⟩ ⟨rfl, B.notSynchronized, B.returns⟩ (fun hn => by
    show meth.name = "<init>"
    rw [← hn]; exact (name_of_methodNamed B.named B.method).1)
  have hl := lv_entry av (n := mL) hlen
  rw [lg_entry_eq]
  exact h _ [] _ hP hD0.self va_S.rf hl
theorem goodTb {ws : List Cond} (h : ∀ w ∈ ws, w ∈ tb) : GoodIn tb ws := fun w hw => ⟨h w hw, tb_good (h w hw)⟩
def CF (y : MethodName) (cd : ByteArray) (mL : Nat) (ret : Option FieldType) (n : Nat) : Prop := Cond.instanceMethod y ∈ tb ∧ Cond.selects y.cls y y ∈ tb ∧ Cond.initialized y.cls ∈ tb ∧ Cond.code y cd mL ret ∈ tb ∧ (y.cls = y.cls ∧ y.cls ≠ "java/lang/invoke/MethodHandle" ∧ y.cls ≠ "java/lang/invoke/VarHandle" ∧ (parseMethodDescriptor y.desc).map (fun d => d.parameters.length) = some n)
def CFs (y : MethodName) (cd : ByteArray) (mL : Nat) (ret : Option FieldType) (n : Nat) : Prop := Cond.static y ∈ tb ∧ Cond.initialized y.cls ∈ tb ∧ Cond.code y cd mL ret ∈ tb ∧ (y.cls ≠ "java/lang/invoke/MethodHandle" ∧ y.cls ≠ "java/lang/invoke/VarHandle" ∧ (parseMethodDescriptor y.desc).map (fun d => d.parameters.length) = some n)
def CFi (y : MethodName) (cd : ByteArray) (mL : Nat) (n : Nat) : Prop := Cond.instanceMethod y ∈ tb ∧ Cond.initialized y.cls ∈ tb ∧ Cond.code y cd mL none ∈ tb ∧ y.name = "<init>" ∧ (y.cls ≠ "java/lang/invoke/MethodHandle" ∧ y.cls ≠ "java/lang/invoke/VarHandle" ∧ (parseMethodDescriptor y.desc).map (fun d => d.parameters.length) = some n)
section GR
variable {E : Ev} {X : Cx} {cc : ByteArray} {own : String} {rm : Room} {mL : Nat} {Y : List va_W} {k n : Nat} {lv : List (Nat × Value)} {rest st : List Value} {pc : Nat}
theorem goodCall {y : MethodName} {cd : ByteArray} {m9 : Nat} {ret : Option FieldType} (h : Cond.code y cd m9 ret ∈ tb) : GoodIn tb (Cond.code y cd m9 ret :: tb) := goodTb (fun w hw => by
  rcases List.mem_cons.mp hw with e | e
  · rw [e]; exact h
  · exact e)
/-- what a call needs: cut out the callee's segments, put back what comes -/
theorem g_run {p : Program} {l : Launch} {e : Env} {R : Room} {s : State} {m : MethodId} {args : Array Value} {below : List Frame} {meth : Method} {c : Code} {A : Nat → Prop} {Q : State → Prop} {post : Option Value → List va_W → Prop} {Yc : List va_W} {ic : List Nat} {av : Array Value} {mc ms : Nat} {free : Addr → Prop}
    (hS0 : ∀ q, s.heap.size ≤ q → A q) (hic : ic.map (fun i => Y[i]?) = Yc.map some) (hn : ic.Nodup) {H : Heap} {locs : List Loc} {ls : Array Slot} (hP : va_P E.1 vwCl Y.flatten H) (hD : va_D A Y.flatten) (hS : va_S A s.heap H locs) (hl : lv_has ls mL lv) (hfree : ∀ q, free q → va_A Yc.flatten H.size q)
    (hr : va_Run p l e R s m args below meth c H locs k n mc ms (F0 m pc ls st) rest (QG E post (va_A Yc.flatten H.size) av) free)
    (kk : ∀ v Y1, post v Y1 → G E (p, l, e, R, s, m, args, below, meth, c, A, Q) mL (rep Y ic Y1) (k + mc) (n + ms) lv (v.toList ++ rest) (pc + 3)) : W p l e R s m args below meth c H locs k n Q (F0 m pc ls st) := by
  intro T0 hT0 X0
  obtain ⟨v, st₀, t, T', L, h0, X', hL, e1, e2, ⟨⟨v', Y1, hv, hp, hP1, hK1, hD1⟩, hz, hk⟩, stp⟩ := hr T0 hT0 X0
  cases hv
  rw [h0] at hz hk
  have hF := freeY hD hS hS0 hic hn
  obtain ⟨j1, j2⟩ := joinY (H1 := T'.heap) hP hD hic hn (fun q h1 h2 => by rw [e1]; exact hk q h1 h2) hF (by rw [e1]; exact hP1) hD1
  obtain ⟨t2, a1, b1⟩ := kk v Y1 hp T'.heap (locs ++ L) ls j1 j2 ⟨Nat.le_trans hS.1 (by rw [e1]; exact hz), fun q h1 h2 => by rw [e1, hk q (Nat.lt_of_lt_of_le h1 hS.1) (fun z => h2 (hF q z))]; exact hS.2.1 q h1 h2, fun q hq => by
      rcases List.mem_append.mp hq with h | h
      · exact hS.2.2 q h
      · exact hF _ (hfree _ (hL q h))⟩ hl T' rfl X'
  exact ⟨t2, stp t2 a1, b1⟩
theorem g_pre {s : State} {A : Nat → Prop} {Yc : List va_W} {ic : List Nat} (hK : KE E s) (hSE : SE E A s s.heap) (hNE : NE E s) (hS0 : ∀ q, s.heap.size ≤ q → A q) (hic : ic.map (fun i => Y[i]?) = Yc.map some) (hn : ic.Nodup) {H : Heap} {locs : List Loc} (hP : va_P E.1 vwCl Y.flatten H) (hD : va_D A Y.flatten) (hS : va_S A s.heap H locs) (av : List Value) :
    FrameBlind (va_Pc av (fun U => U.heap.size = H.size ∧ va_P E.1 vwCl Yc.flatten U.heap ∧ KE E U ∧ va_D (fun _ => True) Yc.flatten ∧ SE E (va_A Yc.flatten H.size) U U.heap ∧ NE E U)) ∧ ∀ U : State, U.heap = H → s.WarmedH U.vm → va_Pc av (fun U => U.heap.size = H.size ∧ va_P E.1 vwCl Yc.flatten U.heap ∧ KE E U ∧ va_D (fun _ => True) Yc.flatten ∧ SE E (va_A Yc.flatten H.size) U U.heap ∧ NE E U) av.toArray U := by
  refine ⟨fun a U g mk q => ?_, fun U hU hW => ?_⟩
  · obtain ⟨q0, q1, q2, q3, q4, q5, q6⟩ := q
    exact ⟨q0, q1, q2, KE.moved (u := U) (U := U.calling g mk a) (Vm.Alike.refl U.vm) q3, q4, SE.moved (u := U) (U := U.calling g mk a) (Vm.Alike.refl U.vm) q5, NE.same (u := U) (U := U.calling g mk a) rfl q6⟩
  · have hF := freeY hD hS hS0 hic hn
    refine ⟨rfl, by rw [hU], by rw [hU]; exact subP hP hic hn, hK.moved hW.alike, (subD hD hic hn).weaken (fun _ _ _ _ => trivial), ?_, hNE.warm hW⟩
    rw [hU]
    exact ((hSE.moved (U := U) hW.alike).kept (fun q h1 h2 => hS.2.1 q h1 h2)).narrow hF
theorem g_callV {y : MethodName} {cd : ByteArray} {m9 idx a : Nat} {ret : Option FieldType} {rmy : Room} {As : List Value} {Yc : List va_W} {post : Option Value → List va_W → Prop} (C : Ct E X cc own rm mL) (F : CF y cd m9 ret As.length) (hM : ∀ l, MG l y cd m9 ret rmy E (.ref a :: As) Yc post) (hl : Cond.methodLink own idx y ∈ tb)
    (ic : List Nat) (hic : ic.map (fun i => Y[i]?) = Yc.map some) (hn : ic.Nodup) (hrc : ∃ (ci N : Nat) (T : u_T) (fs : List Value), (a, .inr (ci, fs)) ∈ Y.flatten ∧ vwCl[ci]? = some (y.cls, T, N)) (hst : st = As.reverse ++ .ref a :: rest) (hw : (rest.map fun v => v.category).sum ≤ 8)
    (hR : rmy.frames + 1 ≤ rm.frames ∧ 8 + (m9 + 11) + rmy.locals ≤ rm.locals ∧ k + rmy.cells ≤ rm.cells ∧ n + rmy.slots ≤ rm.slots) (hd : decode cc pc = .ok (.invokevirtual idx, 3))
    (kk : ∀ v Y1, post v Y1 → G E X mL (rep Y ic Y1) (k + rmy.cells) (n + rmy.slots) lv (v.toList ++ rest) (pc + 3)) : G E X mL Y k n lv st pc := by
  obtain ⟨p, l, e, R, s, m, args, below, meth, c, A, Q⟩ := X
  obtain ⟨hx, hb, hml, hown, hts, hK, hSE, hNE, hS0, hRm⟩ := C
  obtain ⟨f1, f2, f3, f4, f5⟩ := F
  subst hRm
  intro H locs ls hP hD hS hlv
  have hpre := g_pre (Yc := Yc) hK hSE hNE hS0 hic hn hP hD hS (.ref a :: As)
  obtain ⟨ci, N, T, fs, hm, hcl⟩ := hrc
  obtain ⟨q0, hq0⟩ := List.mem_iff_getElem?.mp hm
  refine g_run hS0 hic hn hP hD hS hlv (fun q h => h) (va_runV (As := As) (rest := rest) ⟨hx, hb, hml, hown, hts⟩ (hM l H.size) (cwV (own := own) (index := idx) As.length hts (goodTb ?_) rfl rfl rfl f5 ⟨hR.1, hR.2.1⟩) ⟨hpre.1, va_recv hK hP hcl hq0, hpre.2⟩ rfl rfl hlv.1 hst (lv_room hw) hd hR.2.2) kk
  intro w hw9
  simp only [wsV, List.cons_append, List.nil_append, List.mem_cons] at hw9
  rcases hw9 with e1 | e1 | e1 | e1 | e1 | e1
  · rw [e1]; exact hl
  · rw [e1]; exact f1
  · rw [e1]; exact f2
  · rw [e1]; exact f3
  · rw [e1]; exact f4
  · exact e1
theorem g_callS {y : MethodName} {cd : ByteArray} {m9 idx : Nat} {ret : Option FieldType} {rmy : Room} {As : List Value} {Yc : List va_W} {post : Option Value → List va_W → Prop} (C : Ct E X cc own rm mL) (F : CFs y cd m9 ret As.length) (hM : ∀ l, MG l y cd m9 ret rmy E As Yc post) (hl : Cond.methodLink own idx y ∈ tb)
    (ic : List Nat) (hic : ic.map (fun i => Y[i]?) = Yc.map some) (hn : ic.Nodup) (hst : st = As.reverse ++ rest) (hw : (rest.map fun v => v.category).sum ≤ 8)
    (hR : rmy.frames + 1 ≤ rm.frames ∧ 8 + (m9 + 11) + rmy.locals ≤ rm.locals ∧ k + rmy.cells ≤ rm.cells ∧ n + rmy.slots ≤ rm.slots) (hd : decode cc pc = .ok (.invokestatic idx, 3))
    (kk : ∀ v Y1, post v Y1 → G E X mL (rep Y ic Y1) (k + rmy.cells) (n + rmy.slots) lv (v.toList ++ rest) (pc + 3)) : G E X mL Y k n lv st pc := by
  obtain ⟨p, l, e, R, s, m, args, below, meth, c, A, Q⟩ := X
  obtain ⟨hx, hb, hml, hown, hts, hK, hSE, hNE, hS0, hRm⟩ := C
  obtain ⟨f1, f3, f4, f5⟩ := F
  subst hRm
  intro H locs ls hP hD hS hlv
  have hpre := g_pre (Yc := Yc) hK hSE hNE hS0 hic hn hP hD hS As
  exact g_run hS0 hic hn hP hD hS hlv (fun q h => h) (va_runS (As := As) (rest := rest) ⟨hx, hb, hml, hown, hts⟩ (hM l H.size) ⟨callB_of (own := own) (index := idx) As.length hts (goodCall f4) rfl rfl rfl (hts _ f3) (hts _ hl) f5 ⟨hR.1, hR.2.1⟩, hts _ f1⟩ hpre rfl rfl hlv.1 hst (lv_room hw) hd hR.2.2) kk
theorem g_callI {y : MethodName} {cd : ByteArray} {m9 idx a : Nat} {rmy : Room} {As : List Value} {Yc : List va_W} {post : Option Value → List va_W → Prop} (C : Ct E X cc own rm mL) (F : CFi y cd m9 As.length) (hM : ∀ l, MG l y cd m9 none rmy E (.ref a :: As) Yc post) (hl : Cond.methodLink own idx y ∈ tb)
    (ic : List Nat) (hic : ic.map (fun i => Y[i]?) = Yc.map some) (hn : ic.Nodup) (hst : st = As.reverse ++ .ref a :: rest) (hw : (rest.map fun v => v.category).sum ≤ 8)
    (hR : rmy.frames + 1 ≤ rm.frames ∧ 8 + (m9 + 11) + rmy.locals ≤ rm.locals ∧ k + rmy.cells ≤ rm.cells ∧ n + rmy.slots ≤ rm.slots) (hd : decode cc pc = .ok (.invokespecial idx, 3))
    (kk : ∀ v Y1, post v Y1 → G E X mL (rep Y ic Y1) (k + rmy.cells) (n + rmy.slots) lv (v.toList ++ rest) (pc + 3)) : G E X mL Y k n lv st pc := by
  obtain ⟨p, l, e, R, s, m, args, below, meth, c, A, Q⟩ := X
  obtain ⟨hx, hb, hml, hown, hts, hK, hSE, hNE, hS0, hRm⟩ := C
  obtain ⟨f1, f3, f4, f6, f5⟩ := F
  subst hRm
  intro H locs ls hP hD hS hlv
  have hpre := g_pre (Yc := Yc) hK hSE hNE hS0 hic hn hP hD hS (.ref a :: As)
  exact g_run hS0 hic hn hP hD hS hlv (fun q h => h) (va_runI (As := As) (rest := rest) ⟨hx, hb, hml, hown, hts⟩ (hM l H.size) (cwI (own := own) (index := idx) As.length hts (goodCall f4) rfl rfl rfl (hts _ f3) (hts _ hl) (hts _ f1) f6 f5 ⟨hR.1, hR.2.1⟩) hpre rfl rfl hlv.1 hst (lv_room hw) hd hR.2.2) kk
theorem g_callIN {y : MethodName} {cd : ByteArray} {m9 idx a : Nat} {host : String} {rmy : Room} {As : List Value} {Yc : List va_W} {post : Option Value → List va_W → Prop} (C : Ct E X cc own rm mL) (F : CFi y cd m9 As.length) (hM : ∀ l, MG l y cd m9 none rmy E (.ref a :: As) Yc post) (hl : ∀ U, NE E U → va_Nw (.methodLinkNest own idx y host) U)
    (ic : List Nat) (hic : ic.map (fun i => Y[i]?) = Yc.map some) (hn : ic.Nodup) (hst : st = As.reverse ++ .ref a :: rest) (hw : (rest.map fun v => v.category).sum ≤ 8)
    (hR : rmy.frames + 1 ≤ rm.frames ∧ 8 + (m9 + 11) + rmy.locals ≤ rm.locals ∧ k + rmy.cells ≤ rm.cells ∧ n + rmy.slots ≤ rm.slots) (hd : decode cc pc = .ok (.invokespecial idx, 3))
    (kk : ∀ v Y1, post v Y1 → G E X mL (rep Y ic Y1) (k + rmy.cells) (n + rmy.slots) lv (v.toList ++ rest) (pc + 3)) : G E X mL Y k n lv st pc := by
  obtain ⟨p, l, e, R, s, m, args, below, meth, c, A, Q⟩ := X
  obtain ⟨hx, hb, hml, hown, hts, hK, hSE, hNE, hS0, hRm⟩ := C
  obtain ⟨f1, f3, f4, f6, f5⟩ := F
  subst hRm
  intro H locs ls hP hD hS hlv
  have hpre := g_pre (Yc := Yc) hK hSE hNE hS0 hic hn hP hD hS (.ref a :: As)
  exact g_run hS0 hic hn hP hD hS hlv (fun q h => h) (va_runIN (As := As) (rest := rest) (host := host) ⟨hx, hb, hml, hown, hts⟩ (hM l H.size) ⟨va_cnB (own := own) (index := idx) As.length hts (goodCall f4) rfl rfl rfl (hl s hNE) (hts _ f3) f5 ⟨hR.1, hR.2.1⟩, f6, hts _ f1⟩ hpre rfl rfl hlv.1 hst (lv_room hw) hd hR.2.2) kk
theorem g_objInit {a idx : Nat} (C : Ct E X cc own rm mL) (hl : Cond.methodLink own idx Lib.objectInit ∈ tb) (hi : Cond.instanceMethod Lib.objectInit ∈ tb) (hc : Cond.code Lib.objectInit ⟨#[0xb1]⟩ 1 none ∈ tb) (hf : 1 ≤ rm.frames) (hw : (rest.map fun v => v.category).sum + 12 ≤ rm.locals) (hd : decode cc pc = .ok (.invokespecial idx, 3))
    (kk : G E X mL Y k n lv rest (pc + 3)) : G E X mL Y k n lv (.ref a :: rest) pc := by
  obtain ⟨p, l, e, R, s, m, args, below, meth, c, A, Q⟩ := X
  obtain ⟨hx, hb, hml, hown, hts, hK, hSE, hNE, hS0, hRm⟩ := C
  subst hRm
  intro H locs ls hP hD hS hlv
  refine W.objInit hx hb hown (hts _ hl) (hts _ hi) (hts _ hc) rfl (by rw [hml]; exact hlv.1) rfl hd hf (by show 2 * 0 + _ + 12 ≤ _; omega) ?_
  exact kk H locs ls hP hD hS hlv
theorem g_widen {k2 n2 : Nat} (h1 : k ≤ k2) (h2 : n ≤ n2) (kk : G E X mL Y k2 n2 lv st pc) : G E X mL Y k n lv st pc := by
  obtain ⟨p, l, e, R, s, m, args, below, meth, c, A, Q⟩ := X
  intro H locs ls hP hD hS hlv
  exact W.widen h1 h2 (kk H locs ls hP hD hS hlv)
/-- the same cells, cut otherwise -/
theorem g_cut {Y2 : List va_W} (h : Y.flatten.Perm Y2.flatten) (kk : G E X mL Y2 k n lv st pc) : G E X mL Y k n lv st pc := by
  obtain ⟨p, l, e, R, s, m, args, below, meth, c, A, Q⟩ := X
  intro H locs ls hP hD hS hlv
  exact kk H locs ls (P_perm h hP) (D_perm h hD) hS hlv
/-- fewer locals -/
theorem g_sub {lv2 : List (Nat × Value)} (ks : List Nat) (h : lv_pick lv ks = lv2) (kk : G E X mL Y k n lv2 st pc) : G E X mL Y k n lv st pc := by
  obtain ⟨p, l, e, R, s, m, args, below, meth, c, A, Q⟩ := X
  intro H locs ls hP hD hS hlv
  exact kk H locs ls hP hD hS (lv_sub hlv ks h)

theorem g_iconst {z : Int} {v : Int32} (C : Ct E X cc own rm mL) (hv : Int32.ofInt z = v) (hd : decode cc pc = .ok (.iconst z, 1)) (kk : G E X mL Y k n lv (.int v :: rest) (pc + 1)) : G E X mL Y k n lv (rest) pc := by
  obtain ⟨p, l, e, R, s, m, args, below, meth, c, A, Q⟩ := X
  obtain ⟨hx, hb, hml, hown, hts, hK, hSE, hNE, hS0, hRm⟩ := C
  intro H locs ls hP hD hS hlv
  exact lv_iconst hx hb hd hv (kk H locs ls hP hD hS hlv)
theorem g_bipush {z : Int} {v : Int32} (C : Ct E X cc own rm mL) (hv : (Int8.ofInt z).toInt32 = v) (hd : decode cc pc = .ok (.bipush z, 2)) (kk : G E X mL Y k n lv (.int v :: rest) (pc + 2)) : G E X mL Y k n lv (rest) pc := by
  obtain ⟨p, l, e, R, s, m, args, below, meth, c, A, Q⟩ := X
  obtain ⟨hx, hb, hml, hown, hts, hK, hSE, hNE, hS0, hRm⟩ := C
  intro H locs ls hP hD hS hlv
  exact lv_bipush hx hb hd hv (kk H locs ls hP hD hS hlv)
theorem g_sipush {z : Int} {v : Int32} (C : Ct E X cc own rm mL) (hv : (Int16.ofInt z).toInt32 = v) (hd : decode cc pc = .ok (.sipush z, 3)) (kk : G E X mL Y k n lv (.int v :: rest) (pc + 3)) : G E X mL Y k n lv (rest) pc := by
  obtain ⟨p, l, e, R, s, m, args, below, meth, c, A, Q⟩ := X
  obtain ⟨hx, hb, hml, hown, hts, hK, hSE, hNE, hS0, hRm⟩ := C
  intro H locs ls hP hD hS hlv
  exact lv_sipush hx hb hd hv (kk H locs ls hP hD hS hlv)
theorem g_lconst {z : Fin 2} {v : Int64} (C : Ct E X cc own rm mL) (hv : Int64.ofNat (z : Nat) = v) (hd : decode cc pc = .ok (.lconst z, 1)) (kk : G E X mL Y k n lv (.long v :: rest) (pc + 1)) : G E X mL Y k n lv (rest) pc := by
  obtain ⟨p, l, e, R, s, m, args, below, meth, c, A, Q⟩ := X
  obtain ⟨hx, hb, hml, hown, hts, hK, hSE, hNE, hS0, hRm⟩ := C
  intro H locs ls hP hD hS hlv
  exact lv_lconst hx hb hd hv (kk H locs ls hP hD hS hlv)
theorem g_iload_n {j : Fin 4} {i : Nat} {x : Int32} (C : Ct E X cc own rm mL) (hd : decode cc pc = .ok (.iload_n j, 1)) (hi : (j : Nat) = i) (q : Nat) (hq : lv[q]? = some (i, .int x)) (kk : G E X mL Y k n lv (.int x :: rest) (pc + 1)) : G E X mL Y k n lv rest pc := by
  obtain ⟨p, l, e, R, s, m, args, below, meth, c, A, Q⟩ := X
  obtain ⟨hx, hb, hml, hown, hts, hK, hSE, hNE, hS0, hRm⟩ := C
  intro H locs ls hP hD hS hlv
  exact lv_iload_n hx hb hd hi (lv_at hlv q hq) (kk H locs ls hP hD hS hlv)
theorem g_iload {i : Nat} {x : Int32} (C : Ct E X cc own rm mL) (hd : decode cc pc = .ok (.iload i, 2)) (q : Nat) (hq : lv[q]? = some (i, .int x)) (kk : G E X mL Y k n lv (.int x :: rest) (pc + 2)) : G E X mL Y k n lv rest pc := by
  obtain ⟨p, l, e, R, s, m, args, below, meth, c, A, Q⟩ := X
  obtain ⟨hx, hb, hml, hown, hts, hK, hSE, hNE, hS0, hRm⟩ := C
  intro H locs ls hP hD hS hlv
  exact lv_iload hx hb hd (lv_at hlv q hq) (kk H locs ls hP hD hS hlv)
theorem g_lload_n {j : Fin 4} {i : Nat} {x : Int64} (C : Ct E X cc own rm mL) (hd : decode cc pc = .ok (.lload_n j, 1)) (hi : (j : Nat) = i) (q : Nat) (hq : lv[q]? = some (i, .long x)) (kk : G E X mL Y k n lv (.long x :: rest) (pc + 1)) : G E X mL Y k n lv rest pc := by
  obtain ⟨p, l, e, R, s, m, args, below, meth, c, A, Q⟩ := X
  obtain ⟨hx, hb, hml, hown, hts, hK, hSE, hNE, hS0, hRm⟩ := C
  intro H locs ls hP hD hS hlv
  exact lv_lload_n hx hb hd hi (lv_at hlv q hq) (kk H locs ls hP hD hS hlv)
theorem g_lload {i : Nat} {x : Int64} (C : Ct E X cc own rm mL) (hd : decode cc pc = .ok (.lload i, 2)) (q : Nat) (hq : lv[q]? = some (i, .long x)) (kk : G E X mL Y k n lv (.long x :: rest) (pc + 2)) : G E X mL Y k n lv rest pc := by
  obtain ⟨p, l, e, R, s, m, args, below, meth, c, A, Q⟩ := X
  obtain ⟨hx, hb, hml, hown, hts, hK, hSE, hNE, hS0, hRm⟩ := C
  intro H locs ls hP hD hS hlv
  exact lv_lload hx hb hd (lv_at hlv q hq) (kk H locs ls hP hD hS hlv)
theorem g_aload_n {j : Fin 4} {i : Nat} {x : Nat} (C : Ct E X cc own rm mL) (hd : decode cc pc = .ok (.aload_n j, 1)) (hi : (j : Nat) = i) (q : Nat) (hq : lv[q]? = some (i, .ref x)) (kk : G E X mL Y k n lv (.ref x :: rest) (pc + 1)) : G E X mL Y k n lv rest pc := by
  obtain ⟨p, l, e, R, s, m, args, below, meth, c, A, Q⟩ := X
  obtain ⟨hx, hb, hml, hown, hts, hK, hSE, hNE, hS0, hRm⟩ := C
  intro H locs ls hP hD hS hlv
  exact lv_aload_n hx hb hd hi (lv_at hlv q hq) (kk H locs ls hP hD hS hlv)
theorem g_aload {i : Nat} {x : Nat} (C : Ct E X cc own rm mL) (hd : decode cc pc = .ok (.aload i, 2)) (q : Nat) (hq : lv[q]? = some (i, .ref x)) (kk : G E X mL Y k n lv (.ref x :: rest) (pc + 2)) : G E X mL Y k n lv rest pc := by
  obtain ⟨p, l, e, R, s, m, args, below, meth, c, A, Q⟩ := X
  obtain ⟨hx, hb, hml, hown, hts, hK, hSE, hNE, hS0, hRm⟩ := C
  intro H locs ls hP hD hS hlv
  exact lv_aload hx hb hd (lv_at hlv q hq) (kk H locs ls hP hD hS hlv)
theorem g_istore_n {j : Fin 4} {i : Nat} {x : Int32} {lv2 : List (Nat × Value)} (C : Ct E X cc own rm mL) (hd : decode cc pc = .ok (.istore_n j, 1)) (hi : (j : Nat) = i) (hn : i < mL) (hl : (i, Value.int x) :: lv.filter (fun q => !(q.1 == i) && !(q.1 + 1 == i && q.2.category == 2)) = lv2) (kk : G E X mL Y k n lv2 rest (pc + 1)) : G E X mL Y k n lv (Value.int x :: rest) pc := by
  obtain ⟨p, l, e, R, s, m, args, below, meth, c, A, Q⟩ := X
  obtain ⟨hx, hb, hml, hown, hts, hK, hSE, hNE, hS0, hRm⟩ := C
  intro H locs ls hP hD hS hlv
  exact lv_istore_n hx hb hd hi hlv hn hl (fun ls hlv => kk H locs ls hP hD hS hlv)
theorem g_istore {i : Nat} {x : Int32} {lv2 : List (Nat × Value)} (C : Ct E X cc own rm mL) (hd : decode cc pc = .ok (.istore i, 2)) (hn : i < mL) (hl : (i, Value.int x) :: lv.filter (fun q => !(q.1 == i) && !(q.1 + 1 == i && q.2.category == 2)) = lv2) (kk : G E X mL Y k n lv2 rest (pc + 2)) : G E X mL Y k n lv (Value.int x :: rest) pc := by
  obtain ⟨p, l, e, R, s, m, args, below, meth, c, A, Q⟩ := X
  obtain ⟨hx, hb, hml, hown, hts, hK, hSE, hNE, hS0, hRm⟩ := C
  intro H locs ls hP hD hS hlv
  exact lv_istore hx hb hd hlv hn hl (fun ls hlv => kk H locs ls hP hD hS hlv)
theorem g_lstore_n {j : Fin 4} {i : Nat} {x : Int64} {lv2 : List (Nat × Value)} (C : Ct E X cc own rm mL) (hd : decode cc pc = .ok (.lstore_n j, 1)) (hi : (j : Nat) = i) (hn : i + 1 < mL) (hl : (i, Value.long x) :: lv.filter (fun q => !(q.1 == i) && (!(q.1 == i + 1) && !(q.1 + 1 == i && q.2.category == 2))) = lv2) (kk : G E X mL Y k n lv2 rest (pc + 1)) : G E X mL Y k n lv (Value.long x :: rest) pc := by
  obtain ⟨p, l, e, R, s, m, args, below, meth, c, A, Q⟩ := X
  obtain ⟨hx, hb, hml, hown, hts, hK, hSE, hNE, hS0, hRm⟩ := C
  intro H locs ls hP hD hS hlv
  exact lv_lstore_n hx hb hd hi hlv hn hl (fun ls hlv => kk H locs ls hP hD hS hlv)
theorem g_lstore {i : Nat} {x : Int64} {lv2 : List (Nat × Value)} (C : Ct E X cc own rm mL) (hd : decode cc pc = .ok (.lstore i, 2)) (hn : i + 1 < mL) (hl : (i, Value.long x) :: lv.filter (fun q => !(q.1 == i) && (!(q.1 == i + 1) && !(q.1 + 1 == i && q.2.category == 2))) = lv2) (kk : G E X mL Y k n lv2 rest (pc + 2)) : G E X mL Y k n lv (Value.long x :: rest) pc := by
  obtain ⟨p, l, e, R, s, m, args, below, meth, c, A, Q⟩ := X
  obtain ⟨hx, hb, hml, hown, hts, hK, hSE, hNE, hS0, hRm⟩ := C
  intro H locs ls hP hD hS hlv
  exact lv_lstore hx hb hd hlv hn hl (fun ls hlv => kk H locs ls hP hD hS hlv)
theorem g_astore_n {j : Fin 4} {i : Nat} {x : Nat} {lv2 : List (Nat × Value)} (C : Ct E X cc own rm mL) (hd : decode cc pc = .ok (.astore_n j, 1)) (hi : (j : Nat) = i) (hn : i < mL) (hl : (i, Value.ref x) :: lv.filter (fun q => !(q.1 == i) && !(q.1 + 1 == i && q.2.category == 2)) = lv2) (kk : G E X mL Y k n lv2 rest (pc + 1)) : G E X mL Y k n lv (Value.ref x :: rest) pc := by
  obtain ⟨p, l, e, R, s, m, args, below, meth, c, A, Q⟩ := X
  obtain ⟨hx, hb, hml, hown, hts, hK, hSE, hNE, hS0, hRm⟩ := C
  intro H locs ls hP hD hS hlv
  exact lv_astore_n hx hb hd hi hlv hn hl (fun ls hlv => kk H locs ls hP hD hS hlv)
theorem g_astore {i : Nat} {x : Nat} {lv2 : List (Nat × Value)} (C : Ct E X cc own rm mL) (hd : decode cc pc = .ok (.astore i, 2)) (hn : i < mL) (hl : (i, Value.ref x) :: lv.filter (fun q => !(q.1 == i) && !(q.1 + 1 == i && q.2.category == 2)) = lv2) (kk : G E X mL Y k n lv2 rest (pc + 2)) : G E X mL Y k n lv (Value.ref x :: rest) pc := by
  obtain ⟨p, l, e, R, s, m, args, below, meth, c, A, Q⟩ := X
  obtain ⟨hx, hb, hml, hown, hts, hK, hSE, hNE, hS0, hRm⟩ := C
  intro H locs ls hP hD hS hlv
  exact lv_astore hx hb hd hlv hn hl (fun ls hlv => kk H locs ls hP hD hS hlv)
theorem g_iinc {i : Nat} {z : Int} {x v : Int32} {lv2 : List (Nat × Value)} (C : Ct E X cc own rm mL) (hd : decode cc pc = .ok (.iinc i z, 3)) (q : Nat) (hq : lv[q]? = some (i, .int x)) (hv : x + Int32.ofInt z = v) (hn : i < mL) (hl : (i, Value.int v) :: lv.filter (fun q => !(q.1 == i) && !(q.1 + 1 == i && q.2.category == 2)) = lv2) (kk : G E X mL Y k n lv2 rest (pc + 3)) : G E X mL Y k n lv rest pc := by
  obtain ⟨p, l, e, R, s, m, args, below, meth, c, A, Q⟩ := X
  obtain ⟨hx, hb, hml, hown, hts, hK, hSE, hNE, hS0, hRm⟩ := C
  intro H locs ls hP hD hS hlv
  exact lv_iinc hx hb hd hlv hq hv hn hl (fun ls hlv => kk H locs ls hP hD hS hlv)
theorem g_iadd {x y : Int32} (C : Ct E X cc own rm mL)  (hd : decode cc pc = .ok (.iadd, 1)) (kk : G E X mL Y k n lv (.int (x + y) :: rest) (pc + 1)) : G E X mL Y k n lv (.int y :: .int x :: rest) pc := by
  obtain ⟨p, l, e, R, s, m, args, below, meth, c, A, Q⟩ := X
  obtain ⟨hx, hb, hml, hown, hts, hK, hSE, hNE, hS0, hRm⟩ := C
  intro H locs ls hP hD hS hlv
  exact lv_iadd hx hb hd  (kk H locs ls hP hD hS hlv)
theorem g_isub {x y : Int32} (C : Ct E X cc own rm mL)  (hd : decode cc pc = .ok (.isub, 1)) (kk : G E X mL Y k n lv (.int (x - y) :: rest) (pc + 1)) : G E X mL Y k n lv (.int y :: .int x :: rest) pc := by
  obtain ⟨p, l, e, R, s, m, args, below, meth, c, A, Q⟩ := X
  obtain ⟨hx, hb, hml, hown, hts, hK, hSE, hNE, hS0, hRm⟩ := C
  intro H locs ls hP hD hS hlv
  exact lv_isub hx hb hd  (kk H locs ls hP hD hS hlv)
theorem g_imul {x y : Int32} (C : Ct E X cc own rm mL)  (hd : decode cc pc = .ok (.imul, 1)) (kk : G E X mL Y k n lv (.int (x * y) :: rest) (pc + 1)) : G E X mL Y k n lv (.int y :: .int x :: rest) pc := by
  obtain ⟨p, l, e, R, s, m, args, below, meth, c, A, Q⟩ := X
  obtain ⟨hx, hb, hml, hown, hts, hK, hSE, hNE, hS0, hRm⟩ := C
  intro H locs ls hP hD hS hlv
  exact lv_imul hx hb hd  (kk H locs ls hP hD hS hlv)
theorem g_iand {x y : Int32} (C : Ct E X cc own rm mL)  (hd : decode cc pc = .ok (.iand, 1)) (kk : G E X mL Y k n lv (.int (x &&& y) :: rest) (pc + 1)) : G E X mL Y k n lv (.int y :: .int x :: rest) pc := by
  obtain ⟨p, l, e, R, s, m, args, below, meth, c, A, Q⟩ := X
  obtain ⟨hx, hb, hml, hown, hts, hK, hSE, hNE, hS0, hRm⟩ := C
  intro H locs ls hP hD hS hlv
  exact lv_iand hx hb hd  (kk H locs ls hP hD hS hlv)
theorem g_ior {x y : Int32} (C : Ct E X cc own rm mL)  (hd : decode cc pc = .ok (.ior, 1)) (kk : G E X mL Y k n lv (.int (x ||| y) :: rest) (pc + 1)) : G E X mL Y k n lv (.int y :: .int x :: rest) pc := by
  obtain ⟨p, l, e, R, s, m, args, below, meth, c, A, Q⟩ := X
  obtain ⟨hx, hb, hml, hown, hts, hK, hSE, hNE, hS0, hRm⟩ := C
  intro H locs ls hP hD hS hlv
  exact lv_ior hx hb hd  (kk H locs ls hP hD hS hlv)
theorem g_ixor {x y : Int32} (C : Ct E X cc own rm mL)  (hd : decode cc pc = .ok (.ixor, 1)) (kk : G E X mL Y k n lv (.int (x ^^^ y) :: rest) (pc + 1)) : G E X mL Y k n lv (.int y :: .int x :: rest) pc := by
  obtain ⟨p, l, e, R, s, m, args, below, meth, c, A, Q⟩ := X
  obtain ⟨hx, hb, hml, hown, hts, hK, hSE, hNE, hS0, hRm⟩ := C
  intro H locs ls hP hD hS hlv
  exact lv_ixor hx hb hd  (kk H locs ls hP hD hS hlv)
theorem g_ishl {x y : Int32} (C : Ct E X cc own rm mL)  (hd : decode cc pc = .ok (.ishl, 1)) (kk : G E X mL Y k n lv (.int (x <<< (y &&& 31)) :: rest) (pc + 1)) : G E X mL Y k n lv (.int y :: .int x :: rest) pc := by
  obtain ⟨p, l, e, R, s, m, args, below, meth, c, A, Q⟩ := X
  obtain ⟨hx, hb, hml, hown, hts, hK, hSE, hNE, hS0, hRm⟩ := C
  intro H locs ls hP hD hS hlv
  exact lv_ishl hx hb hd  (kk H locs ls hP hD hS hlv)
theorem g_ishr {x y : Int32} (C : Ct E X cc own rm mL)  (hd : decode cc pc = .ok (.ishr, 1)) (kk : G E X mL Y k n lv (.int (x >>> (y &&& 31)) :: rest) (pc + 1)) : G E X mL Y k n lv (.int y :: .int x :: rest) pc := by
  obtain ⟨p, l, e, R, s, m, args, below, meth, c, A, Q⟩ := X
  obtain ⟨hx, hb, hml, hown, hts, hK, hSE, hNE, hS0, hRm⟩ := C
  intro H locs ls hP hD hS hlv
  exact lv_ishr hx hb hd  (kk H locs ls hP hD hS hlv)
theorem g_idiv {x y : Int32} (C : Ct E X cc own rm mL) (hne : ¬ y = 0) (hd : decode cc pc = .ok (.idiv, 1)) (kk : G E X mL Y k n lv (.int (x / y) :: rest) (pc + 1)) : G E X mL Y k n lv (.int y :: .int x :: rest) pc := by
  obtain ⟨p, l, e, R, s, m, args, below, meth, c, A, Q⟩ := X
  obtain ⟨hx, hb, hml, hown, hts, hK, hSE, hNE, hS0, hRm⟩ := C
  intro H locs ls hP hD hS hlv
  exact lv_idiv hx hb hd hne (kk H locs ls hP hD hS hlv)
theorem g_ineg {x : Int32} (C : Ct E X cc own rm mL)  (hd : decode cc pc = .ok (.ineg, 1)) (kk : G E X mL Y k n lv (.int (-x) :: rest) (pc + 1)) : G E X mL Y k n lv (.int x :: rest) pc := by
  obtain ⟨p, l, e, R, s, m, args, below, meth, c, A, Q⟩ := X
  obtain ⟨hx, hb, hml, hown, hts, hK, hSE, hNE, hS0, hRm⟩ := C
  intro H locs ls hP hD hS hlv
  exact lv_ineg hx hb hd  (kk H locs ls hP hD hS hlv)
theorem g_irem {x y : Int32} (C : Ct E X cc own rm mL) (hne : ¬ y = 0) (hd : decode cc pc = .ok (.irem, 1)) (kk : G E X mL Y k n lv (.int (x - x / y * y) :: rest) (pc + 1)) : G E X mL Y k n lv (.int y :: .int x :: rest) pc := by
  obtain ⟨p, l, e, R, s, m, args, below, meth, c, A, Q⟩ := X
  obtain ⟨hx, hb, hml, hown, hts, hK, hSE, hNE, hS0, hRm⟩ := C
  intro H locs ls hP hD hS hlv
  exact lv_irem hx hb hd hne (kk H locs ls hP hD hS hlv)
theorem g_ladd {x y : Int64} (C : Ct E X cc own rm mL)  (hd : decode cc pc = .ok (.ladd, 1)) (kk : G E X mL Y k n lv (.long (x + y) :: rest) (pc + 1)) : G E X mL Y k n lv (.long y :: .long x :: rest) pc := by
  obtain ⟨p, l, e, R, s, m, args, below, meth, c, A, Q⟩ := X
  obtain ⟨hx, hb, hml, hown, hts, hK, hSE, hNE, hS0, hRm⟩ := C
  intro H locs ls hP hD hS hlv
  exact lv_ladd hx hb hd  (kk H locs ls hP hD hS hlv)
theorem g_lsub {x y : Int64} (C : Ct E X cc own rm mL)  (hd : decode cc pc = .ok (.lsub, 1)) (kk : G E X mL Y k n lv (.long (x - y) :: rest) (pc + 1)) : G E X mL Y k n lv (.long y :: .long x :: rest) pc := by
  obtain ⟨p, l, e, R, s, m, args, below, meth, c, A, Q⟩ := X
  obtain ⟨hx, hb, hml, hown, hts, hK, hSE, hNE, hS0, hRm⟩ := C
  intro H locs ls hP hD hS hlv
  exact lv_lsub hx hb hd  (kk H locs ls hP hD hS hlv)
theorem g_land {x y : Int64} (C : Ct E X cc own rm mL)  (hd : decode cc pc = .ok (.land, 1)) (kk : G E X mL Y k n lv (.long (x &&& y) :: rest) (pc + 1)) : G E X mL Y k n lv (.long y :: .long x :: rest) pc := by
  obtain ⟨p, l, e, R, s, m, args, below, meth, c, A, Q⟩ := X
  obtain ⟨hx, hb, hml, hown, hts, hK, hSE, hNE, hS0, hRm⟩ := C
  intro H locs ls hP hD hS hlv
  exact lv_land hx hb hd  (kk H locs ls hP hD hS hlv)
theorem g_lor {x y : Int64} (C : Ct E X cc own rm mL)  (hd : decode cc pc = .ok (.lor, 1)) (kk : G E X mL Y k n lv (.long (x ||| y) :: rest) (pc + 1)) : G E X mL Y k n lv (.long y :: .long x :: rest) pc := by
  obtain ⟨p, l, e, R, s, m, args, below, meth, c, A, Q⟩ := X
  obtain ⟨hx, hb, hml, hown, hts, hK, hSE, hNE, hS0, hRm⟩ := C
  intro H locs ls hP hD hS hlv
  exact lv_lor hx hb hd  (kk H locs ls hP hD hS hlv)
theorem g_lcmp {x y : Int64} (C : Ct E X cc own rm mL)  (hd : decode cc pc = .ok (.lcmp, 1)) (kk : G E X mL Y k n lv (.int (lg_cmp x y) :: rest) (pc + 1)) : G E X mL Y k n lv (.long y :: .long x :: rest) pc := by
  obtain ⟨p, l, e, R, s, m, args, below, meth, c, A, Q⟩ := X
  obtain ⟨hx, hb, hml, hown, hts, hK, hSE, hNE, hS0, hRm⟩ := C
  intro H locs ls hP hD hS hlv
  exact W.lcmp hx hb hd  (kk H locs ls hP hD hS hlv)
theorem g_i2l {x : Int32} (C : Ct E X cc own rm mL)  (hd : decode cc pc = .ok (.i2l, 1)) (kk : G E X mL Y k n lv (.long x.toInt64 :: rest) (pc + 1)) : G E X mL Y k n lv (.int x :: rest) pc := by
  obtain ⟨p, l, e, R, s, m, args, below, meth, c, A, Q⟩ := X
  obtain ⟨hx, hb, hml, hown, hts, hK, hSE, hNE, hS0, hRm⟩ := C
  intro H locs ls hP hD hS hlv
  exact lv_i2l hx hb hd rfl (kk H locs ls hP hD hS hlv)
theorem g_l2i {x : Int64} (C : Ct E X cc own rm mL)  (hd : decode cc pc = .ok (.l2i, 1)) (kk : G E X mL Y k n lv (.int x.toInt32 :: rest) (pc + 1)) : G E X mL Y k n lv (.long x :: rest) pc := by
  obtain ⟨p, l, e, R, s, m, args, below, meth, c, A, Q⟩ := X
  obtain ⟨hx, hb, hml, hown, hts, hK, hSE, hNE, hS0, hRm⟩ := C
  intro H locs ls hP hD hS hlv
  exact lv_l2i hx hb hd rfl (kk H locs ls hP hD hS hlv)
theorem g_i2c {x : Int32} (C : Ct E X cc own rm mL)  (hd : decode cc pc = .ok (.i2c, 1)) (kk : G E X mL Y k n lv (.int (x.toUInt32 % 65536).toInt32 :: rest) (pc + 1)) : G E X mL Y k n lv (.int x :: rest) pc := by
  obtain ⟨p, l, e, R, s, m, args, below, meth, c, A, Q⟩ := X
  obtain ⟨hx, hb, hml, hown, hts, hK, hSE, hNE, hS0, hRm⟩ := C
  intro H locs ls hP hD hS hlv
  exact lv_i2c hx hb hd rfl (kk H locs ls hP hD hS hlv)
theorem g_iushr {x y : Int32} (C : Ct E X cc own rm mL)  (hd : decode cc pc = .ok (.iushr, 1)) (kk : G E X mL Y k n lv (.int (x.toUInt32 >>> (y.toUInt32 &&& Int32.toUInt32 31)).toInt32 :: rest) (pc + 1)) : G E X mL Y k n lv (.int y :: .int x :: rest) pc := by
  obtain ⟨p, l, e, R, s, m, args, below, meth, c, A, Q⟩ := X
  obtain ⟨hx, hb, hml, hown, hts, hK, hSE, hNE, hS0, hRm⟩ := C
  intro H locs ls hP hD hS hlv
  exact lv_iushr hx hb hd rfl (kk H locs ls hP hD hS hlv)
theorem g_lushr {x : Int64} {y : Int32} (C : Ct E X cc own rm mL)  (hd : decode cc pc = .ok (.lushr, 1)) (kk : G E X mL Y k n lv (.long (x.toUInt64 >>> (y.toInt64.toUInt64 &&& Int64.toUInt64 63)).toInt64 :: rest) (pc + 1)) : G E X mL Y k n lv (.int y :: .long x :: rest) pc := by
  obtain ⟨p, l, e, R, s, m, args, below, meth, c, A, Q⟩ := X
  obtain ⟨hx, hb, hml, hown, hts, hK, hSE, hNE, hS0, hRm⟩ := C
  intro H locs ls hP hD hS hlv
  exact lv_lushr hx hb hd rfl (kk H locs ls hP hD hS hlv)
theorem g_lshl {x : Int64} {y : Int32} (C : Ct E X cc own rm mL)  (hd : decode cc pc = .ok (.lshl, 1)) (kk : G E X mL Y k n lv (.long (x <<< (y.toInt64 &&& 63)) :: rest) (pc + 1)) : G E X mL Y k n lv (.int y :: .long x :: rest) pc := by
  obtain ⟨p, l, e, R, s, m, args, below, meth, c, A, Q⟩ := X
  obtain ⟨hx, hb, hml, hown, hts, hK, hSE, hNE, hS0, hRm⟩ := C
  intro H locs ls hP hD hS hlv
  exact lv_lshl hx hb hd rfl (kk H locs ls hP hD hS hlv)
theorem g_lshr {x : Int64} {y : Int32} (C : Ct E X cc own rm mL)  (hd : decode cc pc = .ok (.lshr, 1)) (kk : G E X mL Y k n lv (.long (x >>> (y.toInt64 &&& 63)) :: rest) (pc + 1)) : G E X mL Y k n lv (.int y :: .long x :: rest) pc := by
  obtain ⟨p, l, e, R, s, m, args, below, meth, c, A, Q⟩ := X
  obtain ⟨hx, hb, hml, hown, hts, hK, hSE, hNE, hS0, hRm⟩ := C
  intro H locs ls hP hD hS hlv
  exact lv_lshr hx hb hd rfl (kk H locs ls hP hD hS hlv)
theorem g_dup {v : Value} (C : Ct E X cc own rm mL) (hv : v.category = 1) (hd : decode cc pc = .ok (.dup, 1)) (kk : G E X mL Y k n lv (v :: v :: rest) (pc + 1)) : G E X mL Y k n lv (v :: rest) pc := by
  obtain ⟨p, l, e, R, s, m, args, below, meth, c, A, Q⟩ := X
  obtain ⟨hx, hb, hml, hown, hts, hK, hSE, hNE, hS0, hRm⟩ := C
  intro H locs ls hP hD hS hlv
  exact lv_dup hx hb hd hv (kk H locs ls hP hD hS hlv)
theorem g_dup2 {v w : Value} (C : Ct E X cc own rm mL) (hv : v.category = 1) (hw : w.category = 1) (hd : decode cc pc = .ok (.dup2, 1)) (kk : G E X mL Y k n lv (v :: w :: v :: w :: rest) (pc + 1)) : G E X mL Y k n lv (v :: w :: rest) pc := by
  obtain ⟨p, l, e, R, s, m, args, below, meth, c, A, Q⟩ := X
  obtain ⟨hx, hb, hml, hown, hts, hK, hSE, hNE, hS0, hRm⟩ := C
  intro H locs ls hP hD hS hlv
  exact lv_dup2_11 hx hb hd hv hw (kk H locs ls hP hD hS hlv)
theorem g_if_eq {x : Int32} {z : Int} {tgt : Nat} (C : Ct E X cc own rm mL) (hd : decode cc pc = .ok (.ifCond .eq z, 3)) (ht : (pc : Int) + z = (tgt : Int)) (kt : x = 0 → G E X mL Y k n lv rest tgt) (kf : ¬ x = 0 → G E X mL Y k n lv rest (pc + 3)) : G E X mL Y k n lv (.int x :: rest) pc := by
  obtain ⟨p, l, e, R, s, m, args, below, meth, c, A, Q⟩ := X
  obtain ⟨hx, hb, hml, hown, hts, hK, hSE, hNE, hS0, hRm⟩ := C
  intro H locs ls hP hD hS hlv
  exact lv_if_eq hx hb hd ht (fun h => kt h H locs ls hP hD hS hlv) (fun h => kf h H locs ls hP hD hS hlv)
theorem g_icmp_eq {x y : Int32} {z : Int} {tgt : Nat} (C : Ct E X cc own rm mL) (hd : decode cc pc = .ok (.if_icmp .eq z, 3)) (ht : (pc : Int) + z = (tgt : Int)) (kt : x = y → G E X mL Y k n lv rest tgt) (kf : ¬ x = y → G E X mL Y k n lv rest (pc + 3)) : G E X mL Y k n lv (.int y :: .int x :: rest) pc := by
  obtain ⟨p, l, e, R, s, m, args, below, meth, c, A, Q⟩ := X
  obtain ⟨hx, hb, hml, hown, hts, hK, hSE, hNE, hS0, hRm⟩ := C
  intro H locs ls hP hD hS hlv
  exact lv_icmp_eq hx hb hd ht (fun h => kt h H locs ls hP hD hS hlv) (fun h => kf h H locs ls hP hD hS hlv)
theorem g_if_ne {x : Int32} {z : Int} {tgt : Nat} (C : Ct E X cc own rm mL) (hd : decode cc pc = .ok (.ifCond .ne z, 3)) (ht : (pc : Int) + z = (tgt : Int)) (kt : ¬ x = 0 → G E X mL Y k n lv rest tgt) (kf : x = 0 → G E X mL Y k n lv rest (pc + 3)) : G E X mL Y k n lv (.int x :: rest) pc := by
  obtain ⟨p, l, e, R, s, m, args, below, meth, c, A, Q⟩ := X
  obtain ⟨hx, hb, hml, hown, hts, hK, hSE, hNE, hS0, hRm⟩ := C
  intro H locs ls hP hD hS hlv
  exact lv_if_ne hx hb hd ht (fun h => kt h H locs ls hP hD hS hlv) (fun h => kf h H locs ls hP hD hS hlv)
theorem g_icmp_ne {x y : Int32} {z : Int} {tgt : Nat} (C : Ct E X cc own rm mL) (hd : decode cc pc = .ok (.if_icmp .ne z, 3)) (ht : (pc : Int) + z = (tgt : Int)) (kt : ¬ x = y → G E X mL Y k n lv rest tgt) (kf : x = y → G E X mL Y k n lv rest (pc + 3)) : G E X mL Y k n lv (.int y :: .int x :: rest) pc := by
  obtain ⟨p, l, e, R, s, m, args, below, meth, c, A, Q⟩ := X
  obtain ⟨hx, hb, hml, hown, hts, hK, hSE, hNE, hS0, hRm⟩ := C
  intro H locs ls hP hD hS hlv
  exact lv_icmp_ne hx hb hd ht (fun h => kt h H locs ls hP hD hS hlv) (fun h => kf h H locs ls hP hD hS hlv)
theorem g_if_lt {x : Int32} {z : Int} {tgt : Nat} (C : Ct E X cc own rm mL) (hd : decode cc pc = .ok (.ifCond .lt z, 3)) (ht : (pc : Int) + z = (tgt : Int)) (kt : x < 0 → G E X mL Y k n lv rest tgt) (kf : ¬ x < 0 → G E X mL Y k n lv rest (pc + 3)) : G E X mL Y k n lv (.int x :: rest) pc := by
  obtain ⟨p, l, e, R, s, m, args, below, meth, c, A, Q⟩ := X
  obtain ⟨hx, hb, hml, hown, hts, hK, hSE, hNE, hS0, hRm⟩ := C
  intro H locs ls hP hD hS hlv
  exact lv_if_lt hx hb hd ht (fun h => kt h H locs ls hP hD hS hlv) (fun h => kf h H locs ls hP hD hS hlv)
theorem g_icmp_lt {x y : Int32} {z : Int} {tgt : Nat} (C : Ct E X cc own rm mL) (hd : decode cc pc = .ok (.if_icmp .lt z, 3)) (ht : (pc : Int) + z = (tgt : Int)) (kt : x < y → G E X mL Y k n lv rest tgt) (kf : ¬ x < y → G E X mL Y k n lv rest (pc + 3)) : G E X mL Y k n lv (.int y :: .int x :: rest) pc := by
  obtain ⟨p, l, e, R, s, m, args, below, meth, c, A, Q⟩ := X
  obtain ⟨hx, hb, hml, hown, hts, hK, hSE, hNE, hS0, hRm⟩ := C
  intro H locs ls hP hD hS hlv
  exact lv_icmp_lt hx hb hd ht (fun h => kt h H locs ls hP hD hS hlv) (fun h => kf h H locs ls hP hD hS hlv)
theorem g_if_ge {x : Int32} {z : Int} {tgt : Nat} (C : Ct E X cc own rm mL) (hd : decode cc pc = .ok (.ifCond .ge z, 3)) (ht : (pc : Int) + z = (tgt : Int)) (kt : 0 ≤ x → G E X mL Y k n lv rest tgt) (kf : ¬ 0 ≤ x → G E X mL Y k n lv rest (pc + 3)) : G E X mL Y k n lv (.int x :: rest) pc := by
  obtain ⟨p, l, e, R, s, m, args, below, meth, c, A, Q⟩ := X
  obtain ⟨hx, hb, hml, hown, hts, hK, hSE, hNE, hS0, hRm⟩ := C
  intro H locs ls hP hD hS hlv
  exact lv_if_ge hx hb hd ht (fun h => kt h H locs ls hP hD hS hlv) (fun h => kf h H locs ls hP hD hS hlv)
theorem g_icmp_ge {x y : Int32} {z : Int} {tgt : Nat} (C : Ct E X cc own rm mL) (hd : decode cc pc = .ok (.if_icmp .ge z, 3)) (ht : (pc : Int) + z = (tgt : Int)) (kt : y ≤ x → G E X mL Y k n lv rest tgt) (kf : ¬ y ≤ x → G E X mL Y k n lv rest (pc + 3)) : G E X mL Y k n lv (.int y :: .int x :: rest) pc := by
  obtain ⟨p, l, e, R, s, m, args, below, meth, c, A, Q⟩ := X
  obtain ⟨hx, hb, hml, hown, hts, hK, hSE, hNE, hS0, hRm⟩ := C
  intro H locs ls hP hD hS hlv
  exact lv_icmp_ge hx hb hd ht (fun h => kt h H locs ls hP hD hS hlv) (fun h => kf h H locs ls hP hD hS hlv)
theorem g_if_gt {x : Int32} {z : Int} {tgt : Nat} (C : Ct E X cc own rm mL) (hd : decode cc pc = .ok (.ifCond .gt z, 3)) (ht : (pc : Int) + z = (tgt : Int)) (kt : 0 < x → G E X mL Y k n lv rest tgt) (kf : ¬ 0 < x → G E X mL Y k n lv rest (pc + 3)) : G E X mL Y k n lv (.int x :: rest) pc := by
  obtain ⟨p, l, e, R, s, m, args, below, meth, c, A, Q⟩ := X
  obtain ⟨hx, hb, hml, hown, hts, hK, hSE, hNE, hS0, hRm⟩ := C
  intro H locs ls hP hD hS hlv
  exact lv_if_gt hx hb hd ht (fun h => kt h H locs ls hP hD hS hlv) (fun h => kf h H locs ls hP hD hS hlv)
theorem g_icmp_gt {x y : Int32} {z : Int} {tgt : Nat} (C : Ct E X cc own rm mL) (hd : decode cc pc = .ok (.if_icmp .gt z, 3)) (ht : (pc : Int) + z = (tgt : Int)) (kt : y < x → G E X mL Y k n lv rest tgt) (kf : ¬ y < x → G E X mL Y k n lv rest (pc + 3)) : G E X mL Y k n lv (.int y :: .int x :: rest) pc := by
  obtain ⟨p, l, e, R, s, m, args, below, meth, c, A, Q⟩ := X
  obtain ⟨hx, hb, hml, hown, hts, hK, hSE, hNE, hS0, hRm⟩ := C
  intro H locs ls hP hD hS hlv
  exact lv_icmp_gt hx hb hd ht (fun h => kt h H locs ls hP hD hS hlv) (fun h => kf h H locs ls hP hD hS hlv)
theorem g_if_le {x : Int32} {z : Int} {tgt : Nat} (C : Ct E X cc own rm mL) (hd : decode cc pc = .ok (.ifCond .le z, 3)) (ht : (pc : Int) + z = (tgt : Int)) (kt : x ≤ 0 → G E X mL Y k n lv rest tgt) (kf : ¬ x ≤ 0 → G E X mL Y k n lv rest (pc + 3)) : G E X mL Y k n lv (.int x :: rest) pc := by
  obtain ⟨p, l, e, R, s, m, args, below, meth, c, A, Q⟩ := X
  obtain ⟨hx, hb, hml, hown, hts, hK, hSE, hNE, hS0, hRm⟩ := C
  intro H locs ls hP hD hS hlv
  exact lv_if_le hx hb hd ht (fun h => kt h H locs ls hP hD hS hlv) (fun h => kf h H locs ls hP hD hS hlv)
theorem g_icmp_le {x y : Int32} {z : Int} {tgt : Nat} (C : Ct E X cc own rm mL) (hd : decode cc pc = .ok (.if_icmp .le z, 3)) (ht : (pc : Int) + z = (tgt : Int)) (kt : x ≤ y → G E X mL Y k n lv rest tgt) (kf : ¬ x ≤ y → G E X mL Y k n lv rest (pc + 3)) : G E X mL Y k n lv (.int y :: .int x :: rest) pc := by
  obtain ⟨p, l, e, R, s, m, args, below, meth, c, A, Q⟩ := X
  obtain ⟨hx, hb, hml, hown, hts, hK, hSE, hNE, hS0, hRm⟩ := C
  intro H locs ls hP hD hS hlv
  exact lv_icmp_le hx hb hd ht (fun h => kt h H locs ls hP hD hS hlv) (fun h => kf h H locs ls hP hD hS hlv)
theorem g_goto {z : Int} {tgt : Nat} (C : Ct E X cc own rm mL) (hd : decode cc pc = .ok (.goto z, 3)) (ht : (pc : Int) + z = (tgt : Int)) (kk : G E X mL Y k n lv rest tgt) : G E X mL Y k n lv rest pc := by
  obtain ⟨p, l, e, R, s, m, args, below, meth, c, A, Q⟩ := X
  obtain ⟨hx, hb, hml, hown, hts, hK, hSE, hNE, hS0, hRm⟩ := C
  intro H locs ls hP hD hS hlv
  exact lv_goto hx hb hd ht (kk H locs ls hP hD hS hlv)
theorem g_get {ref Cl : String} {T : u_T} {N ci idx a : Nat} {fs : List Value} {v : Value} {g : va_W} (C : Ct E X cc own rm mL) (hin : ∀ w ∈ u_ws Cl T N, w ∈ tb) (i : Nat) (hg : Y[i]? = some g) (hm : (a, .inr (ci, fs)) ∈ g) (hc : vwCl[ci]? = some (Cl, T, N)) (f : Nat) (hf : f < N) (hl : Cond.fieldLink own idx ref (T f).2.1 (T f).2.2.1 ∈ tb) (hsame : (T f).1 = ref) (hv : fs[f]? = some v) (hd : decode cc pc = .ok (.getfield idx, 3)) (kk : G E X mL Y k n lv (v :: rest) (pc + 3)) : G E X mL Y k n lv (.ref a :: rest) pc := by
  obtain ⟨p, l, e, R, s, m, args, below, meth, c, A, Q⟩ := X
  obtain ⟨hx, hb, hml, hown, hts, hK, hSE, hNE, hS0, hRm⟩ := C
  intro H locs ls hP hD hS hlv
  obtain ⟨q0, hq0⟩ := fl_at hg hm
  exact va_get hx hb hts hin hown hK hP q0 hq0 hc f hf (hts _ hl) (fun x h => by rw [← hsame]; exact h) hv hd (kk H locs ls hP hD hS hlv)
theorem g_put {ref Cl : String} {T : u_T} {N ci idx a : Nat} {fs : List Value} {v : Value} {g : va_W} {Y2 : List va_W} {ty : FieldType} {ty0 : Nat → FieldType} (C : Ct E X cc own rm mL) (hin : ∀ w ∈ u_ws Cl T N, w ∈ tb) (hty : ∀ k, k < N → parseFieldDescriptor (T k).2.2.1 = some (ty0 k)) (hnm : ∀ a, a < N → ∀ b, b < N → a ≠ b → (T a).2.1 ≠ (T b).2.1) (i q : Nat) (hg : Y[i]? = some g) (hm : g[q]? = some (a, .inr (ci, fs))) (hc : vwCl[ci]? = some (Cl, T, N)) (f : Nat) (hf : f < N) (hl : Cond.fieldLink own idx ref (T f).2.1 (T f).2.2.1 ∈ tb) (hsame : (T f).1 = ref) (hfin : (T f).2.2.2 = false) (hdd : ty0 f = ty) (hnn : narrow ty v = v) (hfit : fits ty v = true) (hlen : f < fs.length) (hd : decode cc pc = .ok (.putfield idx, 3)) (hY : Y.set i (g.set q (a, .inr (ci, fs.set f v))) = Y2) (kk : G E X mL Y2 k n lv rest (pc + 3)) : G E X mL Y k n lv (v :: .ref a :: rest) pc := by
  obtain ⟨p, l, e, R, s, m, args, below, meth, c, A, Q⟩ := X
  obtain ⟨hx, hb, hml, hown, hts, hK, hSE, hNE, hS0, hRm⟩ := C
  intro H locs ls hP hD hS hlv
  obtain ⟨q0, hq0, hset⟩ := fl_set Y i q g _ hg hm
  refine va_put hx hb hts hin ty0 hty hnm hown hK hP hD hS q0 hq0 hc f hf (hts _ hl) (fun x h => by rw [← hsame]; exact h) hfin (by rw [← hdd]; exact hty f hf) hnn hfit hlen hd (fun H locs hP hD hS => ?_)
  rw [hset, hY] at hP hD
  exact kk H locs ls hP hD hS hlv
theorem g_putF {ref Cl : String} {T : u_T} {N ci idx a : Nat} {fs : List Value} {v : Value} {g : va_W} {Y2 : List va_W} {ty : FieldType} {ty0 : Nat → FieldType} (C : Ct E X cc own rm mL) (I : Ci X) (hin : ∀ w ∈ u_ws Cl T N, w ∈ tb) (hty : ∀ k, k < N → parseFieldDescriptor (T k).2.2.1 = some (ty0 k)) (hnm : ∀ a, a < N → ∀ b, b < N → a ≠ b → (T a).2.1 ≠ (T b).2.1) (i q : Nat) (hg : Y[i]? = some g) (hm : g[q]? = some (a, .inr (ci, fs))) (hc : vwCl[ci]? = some (Cl, T, N)) (f : Nat) (hf : f < N) (hl : Cond.fieldLink own idx ref (T f).2.1 (T f).2.2.1 ∈ tb) (hsame : (T f).1 = ref) (hfin : (T f).2.2.2 = true) (hdecl : (T f).1 = own) (hdd : ty0 f = ty) (hnn : narrow ty v = v) (hfit : fits ty v = true) (hlen : f < fs.length) (hd : decode cc pc = .ok (.putfield idx, 3)) (hY : Y.set i (g.set q (a, .inr (ci, fs.set f v))) = Y2) (kk : G E X mL Y2 k n lv rest (pc + 3)) : G E X mL Y k n lv (v :: .ref a :: rest) pc := by
  obtain ⟨p, l, e, R, s, m, args, below, meth, c, A, Q⟩ := X
  obtain ⟨hx, hb, hml, hown, hts, hK, hSE, hNE, hS0, hRm⟩ := C
  intro H locs ls hP hD hS hlv
  obtain ⟨q0, hq0, hset⟩ := fl_set Y i q g _ hg hm
  refine va_putF hx hb hts hin ty0 hty hnm hown hK hP hD hS q0 hq0 hc f hf (hts _ hl) (fun x h => by rw [← hsame]; exact h) hfin I hdecl (by rw [← hdd]; exact hty f hf) hnn hfit hlen hd (fun H locs hP hD hS => ?_)
  rw [hset, hY] at hP hD
  exact kk H locs ls hP hD hS hlv
theorem g_iald {a N : Nat} {f : Nat → Int32} {z : Int32} {g : va_W} (C : Ct E X cc own rm mL) (i : Nat) (hg : Y[i]? = some g) (hm : (a, .inl (E.2.1.1, N, .inl f)) ∈ g) (hin : vp_in z N) (hd : decode cc pc = .ok (.iaload, 1)) (kk : G E X mL Y k n lv (.int (f z.toNatClampNeg) :: rest) (pc + 1)) : G E X mL Y k n lv (.int z :: .ref a :: rest) pc := by
  obtain ⟨p, l, e, R, s, m, args, below, meth, c, A, Q⟩ := X
  obtain ⟨hx, hb, hml, hown, hts, hK, hSE, hNE, hS0, hRm⟩ := C
  intro H locs ls hP hD hS hlv
  obtain ⟨q0, hq0⟩ := fl_at hg hm
  exact va_iald hx hb hK hP q0 0 hq0 rfl hin hd (kk H locs ls hP hD hS hlv)
theorem g_cald {a N : Nat} {f : Nat → Int32} {z : Int32} {g : va_W} (C : Ct E X cc own rm mL) (i : Nat) (hg : Y[i]? = some g) (hm : (a, .inl (E.2.1.2.1, N, .inl f)) ∈ g) (hin : vp_in z N) (hd : decode cc pc = .ok (.caload, 1)) (kk : G E X mL Y k n lv (.int (f z.toNatClampNeg) :: rest) (pc + 1)) : G E X mL Y k n lv (.int z :: .ref a :: rest) pc := by
  obtain ⟨p, l, e, R, s, m, args, below, meth, c, A, Q⟩ := X
  obtain ⟨hx, hb, hml, hown, hts, hK, hSE, hNE, hS0, hRm⟩ := C
  intro H locs ls hP hD hS hlv
  obtain ⟨q0, hq0⟩ := fl_at hg hm
  exact va_cald hx hb hK hP q0 1 hq0 rfl hin hd (kk H locs ls hP hD hS hlv)
theorem g_zald {a N : Nat} {f : Nat → Int32} {z : Int32} {g : va_W} (C : Ct E X cc own rm mL) (i : Nat) (hg : Y[i]? = some g) (hm : (a, .inl (E.2.1.2.2.1, N, .inl f)) ∈ g) (hin : vp_in z N) (hd : decode cc pc = .ok (.baload, 1)) (kk : G E X mL Y k n lv (.int (f z.toNatClampNeg) :: rest) (pc + 1)) : G E X mL Y k n lv (.int z :: .ref a :: rest) pc := by
  obtain ⟨p, l, e, R, s, m, args, below, meth, c, A, Q⟩ := X
  obtain ⟨hx, hb, hml, hown, hts, hK, hSE, hNE, hS0, hRm⟩ := C
  intro H locs ls hP hD hS hlv
  obtain ⟨q0, hq0⟩ := fl_at hg hm
  exact va_zald hx hb hK hP q0 2 hq0 rfl hin hd (kk H locs ls hP hD hS hlv)
theorem g_iast {a N : Nat} {f : Nat → Int32} {x z : Int32} {g : va_W} {Y2 : List va_W} (C : Ct E X cc own rm mL) (i q : Nat) (hg : Y[i]? = some g) (hm : g[q]? = some (a, .inl (E.2.1.1, N, .inl f))) (hin : vp_in z N) (hd : decode cc pc = .ok (.iastore, 1)) (hY : Y.set i (g.set q (a, .inl (E.2.1.1, N, .inl (upd f z.toNatClampNeg x)))) = Y2) (kk : G E X mL Y2 k n lv rest (pc + 1)) : G E X mL Y k n lv (.int x :: .int z :: .ref a :: rest) pc := by
  obtain ⟨p, l, e, R, s, m, args, below, meth, c, A, Q⟩ := X
  obtain ⟨hx, hb, hml, hown, hts, hK, hSE, hNE, hS0, hRm⟩ := C
  intro H locs ls hP hD hS hlv
  obtain ⟨q0, hq0, hset⟩ := fl_set Y i q g _ hg hm
  refine va_iast hx hb hK hP hD hS q0 0 hq0 rfl hin hd (fun H locs hP hD hS => ?_)
  rw [hset, hY] at hP hD
  exact kk H locs ls hP hD hS hlv
theorem g_cast {a N : Nat} {f : Nat → Int32} {x z : Int32} {g : va_W} {Y2 : List va_W} (C : Ct E X cc own rm mL) (i q : Nat) (hg : Y[i]? = some g) (hm : g[q]? = some (a, .inl (E.2.1.2.1, N, .inl f))) (hin : vp_in z N) (hd : decode cc pc = .ok (.castore, 1)) (hY : Y.set i (g.set q (a, .inl (E.2.1.2.1, N, .inl (upd f z.toNatClampNeg (vp_nar .char x))))) = Y2) (kk : G E X mL Y2 k n lv rest (pc + 1)) : G E X mL Y k n lv (.int x :: .int z :: .ref a :: rest) pc := by
  obtain ⟨p, l, e, R, s, m, args, below, meth, c, A, Q⟩ := X
  obtain ⟨hx, hb, hml, hown, hts, hK, hSE, hNE, hS0, hRm⟩ := C
  intro H locs ls hP hD hS hlv
  obtain ⟨q0, hq0, hset⟩ := fl_set Y i q g _ hg hm
  refine va_cast hx hb hK hP hD hS q0 1 hq0 rfl hin hd (fun H locs hP hD hS => ?_)
  rw [hset, hY] at hP hD
  exact kk H locs ls hP hD hS hlv
theorem g_zast {a N : Nat} {f : Nat → Int32} {x z : Int32} {g : va_W} {Y2 : List va_W} (C : Ct E X cc own rm mL) (i q : Nat) (hg : Y[i]? = some g) (hm : g[q]? = some (a, .inl (E.2.1.2.2.1, N, .inl f))) (hin : vp_in z N) (hd : decode cc pc = .ok (.bastore, 1)) (hY : Y.set i (g.set q (a, .inl (E.2.1.2.2.1, N, .inl (upd f z.toNatClampNeg (vp_nar .boolean x))))) = Y2) (kk : G E X mL Y2 k n lv rest (pc + 1)) : G E X mL Y k n lv (.int x :: .int z :: .ref a :: rest) pc := by
  obtain ⟨p, l, e, R, s, m, args, below, meth, c, A, Q⟩ := X
  obtain ⟨hx, hb, hml, hown, hts, hK, hSE, hNE, hS0, hRm⟩ := C
  intro H locs ls hP hD hS hlv
  obtain ⟨q0, hq0, hset⟩ := fl_set Y i q g _ hg hm
  refine va_zast hx hb hK hP hD hS q0 2 hq0 rfl hin hd (fun H locs hP hD hS => ?_)
  rw [hset, hY] at hP hD
  exact kk H locs ls hP hD hS hlv
theorem g_alen {a N : Nat} {f : Nat → Int32} {g : va_W} (C : Ct E X cc own rm mL) (i : Nat) (hg : Y[i]? = some g) (hm : (a, .inl (E.2.1.2.1, N, .inl f)) ∈ g) (hd : decode cc pc = .ok (.arraylength, 1)) (kk : G E X mL Y k n lv (.int (Int32.ofNat N) :: rest) (pc + 1)) : G E X mL Y k n lv (.ref a :: rest) pc := by
  obtain ⟨p, l, e, R, s, m, args, below, meth, c, A, Q⟩ := X
  obtain ⟨hx, hb, hml, hown, hts, hK, hSE, hNE, hS0, hRm⟩ := C
  intro H locs ls hP hD hS hlv
  obtain ⟨q0, hq0⟩ := fl_at hg hm
  exact va_alen hx hb hK hP q0 1 hq0 rfl rfl hd (kk H locs ls hP hD hS hlv)
theorem g_iret {v : Int32} {post : Option Value → List va_W → Prop} (C : Ct E X cc own rm mL) (K : Cr E X post rm (some .int)) (hd : decode cc pc = .ok (.ireturn, 1)) (h1 : k ≤ rm.cells) (h2 : n ≤ rm.slots) (hp : post (some (.int v)) Y) : G E X mL Y k n lv [.int v] pc := by
  obtain ⟨p, l, e, R, s, m, args, below, meth, c, A, Q⟩ := X
  obtain ⟨hx, hb, hml, hown, hts, hK, hSE, hNE, hS0, hRm⟩ := C
  intro H locs ls hP hD hS hlv
  obtain ⟨rfl, hlk, hr⟩ := K
  refine W.widen h1 h2 ?_
  exact W.iret hx hb hr (fun t ht hW => ⟨⟨_, Y, rfl, hp, by rw [ht]; exact hP, hK.moved hW.alike, hD⟩, hS.F ht⟩) hS.2.2 hd
theorem g_lret {v : Int64} {post : Option Value → List va_W → Prop} (C : Ct E X cc own rm mL) (K : Cr E X post rm (some .long)) (hd : decode cc pc = .ok (.lreturn, 1)) (h1 : k ≤ rm.cells) (h2 : n ≤ rm.slots) (hp : post (some (.long v)) Y) : G E X mL Y k n lv [.long v] pc := by
  obtain ⟨p, l, e, R, s, m, args, below, meth, c, A, Q⟩ := X
  obtain ⟨hx, hb, hml, hown, hts, hK, hSE, hNE, hS0, hRm⟩ := C
  intro H locs ls hP hD hS hlv
  obtain ⟨rfl, hlk, hr⟩ := K
  refine W.widen h1 h2 ?_
  exact W.lret hx hb hr (fun t ht hW => ⟨⟨_, Y, rfl, hp, by rw [ht]; exact hP, hK.moved hW.alike, hD⟩, hS.F ht⟩) hS.2.2 hd
theorem g_zret {v : Int32} {post : Option Value → List va_W → Prop} (C : Ct E X cc own rm mL) (K : Cr E X post rm (some .boolean)) (hz : v = 0 ∨ v = 1) (hd : decode cc pc = .ok (.ireturn, 1)) (h1 : k ≤ rm.cells) (h2 : n ≤ rm.slots) (hp : post (some (.int v)) Y) : G E X mL Y k n lv [.int v] pc := by
  obtain ⟨p, l, e, R, s, m, args, below, meth, c, A, Q⟩ := X
  obtain ⟨hx, hb, hml, hown, hts, hK, hSE, hNE, hS0, hRm⟩ := C
  intro H locs ls hP hD hS hlv
  obtain ⟨rfl, hlk, hr⟩ := K
  refine W.widen h1 h2 ?_
  exact W.zret hx hb hr (by rcases hz with rfl | rfl <;> rfl) (fun t ht hW => ⟨⟨_, Y, rfl, hp, by rw [ht]; exact hP, hK.moved hW.alike, hD⟩, hS.F ht⟩) hS.2.2 hd
theorem g_ret {post : Option Value → List va_W → Prop} (C : Ct E X cc own rm mL) (K : Cr E X post rm none) (hd : decode cc pc = .ok (.return_, 1)) (h1 : k ≤ rm.cells) (h2 : n ≤ rm.slots) (hp : post none Y) : G E X mL Y k n lv [] pc := by
  obtain ⟨p, l, e, R, s, m, args, below, meth, c, A, Q⟩ := X
  obtain ⟨hx, hb, hml, hown, hts, hK, hSE, hNE, hS0, hRm⟩ := C
  intro H locs ls hP hD hS hlv
  obtain ⟨rfl, hlk, hr⟩ := K
  refine W.widen h1 h2 ?_
  exact W.vret hx hb hr (fun t ht hW => ⟨⟨_, Y, rfl, hp, by rw [ht]; exact hP, hK.moved hW.alike, hD⟩, hS.F ht⟩) hS.2.2 hd
theorem g_aret {a : Nat} {rt : FieldType} {post : Option Value → List va_W → Prop} (C : Ct E X cc own rm mL) (K : Cr E X post rm (some rt)) (hrt : (∃ n, rt = .object n) ∨ ∃ t, rt = .array t) (hd : decode cc pc = .ok (.areturn, 1)) (h1 : k ≤ rm.cells) (h2 : n ≤ rm.slots) (hp : post (some (.ref a)) Y) : G E X mL Y k n lv [.ref a] pc := by
  obtain ⟨p, l, e, R, s, m, args, below, meth, c, A, Q⟩ := X
  obtain ⟨hx, hb, hml, hown, hts, hK, hSE, hNE, hS0, hRm⟩ := C
  intro H locs ls hP hD hS hlv
  obtain ⟨rfl, hlk, hr⟩ := K
  refine W.widen h1 h2 ?_
  exact W.aret hx hb hr hrt (Or.inr ⟨_, rfl⟩) (fun t ht hW => ⟨⟨_, Y, rfl, hp, by rw [ht]; exact hP, hK.moved hW.alike, hD⟩, hS.F ht⟩) hS.2.2 hd
theorem g_new {Cl : String} {T : u_T} {N ci idx : Nat} {ty0 : Nat → FieldType} {fs : List Value} (C : Ct E X cc own rm mL) (hin : ∀ w ∈ u_ws Cl T N, w ∈ tb) (hty : ∀ k, k < N → parseFieldDescriptor (T k).2.2.1 = some (ty0 k)) (hcl : Cond.classLink own idx Cl ∈ tb) (hinst : Cond.instantiable Cl N ∈ tb) (hini : Cond.initialized Cl ∈ tb) (hc : vwCl[ci]? = some (Cl, T, N)) (hfs : ∀ j, j < N → defaultValue (ty0 j) = vp_V fs j) (h1 : k + 1 ≤ rm.cells) (h2 : n + N ≤ rm.slots) (hd : decode cc pc = .ok (.new idx, 3)) (kk : ∀ a : Nat, G E X mL (Y ++ [[(a, .inr (ci, fs))]]) (k + 1) (n + N) lv (.ref a :: rest) (pc + 3)) : G E X mL Y k n lv rest pc := by
  obtain ⟨p, l, e, R, s, m, args, below, meth, c, A, Q⟩ := X
  obtain ⟨hx, hb, hml, hown, hts, hK, hSE, hNE, hS0, hRm⟩ := C
  intro H locs ls hP hD hS hlv
  subst hRm
  refine va_new hx hb hts hin ty0 hty hown (hts _ hcl) (hts _ hinst) (hts _ hini) hK hP hD hS hS0 hc hfs h1 h2 hd (fun a H hP hD hS => ?_)
  exact kk a H locs ls (by rw [List.flatten_append]; exact hP) (by rw [List.flatten_append]; exact hD) hS hlv
theorem g_newI {N : Nat} {z : Int32} (C : Ct E X cc own rm mL) (harr : Cond.arrayClass .int ∈ tb) (hz : ¬ z < 0) (hN : z.toNatClampNeg = N) (hby : N * 4 ≤ 536870912) (h1 : k + 1 ≤ rm.cells) (h2 : n + N ≤ rm.slots) (hd : decode cc pc = .ok (.newarray .int, 2)) (kk : ∀ a : Nat, G E X mL (Y ++ [[(a, .inl (E.2.1.1, N, .inl (fun _ => 0)))]]) (k + 1) (n + N) lv (.ref a :: rest) (pc + 2)) : G E X mL Y k n lv (.int z :: rest) pc := by
  obtain ⟨p, l, e, R, s, m, args, below, meth, c, A, Q⟩ := X
  obtain ⟨hx, hb, hml, hown, hts, hK, hSE, hNE, hS0, hRm⟩ := C
  intro H locs ls hP hD hS hlv
  subst hRm
  refine va_newa (atype := .int) (a0 := (N, .inl (fun _ => 0))) hx hb (hts _ harr) rfl hK hP hD hS hS0 (fun _ => rfl) hz hN (Nat.le_trans (Nat.mul_le_mul_left _ (by decide)) hby) h1 h2 hd (fun a cA H hK2 hP hD hS => ?_)
  have e1 := (hK.2 0 _ rfl).2
  have e2 := (hK2.2 4 _ rfl).2
  have e3 : cA = E.2.1.1 := Option.some.inj (Eq.trans (Eq.symm e2) e1)
  subst e3
  exact kk a H locs ls (by rw [List.flatten_append]; exact hP) (by rw [List.flatten_append]; exact hD) hS hlv
theorem g_newC {N : Nat} {z : Int32} (C : Ct E X cc own rm mL) (harr : Cond.arrayClass .char ∈ tb) (hz : ¬ z < 0) (hN : z.toNatClampNeg = N) (hby : N * 4 ≤ 536870912) (h1 : k + 1 ≤ rm.cells) (h2 : n + N ≤ rm.slots) (hd : decode cc pc = .ok (.newarray .char, 2)) (kk : ∀ a : Nat, G E X mL (Y ++ [[(a, .inl (E.2.1.2.1, N, .inl (fun _ => 0)))]]) (k + 1) (n + N) lv (.ref a :: rest) (pc + 2)) : G E X mL Y k n lv (.int z :: rest) pc := by
  obtain ⟨p, l, e, R, s, m, args, below, meth, c, A, Q⟩ := X
  obtain ⟨hx, hb, hml, hown, hts, hK, hSE, hNE, hS0, hRm⟩ := C
  intro H locs ls hP hD hS hlv
  subst hRm
  refine va_newa (atype := .char) (a0 := (N, .inl (fun _ => 0))) hx hb (hts _ harr) rfl hK hP hD hS hS0 (fun _ => rfl) hz hN (Nat.le_trans (Nat.mul_le_mul_left _ (by decide)) hby) h1 h2 hd (fun a cA H hK2 hP hD hS => ?_)
  have e1 := (hK.2 1 _ rfl).2
  have e2 := (hK2.2 4 _ rfl).2
  have e3 : cA = E.2.1.2.1 := Option.some.inj (Eq.trans (Eq.symm e2) e1)
  subst e3
  exact kk a H locs ls (by rw [List.flatten_append]; exact hP) (by rw [List.flatten_append]; exact hD) hS hlv
theorem g_newZ {N : Nat} {z : Int32} (C : Ct E X cc own rm mL) (harr : Cond.arrayClass .boolean ∈ tb) (hz : ¬ z < 0) (hN : z.toNatClampNeg = N) (hby : N * 4 ≤ 536870912) (h1 : k + 1 ≤ rm.cells) (h2 : n + N ≤ rm.slots) (hd : decode cc pc = .ok (.newarray .boolean, 2)) (kk : ∀ a : Nat, G E X mL (Y ++ [[(a, .inl (E.2.1.2.2.1, N, .inl (fun _ => 0)))]]) (k + 1) (n + N) lv (.ref a :: rest) (pc + 2)) : G E X mL Y k n lv (.int z :: rest) pc := by
  obtain ⟨p, l, e, R, s, m, args, below, meth, c, A, Q⟩ := X
  obtain ⟨hx, hb, hml, hown, hts, hK, hSE, hNE, hS0, hRm⟩ := C
  intro H locs ls hP hD hS hlv
  subst hRm
  refine va_newa (atype := .boolean) (a0 := (N, .inl (fun _ => 0))) hx hb (hts _ harr) rfl hK hP hD hS hS0 (fun _ => rfl) hz hN (Nat.le_trans (Nat.mul_le_mul_left _ (by decide)) hby) h1 h2 hd (fun a cA H hK2 hP hD hS => ?_)
  have e1 := (hK.2 2 _ rfl).2
  have e2 := (hK2.2 4 _ rfl).2
  have e3 : cA = E.2.1.2.2.1 := Option.some.inj (Eq.trans (Eq.symm e2) e1)
  subst e3
  exact kk a H locs ls (by rw [List.flatten_append]; exact hP) (by rw [List.flatten_append]; exact hD) hS hlv
theorem g_gets {Cn nm ds ref : String} {idx : Nat} {v : Value} (C : Ct E X cc own rm mL) (hZ : ∀ A U H, SE E A U H → va_Z Cn nm ds v A U H) (hl : Cond.fieldLink own idx ref nm ds ∈ tb) (hsame : Cn = ref) (hd : decode cc pc = .ok (.getstatic idx, 3)) (kk : G E X mL Y k n lv (v :: rest) (pc + 3)) : G E X mL Y k n lv rest pc := by
  obtain ⟨p, l, e, R, s, m, args, below, meth, c, A, Q⟩ := X
  obtain ⟨hx, hb, hml, hown, hts, hK, hSE, hNE, hS0, hRm⟩ := C
  intro H locs ls hP hD hS hlv
  exact va_gets hx hb (hZ _ _ _ hSE) hS hown (hts _ hl) (fun x h => by rw [← hsame]; exact h) hd (kk H locs ls hP hD hS hlv)
theorem g_getsN {Cn nm ds ref host : String} {idx : Nat} {v : Value} (C : Ct E X cc own rm mL) (hZ : ∀ A U H, SE E A U H → va_Z Cn nm ds v A U H) (hl : ∀ U, NE E U → va_Nw (.fieldLinkNest own idx ref nm ds host) U) (hsame : Cn = ref) (hd : decode cc pc = .ok (.getstatic idx, 3)) (kk : G E X mL Y k n lv (v :: rest) (pc + 3)) : G E X mL Y k n lv rest pc := by
  obtain ⟨p, l, e, R, s, m, args, below, meth, c, A, Q⟩ := X
  obtain ⟨hx, hb, hml, hown, hts, hK, hSE, hNE, hS0, hRm⟩ := C
  intro H locs ls hP hD hS hlv
  exact va_getsN hx hb (hZ _ _ _ hSE) hS hown (va_Nw.use rfl (hl _ hNE)) (fun x h => by rw [← hsame]; exact h) hd (kk H locs ls hP hD hS hlv)
theorem g_ti {t N : Nat} {f : Nat → Int32} {z : Int32} (C : Ct E X cc own rm mL) (hT : ∀ A U H, SE E A U H → va_T .int t N (fun j => .int (f j)) A U H) (hin : vp_in z N) (hd : decode cc pc = .ok (.iaload, 1)) (kk : G E X mL Y k n lv (.int (f z.toNatClampNeg) :: rest) (pc + 1)) : G E X mL Y k n lv (.int z :: .ref t :: rest) pc := by
  obtain ⟨p, l, e, R, s, m, args, below, meth, c, A, Q⟩ := X
  obtain ⟨hx, hb, hml, hown, hts, hK, hSE, hNE, hS0, hRm⟩ := C
  intro H locs ls hP hD hS hlv
  exact va_ti hx hb (hT _ _ _ hSE) hS hin rfl hd (kk H locs ls hP hD hS hlv)
theorem g_tb {t N : Nat} {f : Nat → Int32} {z : Int32} (C : Ct E X cc own rm mL) (hT : ∀ A U H, SE E A U H → va_T .byte t N (fun j => .int (f j)) A U H) (hin : vp_in z N) (hd : decode cc pc = .ok (.baload, 1)) (kk : G E X mL Y k n lv (.int (f z.toNatClampNeg) :: rest) (pc + 1)) : G E X mL Y k n lv (.int z :: .ref t :: rest) pc := by
  obtain ⟨p, l, e, R, s, m, args, below, meth, c, A, Q⟩ := X
  obtain ⟨hx, hb, hml, hown, hts, hK, hSE, hNE, hS0, hRm⟩ := C
  intro H locs ls hP hD hS hlv
  exact va_tb hx hb (hT _ _ _ hSE) hS hin rfl hd (kk H locs ls hP hD hS hlv)
theorem g_tlen {t N : Nat} {f : Nat → Int32} (C : Ct E X cc own rm mL) (hT : ∀ A U H, SE E A U H → va_T .byte t N (fun j => .int (f j)) A U H) (hd : decode cc pc = .ok (.arraylength, 1)) (kk : G E X mL Y k n lv (.int (Int32.ofNat N) :: rest) (pc + 1)) : G E X mL Y k n lv (.ref t :: rest) pc := by
  obtain ⟨p, l, e, R, s, m, args, below, meth, c, A, Q⟩ := X
  obtain ⟨hx, hb, hml, hown, hts, hK, hSE, hNE, hS0, hRm⟩ := C
  intro H locs ls hP hD hS hlv
  exact va_tlen hx hb (hT _ _ _ hSE) hS rfl hd (kk H locs ls hP hD hS hlv)
theorem g_skf {o nm ds ref : String} {idx q : Nat} {v : Value} (C : Ct E X cc own rm mL) (hE : ∀ A U H, SE E A U H → va_OF o nm ds v q A U H) (hl : Cond.fieldLink own idx ref nm ds ∈ tb) (hsame : o = ref) (hd : decode cc pc = .ok (.getfield idx, 3)) (kk : G E X mL Y k n lv (v :: rest) (pc + 3)) : G E X mL Y k n lv (.ref q :: rest) pc := by
  obtain ⟨p, l, e, R, s, m, args, below, meth, c, A, Q⟩ := X
  obtain ⟨hx, hb, hml, hown, hts, hK, hSE, hNE, hS0, hRm⟩ := C
  intro H locs ls hP hD hS hlv
  exact vk_getf hx hb (hE _ _ _ hSE) hS hown (hts _ hl) (fun x h => by rw [← hsame]; exact h) hd (kk H locs ls hP hD hS hlv)
theorem g_ldcS {tx : String} {idx q : Nat} (C : Ct E X cc own rm mL) (hZ : ∀ U, NE E U → vk_R own idx tx q U) (hd : decode cc pc = .ok (.ldc idx, 2)) (kk : G E X mL Y k n lv (.ref q :: rest) (pc + 2)) : G E X mL Y k n lv rest pc := by
  obtain ⟨p, l, e, R, s, m, args, below, meth, c, A, Q⟩ := X
  obtain ⟨hx, hb, hml, hown, hts, hK, hSE, hNE, hS0, hRm⟩ := C
  intro H locs ls hP hD hS hlv
  exact va_ldcS hx hb hown (hZ _ hNE) hd (kk H locs ls hP hD hS hlv)
theorem g_ldc {idx : Nat} {v : Int32} (C : Ct E X cc own rm mL) (hl : Cond.constant own idx v ∈ tb) (hd : decode cc pc = .ok (.ldc idx, 2)) (kk : G E X mL Y k n lv (.int v :: rest) (pc + 2)) : G E X mL Y k n lv rest pc := by
  obtain ⟨p, l, e, R, s, m, args, below, meth, c, A, Q⟩ := X
  obtain ⟨hx, hb, hml, hown, hts, hK, hSE, hNE, hS0, hRm⟩ := C
  intro H locs ls hP hD hS hlv
  exact lv_ldc hx hb hown (hts _ hl) hd (kk H locs ls hP hD hS hlv)
theorem g_ldcw {idx : Nat} {v : Int32} (C : Ct E X cc own rm mL) (hl : Cond.constant own idx v ∈ tb) (hd : decode cc pc = .ok (.ldc_w idx, 3)) (kk : G E X mL Y k n lv (.int v :: rest) (pc + 3)) : G E X mL Y k n lv rest pc := by
  obtain ⟨p, l, e, R, s, m, args, below, meth, c, A, Q⟩ := X
  obtain ⟨hx, hb, hml, hown, hts, hK, hSE, hNE, hS0, hRm⟩ := C
  intro H locs ls hP hD hS hlv
  exact lv_ldcw hx hb hown (hts _ hl) hd (kk H locs ls hP hD hS hlv)
theorem g_ldc2 {idx : Nat} {v : Int64} (C : Ct E X cc own rm mL) (hl : Cond.constantLong own idx v ∈ tb) (hd : decode cc pc = .ok (.ldc2_w idx, 3)) (kk : G E X mL Y k n lv (.long v :: rest) (pc + 3)) : G E X mL Y k n lv rest pc := by
  obtain ⟨p, l, e, R, s, m, args, below, meth, c, A, Q⟩ := X
  obtain ⟨hx, hb, hml, hown, hts, hK, hSE, hNE, hS0, hRm⟩ := C
  intro H locs ls hP hD hS hlv
  exact lv_ldc2 hx hb hown (hts _ hl) hd (kk H locs ls hP hD hS hlv)
theorem g_lookup {dflt : Int} {ps : Array (Int × Int)} {len : Nat} {x : Int32} {off : Int} {tgt : Nat} (C : Ct E X cc own rm mL) (hd : decode cc pc = .ok (.lookupswitch dflt ps, len)) (hp : (ps.toList.zip (ps.toList.drop 1)).all (fun (a, next) => a.1 < next.1) = true) (ho : Op.lookupswitch.offset ps.toList dflt x.toInt = off) (ht : (pc : Int) + off = (tgt : Int)) (kk : G E X mL Y k n lv rest tgt) : G E X mL Y k n lv (.int x :: rest) pc := by
  obtain ⟨p, l, e, R, s, m, args, below, meth, c, A, Q⟩ := X
  obtain ⟨hx, hb, hml, hown, hts, hK, hSE, hNE, hS0, hRm⟩ := C
  intro H locs ls hP hD hS hlv
  exact lv_lookup hx hb hd hp ho ht (kk H locs ls hP hD hS hlv)
theorem g_tout {dflt lo hi : Int} {offs : Array Int} {len : Nat} {x : Int32} {tgt : Nat} (C : Ct E X cc own rm mL) (hd : decode cc pc = .ok (.tableswitch dflt lo hi offs, len)) (h : x.toInt < lo ∨ hi < x.toInt) (ht : (pc : Int) + dflt = (tgt : Int)) (kk : G E X mL Y k n lv rest tgt) : G E X mL Y k n lv (.int x :: rest) pc := by
  obtain ⟨p, l, e, R, s, m, args, below, meth, c, A, Q⟩ := X
  obtain ⟨hx, hb, hml, hown, hts, hK, hSE, hNE, hS0, hRm⟩ := C
  intro H locs ls hP hD hS hlv
  exact lv_tableOut hx hb hd h ht (kk H locs ls hP hD hS hlv)
theorem g_tin {dflt lo hi : Int} {offs : Array Int} {len : Nat} {x : Int32} {off : Int} {tgt : Nat} (C : Ct E X cc own rm mL) (hd : decode cc pc = .ok (.tableswitch dflt lo hi offs, len)) (h1 : ¬ x.toInt < lo) (h2 : ¬ hi < x.toInt) (ho : offs[(x.toInt - lo).toNat]? = some off) (ht : (pc : Int) + off = (tgt : Int)) (kk : G E X mL Y k n lv rest tgt) : G E X mL Y k n lv (.int x :: rest) pc := by
  obtain ⟨p, l, e, R, s, m, args, below, meth, c, A, Q⟩ := X
  obtain ⟨hx, hb, hml, hown, hts, hK, hSE, hNE, hS0, hRm⟩ := C
  intro H locs ls hP hD hS hlv
  exact lv_tableIn hx hb hd h1 h2 ho ht (kk H locs ls hP hD hS hlv)
theorem g_aaload {a N : Nat} {f : Nat → Option Nat} {z : Int32} {v : Value} {g : va_W} (C : Ct E X cc own rm mL) (i : Nat) (hg : Y[i]? = some g) (hm : (a, .inl (E.2.1.2.2.2, N, .inr (.inr (.inr (.inr f))))) ∈ g) (hin : vp_in z N) (hv : va_rf (f z.toNatClampNeg) = v) (hd : decode cc pc = .ok (.aaload, 1)) (kk : G E X mL Y k n lv (v :: rest) (pc + 1)) : G E X mL Y k n lv (.int z :: .ref a :: rest) pc := by
  obtain ⟨p, l, e, R, s, m, args, below, meth, c, A, Q⟩ := X
  obtain ⟨hx, hb, hml, hown, hts, hK, hSE, hNE, hS0, hRm⟩ := C
  intro H locs ls hP hD hS hlv
  subst hv
  obtain ⟨q0, hq0⟩ := fl_at hg hm
  exact va_aldq hx hb hK hP q0 3 hq0 rfl hin hd (kk H locs ls hP hD hS hlv)
theorem g_aastore {a N v ci i2 : Nat} {vs : List Value} {f : Nat → Option Nat} {z : Int32} {g g2 : va_W} {Y2 : List va_W} {r : vw_C} (C : Ct E X cc own rm mL) (i q : Nat) (hg : Y[i]? = some g) (hm : g[q]? = some (a, .inl (E.2.1.2.2.2, N, .inr (.inr (.inr (.inr f)))))) (hg2 : Y[i2]? = some g2) (hm2 : (v, .inr (ci, vs)) ∈ g2) (hc : vwCl[ci]? = some r) (hr : r.1 = "SoftStairs$Stairs") (hin : vp_in z N) (hd : decode cc pc = .ok (.aastore, 1)) (hY : Y.set i (g.set q (a, .inl (E.2.1.2.2.2, N, .inr (.inr (.inr (.inr (va_up f z.toNatClampNeg (some v)))))))) = Y2) (kk : G E X mL Y2 k n lv rest (pc + 1)) : G E X mL Y k n lv (.ref v :: .int z :: .ref a :: rest) pc := by
  obtain ⟨p, l, e, R, s, m, args, below, meth, c, A, Q⟩ := X
  obtain ⟨hx, hb, hml, hown, hts, hK, hSE, hNE, hS0, hRm⟩ := C
  intro H locs ls hP hD hS hlv
  obtain ⟨q0, hq0, hset⟩ := fl_set Y i q g _ hg hm
  obtain ⟨q2, hq2⟩ := fl_at hg2 hm2
  refine va_astq hx hb hK hP hD hS q0 3 q2 ci hq0 (by rw [hr]; rfl) hq2 hc hin hd (fun H locs hP hD hS => ?_)
  rw [hset, hY] at hP hD
  exact kk H locs ls hP hD hS hlv
theorem g_newQ {N idx : Nat} {z : Int32} (C : Ct E X cc own rm mL) (hcl : Cond.classLink own idx "SoftStairs$Stairs" ∈ tb) (hz : ¬ z < 0) (hN : z.toNatClampNeg = N) (hby : N * 4 ≤ 536870912) (h1 : k + 1 ≤ rm.cells) (h2 : n + N ≤ rm.slots) (hd : decode cc pc = .ok (.anewarray idx, 3)) (kk : ∀ a : Nat, G E X mL (Y ++ [[(a, .inl (E.2.1.2.2.2, N, .inr (.inr (.inr (.inr (fun _ => none))))))]]) (k + 1) (n + N) lv (.ref a :: rest) (pc + 3)) : G E X mL Y k n lv (.int z :: rest) pc := by
  obtain ⟨p, l, e, R, s, m, args, below, meth, c, A, Q⟩ := X
  obtain ⟨hx, hb, hml, hown, hts, hK, hSE, hNE, hS0, hRm⟩ := C
  intro H locs ls hP hD hS hlv
  subst hRm
  refine va_newq hx hb hown (hts _ hcl) hNE.2.2.2.2.1 hK hP hD hS hS0 hz hN hby h1 h2 hd (fun a cA H hK2 hP hD hS => ?_)
  obtain ⟨-, -, -, -, -, e1⟩ := (hK.2 3 _ rfl).2
  obtain ⟨-, -, -, -, -, e2⟩ := (hK2.2 4 _ rfl).2
  have e3 : cA = E.2.1.2.2.2 := Option.some.inj (Eq.trans (Eq.symm e2) e1)
  subst e3
  exact kk a H locs ls (by rw [List.flatten_append]; exact hP) (by rw [List.flatten_append]; exact hD) hS hlv
theorem g_copyi {a a0 n0 n1 idx : Nat} {f h : Nat → Int32} {sp dp z : Int32} {g0 g : va_W} {Y2 : List va_W} (C : Ct E X cc own rm mL) (hl : Cond.methodLink own idx arraycopyName ∈ tb) (hnat : Cond.native arraycopyName ∈ tb) (hst : Cond.static arraycopyName ∈ tb) (hini : Cond.initialized "java/lang/System" ∈ tb) (i0 i q : Nat) (hg0 : Y[i0]? = some g0) (hm0 : (a0, .inl (E.2.1.1, n0, .inl f)) ∈ g0) (hg : Y[i]? = some g) (hm : g[q]? = some (a, .inl (E.2.1.1, n1, .inl h))) (h1 : ¬ sp < 0) (h2 : ¬ dp < 0) (h3 : ¬ z < 0) (h4 : sp.toNatClampNeg + z.toNatClampNeg ≤ n0) (h5 : dp.toNatClampNeg + z.toNatClampNeg ≤ n1) (hfr : 1 ≤ rm.frames) (hlo : (rest.map fun v => v.category).sum + 18 ≤ rm.locals) (hd : decode cc pc = .ok (.invokestatic idx, 3)) (hY : Y.set i (g.set q (a, .inl (E.2.1.1, n1, .inl (va_cpy f h sp.toNatClampNeg dp.toNatClampNeg z.toNatClampNeg)))) = Y2) (kk : G E X mL Y2 k n lv rest (pc + 3)) : G E X mL Y k n lv (.int z :: .int dp :: .ref a :: .int sp :: .ref a0 :: rest) pc := by
  obtain ⟨p, l, e, R, s, m, args, below, meth, c, A, Q⟩ := X
  obtain ⟨hx, hb, hml, hown, hts, hK, hSE, hNE, hS0, hRm⟩ := C
  intro H locs ls hP hD hS hlv
  subst hRm
  obtain ⟨q0, hq0, hset⟩ := fl_set Y i q g _ hg hm
  obtain ⟨q2, hq2⟩ := fl_at hg0 hm0
  refine va_copyi hx hb (by rw [hml, hlv.1]) hown (hts _ hl) (hts _ hnat) (hts _ hst) (hts _ hini) hK hP hD hS q2 q0 0 0 hq2 hq0 rfl rfl rfl h1 h2 h3 h4 h5 (fun _ _ => rfl) hfr hlo hd (fun H locs hP hD hS => ?_)
  rw [hset, hY] at hP hD
  exact kk H locs ls hP hD hS hlv
theorem g_copyx {a n1 idx t N : Nat} {f h : Nat → Int32} {sp dp z : Int32} {g : va_W} {Y2 : List va_W} (C : Ct E X cc own rm mL) (hT : ∀ A U H, SE E A U H → va_X t N f U H ∧ ¬ A t) (hl : Cond.methodLink own idx arraycopyName ∈ tb) (hnat : Cond.native arraycopyName ∈ tb) (hst : Cond.static arraycopyName ∈ tb) (hini : Cond.initialized "java/lang/System" ∈ tb) (i q : Nat) (hg : Y[i]? = some g) (hm : g[q]? = some (a, .inl (E.2.1.1, n1, .inl h))) (h1 : ¬ sp < 0) (h2 : ¬ dp < 0) (h3 : ¬ z < 0) (h4 : sp.toNatClampNeg + z.toNatClampNeg ≤ N) (h5 : dp.toNatClampNeg + z.toNatClampNeg ≤ n1) (hfr : 1 ≤ rm.frames) (hlo : (rest.map fun v => v.category).sum + 18 ≤ rm.locals) (hd : decode cc pc = .ok (.invokestatic idx, 3)) (hY : Y.set i (g.set q (a, .inl (E.2.1.1, n1, .inl (va_cpy f h sp.toNatClampNeg dp.toNatClampNeg z.toNatClampNeg)))) = Y2) (kk : G E X mL Y2 k n lv rest (pc + 3)) : G E X mL Y k n lv (.int z :: .int dp :: .ref a :: .int sp :: .ref t :: rest) pc := by
  obtain ⟨p, l, e, R, s, m, args, below, meth, c, A, Q⟩ := X
  obtain ⟨hx, hb, hml, hown, hts, hK, hSE, hNE, hS0, hRm⟩ := C
  intro H locs ls hP hD hS hlv
  subst hRm
  obtain ⟨q0, hq0, hset⟩ := fl_set Y i q g _ hg hm
  have hX9 := hT _ _ _ hSE
  refine va_copyx hx hb (by rw [hml, hlv.1]) hown (hts _ hl) (hts _ hnat) (hts _ hst) (hts _ hini) hK hP hD hS hX9.1 (Array.getElem?_eq_some_iff.mp hX9.1.choose_spec.1).1 hX9.2 q0 0 hq0 rfl h1 h2 h3 h4 h5 hfr hlo hd (fun H locs hP hD hS => ?_)
  rw [hset, hY] at hP hD
  exact kk H locs ls hP hD hS hlv
theorem g_mmax {idx : Nat} {x y : Int32} (C : Ct E X cc own rm mL) (hl : Cond.methodLink own idx Lib.Math.max.name ∈ tb) (hst : Cond.static Lib.Math.max.name ∈ tb) (hini : Cond.initialized "java/lang/Math" ∈ tb) (hco : Cond.code Lib.Math.max.name Lib.Math.max.code 2 (some .int) ∈ tb) (hfr : 1 ≤ rm.frames) (hlo : (rest.map fun v => v.category).sum + 13 ≤ rm.locals) (h1 : k ≤ rm.cells) (h2 : n ≤ rm.slots) (hd : decode cc pc = .ok (.invokestatic idx, 3)) (kk : G E X mL Y k n lv (.int (if x < y then y else x) :: rest) (pc + 3)) : G E X mL Y k n lv (.int y :: .int x :: rest) pc := by
  obtain ⟨p, l, e, R, s, m, args, below, meth, c, A, Q⟩ := X
  obtain ⟨hx, hb, hml, hown, hts, hK, hSE, hNE, hS0, hRm⟩ := C
  intro H locs ls hP hD hS hlv
  subst hRm
  exact va_mmax hx hb (by rw [hml, hlv.1]) hown (hts _ hl) (hts _ hst) (hts _ hini) (hts _ hco) hfr hlo h1 h2 hd (kk H locs ls hP hD hS hlv)
theorem g_mmin {idx : Nat} {x y : Int32} (C : Ct E X cc own rm mL) (hl : Cond.methodLink own idx Lib.Math.min.name ∈ tb) (hst : Cond.static Lib.Math.min.name ∈ tb) (hini : Cond.initialized "java/lang/Math" ∈ tb) (hco : Cond.code Lib.Math.min.name Lib.Math.min.code 2 (some .int) ∈ tb) (hfr : 1 ≤ rm.frames) (hlo : (rest.map fun v => v.category).sum + 13 ≤ rm.locals) (h1 : k ≤ rm.cells) (h2 : n ≤ rm.slots) (hd : decode cc pc = .ok (.invokestatic idx, 3)) (kk : G E X mL Y k n lv (.int (if y < x then y else x) :: rest) (pc + 3)) : G E X mL Y k n lv (.int y :: .int x :: rest) pc := by
  obtain ⟨p, l, e, R, s, m, args, below, meth, c, A, Q⟩ := X
  obtain ⟨hx, hb, hml, hown, hts, hK, hSE, hNE, hS0, hRm⟩ := C
  intro H locs ls hP hD hS hlv
  subst hRm
  exact va_mmin hx hb (by rw [hml, hlv.1]) hown (hts _ hl) (hts _ hst) (hts _ hini) (hts _ hco) hfr hlo h1 h2 hd (kk H locs ls hP hD hS hlv)
theorem g_mabs {idx : Nat} {x : Int32} (C : Ct E X cc own rm mL) (hl : Cond.methodLink own idx Lib.Math.abs.name ∈ tb) (hst : Cond.static Lib.Math.abs.name ∈ tb) (hini : Cond.initialized "java/lang/Math" ∈ tb) (hco : Cond.code Lib.Math.abs.name Lib.Math.abs.code 1 (some .int) ∈ tb) (hfr : 1 ≤ rm.frames) (hlo : (rest.map fun v => v.category).sum + 13 ≤ rm.locals) (h1 : k ≤ rm.cells) (h2 : n ≤ rm.slots) (hd : decode cc pc = .ok (.invokestatic idx, 3)) (kk : G E X mL Y k n lv (.int (if 0 ≤ x then x else 0 - x) :: rest) (pc + 3)) : G E X mL Y k n lv (.int x :: rest) pc := by
  obtain ⟨p, l, e, R, s, m, args, below, meth, c, A, Q⟩ := X
  obtain ⟨hx, hb, hml, hown, hts, hK, hSE, hNE, hS0, hRm⟩ := C
  intro H locs ls hP hD hS hlv
  subst hRm
  exact va_mabs hx hb (by rw [hml, hlv.1]) hown (hts _ hl) (hts _ hst) (hts _ hini) (hts _ hco) hfr hlo h1 h2 hd (kk H locs ls hP hD hS hlv)
end GR
end
