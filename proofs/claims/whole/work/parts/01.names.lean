-- ===== PART A: goes FIRST, ahead of the names: the tables' words, and 'selects' of the private methods out of them =====
/-- a private method of a class that the tables say can be made, by its rows of tables_1 -/
def lw_okq (q : MethodName × Nat) : Prop := (q.1.cls ≠ "java/lang/invoke/MethodHandle" ∧ q.1.cls ≠ "java/lang/invoke/VarHandle") ∧ Cond.instantiable q.1.cls q.2 ∈ tables_1 ∧ Cond.privateMethod q.1 ∈ tables_1 ∧ Cond.instanceMethod q.1 ∈ tables_1
theorem lw_p0 : lw_okq (⟨"HowFarShesGot", "refused", "(I)I"⟩, 11) := ⟨⟨by decide +kernel, by decide +kernel⟩, List.mem_of_getElem? (i := 20) (by decide +kernel), List.mem_of_getElem? (i := 187) (by decide +kernel), List.mem_of_getElem? (i := 188) (by decide +kernel)⟩
theorem lw_p1 : lw_okq (⟨"HowFarShesGot$Numbers", "isFull", "()Z"⟩, 2) := ⟨⟨by decide +kernel, by decide +kernel⟩, List.mem_of_getElem? (i := 71) (by decide +kernel), List.mem_of_getElem? (i := 191) (by decide +kernel), List.mem_of_getElem? (i := 192) (by decide +kernel)⟩
theorem lw_p2 : lw_okq (⟨"HowFarShesGot$Numbers", "add", "(I)I"⟩, 2) := ⟨⟨by decide +kernel, by decide +kernel⟩, List.mem_of_getElem? (i := 71) (by decide +kernel), List.mem_of_getElem? (i := 195) (by decide +kernel), List.mem_of_getElem? (i := 196) (by decide +kernel)⟩
theorem lw_p3 : lw_okq (⟨"HowFarShesGot$Garden", "become", "(LHowFarShesGot$Garden;)V"⟩, 7) := ⟨⟨by decide +kernel, by decide +kernel⟩, List.mem_of_getElem? (i := 28) (by decide +kernel), List.mem_of_getElem? (i := 203) (by decide +kernel), List.mem_of_getElem? (i := 204) (by decide +kernel)⟩
theorem lw_p4 : lw_okq (⟨"HowFarShesGot$Telling", "tellTo", "(LHowFarShesGot$Garden;)I"⟩, 1) := ⟨⟨by decide +kernel, by decide +kernel⟩, List.mem_of_getElem? (i := 65) (by decide +kernel), List.mem_of_getElem? (i := 210) (by decide +kernel), List.mem_of_getElem? (i := 211) (by decide +kernel)⟩
theorem lw_p5 : lw_okq (⟨"HowFarShesGot$Telling", "firstMisfit", "()I"⟩, 1) := ⟨⟨by decide +kernel, by decide +kernel⟩, List.mem_of_getElem? (i := 65) (by decide +kernel), List.mem_of_getElem? (i := 214) (by decide +kernel), List.mem_of_getElem? (i := 215) (by decide +kernel)⟩
theorem lw_p6 : lw_okq (⟨"HowFarShesGot$Numbers", "at", "(I)I"⟩, 2) := ⟨⟨by decide +kernel, by decide +kernel⟩, List.mem_of_getElem? (i := 71) (by decide +kernel), List.mem_of_getElem? (i := 219) (by decide +kernel), List.mem_of_getElem? (i := 220) (by decide +kernel)⟩
theorem lw_p7 : lw_okq (⟨"HowFarShesGot$Telling", "comes", "(LHowFarShesGot$Garden;I)Z"⟩, 1) := ⟨⟨by decide +kernel, by decide +kernel⟩, List.mem_of_getElem? (i := 65) (by decide +kernel), List.mem_of_getElem? (i := 345) (by decide +kernel), List.mem_of_getElem? (i := 346) (by decide +kernel)⟩
theorem lw_p8 : lw_okq (⟨"HowFarShesGot$Telling", "pairAt", "(I)I"⟩, 1) := ⟨⟨by decide +kernel, by decide +kernel⟩, List.mem_of_getElem? (i := 65) (by decide +kernel), List.mem_of_getElem? (i := 349) (by decide +kernel), List.mem_of_getElem? (i := 350) (by decide +kernel)⟩
theorem lw_p9 : lw_okq (⟨"HowFarShesGot$Telling", "digitAt", "(I)I"⟩, 1) := ⟨⟨by decide +kernel, by decide +kernel⟩, List.mem_of_getElem? (i := 65) (by decide +kernel), List.mem_of_getElem? (i := 353) (by decide +kernel), List.mem_of_getElem? (i := 354) (by decide +kernel)⟩
theorem lw_p10 : lw_okq (⟨"HowFarShesGot$Garden", "lay", "(III)Z"⟩, 7) := ⟨⟨by decide +kernel, by decide +kernel⟩, List.mem_of_getElem? (i := 28) (by decide +kernel), List.mem_of_getElem? (i := 357) (by decide +kernel), List.mem_of_getElem? (i := 358) (by decide +kernel)⟩
theorem lw_p11 : lw_okq (⟨"HowFarShesGot$Garden", "liveAt", "(I)Z"⟩, 7) := ⟨⟨by decide +kernel, by decide +kernel⟩, List.mem_of_getElem? (i := 28) (by decide +kernel), List.mem_of_getElem? (i := 365) (by decide +kernel), List.mem_of_getElem? (i := 366) (by decide +kernel)⟩
theorem lw_p12 : lw_okq (⟨"HowFarShesGot$Garden", "open", "()J"⟩, 7) := ⟨⟨by decide +kernel, by decide +kernel⟩, List.mem_of_getElem? (i := 28) (by decide +kernel), List.mem_of_getElem? (i := 369) (by decide +kernel), List.mem_of_getElem? (i := 370) (by decide +kernel)⟩
theorem lw_p13 : lw_okq (⟨"HowFarShesGot$Garden", "squaresOf", "(I)J"⟩, 7) := ⟨⟨by decide +kernel, by decide +kernel⟩, List.mem_of_getElem? (i := 28) (by decide +kernel), List.mem_of_getElem? (i := 373) (by decide +kernel), List.mem_of_getElem? (i := 374) (by decide +kernel)⟩
theorem lw_p14 : lw_okq (⟨"HowFarShesGot$Garden", "takePace", "(I)Z"⟩, 7) := ⟨⟨by decide +kernel, by decide +kernel⟩, List.mem_of_getElem? (i := 28) (by decide +kernel), List.mem_of_getElem? (i := 384) (by decide +kernel), List.mem_of_getElem? (i := 385) (by decide +kernel)⟩
theorem lw_p15 : lw_okq (⟨"HowFarShesGot$Garden", "takeWarm", "(I)Z"⟩, 7) := ⟨⟨by decide +kernel, by decide +kernel⟩, List.mem_of_getElem? (i := 28) (by decide +kernel), List.mem_of_getElem? (i := 388) (by decide +kernel), List.mem_of_getElem? (i := 389) (by decide +kernel)⟩
def lw_privs_1 : List (MethodName × Nat) := [(⟨"HowFarShesGot", "refused", "(I)I"⟩, 11), (⟨"HowFarShesGot$Numbers", "isFull", "()Z"⟩, 2), (⟨"HowFarShesGot$Numbers", "add", "(I)I"⟩, 2), (⟨"HowFarShesGot$Garden", "become", "(LHowFarShesGot$Garden;)V"⟩, 7), (⟨"HowFarShesGot$Telling", "tellTo", "(LHowFarShesGot$Garden;)I"⟩, 1), (⟨"HowFarShesGot$Telling", "firstMisfit", "()I"⟩, 1), (⟨"HowFarShesGot$Numbers", "at", "(I)I"⟩, 2), (⟨"HowFarShesGot$Telling", "comes", "(LHowFarShesGot$Garden;I)Z"⟩, 1), (⟨"HowFarShesGot$Telling", "pairAt", "(I)I"⟩, 1), (⟨"HowFarShesGot$Telling", "digitAt", "(I)I"⟩, 1), (⟨"HowFarShesGot$Garden", "lay", "(III)Z"⟩, 7), (⟨"HowFarShesGot$Garden", "liveAt", "(I)Z"⟩, 7), (⟨"HowFarShesGot$Garden", "open", "()J"⟩, 7), (⟨"HowFarShesGot$Garden", "squaresOf", "(I)J"⟩, 7), (⟨"HowFarShesGot$Garden", "takePace", "(I)Z"⟩, 7), (⟨"HowFarShesGot$Garden", "takeWarm", "(I)Z"⟩, 7)]
theorem lw_r1 : ∀ q ∈ lw_privs_1, lw_okq q := List.forall_mem_cons.mpr ⟨lw_p0, List.forall_mem_cons.mpr ⟨lw_p1, List.forall_mem_cons.mpr ⟨lw_p2, List.forall_mem_cons.mpr ⟨lw_p3, List.forall_mem_cons.mpr ⟨lw_p4, List.forall_mem_cons.mpr ⟨lw_p5, List.forall_mem_cons.mpr ⟨lw_p6, List.forall_mem_cons.mpr ⟨lw_p7, List.forall_mem_cons.mpr ⟨lw_p8, List.forall_mem_cons.mpr ⟨lw_p9, List.forall_mem_cons.mpr ⟨lw_p10, List.forall_mem_cons.mpr ⟨lw_p11, List.forall_mem_cons.mpr ⟨lw_p12, List.forall_mem_cons.mpr ⟨lw_p13, List.forall_mem_cons.mpr ⟨lw_p14, List.forall_mem_cons.mpr ⟨lw_p15, fun _ h => absurd h List.not_mem_nil⟩⟩⟩⟩⟩⟩⟩⟩⟩⟩⟩⟩⟩⟩⟩⟩
theorem lw_p16 : lw_okq (⟨"HowFarShesGot$Garden", "addSeeker", "(II)Z"⟩, 7) := ⟨⟨by decide +kernel, by decide +kernel⟩, List.mem_of_getElem? (i := 28) (by decide +kernel), List.mem_of_getElem? (i := 392) (by decide +kernel), List.mem_of_getElem? (i := 393) (by decide +kernel)⟩
theorem lw_p17 : lw_okq (⟨"HowFarShesGot$Numbers", "clear", "()V"⟩, 2) := ⟨⟨by decide +kernel, by decide +kernel⟩, List.mem_of_getElem? (i := 71) (by decide +kernel), List.mem_of_getElem? (i := 396) (by decide +kernel), List.mem_of_getElem? (i := 397) (by decide +kernel)⟩
theorem lw_p18 : lw_okq (⟨"HowFarShesGot$Garden", "kindAt", "(I)I"⟩, 7) := ⟨⟨by decide +kernel, by decide +kernel⟩, List.mem_of_getElem? (i := 28) (by decide +kernel), List.mem_of_getElem? (i := 405) (by decide +kernel), List.mem_of_getElem? (i := 406) (by decide +kernel)⟩
theorem lw_p19 : lw_okq (⟨"HowFarShesGot$Garden", "stepsOff", "(I)I"⟩, 7) := ⟨⟨by decide +kernel, by decide +kernel⟩, List.mem_of_getElem? (i := 28) (by decide +kernel), List.mem_of_getElem? (i := 414) (by decide +kernel), List.mem_of_getElem? (i := 415) (by decide +kernel)⟩
theorem lw_p20 : lw_okq (⟨"HowFarShesGot$Garden", "stepsOffSun", "()I"⟩, 7) := ⟨⟨by decide +kernel, by decide +kernel⟩, List.mem_of_getElem? (i := 28) (by decide +kernel), List.mem_of_getElem? (i := 419) (by decide +kernel), List.mem_of_getElem? (i := 420) (by decide +kernel)⟩
theorem lw_p21 : lw_okq (⟨"HowFarShesGot", "setHome", "(I)I"⟩, 11) := ⟨⟨by decide +kernel, by decide +kernel⟩, List.mem_of_getElem? (i := 20) (by decide +kernel), List.mem_of_getElem? (i := 432) (by decide +kernel), List.mem_of_getElem? (i := 433) (by decide +kernel)⟩
theorem lw_p22 : lw_okq (⟨"HowFarShesGot", "setPace", "(I)I"⟩, 11) := ⟨⟨by decide +kernel, by decide +kernel⟩, List.mem_of_getElem? (i := 20) (by decide +kernel), List.mem_of_getElem? (i := 437) (by decide +kernel), List.mem_of_getElem? (i := 438) (by decide +kernel)⟩
theorem lw_p23 : lw_okq (⟨"HowFarShesGot", "setWarm", "(I)I"⟩, 11) := ⟨⟨by decide +kernel, by decide +kernel⟩, List.mem_of_getElem? (i := 20) (by decide +kernel), List.mem_of_getElem? (i := 442) (by decide +kernel), List.mem_of_getElem? (i := 443) (by decide +kernel)⟩
theorem lw_p24 : lw_okq (⟨"HowFarShesGot$Garden", "hasSeeker", "(I)Z"⟩, 7) := ⟨⟨by decide +kernel, by decide +kernel⟩, List.mem_of_getElem? (i := 28) (by decide +kernel), List.mem_of_getElem? (i := 451) (by decide +kernel), List.mem_of_getElem? (i := 452) (by decide +kernel)⟩
theorem lw_p25 : lw_okq (⟨"HowFarShesGot$Garden", "kindOfSeeker", "(I)I"⟩, 7) := ⟨⟨by decide +kernel, by decide +kernel⟩, List.mem_of_getElem? (i := 28) (by decide +kernel), List.mem_of_getElem? (i := 455) (by decide +kernel), List.mem_of_getElem? (i := 456) (by decide +kernel)⟩
theorem lw_p26 : lw_okq (⟨"HowFarShesGot$Garden", "squareOfSeeker", "(I)I"⟩, 7) := ⟨⟨by decide +kernel, by decide +kernel⟩, List.mem_of_getElem? (i := 28) (by decide +kernel), List.mem_of_getElem? (i := 460) (by decide +kernel), List.mem_of_getElem? (i := 461) (by decide +kernel)⟩
theorem lw_p27 : lw_okq (⟨"HowFarShesGot$Garden", "placeSeeker", "(II)V"⟩, 7) := ⟨⟨by decide +kernel, by decide +kernel⟩, List.mem_of_getElem? (i := 28) (by decide +kernel), List.mem_of_getElem? (i := 468) (by decide +kernel), List.mem_of_getElem? (i := 469) (by decide +kernel)⟩
theorem lw_p28 : lw_okq (⟨"HowFarShesGot$Wave", "spread", "(LHowFarShesGot$Garden;IJ)V"⟩, 2) := ⟨⟨by decide +kernel, by decide +kernel⟩, List.mem_of_getElem? (i := 96) (by decide +kernel), List.mem_of_getElem? (i := 476) (by decide +kernel), List.mem_of_getElem? (i := 477) (by decide +kernel)⟩
theorem lw_p29 : lw_okq (⟨"HowFarShesGot$Wave", "layer", "(I)J"⟩, 2) := ⟨⟨by decide +kernel, by decide +kernel⟩, List.mem_of_getElem? (i := 96) (by decide +kernel), List.mem_of_getElem? (i := 485) (by decide +kernel), List.mem_of_getElem? (i := 486) (by decide +kernel)⟩
theorem lw_p30 : lw_okq (⟨"HowFarShesGot$Wave", "stepsTo", "(J)I"⟩, 2) := ⟨⟨by decide +kernel, by decide +kernel⟩, List.mem_of_getElem? (i := 96) (by decide +kernel), List.mem_of_getElem? (i := 498) (by decide +kernel), List.mem_of_getElem? (i := 499) (by decide +kernel)⟩
theorem lw_p31 : lw_okq (⟨"HowFarShesGot", "reachedBy", "(I)J"⟩, 11) := ⟨⟨by decide +kernel, by decide +kernel⟩, List.mem_of_getElem? (i := 20) (by decide +kernel), List.mem_of_getElem? (i := 506) (by decide +kernel), List.mem_of_getElem? (i := 507) (by decide +kernel)⟩
def lw_privs_2 : List (MethodName × Nat) := [(⟨"HowFarShesGot$Garden", "addSeeker", "(II)Z"⟩, 7), (⟨"HowFarShesGot$Numbers", "clear", "()V"⟩, 2), (⟨"HowFarShesGot$Garden", "kindAt", "(I)I"⟩, 7), (⟨"HowFarShesGot$Garden", "stepsOff", "(I)I"⟩, 7), (⟨"HowFarShesGot$Garden", "stepsOffSun", "()I"⟩, 7), (⟨"HowFarShesGot", "setHome", "(I)I"⟩, 11), (⟨"HowFarShesGot", "setPace", "(I)I"⟩, 11), (⟨"HowFarShesGot", "setWarm", "(I)I"⟩, 11), (⟨"HowFarShesGot$Garden", "hasSeeker", "(I)Z"⟩, 7), (⟨"HowFarShesGot$Garden", "kindOfSeeker", "(I)I"⟩, 7), (⟨"HowFarShesGot$Garden", "squareOfSeeker", "(I)I"⟩, 7), (⟨"HowFarShesGot$Garden", "placeSeeker", "(II)V"⟩, 7), (⟨"HowFarShesGot$Wave", "spread", "(LHowFarShesGot$Garden;IJ)V"⟩, 2), (⟨"HowFarShesGot$Wave", "layer", "(I)J"⟩, 2), (⟨"HowFarShesGot$Wave", "stepsTo", "(J)I"⟩, 2), (⟨"HowFarShesGot", "reachedBy", "(I)J"⟩, 11)]
theorem lw_r2 : ∀ q ∈ lw_privs_2, lw_okq q := List.forall_mem_cons.mpr ⟨lw_p16, List.forall_mem_cons.mpr ⟨lw_p17, List.forall_mem_cons.mpr ⟨lw_p18, List.forall_mem_cons.mpr ⟨lw_p19, List.forall_mem_cons.mpr ⟨lw_p20, List.forall_mem_cons.mpr ⟨lw_p21, List.forall_mem_cons.mpr ⟨lw_p22, List.forall_mem_cons.mpr ⟨lw_p23, List.forall_mem_cons.mpr ⟨lw_p24, List.forall_mem_cons.mpr ⟨lw_p25, List.forall_mem_cons.mpr ⟨lw_p26, List.forall_mem_cons.mpr ⟨lw_p27, List.forall_mem_cons.mpr ⟨lw_p28, List.forall_mem_cons.mpr ⟨lw_p29, List.forall_mem_cons.mpr ⟨lw_p30, List.forall_mem_cons.mpr ⟨lw_p31, fun _ h => absurd h List.not_mem_nil⟩⟩⟩⟩⟩⟩⟩⟩⟩⟩⟩⟩⟩⟩⟩⟩
theorem lw_p32 : lw_okq (⟨"HowFarShesGot$Wave", "within", "(I)J"⟩, 2) := ⟨⟨by decide +kernel, by decide +kernel⟩, List.mem_of_getElem? (i := 96) (by decide +kernel), List.mem_of_getElem? (i := 510) (by decide +kernel), List.mem_of_getElem? (i := 511) (by decide +kernel)⟩
theorem lw_p33 : lw_okq (⟨"HowFarShesGot", "getsOut", "(J)Z"⟩, 11) := ⟨⟨by decide +kernel, by decide +kernel⟩, List.mem_of_getElem? (i := 20) (by decide +kernel), List.mem_of_getElem? (i := 543) (by decide +kernel), List.mem_of_getElem? (i := 544) (by decide +kernel)⟩
theorem lw_p34 : lw_okq (⟨"HowFarShesGot", "flooded", "(J)J"⟩, 11) := ⟨⟨by decide +kernel, by decide +kernel⟩, List.mem_of_getElem? (i := 20) (by decide +kernel), List.mem_of_getElem? (i := 547) (by decide +kernel), List.mem_of_getElem? (i := 548) (by decide +kernel)⟩
theorem lw_p35 : lw_okq (⟨"HowFarShesGot", "wrongSearch", "(III)I"⟩, 11) := ⟨⟨by decide +kernel, by decide +kernel⟩, List.mem_of_getElem? (i := 20) (by decide +kernel), List.mem_of_getElem? (i := 562) (by decide +kernel), List.mem_of_getElem? (i := 563) (by decide +kernel)⟩
theorem lw_p36 : lw_okq (⟨"HowFarShesGot", "looksTillEmpty", "(III)I"⟩, 11) := ⟨⟨by decide +kernel, by decide +kernel⟩, List.mem_of_getElem? (i := 20) (by decide +kernel), List.mem_of_getElem? (i := 566) (by decide +kernel), List.mem_of_getElem? (i := 567) (by decide +kernel)⟩
theorem lw_p37 : lw_okq (⟨"HowFarShesGot$Hunt", "begin", "(LHowFarShesGot$Garden;JI)V"⟩, 3) := ⟨⟨by decide +kernel, by decide +kernel⟩, List.mem_of_getElem? (i := 109) (by decide +kernel), List.mem_of_getElem? (i := 570) (by decide +kernel), List.mem_of_getElem? (i := 571) (by decide +kernel)⟩
theorem lw_p38 : lw_okq (⟨"HowFarShesGot$Hunt", "seek", "(LHowFarShesGot$Garden;II)V"⟩, 3) := ⟨⟨by decide +kernel, by decide +kernel⟩, List.mem_of_getElem? (i := 109) (by decide +kernel), List.mem_of_getElem? (i := 576) (by decide +kernel), List.mem_of_getElem? (i := 577) (by decide +kernel)⟩
theorem lw_p39 : lw_okq (⟨"HowFarShesGot$Hunt", "choice", "(LHowFarShesGot$Garden;II)I"⟩, 3) := ⟨⟨by decide +kernel, by decide +kernel⟩, List.mem_of_getElem? (i := 109) (by decide +kernel), List.mem_of_getElem? (i := 580) (by decide +kernel), List.mem_of_getElem? (i := 581) (by decide +kernel)⟩
theorem lw_p40 : lw_okq (⟨"HowFarShesGot$Hunt", "standOf", "(I)J"⟩, 3) := ⟨⟨by decide +kernel, by decide +kernel⟩, List.mem_of_getElem? (i := 109) (by decide +kernel), List.mem_of_getElem? (i := 584) (by decide +kernel), List.mem_of_getElem? (i := 585) (by decide +kernel)⟩
theorem lw_p41 : lw_okq (⟨"HowFarShesGot$Hunt", "nearest", "(J)I"⟩, 3) := ⟨⟨by decide +kernel, by decide +kernel⟩, List.mem_of_getElem? (i := 109) (by decide +kernel), List.mem_of_getElem? (i := 588) (by decide +kernel), List.mem_of_getElem? (i := 589) (by decide +kernel)⟩
theorem lw_p42 : lw_okq (⟨"HowFarShesGot$Hunt", "withMostBeside", "()I"⟩, 3) := ⟨⟨by decide +kernel, by decide +kernel⟩, List.mem_of_getElem? (i := 109) (by decide +kernel), List.mem_of_getElem? (i := 594) (by decide +kernel), List.mem_of_getElem? (i := 595) (by decide +kernel)⟩
theorem lw_p43 : lw_okq (⟨"HowFarShesGot$Hunt", "withFewestBeside", "()I"⟩, 3) := ⟨⟨by decide +kernel, by decide +kernel⟩, List.mem_of_getElem? (i := 109) (by decide +kernel), List.mem_of_getElem? (i := 599) (by decide +kernel), List.mem_of_getElem? (i := 600) (by decide +kernel)⟩
theorem lw_p44 : lw_okq (⟨"HowFarShesGot$Hunt", "goalAhead", "(JI)J"⟩, 3) := ⟨⟨by decide +kernel, by decide +kernel⟩, List.mem_of_getElem? (i := 109) (by decide +kernel), List.mem_of_getElem? (i := 604) (by decide +kernel), List.mem_of_getElem? (i := 605) (by decide +kernel)⟩
theorem lw_p45 : lw_okq (⟨"HowFarShesGot$Hunt", "look", "(LHowFarShesGot$Garden;I)V"⟩, 3) := ⟨⟨by decide +kernel, by decide +kernel⟩, List.mem_of_getElem? (i := 109) (by decide +kernel), List.mem_of_getElem? (i := 608) (by decide +kernel), List.mem_of_getElem? (i := 609) (by decide +kernel)⟩
theorem lw_p46 : lw_okq (⟨"HowFarShesGot", "lookOften", "(III)V"⟩, 11) := ⟨⟨by decide +kernel, by decide +kernel⟩, List.mem_of_getElem? (i := 20) (by decide +kernel), List.mem_of_getElem? (i := 619) (by decide +kernel), List.mem_of_getElem? (i := 620) (by decide +kernel)⟩
theorem lw_p47 : lw_okq (⟨"HowFarShesGot", "looksOfAll", "(I)I"⟩, 11) := ⟨⟨by decide +kernel, by decide +kernel⟩, List.mem_of_getElem? (i := 20) (by decide +kernel), List.mem_of_getElem? (i := 642) (by decide +kernel), List.mem_of_getElem? (i := 643) (by decide +kernel)⟩
def lw_privs_3 : List (MethodName × Nat) := [(⟨"HowFarShesGot$Wave", "within", "(I)J"⟩, 2), (⟨"HowFarShesGot", "getsOut", "(J)Z"⟩, 11), (⟨"HowFarShesGot", "flooded", "(J)J"⟩, 11), (⟨"HowFarShesGot", "wrongSearch", "(III)I"⟩, 11), (⟨"HowFarShesGot", "looksTillEmpty", "(III)I"⟩, 11), (⟨"HowFarShesGot$Hunt", "begin", "(LHowFarShesGot$Garden;JI)V"⟩, 3), (⟨"HowFarShesGot$Hunt", "seek", "(LHowFarShesGot$Garden;II)V"⟩, 3), (⟨"HowFarShesGot$Hunt", "choice", "(LHowFarShesGot$Garden;II)I"⟩, 3), (⟨"HowFarShesGot$Hunt", "standOf", "(I)J"⟩, 3), (⟨"HowFarShesGot$Hunt", "nearest", "(J)I"⟩, 3), (⟨"HowFarShesGot$Hunt", "withMostBeside", "()I"⟩, 3), (⟨"HowFarShesGot$Hunt", "withFewestBeside", "()I"⟩, 3), (⟨"HowFarShesGot$Hunt", "goalAhead", "(JI)J"⟩, 3), (⟨"HowFarShesGot$Hunt", "look", "(LHowFarShesGot$Garden;I)V"⟩, 3), (⟨"HowFarShesGot", "lookOften", "(III)V"⟩, 11), (⟨"HowFarShesGot", "looksOfAll", "(I)I"⟩, 11)]
theorem lw_r3 : ∀ q ∈ lw_privs_3, lw_okq q := List.forall_mem_cons.mpr ⟨lw_p32, List.forall_mem_cons.mpr ⟨lw_p33, List.forall_mem_cons.mpr ⟨lw_p34, List.forall_mem_cons.mpr ⟨lw_p35, List.forall_mem_cons.mpr ⟨lw_p36, List.forall_mem_cons.mpr ⟨lw_p37, List.forall_mem_cons.mpr ⟨lw_p38, List.forall_mem_cons.mpr ⟨lw_p39, List.forall_mem_cons.mpr ⟨lw_p40, List.forall_mem_cons.mpr ⟨lw_p41, List.forall_mem_cons.mpr ⟨lw_p42, List.forall_mem_cons.mpr ⟨lw_p43, List.forall_mem_cons.mpr ⟨lw_p44, List.forall_mem_cons.mpr ⟨lw_p45, List.forall_mem_cons.mpr ⟨lw_p46, List.forall_mem_cons.mpr ⟨lw_p47, fun _ h => absurd h List.not_mem_nil⟩⟩⟩⟩⟩⟩⟩⟩⟩⟩⟩⟩⟩⟩⟩⟩
theorem lw_p48 : lw_okq (⟨"HowFarShesGot", "rowTellsSquares", "(I)Z"⟩, 11) := ⟨⟨by decide +kernel, by decide +kernel⟩, List.mem_of_getElem? (i := 20) (by decide +kernel), List.mem_of_getElem? (i := 650) (by decide +kernel), List.mem_of_getElem? (i := 651) (by decide +kernel)⟩
theorem lw_p49 : lw_okq (⟨"HowFarShesGot", "squaresOfRow", "()J"⟩, 11) := ⟨⟨by decide +kernel, by decide +kernel⟩, List.mem_of_getElem? (i := 20) (by decide +kernel), List.mem_of_getElem? (i := 656) (by decide +kernel), List.mem_of_getElem? (i := 657) (by decide +kernel)⟩
theorem lw_p50 : lw_okq (⟨"HowFarShesGot", "reachedWhenHeld", "(J)J"⟩, 11) := ⟨⟨by decide +kernel, by decide +kernel⟩, List.mem_of_getElem? (i := 20) (by decide +kernel), List.mem_of_getElem? (i := 660) (by decide +kernel), List.mem_of_getElem? (i := 661) (by decide +kernel)⟩
theorem lw_p51 : lw_okq (⟨"HowFarShesGot", "oneMore", "(J)I"⟩, 11) := ⟨⟨by decide +kernel, by decide +kernel⟩, List.mem_of_getElem? (i := 20) (by decide +kernel), List.mem_of_getElem? (i := 664) (by decide +kernel), List.mem_of_getElem? (i := 665) (by decide +kernel)⟩
theorem lw_p52 : lw_okq (⟨"HowFarShesGot", "refusedLong", "(I)J"⟩, 11) := ⟨⟨by decide +kernel, by decide +kernel⟩, List.mem_of_getElem? (i := 20) (by decide +kernel), List.mem_of_getElem? (i := 675) (by decide +kernel), List.mem_of_getElem? (i := 676) (by decide +kernel)⟩
theorem lw_p53 : lw_okq (⟨"HowFarShesGot$Chances", "walk", "(LHowFarShesGot$Garden;I)V"⟩, 2) := ⟨⟨by decide +kernel, by decide +kernel⟩, List.mem_of_getElem? (i := 126) (by decide +kernel), List.mem_of_getElem? (i := 680) (by decide +kernel), List.mem_of_getElem? (i := 681) (by decide +kernel)⟩
theorem lw_p54 : lw_okq (⟨"HowFarShesGot$Chances", "comingOnto", "(LHowFarShesGot$Garden;I)J"⟩, 2) := ⟨⟨by decide +kernel, by decide +kernel⟩, List.mem_of_getElem? (i := 126) (by decide +kernel), List.mem_of_getElem? (i := 685) (by decide +kernel), List.mem_of_getElem? (i := 686) (by decide +kernel)⟩
theorem lw_p55 : lw_okq (⟨"HowFarShesGot$Chances", "endingOn", "(I)J"⟩, 2) := ⟨⟨by decide +kernel, by decide +kernel⟩, List.mem_of_getElem? (i := 126) (by decide +kernel), List.mem_of_getElem? (i := 696) (by decide +kernel), List.mem_of_getElem? (i := 697) (by decide +kernel)⟩
theorem lw_p56 : lw_okq (⟨"HowFarShesGot$Chances", "inAll", "()J"⟩, 2) := ⟨⟨by decide +kernel, by decide +kernel⟩, List.mem_of_getElem? (i := 126) (by decide +kernel), List.mem_of_getElem? (i := 704) (by decide +kernel), List.mem_of_getElem? (i := 705) (by decide +kernel)⟩
theorem lw_p57 : lw_okq (⟨"HowFarShesGot$Chances", "likeliestSquare", "()I"⟩, 2) := ⟨⟨by decide +kernel, by decide +kernel⟩, List.mem_of_getElem? (i := 126) (by decide +kernel), List.mem_of_getElem? (i := 715) (by decide +kernel), List.mem_of_getElem? (i := 716) (by decide +kernel)⟩
theorem lw_p58 : lw_okq (⟨"HowFarShesGot", "afterTurning", "(II)J"⟩, 11) := ⟨⟨by decide +kernel, by decide +kernel⟩, List.mem_of_getElem? (i := 20) (by decide +kernel), List.mem_of_getElem? (i := 724) (by decide +kernel), List.mem_of_getElem? (i := 725) (by decide +kernel)⟩
theorem lw_p59 : lw_okq (⟨"HowFarShesGot", "firstWrongPair", "(I)I"⟩, 11) := ⟨⟨by decide +kernel, by decide +kernel⟩, List.mem_of_getElem? (i := 20) (by decide +kernel), List.mem_of_getElem? (i := 732) (by decide +kernel), List.mem_of_getElem? (i := 733) (by decide +kernel)⟩
theorem lw_p60 : lw_okq (⟨"HowFarShesGot", "homesOfTraces", "()J"⟩, 11) := ⟨⟨by decide +kernel, by decide +kernel⟩, List.mem_of_getElem? (i := 20) (by decide +kernel), List.mem_of_getElem? (i := 736) (by decide +kernel), List.mem_of_getElem? (i := 737) (by decide +kernel)⟩
theorem lw_p61 : lw_okq (⟨"HowFarShesGot$Lot", "seed", "(I)V"⟩, 1) := ⟨⟨by decide +kernel, by decide +kernel⟩, List.mem_of_getElem? (i := 139) (by decide +kernel), List.mem_of_getElem? (i := 757) (by decide +kernel), List.mem_of_getElem? (i := 758) (by decide +kernel)⟩
theorem lw_p62 : lw_okq (⟨"HowFarShesGot", "afterWalkByLot", "()J"⟩, 11) := ⟨⟨by decide +kernel, by decide +kernel⟩, List.mem_of_getElem? (i := 20) (by decide +kernel), List.mem_of_getElem? (i := 761) (by decide +kernel), List.mem_of_getElem? (i := 762) (by decide +kernel)⟩
theorem lw_p63 : lw_okq (⟨"HowFarShesGot$Lot", "draw", "(I)I"⟩, 1) := ⟨⟨by decide +kernel, by decide +kernel⟩, List.mem_of_getElem? (i := 139) (by decide +kernel), List.mem_of_getElem? (i := 765) (by decide +kernel), List.mem_of_getElem? (i := 766) (by decide +kernel)⟩
def lw_privs_4 : List (MethodName × Nat) := [(⟨"HowFarShesGot", "rowTellsSquares", "(I)Z"⟩, 11), (⟨"HowFarShesGot", "squaresOfRow", "()J"⟩, 11), (⟨"HowFarShesGot", "reachedWhenHeld", "(J)J"⟩, 11), (⟨"HowFarShesGot", "oneMore", "(J)I"⟩, 11), (⟨"HowFarShesGot", "refusedLong", "(I)J"⟩, 11), (⟨"HowFarShesGot$Chances", "walk", "(LHowFarShesGot$Garden;I)V"⟩, 2), (⟨"HowFarShesGot$Chances", "comingOnto", "(LHowFarShesGot$Garden;I)J"⟩, 2), (⟨"HowFarShesGot$Chances", "endingOn", "(I)J"⟩, 2), (⟨"HowFarShesGot$Chances", "inAll", "()J"⟩, 2), (⟨"HowFarShesGot$Chances", "likeliestSquare", "()I"⟩, 2), (⟨"HowFarShesGot", "afterTurning", "(II)J"⟩, 11), (⟨"HowFarShesGot", "firstWrongPair", "(I)I"⟩, 11), (⟨"HowFarShesGot", "homesOfTraces", "()J"⟩, 11), (⟨"HowFarShesGot$Lot", "seed", "(I)V"⟩, 1), (⟨"HowFarShesGot", "afterWalkByLot", "()J"⟩, 11), (⟨"HowFarShesGot$Lot", "draw", "(I)I"⟩, 1)]
theorem lw_r4 : ∀ q ∈ lw_privs_4, lw_okq q := List.forall_mem_cons.mpr ⟨lw_p48, List.forall_mem_cons.mpr ⟨lw_p49, List.forall_mem_cons.mpr ⟨lw_p50, List.forall_mem_cons.mpr ⟨lw_p51, List.forall_mem_cons.mpr ⟨lw_p52, List.forall_mem_cons.mpr ⟨lw_p53, List.forall_mem_cons.mpr ⟨lw_p54, List.forall_mem_cons.mpr ⟨lw_p55, List.forall_mem_cons.mpr ⟨lw_p56, List.forall_mem_cons.mpr ⟨lw_p57, List.forall_mem_cons.mpr ⟨lw_p58, List.forall_mem_cons.mpr ⟨lw_p59, List.forall_mem_cons.mpr ⟨lw_p60, List.forall_mem_cons.mpr ⟨lw_p61, List.forall_mem_cons.mpr ⟨lw_p62, List.forall_mem_cons.mpr ⟨lw_p63, fun _ h => absurd h List.not_mem_nil⟩⟩⟩⟩⟩⟩⟩⟩⟩⟩⟩⟩⟩⟩⟩⟩
theorem lw_p64 : lw_okq (⟨"HowFarShesGot", "refusalsOf", "(I)I"⟩, 11) := ⟨⟨by decide +kernel, by decide +kernel⟩, List.mem_of_getElem? (i := 20) (by decide +kernel), List.mem_of_getElem? (i := 787) (by decide +kernel), List.mem_of_getElem? (i := 788) (by decide +kernel)⟩
theorem lw_p65 : lw_okq (⟨"HowFarShesGotModel", "no", "(I)I"⟩, 24) := ⟨⟨by decide +kernel, by decide +kernel⟩, List.mem_of_getElem? (i := 791) (by decide +kernel), List.mem_of_getElem? (i := 883) (by decide +kernel), List.mem_of_getElem? (i := 884) (by decide +kernel)⟩
theorem lw_p66 : lw_okq (⟨"HowFarShesGotModel", "read", "()I"⟩, 24) := ⟨⟨by decide +kernel, by decide +kernel⟩, List.mem_of_getElem? (i := 791) (by decide +kernel), List.mem_of_getElem? (i := 895) (by decide +kernel), List.mem_of_getElem? (i := 896) (by decide +kernel)⟩
theorem lw_p67 : lw_okq (⟨"HowFarShesGotModel", "statement", "()V"⟩, 24) := ⟨⟨by decide +kernel, by decide +kernel⟩, List.mem_of_getElem? (i := 791) (by decide +kernel), List.mem_of_getElem? (i := 899) (by decide +kernel), List.mem_of_getElem? (i := 900) (by decide +kernel)⟩
theorem lw_p68 : lw_okq (⟨"HowFarShesGotModel", "oneOf", "([C)I"⟩, 24) := ⟨⟨by decide +kernel, by decide +kernel⟩, List.mem_of_getElem? (i := 791) (by decide +kernel), List.mem_of_getElem? (i := 903) (by decide +kernel), List.mem_of_getElem? (i := 904) (by decide +kernel)⟩
theorem lw_p69 : lw_okq (⟨"HowFarShesGotModel", "figures", "(I)I"⟩, 24) := ⟨⟨by decide +kernel, by decide +kernel⟩, List.mem_of_getElem? (i := 791) (by decide +kernel), List.mem_of_getElem? (i := 907) (by decide +kernel), List.mem_of_getElem? (i := 908) (by decide +kernel)⟩
theorem lw_p70 : lw_okq (⟨"HowFarShesGotModel", "takes", "()Z"⟩, 24) := ⟨⟨by decide +kernel, by decide +kernel⟩, List.mem_of_getElem? (i := 791) (by decide +kernel), List.mem_of_getElem? (i := 911) (by decide +kernel), List.mem_of_getElem? (i := 912) (by decide +kernel)⟩
theorem lw_p71 : lw_okq (⟨"HowFarShesGotModel", "kindOf", "(I)I"⟩, 24) := ⟨⟨by decide +kernel, by decide +kernel⟩, List.mem_of_getElem? (i := 791) (by decide +kernel), List.mem_of_getElem? (i := 915) (by decide +kernel), List.mem_of_getElem? (i := 916) (by decide +kernel)⟩
theorem lw_p72 : lw_okq (⟨"HowFarShesGotModel", "off", "(I)I"⟩, 24) := ⟨⟨by decide +kernel, by decide +kernel⟩, List.mem_of_getElem? (i := 791) (by decide +kernel), List.mem_of_getElem? (i := 926) (by decide +kernel), List.mem_of_getElem? (i := 927) (by decide +kernel)⟩
theorem lw_p73 : lw_okq (⟨"HowFarShesGotModel", "isNoSeeker", "(I)Z"⟩, 24) := ⟨⟨by decide +kernel, by decide +kernel⟩, List.mem_of_getElem? (i := 791) (by decide +kernel), List.mem_of_getElem? (i := 942) (by decide +kernel), List.mem_of_getElem? (i := 943) (by decide +kernel)⟩
theorem lw_p74 : lw_okq (⟨"HowFarShesGotModel", "walkFrom", "(I)V"⟩, 24) := ⟨⟨by decide +kernel, by decide +kernel⟩, List.mem_of_getElem? (i := 791) (by decide +kernel), List.mem_of_getElem? (i := 954) (by decide +kernel), List.mem_of_getElem? (i := 955) (by decide +kernel)⟩
theorem lw_p75 : lw_okq (⟨"HowFarShesGotModel", "canBe", "(I)Z"⟩, 24) := ⟨⟨by decide +kernel, by decide +kernel⟩, List.mem_of_getElem? (i := 791) (by decide +kernel), List.mem_of_getElem? (i := 962) (by decide +kernel), List.mem_of_getElem? (i := 963) (by decide +kernel)⟩
theorem lw_p76 : lw_okq (⟨"HowFarShesGotModel", "mayBeAt", "(I)V"⟩, 24) := ⟨⟨by decide +kernel, by decide +kernel⟩, List.mem_of_getElem? (i := 791) (by decide +kernel), List.mem_of_getElem? (i := 970) (by decide +kernel), List.mem_of_getElem? (i := 971) (by decide +kernel)⟩
theorem lw_p77 : lw_okq (⟨"HowFarShesGotModel", "inSet", "()I"⟩, 24) := ⟨⟨by decide +kernel, by decide +kernel⟩, List.mem_of_getElem? (i := 791) (by decide +kernel), List.mem_of_getElem? (i := 974) (by decide +kernel), List.mem_of_getElem? (i := 975) (by decide +kernel)⟩
theorem lw_p78 : lw_okq (⟨"HowFarShesGotModel", "minutesOut", "()I"⟩, 24) := ⟨⟨by decide +kernel, by decide +kernel⟩, List.mem_of_getElem? (i := 791) (by decide +kernel), List.mem_of_getElem? (i := 982) (by decide +kernel), List.mem_of_getElem? (i := 983) (by decide +kernel)⟩
theorem lw_p79 : lw_okq (⟨"HowFarShesGotModel", "holdNone", "()V"⟩, 24) := ⟨⟨by decide +kernel, by decide +kernel⟩, List.mem_of_getElem? (i := 791) (by decide +kernel), List.mem_of_getElem? (i := 991) (by decide +kernel), List.mem_of_getElem? (i := 992) (by decide +kernel)⟩
def lw_privs_5 : List (MethodName × Nat) := [(⟨"HowFarShesGot", "refusalsOf", "(I)I"⟩, 11), (⟨"HowFarShesGotModel", "no", "(I)I"⟩, 24), (⟨"HowFarShesGotModel", "read", "()I"⟩, 24), (⟨"HowFarShesGotModel", "statement", "()V"⟩, 24), (⟨"HowFarShesGotModel", "oneOf", "([C)I"⟩, 24), (⟨"HowFarShesGotModel", "figures", "(I)I"⟩, 24), (⟨"HowFarShesGotModel", "takes", "()Z"⟩, 24), (⟨"HowFarShesGotModel", "kindOf", "(I)I"⟩, 24), (⟨"HowFarShesGotModel", "off", "(I)I"⟩, 24), (⟨"HowFarShesGotModel", "isNoSeeker", "(I)Z"⟩, 24), (⟨"HowFarShesGotModel", "walkFrom", "(I)V"⟩, 24), (⟨"HowFarShesGotModel", "canBe", "(I)Z"⟩, 24), (⟨"HowFarShesGotModel", "mayBeAt", "(I)V"⟩, 24), (⟨"HowFarShesGotModel", "inSet", "()I"⟩, 24), (⟨"HowFarShesGotModel", "minutesOut", "()I"⟩, 24), (⟨"HowFarShesGotModel", "holdNone", "()V"⟩, 24)]
theorem lw_r5 : ∀ q ∈ lw_privs_5, lw_okq q := List.forall_mem_cons.mpr ⟨lw_p64, List.forall_mem_cons.mpr ⟨lw_p65, List.forall_mem_cons.mpr ⟨lw_p66, List.forall_mem_cons.mpr ⟨lw_p67, List.forall_mem_cons.mpr ⟨lw_p68, List.forall_mem_cons.mpr ⟨lw_p69, List.forall_mem_cons.mpr ⟨lw_p70, List.forall_mem_cons.mpr ⟨lw_p71, List.forall_mem_cons.mpr ⟨lw_p72, List.forall_mem_cons.mpr ⟨lw_p73, List.forall_mem_cons.mpr ⟨lw_p74, List.forall_mem_cons.mpr ⟨lw_p75, List.forall_mem_cons.mpr ⟨lw_p76, List.forall_mem_cons.mpr ⟨lw_p77, List.forall_mem_cons.mpr ⟨lw_p78, List.forall_mem_cons.mpr ⟨lw_p79, fun _ h => absurd h List.not_mem_nil⟩⟩⟩⟩⟩⟩⟩⟩⟩⟩⟩⟩⟩⟩⟩⟩
theorem lw_p80 : lw_okq (⟨"HowFarShesGotModel", "kindOfSeeker", "(I)I"⟩, 24) := ⟨⟨by decide +kernel, by decide +kernel⟩, List.mem_of_getElem? (i := 791) (by decide +kernel), List.mem_of_getElem? (i := 1004) (by decide +kernel), List.mem_of_getElem? (i := 1005) (by decide +kernel)⟩
theorem lw_p81 : lw_okq (⟨"HowFarShesGotModel", "searchBy", "(III)I"⟩, 24) := ⟨⟨by decide +kernel, by decide +kernel⟩, List.mem_of_getElem? (i := 791) (by decide +kernel), List.mem_of_getElem? (i := 1008) (by decide +kernel), List.mem_of_getElem? (i := 1009) (by decide +kernel)⟩
theorem lw_p82 : lw_okq (⟨"HowFarShesGotModel", "begin", "(I)V"⟩, 24) := ⟨⟨by decide +kernel, by decide +kernel⟩, List.mem_of_getElem? (i := 791) (by decide +kernel), List.mem_of_getElem? (i := 1012) (by decide +kernel), List.mem_of_getElem? (i := 1013) (by decide +kernel)⟩
theorem lw_p83 : lw_okq (⟨"HowFarShesGotModel", "looks", "(II)I"⟩, 24) := ⟨⟨by decide +kernel, by decide +kernel⟩, List.mem_of_getElem? (i := 791) (by decide +kernel), List.mem_of_getElem? (i := 1016) (by decide +kernel), List.mem_of_getElem? (i := 1017) (by decide +kernel)⟩
theorem lw_p84 : lw_okq (⟨"HowFarShesGotModel", "waits", "(III)I"⟩, 24) := ⟨⟨by decide +kernel, by decide +kernel⟩, List.mem_of_getElem? (i := 791) (by decide +kernel), List.mem_of_getElem? (i := 1020) (by decide +kernel), List.mem_of_getElem? (i := 1021) (by decide +kernel)⟩
theorem lw_p85 : lw_okq (⟨"HowFarShesGotModel", "besideInSet", "(I)I"⟩, 24) := ⟨⟨by decide +kernel, by decide +kernel⟩, List.mem_of_getElem? (i := 791) (by decide +kernel), List.mem_of_getElem? (i := 1024) (by decide +kernel), List.mem_of_getElem? (i := 1025) (by decide +kernel)⟩
theorem lw_p86 : lw_okq (⟨"HowFarShesGotModel", "toRoad", "(I)I"⟩, 24) := ⟨⟨by decide +kernel, by decide +kernel⟩, List.mem_of_getElem? (i := 791) (by decide +kernel), List.mem_of_getElem? (i := 1028) (by decide +kernel), List.mem_of_getElem? (i := 1029) (by decide +kernel)⟩
theorem lw_p87 : lw_okq (⟨"HowFarShesGotModel", "apart", "(II)I"⟩, 24) := ⟨⟨by decide +kernel, by decide +kernel⟩, List.mem_of_getElem? (i := 791) (by decide +kernel), List.mem_of_getElem? (i := 1032) (by decide +kernel), List.mem_of_getElem? (i := 1033) (by decide +kernel)⟩
theorem lw_p88 : lw_okq (⟨"HowFarShesGotModel", "passes", "(I)V"⟩, 24) := ⟨⟨by decide +kernel, by decide +kernel⟩, List.mem_of_getElem? (i := 791) (by decide +kernel), List.mem_of_getElem? (i := 1039) (by decide +kernel), List.mem_of_getElem? (i := 1040) (by decide +kernel)⟩
theorem lw_p89 : lw_okq (⟨"HowFarShesGotModel", "refusal", "(III)I"⟩, 24) := ⟨⟨by decide +kernel, by decide +kernel⟩, List.mem_of_getElem? (i := 791) (by decide +kernel), List.mem_of_getElem? (i := 1047) (by decide +kernel), List.mem_of_getElem? (i := 1048) (by decide +kernel)⟩
theorem lw_p90 : lw_okq (⟨"HowFarShesGotModel", "lookOn", "(III)V"⟩, 24) := ⟨⟨by decide +kernel, by decide +kernel⟩, List.mem_of_getElem? (i := 791) (by decide +kernel), List.mem_of_getElem? (i := 1051) (by decide +kernel), List.mem_of_getElem? (i := 1052) (by decide +kernel)⟩
theorem lw_p91 : lw_okq (⟨"HowFarShesGotModel", "reached", "()I"⟩, 24) := ⟨⟨by decide +kernel, by decide +kernel⟩, List.mem_of_getElem? (i := 791) (by decide +kernel), List.mem_of_getElem? (i := 1071) (by decide +kernel), List.mem_of_getElem? (i := 1072) (by decide +kernel)⟩
theorem lw_p92 : lw_okq (⟨"HowFarShesGotModel", "oneMore", "()I"⟩, 24) := ⟨⟨by decide +kernel, by decide +kernel⟩, List.mem_of_getElem? (i := 791) (by decide +kernel), List.mem_of_getElem? (i := 1075) (by decide +kernel), List.mem_of_getElem? (i := 1076) (by decide +kernel)⟩
theorem lw_p93 : lw_okq (⟨"HowFarShesGotModel", "noLong", "(I)J"⟩, 24) := ⟨⟨by decide +kernel, by decide +kernel⟩, List.mem_of_getElem? (i := 791) (by decide +kernel), List.mem_of_getElem? (i := 1083) (by decide +kernel), List.mem_of_getElem? (i := 1084) (by decide +kernel)⟩
theorem lw_p94 : lw_okq (⟨"HowFarShesGotModel", "waysOf", "(I)J"⟩, 24) := ⟨⟨by decide +kernel, by decide +kernel⟩, List.mem_of_getElem? (i := 791) (by decide +kernel), List.mem_of_getElem? (i := 1088) (by decide +kernel), List.mem_of_getElem? (i := 1089) (by decide +kernel)⟩
theorem lw_p95 : lw_okq (⟨"HowFarShesGotModel", "firstWrong", "(I)I"⟩, 24) := ⟨⟨by decide +kernel, by decide +kernel⟩, List.mem_of_getElem? (i := 791) (by decide +kernel), List.mem_of_getElem? (i := 1108) (by decide +kernel), List.mem_of_getElem? (i := 1109) (by decide +kernel)⟩
def lw_privs_6 : List (MethodName × Nat) := [(⟨"HowFarShesGotModel", "kindOfSeeker", "(I)I"⟩, 24), (⟨"HowFarShesGotModel", "searchBy", "(III)I"⟩, 24), (⟨"HowFarShesGotModel", "begin", "(I)V"⟩, 24), (⟨"HowFarShesGotModel", "looks", "(II)I"⟩, 24), (⟨"HowFarShesGotModel", "waits", "(III)I"⟩, 24), (⟨"HowFarShesGotModel", "besideInSet", "(I)I"⟩, 24), (⟨"HowFarShesGotModel", "toRoad", "(I)I"⟩, 24), (⟨"HowFarShesGotModel", "apart", "(II)I"⟩, 24), (⟨"HowFarShesGotModel", "passes", "(I)V"⟩, 24), (⟨"HowFarShesGotModel", "refusal", "(III)I"⟩, 24), (⟨"HowFarShesGotModel", "lookOn", "(III)V"⟩, 24), (⟨"HowFarShesGotModel", "reached", "()I"⟩, 24), (⟨"HowFarShesGotModel", "oneMore", "()I"⟩, 24), (⟨"HowFarShesGotModel", "noLong", "(I)J"⟩, 24), (⟨"HowFarShesGotModel", "waysOf", "(I)J"⟩, 24), (⟨"HowFarShesGotModel", "firstWrong", "(I)I"⟩, 24)]
theorem lw_r6 : ∀ q ∈ lw_privs_6, lw_okq q := List.forall_mem_cons.mpr ⟨lw_p80, List.forall_mem_cons.mpr ⟨lw_p81, List.forall_mem_cons.mpr ⟨lw_p82, List.forall_mem_cons.mpr ⟨lw_p83, List.forall_mem_cons.mpr ⟨lw_p84, List.forall_mem_cons.mpr ⟨lw_p85, List.forall_mem_cons.mpr ⟨lw_p86, List.forall_mem_cons.mpr ⟨lw_p87, List.forall_mem_cons.mpr ⟨lw_p88, List.forall_mem_cons.mpr ⟨lw_p89, List.forall_mem_cons.mpr ⟨lw_p90, List.forall_mem_cons.mpr ⟨lw_p91, List.forall_mem_cons.mpr ⟨lw_p92, List.forall_mem_cons.mpr ⟨lw_p93, List.forall_mem_cons.mpr ⟨lw_p94, List.forall_mem_cons.mpr ⟨lw_p95, fun _ h => absurd h List.not_mem_nil⟩⟩⟩⟩⟩⟩⟩⟩⟩⟩⟩⟩⟩⟩⟩⟩
theorem lw_p96 : lw_okq (⟨"HowFarShesGotModel", "looksOfRow", "(I)I"⟩, 24) := ⟨⟨by decide +kernel, by decide +kernel⟩, List.mem_of_getElem? (i := 791) (by decide +kernel), List.mem_of_getElem? (i := 1120) (by decide +kernel), List.mem_of_getElem? (i := 1121) (by decide +kernel)⟩
def lw_privs_7 : List (MethodName × Nat) := [(⟨"HowFarShesGotModel", "looksOfRow", "(I)I"⟩, 24)]
theorem lw_r7 : ∀ q ∈ lw_privs_7, lw_okq q := List.forall_mem_cons.mpr ⟨lw_p96, fun _ h => absurd h List.not_mem_nil⟩
def lw_privs : List (MethodName × Nat) := lw_privs_1 ++ (lw_privs_2 ++ (lw_privs_3 ++ (lw_privs_4 ++ (lw_privs_5 ++ (lw_privs_6 ++ (lw_privs_7))))))
def lw_tbl : List Cond := k2_sels lw_privs ++ tables_1
theorem lw_privs_ok : ∀ q ∈ lw_privs, lw_okq q := by
  show ∀ q ∈ lw_privs_1 ++ (lw_privs_2 ++ (lw_privs_3 ++ (lw_privs_4 ++ (lw_privs_5 ++ (lw_privs_6 ++ (lw_privs_7)))))), lw_okq q
  exact List.forall_mem_append.mpr ⟨lw_r1, List.forall_mem_append.mpr ⟨lw_r2, List.forall_mem_append.mpr ⟨lw_r3, List.forall_mem_append.mpr ⟨lw_r4, List.forall_mem_append.mpr ⟨lw_r5, List.forall_mem_append.mpr ⟨lw_r6, lw_r7⟩⟩⟩⟩⟩⟩
def RX0 : String := "HowFarShesGot$Chances"
def TX0 : u_T := fun k => match k with
  | 0 => ("HowFarShesGot$Chances", "ending", "[J", true)
  | _ => ("HowFarShesGot$Chances", "before", "[J", true)
def tyX0 : Nat → FieldType := fun k => match k with
  | 0 => .array .long
  | _ => .array .long
abbrev wsX00 : List Cond := u_ws RX0 TX0 2
theorem nmX0 : ∀ a, a < 2 → ∀ b, b < 2 → a ≠ b → (TX0 a).2.1 ≠ (TX0 b).2.1 := by decide +kernel
theorem tyX0_ok : ∀ k, k < 2 → parseFieldDescriptor (TX0 k).2.2.1 = some (tyX0 k) := by decide +kernel
abbrev cX0_init : ByteArray := prog_2_method_1_code
def yX0_init : MethodName := ⟨RX0, "<init>", "()V"⟩
abbrev cX0_walk : ByteArray := prog_2_method_2_code
def yX0_walk : MethodName := ⟨RX0, "walk", "(LHowFarShesGot$Garden;I)V"⟩
abbrev cX0_comingOnto : ByteArray := prog_2_method_3_code
def yX0_comingOnto : MethodName := ⟨RX0, "comingOnto", "(LHowFarShesGot$Garden;I)J"⟩
abbrev cX0_endingOn : ByteArray := prog_2_method_4_code
def yX0_endingOn : MethodName := ⟨RX0, "endingOn", "(I)J"⟩
abbrev cX0_inAll : ByteArray := prog_2_method_5_code
def yX0_inAll : MethodName := ⟨RX0, "inAll", "()J"⟩
abbrev cX0_likeliestSquare : ByteArray := prog_2_method_6_code
def yX0_likeliestSquare : MethodName := ⟨RX0, "likeliestSquare", "()I"⟩
def RX1 : String := "HowFarShesGot$Garden"
def TX1 : u_T := fun k => match k with
  | 0 => ("HowFarShesGot$Garden", "byKind", "[J", true)
  | 1 => ("HowFarShesGot$Garden", "seekerKinds", "[I", true)
  | 2 => ("HowFarShesGot$Garden", "seekerSquares", "[I", true)
  | 3 => ("HowFarShesGot$Garden", "seekers", "I", false)
  | 4 => ("HowFarShesGot$Garden", "home", "I", false)
  | 5 => ("HowFarShesGot$Garden", "pace", "I", false)
  | _ => ("HowFarShesGot$Garden", "warm", "I", false)
def tyX1 : Nat → FieldType := fun k => match k with
  | 0 => .array .long
  | 1 => .array .int
  | 2 => .array .int
  | 3 => .int
  | 4 => .int
  | 5 => .int
  | _ => .int
abbrev wsX10 : List Cond := u_ws RX1 TX1 7
theorem nmX1 : ∀ a, a < 7 → ∀ b, b < 7 → a ≠ b → (TX1 a).2.1 ≠ (TX1 b).2.1 := by decide +kernel
theorem tyX1_ok : ∀ k, k < 7 → parseFieldDescriptor (TX1 k).2.2.1 = some (tyX1 k) := by decide +kernel
abbrev cX1_init : ByteArray := prog_3_method_1_code
def yX1_init : MethodName := ⟨RX1, "<init>", "()V"⟩
abbrev cX1_become : ByteArray := prog_3_method_2_code
def yX1_become : MethodName := ⟨RX1, "become", "(LHowFarShesGot$Garden;)V"⟩
abbrev cX1_squaresOf : ByteArray := prog_3_method_3_code
def yX1_squaresOf : MethodName := ⟨RX1, "squaresOf", "(I)J"⟩
abbrev cX1_open : ByteArray := prog_3_method_4_code
def yX1_open : MethodName := ⟨RX1, "open", "()J"⟩
abbrev cX1_kindAt : ByteArray := prog_3_method_5_code
def yX1_kindAt : MethodName := ⟨RX1, "kindAt", "(I)I"⟩
abbrev cX1_stepsOff : ByteArray := prog_3_method_6_code
def yX1_stepsOff : MethodName := ⟨RX1, "stepsOff", "(I)I"⟩
abbrev cX1_stepsOffSun : ByteArray := prog_3_method_7_code
def yX1_stepsOffSun : MethodName := ⟨RX1, "stepsOffSun", "()I"⟩
abbrev cX1_lay : ByteArray := prog_3_method_8_code
def yX1_lay : MethodName := ⟨RX1, "lay", "(III)Z"⟩
abbrev cX1_liveAt : ByteArray := prog_3_method_9_code
def yX1_liveAt : MethodName := ⟨RX1, "liveAt", "(I)Z"⟩
abbrev cX1_takePace : ByteArray := prog_3_method_10_code
def yX1_takePace : MethodName := ⟨RX1, "takePace", "(I)Z"⟩
abbrev cX1_takeWarm : ByteArray := prog_3_method_11_code
def yX1_takeWarm : MethodName := ⟨RX1, "takeWarm", "(I)Z"⟩
abbrev cX1_addSeeker : ByteArray := prog_3_method_12_code
def yX1_addSeeker : MethodName := ⟨RX1, "addSeeker", "(II)Z"⟩
abbrev cX1_hasSeeker : ByteArray := prog_3_method_13_code
def yX1_hasSeeker : MethodName := ⟨RX1, "hasSeeker", "(I)Z"⟩
abbrev cX1_kindOfSeeker : ByteArray := prog_3_method_14_code
def yX1_kindOfSeeker : MethodName := ⟨RX1, "kindOfSeeker", "(I)I"⟩
abbrev cX1_squareOfSeeker : ByteArray := prog_3_method_15_code
def yX1_squareOfSeeker : MethodName := ⟨RX1, "squareOfSeeker", "(I)I"⟩
abbrev cX1_placeSeeker : ByteArray := prog_3_method_16_code
def yX1_placeSeeker : MethodName := ⟨RX1, "placeSeeker", "(II)V"⟩
def RX2 : String := "HowFarShesGot$Hunt"
def TX2 : u_T := fun k => match k with
  | 0 => ("HowFarShesGot$Hunt", "stands", "[J", true)
  | 1 => ("HowFarShesGot$Hunt", "set", "J", false)
  | _ => ("HowFarShesGot$Hunt", "minute", "I", false)
def tyX2 : Nat → FieldType := fun k => match k with
  | 0 => .array .long
  | 1 => .long
  | _ => .int
abbrev wsX20 : List Cond := u_ws RX2 TX2 3
theorem nmX2 : ∀ a, a < 3 → ∀ b, b < 3 → a ≠ b → (TX2 a).2.1 ≠ (TX2 b).2.1 := by decide +kernel
theorem tyX2_ok : ∀ k, k < 3 → parseFieldDescriptor (TX2 k).2.2.1 = some (tyX2 k) := by decide +kernel
abbrev cX2_init : ByteArray := prog_4_method_1_code
def yX2_init : MethodName := ⟨RX2, "<init>", "()V"⟩
abbrev cX2_begin : ByteArray := prog_4_method_2_code
def yX2_begin : MethodName := ⟨RX2, "begin", "(LHowFarShesGot$Garden;JI)V"⟩
abbrev cX2_look : ByteArray := prog_4_method_3_code
def yX2_look : MethodName := ⟨RX2, "look", "(LHowFarShesGot$Garden;I)V"⟩
abbrev cX2_seek : ByteArray := prog_4_method_4_code
def yX2_seek : MethodName := ⟨RX2, "seek", "(LHowFarShesGot$Garden;II)V"⟩
abbrev cX2_choice : ByteArray := prog_4_method_5_code
def yX2_choice : MethodName := ⟨RX2, "choice", "(LHowFarShesGot$Garden;II)I"⟩
abbrev cX2_standOf : ByteArray := prog_4_method_6_code
def yX2_standOf : MethodName := ⟨RX2, "standOf", "(I)J"⟩
abbrev cX2_goalAhead : ByteArray := prog_4_method_7_code
def yX2_goalAhead : MethodName := ⟨RX2, "goalAhead", "(JI)J"⟩
abbrev cX2_nearest : ByteArray := prog_4_method_8_code
def yX2_nearest : MethodName := ⟨RX2, "nearest", "(J)I"⟩
abbrev cX2_withMostBeside : ByteArray := prog_4_method_9_code
def yX2_withMostBeside : MethodName := ⟨RX2, "withMostBeside", "()I"⟩
abbrev cX2_withFewestBeside : ByteArray := prog_4_method_10_code
def yX2_withFewestBeside : MethodName := ⟨RX2, "withFewestBeside", "()I"⟩
def RX3 : String := "HowFarShesGot$Lot"
def TX3 : u_T := fun k => match k with
  | _ => ("HowFarShesGot$Lot", "z", "I", false)
def tyX3 : Nat → FieldType := fun k => match k with
  | _ => .int
abbrev wsX30 : List Cond := u_ws RX3 TX3 1
theorem nmX3 : ∀ a, a < 1 → ∀ b, b < 1 → a ≠ b → (TX3 a).2.1 ≠ (TX3 b).2.1 := by decide +kernel
theorem tyX3_ok : ∀ k, k < 1 → parseFieldDescriptor (TX3 k).2.2.1 = some (tyX3 k) := by decide +kernel
abbrev cX3_init : ByteArray := prog_5_method_1_code
def yX3_init : MethodName := ⟨RX3, "<init>", "()V"⟩
abbrev cX3_seed : ByteArray := prog_5_method_2_code
def yX3_seed : MethodName := ⟨RX3, "seed", "(I)V"⟩
abbrev cX3_draw : ByteArray := prog_5_method_3_code
def yX3_draw : MethodName := ⟨RX3, "draw", "(I)I"⟩
def RX4 : String := "HowFarShesGot$Numbers"
def TX4 : u_T := fun k => match k with
  | 0 => ("HowFarShesGot$Numbers", "numbers", "[I", true)
  | _ => ("HowFarShesGot$Numbers", "size", "I", false)
def tyX4 : Nat → FieldType := fun k => match k with
  | 0 => .array .int
  | _ => .int
abbrev wsX40 : List Cond := u_ws RX4 TX4 2
theorem nmX4 : ∀ a, a < 2 → ∀ b, b < 2 → a ≠ b → (TX4 a).2.1 ≠ (TX4 b).2.1 := by decide +kernel
theorem tyX4_ok : ∀ k, k < 2 → parseFieldDescriptor (TX4 k).2.2.1 = some (tyX4 k) := by decide +kernel
abbrev cX4_init : ByteArray := prog_6_method_1_code
def yX4_init : MethodName := ⟨RX4, "<init>", "(I)V"⟩
abbrev cX4_isFull : ByteArray := prog_6_method_2_code
def yX4_isFull : MethodName := ⟨RX4, "isFull", "()Z"⟩
abbrev cX4_add : ByteArray := prog_6_method_3_code
def yX4_add : MethodName := ⟨RX4, "add", "(I)I"⟩
abbrev cX4_clear : ByteArray := prog_6_method_4_code
def yX4_clear : MethodName := ⟨RX4, "clear", "()V"⟩
abbrev cX4_at : ByteArray := prog_6_method_5_code
def yX4_at : MethodName := ⟨RX4, "at", "(I)I"⟩
def RX5 : String := "HowFarShesGot$Telling"
def TX5 : u_T := fun k => match k with
  | _ => ("HowFarShesGot$Telling", "letters", "LHowFarShesGot$Numbers;", true)
def tyX5 : Nat → FieldType := fun k => match k with
  | _ => .object "HowFarShesGot$Numbers"
abbrev wsX50 : List Cond := u_ws RX5 TX5 1
theorem nmX5 : ∀ a, a < 1 → ∀ b, b < 1 → a ≠ b → (TX5 a).2.1 ≠ (TX5 b).2.1 := by decide +kernel
theorem tyX5_ok : ∀ k, k < 1 → parseFieldDescriptor (TX5 k).2.2.1 = some (tyX5 k) := by decide +kernel
abbrev cX5_init : ByteArray := prog_7_method_1_code
def yX5_init : MethodName := ⟨RX5, "<init>", "()V"⟩
abbrev cX5_tellTo : ByteArray := prog_7_method_2_code
def yX5_tellTo : MethodName := ⟨RX5, "tellTo", "(LHowFarShesGot$Garden;)I"⟩
abbrev cX5_firstMisfit : ByteArray := prog_7_method_3_code
def yX5_firstMisfit : MethodName := ⟨RX5, "firstMisfit", "()I"⟩
abbrev cX5_shapeBehind : ByteArray := prog_7_method_4_code
def yX5_shapeBehind : MethodName := ⟨RX5, "shapeBehind", "(I)Ljava/lang/String;"⟩
abbrev cX5_fits : ByteArray := prog_7_method_5_code
def yX5_fits : MethodName := ⟨RX5, "fits", "(IC)Z"⟩
abbrev cX5_comes : ByteArray := prog_7_method_6_code
def yX5_comes : MethodName := ⟨RX5, "comes", "(LHowFarShesGot$Garden;I)Z"⟩
abbrev cX5_digitAt : ByteArray := prog_7_method_7_code
def yX5_digitAt : MethodName := ⟨RX5, "digitAt", "(I)I"⟩
abbrev cX5_pairAt : ByteArray := prog_7_method_8_code
def yX5_pairAt : MethodName := ⟨RX5, "pairAt", "(I)I"⟩
def RX6 : String := "HowFarShesGot$Wave"
def TX6 : u_T := fun k => match k with
  | 0 => ("HowFarShesGot$Wave", "layers", "[J", true)
  | _ => ("HowFarShesGot$Wave", "size", "I", false)
def tyX6 : Nat → FieldType := fun k => match k with
  | 0 => .array .long
  | _ => .int
abbrev wsX60 : List Cond := u_ws RX6 TX6 2
theorem nmX6 : ∀ a, a < 2 → ∀ b, b < 2 → a ≠ b → (TX6 a).2.1 ≠ (TX6 b).2.1 := by decide +kernel
theorem tyX6_ok : ∀ k, k < 2 → parseFieldDescriptor (TX6 k).2.2.1 = some (tyX6 k) := by decide +kernel
abbrev cX6_init : ByteArray := prog_8_method_1_code
def yX6_init : MethodName := ⟨RX6, "<init>", "()V"⟩
abbrev cX6_spread : ByteArray := prog_8_method_2_code
def yX6_spread : MethodName := ⟨RX6, "spread", "(LHowFarShesGot$Garden;IJ)V"⟩
abbrev cX6_layer : ByteArray := prog_8_method_3_code
def yX6_layer : MethodName := ⟨RX6, "layer", "(I)J"⟩
abbrev cX6_within : ByteArray := prog_8_method_4_code
def yX6_within : MethodName := ⟨RX6, "within", "(I)J"⟩
abbrev cX6_stepsTo : ByteArray := prog_8_method_5_code
def yX6_stepsTo : MethodName := ⟨RX6, "stepsTo", "(J)I"⟩
def RX7 : String := "HowFarShesGot"
def TX7 : u_T := fun k => match k with
  | 0 => ("HowFarShesGot", "garden", "LHowFarShesGot$Garden;", true)
  | 1 => ("HowFarShesGot", "draft", "LHowFarShesGot$Garden;", true)
  | 2 => ("HowFarShesGot", "image", "LHowFarShesGot$Garden;", true)
  | 3 => ("HowFarShesGot", "telling", "LHowFarShesGot$Telling;", true)
  | 4 => ("HowFarShesGot", "row", "LHowFarShesGot$Numbers;", true)
  | 5 => ("HowFarShesGot", "wave", "LHowFarShesGot$Wave;", true)
  | 6 => ("HowFarShesGot", "hunt", "LHowFarShesGot$Hunt;", true)
  | 7 => ("HowFarShesGot", "chances", "LHowFarShesGot$Chances;", true)
  | 8 => ("HowFarShesGot", "lot", "LHowFarShesGot$Lot;", true)
  | 9 => ("HowFarShesGot", "refusals", "[I", true)
  | _ => ("HowFarShesGot", "imageTaken", "Z", false)
def tyX7 : Nat → FieldType := fun k => match k with
  | 0 => .object "HowFarShesGot$Garden"
  | 1 => .object "HowFarShesGot$Garden"
  | 2 => .object "HowFarShesGot$Garden"
  | 3 => .object "HowFarShesGot$Telling"
  | 4 => .object "HowFarShesGot$Numbers"
  | 5 => .object "HowFarShesGot$Wave"
  | 6 => .object "HowFarShesGot$Hunt"
  | 7 => .object "HowFarShesGot$Chances"
  | 8 => .object "HowFarShesGot$Lot"
  | 9 => .array .int
  | _ => .boolean
abbrev wsX70 : List Cond := u_ws RX7 TX7 11
theorem nmX7 : ∀ a, a < 11 → ∀ b, b < 11 → a ≠ b → (TX7 a).2.1 ≠ (TX7 b).2.1 := by decide +kernel
theorem tyX7_ok : ∀ k, k < 11 → parseFieldDescriptor (TX7 k).2.2.1 = some (tyX7 k) := by decide +kernel
abbrev cX7_init : ByteArray := prog_1_method_1_code
def yX7_init : MethodName := ⟨RX7, "<init>", "()V"⟩
abbrev cX7_letter : ByteArray := prog_1_method_2_code
def yX7_letter : MethodName := ⟨RX7, "letter", "(I)I"⟩
abbrev cX7_garden : ByteArray := prog_1_method_3_code
def yX7_garden : MethodName := ⟨RX7, "garden", "()I"⟩
abbrev cX7_square : ByteArray := prog_1_method_4_code
def yX7_square : MethodName := ⟨RX7, "square", "(II)I"⟩
abbrev cX7_turnTo : ByteArray := prog_1_method_5_code
def yX7_turnTo : MethodName := ⟨RX7, "turnTo", "(II)I"⟩
abbrev cX7_set : ByteArray := prog_1_method_6_code
def yX7_set : MethodName := ⟨RX7, "set", "(II)I"⟩
abbrev cX7_seeker : ByteArray := prog_1_method_7_code
def yX7_seeker : MethodName := ⟨RX7, "seeker", "(II)I"⟩
abbrev cX7_stand : ByteArray := prog_1_method_8_code
def yX7_stand : MethodName := ⟨RX7, "stand", "(II)I"⟩
abbrev cX7_steps : ByteArray := prog_1_method_9_code
def yX7_steps : MethodName := ⟨RX7, "steps", "(I)I"⟩
abbrev cX7_mayBe : ByteArray := prog_1_method_10_code
def yX7_mayBe : MethodName := ⟨RX7, "mayBe", "(II)I"⟩
abbrev cX7_out : ByteArray := prog_1_method_11_code
def yX7_out : MethodName := ⟨RX7, "out", "(I)I"⟩
abbrev cX7_shut : ByteArray := prog_1_method_12_code
def yX7_shut : MethodName := ⟨RX7, "shut", "()I"⟩
abbrev cX7_firstGap : ByteArray := prog_1_method_13_code
def yX7_firstGap : MethodName := ⟨RX7, "firstGap", "()I"⟩
abbrev cX7_search : ByteArray := prog_1_method_14_code
def yX7_search : MethodName := ⟨RX7, "search", "(II)I"⟩
abbrev cX7_left : ByteArray := prog_1_method_15_code
def yX7_left : MethodName := ⟨RX7, "left", "(III)I"⟩
abbrev cX7_looksAt : ByteArray := prog_1_method_16_code
def yX7_looksAt : MethodName := ⟨RX7, "looksAt", "(III)I"⟩
abbrev cX7_bestSeeker : ByteArray := prog_1_method_17_code
def yX7_bestSeeker : MethodName := ⟨RX7, "bestSeeker", "(II)I"⟩
abbrev cX7_together : ByteArray := prog_1_method_18_code
def yX7_together : MethodName := ⟨RX7, "together", "(I)I"⟩
abbrev cX7_hold : ByteArray := prog_1_method_19_code
def yX7_hold : MethodName := ⟨RX7, "hold", "(I)I"⟩
abbrev cX7_ways : ByteArray := prog_1_method_20_code
def yX7_ways : MethodName := ⟨RX7, "ways", "(II)J"⟩
abbrev cX7_likely : ByteArray := prog_1_method_21_code
def yX7_likely : MethodName := ⟨RX7, "likely", "(III)J"⟩
abbrev cX7_likeliest : ByteArray := prog_1_method_22_code
def yX7_likeliest : MethodName := ⟨RX7, "likeliest", "(I)I"⟩
abbrev cX7_turning : ByteArray := prog_1_method_23_code
def yX7_turning : MethodName := ⟨RX7, "turning", "(II)I"⟩
abbrev cX7_finds : ByteArray := prog_1_method_24_code
def yX7_finds : MethodName := ⟨RX7, "finds", "(I)I"⟩
abbrev cX7_row : ByteArray := prog_1_method_25_code
def yX7_row : MethodName := ⟨RX7, "row", "(I)I"⟩
abbrev cX7_judge : ByteArray := prog_1_method_26_code
def yX7_judge : MethodName := ⟨RX7, "judge", "(I)I"⟩
abbrev cX7_behind : ByteArray := prog_1_method_27_code
def yX7_behind : MethodName := ⟨RX7, "behind", "(I)I"⟩
abbrev cX7_lots : ByteArray := prog_1_method_28_code
def yX7_lots : MethodName := ⟨RX7, "lots", "(II)I"⟩
abbrev cX7_image : ByteArray := prog_1_method_29_code
def yX7_image : MethodName := ⟨RX7, "image", "()I"⟩
abbrev cX7_on : ByteArray := prog_1_method_30_code
def yX7_on : MethodName := ⟨RX7, "on", "()I"⟩
abbrev cX7_count : ByteArray := prog_1_method_31_code
def yX7_count : MethodName := ⟨RX7, "count", "(I)I"⟩
abbrev cX7_refused : ByteArray := prog_1_method_32_code
def yX7_refused : MethodName := ⟨RX7, "refused", "(I)I"⟩
abbrev cX7_refusedLong : ByteArray := prog_1_method_33_code
def yX7_refusedLong : MethodName := ⟨RX7, "refusedLong", "(I)J"⟩
abbrev cX7_refusalsOf : ByteArray := prog_1_method_34_code
def yX7_refusalsOf : MethodName := ⟨RX7, "refusalsOf", "(I)I"⟩
abbrev cX7_wrongMinute : ByteArray := prog_1_method_35_code
def yX7_wrongMinute : MethodName := ⟨RX7, "wrongMinute", "(I)I"⟩
abbrev cX7_wrongNumber : ByteArray := prog_1_method_36_code
def yX7_wrongNumber : MethodName := ⟨RX7, "wrongNumber", "(II)I"⟩
abbrev cX7_wrongSearch : ByteArray := prog_1_method_37_code
def yX7_wrongSearch : MethodName := ⟨RX7, "wrongSearch", "(III)I"⟩
abbrev cX7_wrongWays : ByteArray := prog_1_method_38_code
def yX7_wrongWays : MethodName := ⟨RX7, "wrongWays", "(II)I"⟩
abbrev cX7_setHome : ByteArray := prog_1_method_39_code
def yX7_setHome : MethodName := ⟨RX7, "setHome", "(I)I"⟩
abbrev cX7_setPace : ByteArray := prog_1_method_40_code
def yX7_setPace : MethodName := ⟨RX7, "setPace", "(I)I"⟩
abbrev cX7_setWarm : ByteArray := prog_1_method_41_code
def yX7_setWarm : MethodName := ⟨RX7, "setWarm", "(I)I"⟩
abbrev cX7_reachedBy : ByteArray := prog_1_method_42_code
def yX7_reachedBy : MethodName := ⟨RX7, "reachedBy", "(I)J"⟩
abbrev cX7_getsOut : ByteArray := prog_1_method_43_code
def yX7_getsOut : MethodName := ⟨RX7, "getsOut", "(J)Z"⟩
abbrev cX7_flooded : ByteArray := prog_1_method_44_code
def yX7_flooded : MethodName := ⟨RX7, "flooded", "(J)J"⟩
abbrev cX7_gapsOfBits : ByteArray := prog_1_method_45_code
def yX7_gapsOfBits : MethodName := ⟨RX7, "gapsOfBits", "(JI)J"⟩
abbrev cX7_reachedWhenHeld : ByteArray := prog_1_method_46_code
def yX7_reachedWhenHeld : MethodName := ⟨RX7, "reachedWhenHeld", "(J)J"⟩
abbrev cX7_oneMore : ByteArray := prog_1_method_47_code
def yX7_oneMore : MethodName := ⟨RX7, "oneMore", "(J)I"⟩
abbrev cX7_looksTillEmpty : ByteArray := prog_1_method_48_code
def yX7_looksTillEmpty : MethodName := ⟨RX7, "looksTillEmpty", "(III)I"⟩
abbrev cX7_lookOften : ByteArray := prog_1_method_49_code
def yX7_lookOften : MethodName := ⟨RX7, "lookOften", "(III)V"⟩
abbrev cX7_looksOfAll : ByteArray := prog_1_method_50_code
def yX7_looksOfAll : MethodName := ⟨RX7, "looksOfAll", "(I)I"⟩
abbrev cX7_rowTellsSquares : ByteArray := prog_1_method_51_code
def yX7_rowTellsSquares : MethodName := ⟨RX7, "rowTellsSquares", "(I)Z"⟩
abbrev cX7_squaresOfRow : ByteArray := prog_1_method_52_code
def yX7_squaresOfRow : MethodName := ⟨RX7, "squaresOfRow", "()J"⟩
abbrev cX7_afterTurning : ByteArray := prog_1_method_53_code
def yX7_afterTurning : MethodName := ⟨RX7, "afterTurning", "(II)J"⟩
abbrev cX7_firstWrongPair : ByteArray := prog_1_method_54_code
def yX7_firstWrongPair : MethodName := ⟨RX7, "firstWrongPair", "(I)I"⟩
abbrev cX7_homesOfTraces : ByteArray := prog_1_method_55_code
def yX7_homesOfTraces : MethodName := ⟨RX7, "homesOfTraces", "()J"⟩
abbrev cX7_afterWalkByLot : ByteArray := prog_1_method_56_code
def yX7_afterWalkByLot : MethodName := ⟨RX7, "afterWalkByLot", "()J"⟩
abbrev cX7_drawnDirection : ByteArray := prog_1_method_57_code
def yX7_drawnDirection : MethodName := ⟨RX7, "drawnDirection", "(I)I"⟩
abbrev cX7_isSquare : ByteArray := prog_1_method_58_code
def yX7_isSquare : MethodName := ⟨RX7, "isSquare", "(I)Z"⟩
abbrev cX7_bit : ByteArray := prog_1_method_59_code
def yX7_bit : MethodName := ⟨RX7, "bit", "(I)J"⟩
abbrev cX7_has : ByteArray := prog_1_method_60_code
def yX7_has : MethodName := ⟨RX7, "has", "(JI)Z"⟩
abbrev cX7_least : ByteArray := prog_1_method_61_code
def yX7_least : MethodName := ⟨RX7, "least", "(J)I"⟩
abbrev cX7_moved : ByteArray := prog_1_method_62_code
def yX7_moved : MethodName := ⟨RX7, "moved", "(JI)J"⟩
abbrev cX7_beside : ByteArray := prog_1_method_63_code
def yX7_beside : MethodName := ⟨RX7, "beside", "(J)J"⟩
abbrev cX7_yesOrNo : ByteArray := prog_1_method_64_code
def yX7_yesOrNo : MethodName := ⟨RX7, "yesOrNo", "(Z)I"⟩
abbrev cX7_greatestDivisor : ByteArray := prog_1_method_65_code
def yX7_greatestDivisor : MethodName := ⟨RX7, "greatestDivisor", "(JJ)J"⟩
def RX8 : String := "HowFarShesGotModel"
def TX8 : u_T := fun k => match k with
  | 0 => ("HowFarShesGotModel", "refused", "[I", true)
  | 1 => ("HowFarShesGotModel", "now", "[I", true)
  | 2 => ("HowFarShesGotModel", "then", "[I", true)
  | 3 => ("HowFarShesGotModel", "kept", "Z", false)
  | 4 => ("HowFarShesGotModel", "tape", "[I", true)
  | 5 => ("HowFarShesGotModel", "taped", "I", false)
  | 6 => ("HowFarShesGotModel", "at", "I", false)
  | 7 => ("HowFarShesGotModel", "well", "Z", false)
  | 8 => ("HowFarShesGotModel", "begins", "[C", true)
  | 9 => ("HowFarShesGotModel", "kinds", "[C", true)
  | 10 => ("HowFarShesGotModel", "seekers", "[C", true)
  | 11 => ("HowFarShesGotModel", "sort", "I", false)
  | 12 => ("HowFarShesGotModel", "field", "[I", true)
  | 13 => ("HowFarShesGotModel", "was", "[I", true)
  | 14 => ("HowFarShesGotModel", "held", "[Z", true)
  | 15 => ("HowFarShesGotModel", "far", "[I", true)
  | 16 => ("HowFarShesGotModel", "set", "[Z", true)
  | 17 => ("HowFarShesGotModel", "spread", "[Z", true)
  | 18 => ("HowFarShesGotModel", "stands", "[I", true)
  | 19 => ("HowFarShesGotModel", "minute", "I", false)
  | 20 => ("HowFarShesGotModel", "line", "[I", true)
  | 21 => ("HowFarShesGotModel", "lined", "I", false)
  | 22 => ("HowFarShesGotModel", "ways", "[J", true)
  | _ => ("HowFarShesGotModel", "more", "[J", true)
def tyX8 : Nat → FieldType := fun k => match k with
  | 0 => .array .int
  | 1 => .array .int
  | 2 => .array .int
  | 3 => .boolean
  | 4 => .array .int
  | 5 => .int
  | 6 => .int
  | 7 => .boolean
  | 8 => .array .char
  | 9 => .array .char
  | 10 => .array .char
  | 11 => .int
  | 12 => .array .int
  | 13 => .array .int
  | 14 => .array .boolean
  | 15 => .array .int
  | 16 => .array .boolean
  | 17 => .array .boolean
  | 18 => .array .int
  | 19 => .int
  | 20 => .array .int
  | 21 => .int
  | 22 => .array .long
  | _ => .array .long
abbrev wsX80 : List Cond := u_ws RX8 TX8 24
theorem nmX8 : ∀ a, a < 24 → ∀ b, b < 24 → a ≠ b → (TX8 a).2.1 ≠ (TX8 b).2.1 := by decide +kernel
theorem tyX8_ok : ∀ k, k < 24 → parseFieldDescriptor (TX8 k).2.2.1 = some (tyX8 k) := by decide +kernel
abbrev cX8_no : ByteArray := prog_10_method_1_code
def yX8_no : MethodName := ⟨RX8, "no", "(I)I"⟩
abbrev cX8_noLong : ByteArray := prog_10_method_2_code
def yX8_noLong : MethodName := ⟨RX8, "noLong", "(I)J"⟩
abbrev cX8_init : ByteArray := prog_10_method_3_code
def yX8_init : MethodName := ⟨RX8, "<init>", "()V"⟩
abbrev cX8_move : ByteArray := prog_10_method_4_code
def yX8_move : MethodName := ⟨RX8, "move", "([I[I)V"⟩
abbrev cX8_image : ByteArray := prog_10_method_5_code
def yX8_image : MethodName := ⟨RX8, "image", "()I"⟩
abbrev cX8_on : ByteArray := prog_10_method_6_code
def yX8_on : MethodName := ⟨RX8, "on", "()I"⟩
abbrev cX8_isNoSquare : ByteArray := prog_10_method_7_code
def yX8_isNoSquare : MethodName := ⟨RX8, "isNoSquare", "(I)Z"⟩
abbrev cX8_kindOf : ByteArray := prog_10_method_8_code
def yX8_kindOf : MethodName := ⟨RX8, "kindOf", "(I)I"⟩
abbrev cX8_letter : ByteArray := prog_10_method_9_code
def yX8_letter : MethodName := ⟨RX8, "letter", "(I)I"⟩
abbrev cX8_oneOf : ByteArray := prog_10_method_10_code
def yX8_oneOf : MethodName := ⟨RX8, "oneOf", "([C)I"⟩
abbrev cX8_figures : ByteArray := prog_10_method_11_code
def yX8_figures : MethodName := ⟨RX8, "figures", "(I)I"⟩
abbrev cX8_statement : ByteArray := prog_10_method_12_code
def yX8_statement : MethodName := ⟨RX8, "statement", "()V"⟩
abbrev cX8_takes : ByteArray := prog_10_method_13_code
def yX8_takes : MethodName := ⟨RX8, "takes", "()Z"⟩
abbrev cX8_read : ByteArray := prog_10_method_14_code
def yX8_read : MethodName := ⟨RX8, "read", "()I"⟩
abbrev cX8_garden : ByteArray := prog_10_method_15_code
def yX8_garden : MethodName := ⟨RX8, "garden", "()I"⟩
abbrev cX8_canBe : ByteArray := prog_10_method_16_code
def yX8_canBe : MethodName := ⟨RX8, "canBe", "(I)Z"⟩
abbrev cX8_off : ByteArray := prog_10_method_17_code
def yX8_off : MethodName := ⟨RX8, "off", "(I)I"⟩
abbrev cX8_square : ByteArray := prog_10_method_18_code
def yX8_square : MethodName := ⟨RX8, "square", "(II)I"⟩
abbrev cX8_turnTo : ByteArray := prog_10_method_19_code
def yX8_turnTo : MethodName := ⟨RX8, "turnTo", "(II)I"⟩
abbrev cX8_set : ByteArray := prog_10_method_20_code
def yX8_set : MethodName := ⟨RX8, "set", "(II)I"⟩
abbrev cX8_isNoSeeker : ByteArray := prog_10_method_21_code
def yX8_isNoSeeker : MethodName := ⟨RX8, "isNoSeeker", "(I)Z"⟩
abbrev cX8_seeker : ByteArray := prog_10_method_22_code
def yX8_seeker : MethodName := ⟨RX8, "seeker", "(II)I"⟩
abbrev cX8_stand : ByteArray := prog_10_method_23_code
def yX8_stand : MethodName := ⟨RX8, "stand", "(II)I"⟩
abbrev cX8_beside : ByteArray := prog_10_method_24_code
def yX8_beside : MethodName := ⟨RX8, "beside", "(II)I"⟩
abbrev cX8_walkFrom : ByteArray := prog_10_method_25_code
def yX8_walkFrom : MethodName := ⟨RX8, "walkFrom", "(I)V"⟩
abbrev cX8_steps : ByteArray := prog_10_method_26_code
def yX8_steps : MethodName := ⟨RX8, "steps", "(I)I"⟩
abbrev cX8_mayBeAt : ByteArray := prog_10_method_27_code
def yX8_mayBeAt : MethodName := ⟨RX8, "mayBeAt", "(I)V"⟩
abbrev cX8_inSet : ByteArray := prog_10_method_28_code
def yX8_inSet : MethodName := ⟨RX8, "inSet", "()I"⟩
abbrev cX8_mayBe : ByteArray := prog_10_method_29_code
def yX8_mayBe : MethodName := ⟨RX8, "mayBe", "(II)I"⟩
abbrev cX8_minutesOut : ByteArray := prog_10_method_30_code
def yX8_minutesOut : MethodName := ⟨RX8, "minutesOut", "()I"⟩
abbrev cX8_out : ByteArray := prog_10_method_31_code
def yX8_out : MethodName := ⟨RX8, "out", "(I)I"⟩
abbrev cX8_holdNone : ByteArray := prog_10_method_32_code
def yX8_holdNone : MethodName := ⟨RX8, "holdNone", "()V"⟩
abbrev cX8_shut : ByteArray := prog_10_method_33_code
def yX8_shut : MethodName := ⟨RX8, "shut", "()I"⟩
abbrev cX8_firstGap : ByteArray := prog_10_method_34_code
def yX8_firstGap : MethodName := ⟨RX8, "firstGap", "()I"⟩
abbrev cX8_apart : ByteArray := prog_10_method_35_code
def yX8_apart : MethodName := ⟨RX8, "apart", "(II)I"⟩
abbrev cX8_toRoad : ByteArray := prog_10_method_36_code
def yX8_toRoad : MethodName := ⟨RX8, "toRoad", "(I)I"⟩
abbrev cX8_besideInSet : ByteArray := prog_10_method_37_code
def yX8_besideInSet : MethodName := ⟨RX8, "besideInSet", "(I)I"⟩
abbrev cX8_waits : ByteArray := prog_10_method_38_code
def yX8_waits : MethodName := ⟨RX8, "waits", "(III)I"⟩
abbrev cX8_looks : ByteArray := prog_10_method_39_code
def yX8_looks : MethodName := ⟨RX8, "looks", "(II)I"⟩
abbrev cX8_passes : ByteArray := prog_10_method_40_code
def yX8_passes : MethodName := ⟨RX8, "passes", "(I)V"⟩
abbrev cX8_begin : ByteArray := prog_10_method_41_code
def yX8_begin : MethodName := ⟨RX8, "begin", "(I)V"⟩
abbrev cX8_searchBy : ByteArray := prog_10_method_42_code
def yX8_searchBy : MethodName := ⟨RX8, "searchBy", "(III)I"⟩
abbrev cX8_kindOfSeeker : ByteArray := prog_10_method_43_code
def yX8_kindOfSeeker : MethodName := ⟨RX8, "kindOfSeeker", "(I)I"⟩
abbrev cX8_search : ByteArray := prog_10_method_44_code
def yX8_search : MethodName := ⟨RX8, "search", "(II)I"⟩
abbrev cX8_refusal : ByteArray := prog_10_method_45_code
def yX8_refusal : MethodName := ⟨RX8, "refusal", "(III)I"⟩
abbrev cX8_lookOn : ByteArray := prog_10_method_46_code
def yX8_lookOn : MethodName := ⟨RX8, "lookOn", "(III)V"⟩
abbrev cX8_left : ByteArray := prog_10_method_47_code
def yX8_left : MethodName := ⟨RX8, "left", "(III)I"⟩
abbrev cX8_looksAt : ByteArray := prog_10_method_48_code
def yX8_looksAt : MethodName := ⟨RX8, "looksAt", "(III)I"⟩
abbrev cX8_bestSeeker : ByteArray := prog_10_method_49_code
def yX8_bestSeeker : MethodName := ⟨RX8, "bestSeeker", "(II)I"⟩
abbrev cX8_together : ByteArray := prog_10_method_50_code
def yX8_together : MethodName := ⟨RX8, "together", "(I)I"⟩
abbrev cX8_reached : ByteArray := prog_10_method_51_code
def yX8_reached : MethodName := ⟨RX8, "reached", "()I"⟩
abbrev cX8_hold : ByteArray := prog_10_method_52_code
def yX8_hold : MethodName := ⟨RX8, "hold", "(I)I"⟩
abbrev cX8_oneMore : ByteArray := prog_10_method_53_code
def yX8_oneMore : MethodName := ⟨RX8, "oneMore", "()I"⟩
abbrev cX8_waysOf : ByteArray := prog_10_method_54_code
def yX8_waysOf : MethodName := ⟨RX8, "waysOf", "(I)J"⟩
abbrev cX8_ways : ByteArray := prog_10_method_55_code
def yX8_ways : MethodName := ⟨RX8, "ways", "(II)J"⟩
abbrev cX8_likely : ByteArray := prog_10_method_56_code
def yX8_likely : MethodName := ⟨RX8, "likely", "(III)J"⟩
abbrev cX8_likeliest : ByteArray := prog_10_method_57_code
def yX8_likeliest : MethodName := ⟨RX8, "likeliest", "(I)I"⟩
abbrev cX8_turning : ByteArray := prog_10_method_58_code
def yX8_turning : MethodName := ⟨RX8, "turning", "(II)I"⟩
abbrev cX8_firstWrong : ByteArray := prog_10_method_59_code
def yX8_firstWrong : MethodName := ⟨RX8, "firstWrong", "(I)I"⟩
abbrev cX8_finds : ByteArray := prog_10_method_60_code
def yX8_finds : MethodName := ⟨RX8, "finds", "(I)I"⟩
abbrev cX8_row : ByteArray := prog_10_method_61_code
def yX8_row : MethodName := ⟨RX8, "row", "(I)I"⟩
abbrev cX8_looksOfRow : ByteArray := prog_10_method_62_code
def yX8_looksOfRow : MethodName := ⟨RX8, "looksOfRow", "(I)I"⟩
abbrev cX8_judge : ByteArray := prog_10_method_63_code
def yX8_judge : MethodName := ⟨RX8, "judge", "(I)I"⟩
abbrev cX8_behind : ByteArray := prog_10_method_64_code
def yX8_behind : MethodName := ⟨RX8, "behind", "(I)I"⟩
abbrev cX8_lots : ByteArray := prog_10_method_65_code
def yX8_lots : MethodName := ⟨RX8, "lots", "(II)I"⟩
abbrev cX8_count : ByteArray := prog_10_method_66_code
def yX8_count : MethodName := ⟨RX8, "count", "(I)I"⟩
def RJ11 : String := "java/lang/Character"
def TJ11 : u_T := fun k => match k with
  | _ => ("", "", "", false)
def tyJ11 : Nat → FieldType := fun k => match k with
  | _ => .int
abbrev cJ11_isValidCodePoint_9a6ad : ByteArray := prog_11_method_11_code
def yJ11_isValidCodePoint_9a6ad : MethodName := ⟨RJ11, "isValidCodePoint", "(I)Z"⟩
abbrev cJ11_highSurrogate_5068e : ByteArray := prog_11_method_28_code
def yJ11_highSurrogate_5068e : MethodName := ⟨RJ11, "highSurrogate", "(I)C"⟩
abbrev cJ11_lowSurrogate_5068e : ByteArray := prog_11_method_29_code
def yJ11_lowSurrogate_5068e : MethodName := ⟨RJ11, "lowSurrogate", "(I)C"⟩
def RJ6 : String := "java/lang/Integer"
def TJ6 : u_T := fun k => match k with
  | _ => ("", "", "", false)
def tyJ6 : Nat → FieldType := fun k => match k with
  | _ => .int
abbrev cJ6_bitCount_0f7a4 : ByteArray := prog_12_method_49_code
def yJ6_bitCount_0f7a4 : MethodName := ⟨RJ6, "bitCount", "(I)I"⟩
def RJ13 : String := "java/lang/Long"
def TJ13 : u_T := fun k => match k with
  | _ => ("", "", "", false)
def tyJ13 : Nat → FieldType := fun k => match k with
  | _ => .int
abbrev cJ13_bitCount_95d88 : ByteArray := prog_13_method_50_code
def yJ13_bitCount_95d88 : MethodName := ⟨RJ13, "bitCount", "(J)I"⟩
def RJ9 : String := "java/lang/Math"
def TJ9 : u_T := fun k => match k with
  | _ => ("", "", "", false)
def tyJ9 : Nat → FieldType := fun k => match k with
  | _ => .int
abbrev cJ9_abs_0f7a4 : ByteArray := prog_14_method_59_code
def yJ9_abs_0f7a4 : MethodName := ⟨RJ9, "abs", "(I)I"⟩
abbrev cJ9_max_7cf53 : ByteArray := prog_14_method_65_code
def yJ9_max_7cf53 : MethodName := ⟨RJ9, "max", "(II)I"⟩
abbrev cJ9_min_7cf53 : ByteArray := prog_14_method_69_code
def yJ9_min_7cf53 : MethodName := ⟨RJ9, "min", "(II)I"⟩
def RJ0 : String := "java/lang/String"
def TJ0 : u_T := fun k => match k with
  | _ => ("", "", "", false)
def tyJ0 : Nat → FieldType := fun k => match k with
  | _ => .int
abbrev cJ0_length_8abf5 : ByteArray := prog_15_method_54_code
def yJ0_length_8abf5 : MethodName := ⟨RJ0, "length", "()I"⟩
abbrev cJ0_isEmpty_aae02 : ByteArray := prog_15_method_55_code
def yJ0_isEmpty_aae02 : MethodName := ⟨RJ0, "isEmpty", "()Z"⟩
abbrev cJ0_charAt_5068e : ByteArray := prog_15_method_56_code
def yJ0_charAt_5068e : MethodName := ⟨RJ0, "charAt", "(I)C"⟩
abbrev cJ0_indexOf_0f7a4 : ByteArray := prog_15_method_79_code
def yJ0_indexOf_0f7a4 : MethodName := ⟨RJ0, "indexOf", "(I)I"⟩
abbrev cJ0_indexOf_7cf53 : ByteArray := prog_15_method_80_code
def yJ0_indexOf_7cf53 : MethodName := ⟨RJ0, "indexOf", "(II)I"⟩
abbrev cJ0_coder_7d493 : ByteArray := prog_15_method_152_code
def yJ0_coder_7d493 : MethodName := ⟨RJ0, "coder", "()B"⟩
abbrev cJ0_isLatin1_aae02 : ByteArray := prog_15_method_154_code
def yJ0_isLatin1_aae02 : MethodName := ⟨RJ0, "isLatin1", "()Z"⟩
abbrev cJ0_checkIndex_df160 : ByteArray := prog_15_method_155_code
def yJ0_checkIndex_df160 : MethodName := ⟨RJ0, "checkIndex", "(II)V"⟩
abbrev cJ0_checkBoundsBeginEnd_23922 : ByteArray := prog_15_method_158_code
def yJ0_checkBoundsBeginEnd_23922 : MethodName := ⟨RJ0, "checkBoundsBeginEnd", "(III)V"⟩
def RJ1 : String := "java/lang/StringLatin1"
def TJ1 : u_T := fun k => match k with
  | _ => ("", "", "", false)
def tyJ1 : Nat → FieldType := fun k => match k with
  | _ => .int
abbrev cJ1_charAt_3b067 : ByteArray := prog_16_method_2_code
def yJ1_charAt_3b067 : MethodName := ⟨RJ1, "charAt", "([BI)C"⟩
abbrev cJ1_canEncode_9a6ad : ByteArray := prog_16_method_4_code
def yJ1_canEncode_9a6ad : MethodName := ⟨RJ1, "canEncode", "(I)Z"⟩
abbrev cJ1_indexOf_4cfef : ByteArray := prog_16_method_22_code
def yJ1_indexOf_4cfef : MethodName := ⟨RJ1, "indexOf", "([BIII)I"⟩
abbrev cJ1_indexOfChar_4cfef : ByteArray := prog_16_method_23_code
def yJ1_indexOfChar_4cfef : MethodName := ⟨RJ1, "indexOfChar", "([BIII)I"⟩
def RJ2 : String := "java/lang/StringUTF16"
def TJ2 : u_T := fun k => match k with
  | _ => ("", "", "", false)
def tyJ2 : Nat → FieldType := fun k => match k with
  | _ => .int
abbrev cJ2_getChar_3b067 : ByteArray := prog_17_method_5_code
def yJ2_getChar_3b067 : MethodName := ⟨RJ2, "getChar", "([BI)C"⟩
abbrev cJ2_length_9d52b : ByteArray := prog_17_method_6_code
def yJ2_length_9d52b : MethodName := ⟨RJ2, "length", "([B)I"⟩
abbrev cJ2_indexOf_4cfef : ByteArray := prog_17_method_40_code
def yJ2_indexOf_4cfef : MethodName := ⟨RJ2, "indexOf", "([BIII)I"⟩
abbrev cJ2_indexOfChar_4cfef : ByteArray := prog_17_method_47_code
def yJ2_indexOfChar_4cfef : MethodName := ⟨RJ2, "indexOfChar", "([BIII)I"⟩
abbrev cJ2_indexOfCharUnsafe_4cfef : ByteArray := prog_17_method_48_code
def yJ2_indexOfCharUnsafe_4cfef : MethodName := ⟨RJ2, "indexOfCharUnsafe", "([BIII)I"⟩
abbrev cJ2_indexOfSupplementary_4cfef : ByteArray := prog_17_method_49_code
def yJ2_indexOfSupplementary_4cfef : MethodName := ⟨RJ2, "indexOfSupplementary", "([BIII)I"⟩
abbrev cJ2_charAt_3b067 : ByteArray := prog_17_method_83_code
def yJ2_charAt_3b067 : MethodName := ⟨RJ2, "charAt", "([BI)C"⟩
abbrev cJ2_checkIndex_2214a : ByteArray := prog_17_method_91_code
def yJ2_checkIndex_2214a : MethodName := ⟨RJ2, "checkIndex", "(I[B)V"⟩
abbrev cJ2_checkBoundsBeginEnd_d044e : ByteArray := prog_17_method_93_code
def yJ2_checkBoundsBeginEnd_d044e : MethodName := ⟨RJ2, "checkBoundsBeginEnd", "(II[B)V"⟩
def RJ10 : String := "java/lang/System"
def TJ10 : u_T := fun k => match k with
  | _ => ("", "", "", false)
def tyJ10 : Nat → FieldType := fun k => match k with
  | _ => .int
def RJ3 : String := "jdk/internal/util/Preconditions"
def TJ3 : u_T := fun k => match k with
  | _ => ("", "", "", false)
def tyJ3 : Nat → FieldType := fun k => match k with
  | _ => .int
abbrev cJ3_checkIndex_8e157 : ByteArray := prog_19_method_11_code
def yJ3_checkIndex_8e157 : MethodName := ⟨RJ3, "checkIndex", "(IILjava/util/function/BiFunction;)I"⟩
abbrev cJ3_checkFromToIndex_8c36e : ByteArray := prog_19_method_12_code
def yJ3_checkFromToIndex_8c36e : MethodName := ⟨RJ3, "checkFromToIndex", "(IIILjava/util/function/BiFunction;)I"⟩
def RL : String := "HowFarShesGotLaw"
abbrev cL_law : ByteArray := code
def yL_law : MethodName := ⟨RL, "law", "([I)Z"⟩
abbrev vwCl : List vw_C := [(RX0, TX0, 2), (RX1, TX1, 7), (RX2, TX2, 3), (RX3, TX3, 1), (RX4, TX4, 2), (RX5, TX5, 1), (RX6, TX6, 2), (RX7, TX7, 11), (RX8, TX8, 24)]
