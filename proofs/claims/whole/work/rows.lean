section
-- ===== PART A: goes FIRST, ahead of the names: the tables' words, and 'selects' of the private methods out of them =====
/-- a private method of a class that the tables say can be made, by its rows of tables_1 -/
def lw_okq (q : MethodName × Nat) : Prop := (q.1.cls ≠ "java/lang/invoke/MethodHandle" ∧ q.1.cls ≠ "java/lang/invoke/VarHandle") ∧ Cond.instantiable q.1.cls q.2 ∈ tables_1 ∧ Cond.privateMethod q.1 ∈ tables_1 ∧ Cond.instanceMethod q.1 ∈ tables_1
theorem lw_p0 : lw_okq (⟨"HowFarShesGot", "refused", "(I)I"⟩, 11) := ⟨⟨by decide +kernel, by decide +kernel⟩, List.mem_of_getElem? (i := 20) (by decide +kernel), List.mem_of_getElem? (i := 187) (by decide +kernel), List.mem_of_getElem? (i := 188) (by decide +kernel)⟩
theorem lw_p1 : lw_okq (⟨"HowFarShesGot$Numbers", "isFull", "()Z"⟩, 2) := ⟨⟨by decide +kernel, by decide +kernel⟩, List.mem_of_getElem? (i := 71) (by decide +kernel), List.mem_of_getElem? (i := 191) (by decide +kernel), List.mem_of_getElem? (i := 192) (by decide +kernel)⟩
theorem lw_p2 : lw_okq (⟨"HowFarShesGot$Numbers", "add", "(I)I"⟩, 2) := ⟨⟨by decide +kernel, by decide +kernel⟩, List.mem_of_getElem? (i := 71) (by decide +kernel), List.mem_of_getElem? (i := 195) (by decide +kernel), List.mem_of_getElem? (i := 196) (by decide +kernel)⟩
theorem lw_p3 : lw_okq (⟨"HowFarShesGot$Garden", "become", "(LHowFarShesGot$Garden;)V"⟩, 7) := ⟨⟨by decide +kernel, by decide +kernel⟩, List.mem_of_getElem? (i := 28) (by decide +kernel), List.mem_of_getElem? (i := 203) (by decide +kernel), List.mem_of_getElem? (i := 204) (by decide +kernel)⟩
theorem lw_p4 : lw_okq (⟨"HowFarShesGot$Telling", "tellTo", "(LHowFarShesGot$Garden;)I"⟩, 1) := ⟨⟨by decide +kernel, by decide +kernel⟩, List.mem_of_getElem? (i := 65) (by decide +kernel), List.mem_of_getElem? (i := 210) (by decide +kernel), List.mem_of_getElem? (i := 211) (by decide +kernel)⟩
theorem lw_p5 : lw_okq (⟨"HowFarShesGot$Telling", "firstMisfit", "()I"⟩, 1) := ⟨⟨by decide +kernel, by decide +kernel⟩, List.mem_of_getElem? (i := 65) (by decide +kernel), List.mem_of_getElem? (i := 214) (by decide +kernel), List.mem_of_getElem? (i := 215) (by decide +kernel)⟩
theorem lw_p6 : lw_okq (⟨"HowFarShesGot$Numbers", "at", "(I)I"⟩, 2) := ⟨⟨by decide +kernel, by decide +kernel⟩, List.mem_of_getElem? (i := 71) (by decide +kernel), List.mem_of_getElem? (i := 219) (by decide +kernel), List.mem_of_getElem? (i := 220) (by decide +kernel)⟩
theorem lw_p7 : lw_okq (⟨"HowFarShesGot$Telling", "comes", "(LHowFarShesGot$Garden;I)Z"⟩, 1) := ⟨⟨by decide +kernel, by decide +kernel⟩, List.mem_of_getElem? (i := 65) (by decide +kernel), List.mem_of_getElem? (i := 345) (by decide +kernel), List.mem_of_getElem? (i := 346) (by decide +kernel)⟩
theorem lw_p8 : lw_okq (⟨"HowFarShesGot$Telling", "pairAt", "(I)I"⟩, 1) := ⟨⟨by decide +kernel, by decide +kernel⟩, List.mem_of_getElem? (i := 65) (by decide +kernel), List.mem_of_getElem? (i := 349) (by decide +kernel), List.mem_of_getElem? (i := 350) (by decide +kernel)⟩
theorem lw_p9 : lw_okq (⟨"HowFarShesGot$Telling", "digitAt", "(I)I"⟩, 1) := ⟨⟨by decide +kernel, by decide +kernel⟩, List.mem_of_getElem? (i := 65) (by decide +kernel), List.mem_of_getElem? (i := 353) (by decide +kernel), List.mem_of_getElem? (i := 354) (by decide +kernel)⟩
theorem lw_p10 : lw_okq (⟨"HowFarShesGot$Garden", "lay", "(III)Z"⟩, 7) := ⟨⟨by decide +kernel, by decide +kernel⟩, List.mem_of_getElem? (i := 28) (by decide +kernel), List.mem_of_getElem? (i := 357) (by decide +kernel), List.mem_of_getElem? (i := 358) (by decide +kernel)⟩
theorem lw_p11 : lw_okq (⟨"HowFarShesGot$Garden", "liveAt", "(I)Z"⟩, 7) := ⟨⟨by decide +kernel, by decide +kernel⟩, List.mem_of_getElem? (i := 28) (by decide +kernel), List.mem_of_getElem? (i := 365) (by decide +kernel), List.mem_of_getElem? (i := 366) (by decide +kernel)⟩
theorem lw_p12 : lw_okq (⟨"HowFarShesGot$Garden", "open", "()J"⟩, 7) := ⟨⟨by decide +kernel, by decide +kernel⟩, List.mem_of_getElem? (i := 28) (by decide +kernel), List.mem_of_getElem? (i := 369) (by decide +kernel), List.mem_of_getElem? (i := 370) (by decide +kernel)⟩
theorem lw_p13 : lw_okq (⟨"HowFarShesGot$Garden", "squaresOf", "(I)J"⟩, 7) := ⟨⟨by decide +kernel, by decide +kernel⟩, List.mem_of_getElem? (i := 28) (by decide +kernel), List.mem_of_getElem? (i := 373) (by decide +kernel), List.mem_of_getElem? (i := 374) (by decide +kernel)⟩
theorem lw_p14 : lw_okq (⟨"HowFarShesGot$Garden", "takePace", "(I)Z"⟩, 7) := ⟨⟨by decide +kernel, by decide +kernel⟩, List.mem_of_getElem? (i := 28) (by decide +kernel), List.mem_of_getElem? (i := 384) (by decide +kernel), List.mem_of_getElem? (i := 385) (by decide +kernel)⟩
theorem lw_p15 : lw_okq (⟨"HowFarShesGot$Garden", "takeWarm", "(I)Z"⟩, 7) := ⟨⟨by decide +kernel, by decide +kernel⟩, List.mem_of_getElem? (i := 28) (by decide +kernel), List.mem_of_getElem? (i := 388) (by decide +kernel), List.mem_of_getElem? (i := 389) (by decide +kernel)⟩
def lw_privs_1 : List (MethodName × Nat) := [(⟨"HowFarShesGot", "refused", "(I)I"⟩, 11), (⟨"HowFarShesGot$Numbers", "isFull", "()Z"⟩, 2), (⟨"HowFarShesGot$Numbers", "add", "(I)I"⟩, 2), (⟨"HowFarShesGot$Garden", "become", "(LHowFarShesGot$Garden;)V"⟩, 7), (⟨"HowFarShesGot$Telling", "tellTo", "(LHowFarShesGot$Garden;)I"⟩, 1), (⟨"HowFarShesGot$Telling", "firstMisfit", "()I"⟩, 1), (⟨"HowFarShesGot$Numbers", "at", "(I)I"⟩, 2), (⟨"HowFarShesGot$Telling", "comes", "(LHowFarShesGot$Garden;I)Z"⟩, 1), (⟨"HowFarShesGot$Telling", "pairAt", "(I)I"⟩, 1), (⟨"HowFarShesGot$Telling", "digitAt", "(I)I"⟩, 1), (⟨"HowFarShesGot$Garden", "lay", "(III)Z"⟩, 7), (⟨"HowFarShesGot$Garden", "liveAt", "(I)Z"⟩, 7), (⟨"HowFarShesGot$Garden", "open", "()J"⟩, 7), (⟨"HowFarShesGot$Garden", "squaresOf", "(I)J"⟩, 7), (⟨"HowFarShesGot$Garden", "takePace", "(I)Z"⟩, 7), (⟨"HowFarShesGot$Garden", "takeWarm", "(I)Z"⟩, 7)]
theorem lw_r1 : ∀ q ∈ lw_privs_1, lw_okq q := List.forall_mem_cons.mpr ⟨lw_p0, List.forall_mem_cons.mpr ⟨lw_p1, List.forall_mem_cons.mpr ⟨lw_p2, List.forall_mem_cons.mpr ⟨lw_p3, List.forall_mem_cons.mpr ⟨lw_p4, List.forall_mem_cons.mpr ⟨lw_p5, List.forall_mem_cons.mpr ⟨lw_p6, List.forall_mem_cons.mpr ⟨lw_p7, List.forall_mem_cons.mpr ⟨lw_p8, List.forall_mem_cons.mpr ⟨lw_p9, List.forall_mem_cons.mpr ⟨lw_p10, List.forall_mem_cons.mpr ⟨lw_p11, List.forall_mem_cons.mpr ⟨lw_p12, List.forall_mem_cons.mpr ⟨lw_p13, List.forall_mem_cons.mpr ⟨lw_p14, List.forall_mem_cons.mpr ⟨lw_p15, fun _ h => absurd h List.not_mem_nil⟩⟩⟩⟩⟩⟩⟩⟩⟩⟩⟩⟩⟩⟩⟩⟩
theorem lw_p16 : lw_okq (⟨"HowFarShesGot$Garden", "addSeeker", "(II)Z"⟩, 7) := ⟨⟨by decide +kernel, by decide +kernel⟩, List.mem_of_getElem? (i := 28) (by decide +kernel), List.mem_of_getElem? (i := 392) (by decide +kernel), List.mem_of_getElem? (i := 393) (by decide +kernel)⟩
theorem lw_p17 : lw_okq (⟨"HowFarShesGot$Numbers", "clear", "()V"⟩, 2) := ⟨⟨by decide +kernel, by decide +kernel⟩, List.mem_of_getElem? (i := 71) (by decide +kernel), List.mem_of_getElem? (i := 396) (by decide +kernel), List.mem_of_getElem? (i := 397) (by decide +kernel)⟩
theorem lw_p18 : lw_okq (⟨"HowFarShesGot$Garden", "kindAt", "(I)I"⟩, 7) := ⟨⟨by decide +kernel, by decide +kernel⟩, List.mem_of_getElem? (i := 28) (by decide +kernel), List.mem_of_getElem? (i := 405) (by decide +kernel), List.mem_of_getElem? (i := 406) (by decide +kernel)⟩
theorem lw_p19 : lw_okq (⟨"HowFarShesGot$Garden", "stepsOff", "(I)I"⟩, 7) := ⟨⟨by decide +kernel, by decide +kernel⟩, List.mem_of_getElem? (i := 28) (by decide +kernel), List.mem_of_getElem? (i := 414) (by decide +kernel), List.mem_of_getElem? (i := 415) (by decide +kernel)⟩
theorem lw_p20 : lw_okq (⟨"HowFarShesGot$Garden", "stepsOffSun", "()I"⟩, 7) := ⟨⟨by decide +kernel, by decide +kernel⟩, List.mem_of_getElem? (i := 28) (by decide +kernel), List.mem_of_getElem? (i := 419) (by decide +kernel), List.mem_of_getElem? (i := 420) (by decide +kernel)⟩
theorem lw_p21 : lw_okq (⟨"HowFarShesGot", "setHome", "(I)I"⟩, 11) := ⟨⟨by decide +kernel, by decide +kernel⟩, List.mem_of_getElem? (i := 20) (by decide +kernel), List.mem_of_getElem? (i := 432) (by decide +kernel), List.mem_of_getElem? (i := 433) (by decide +kernel)⟩
theorem lw_p22 : lw_okq (⟨"HowFarShesGot", "setPace", "(I)I"⟩, 11) := ⟨⟨by decide +kernel, by decide +kernel⟩, List.mem_of_getElem? (i := 20) (by decide +kernel), List.mem_of_getElem? (i := 437) (by decide +kernel), List.mem_of_getElem? (i := 438) (by decide +kernel)⟩
theorem lw_p23 : lw_okq (⟨"HowFarShesGot", "setWarm", "(I)I"⟩, 11) := ⟨⟨by decide +kernel, by decide +kernel⟩, List.mem_of_getElem? (i := 20) (by decide +kernel), List.mem_of_getElem? (i := 442) (by decide +kernel), List.mem_of_getElem? (i := 443) (by decide +kernel)⟩
theorem lw_p24 : lw_okq (⟨"HowFarShesGot$Garden", "hasSeeker", "(I)Z"⟩, 7) := ⟨⟨by decide +kernel, by decide +kernel⟩, List.mem_of_getElem? (i := 28) (by decide +kernel), List.mem_of_getElem? (i := 451) (by decide +kernel), List.mem_of_getElem? (i := 452) (by decide +kernel)⟩
theorem lw_p25 : lw_okq (⟨"HowFarShesGot$Garden", "kindOfSeeker", "(I)I"⟩, 7) := ⟨⟨by decide +kernel, by decide +kernel⟩, List.mem_of_getElem? (i := 28) (by decide +kernel), List.mem_of_getElem? (i := 455) (by decide +kernel), List.mem_of_getElem? (i := 456) (by decide +kernel)⟩
theorem lw_p26 : lw_okq (⟨"HowFarShesGot$Garden", "squareOfSeeker", "(I)I"⟩, 7) := ⟨⟨by decide +kernel, by decide +kernel⟩, List.mem_of_getElem? (i := 28) (by decide +kernel), List.mem_of_getElem? (i := 460) (by decide +kernel), List.mem_of_getElem? (i := 461) (by decide +kernel)⟩
theorem lw_p27 : lw_okq (⟨"HowFarShesGot$Garden", "placeSeeker", "(II)V"⟩, 7) := ⟨⟨by decide +kernel, by decide +kernel⟩, List.mem_of_getElem? (i := 28) (by decide +kernel), List.mem_of_getElem? (i := 468) (by decide +kernel), List.mem_of_getElem? (i := 469) (by decide +kernel)⟩
theorem lw_p28 : lw_okq (⟨"HowFarShesGot$Wave", "spread", "(LHowFarShesGot$Garden;IJ)V"⟩, 2) := ⟨⟨by decide +kernel, by decide +kernel⟩, List.mem_of_getElem? (i := 96) (by decide +kernel), List.mem_of_getElem? (i := 476) (by decide +kernel), List.mem_of_getElem? (i := 477) (by decide +kernel)⟩
theorem lw_p29 : lw_okq (⟨"HowFarShesGot$Wave", "layer", "(I)J"⟩, 2) := ⟨⟨by decide +kernel, by decide +kernel⟩, List.mem_of_getElem? (i := 96) (by decide +kernel), List.mem_of_getElem? (i := 485) (by decide +kernel), List.mem_of_getElem? (i := 486) (by decide +kernel)⟩
theorem lw_p30 : lw_okq (⟨"HowFarShesGot$Wave", "stepsTo", "(J)I"⟩, 2) := ⟨⟨by decide +kernel, by decide +kernel⟩, List.mem_of_getElem? (i := 96) (by decide +kernel), List.mem_of_getElem? (i := 498) (by decide +kernel), List.mem_of_getElem? (i := 499) (by decide +kernel)⟩
theorem lw_p31 : lw_okq (⟨"HowFarShesGot", "reachedBy", "(I)J"⟩, 11) := ⟨⟨by decide +kernel, by decide +kernel⟩, List.mem_of_getElem? (i := 20) (by decide +kernel), List.mem_of_getElem? (i := 506) (by decide +kernel), List.mem_of_getElem? (i := 507) (by decide +kernel)⟩
def lw_privs_2 : List (MethodName × Nat) := [(⟨"HowFarShesGot$Garden", "addSeeker", "(II)Z"⟩, 7), (⟨"HowFarShesGot$Numbers", "clear", "()V"⟩, 2), (⟨"HowFarShesGot$Garden", "kindAt", "(I)I"⟩, 7), (⟨"HowFarShesGot$Garden", "stepsOff", "(I)I"⟩, 7), (⟨"HowFarShesGot$Garden", "stepsOffSun", "()I"⟩, 7), (⟨"HowFarShesGot", "setHome", "(I)I"⟩, 11), (⟨"HowFarShesGot", "setPace", "(I)I"⟩, 11), (⟨"HowFarShesGot", "setWarm", "(I)I"⟩, 11), (⟨"HowFarShesGot$Garden", "hasSeeker", "(I)Z"⟩, 7), (⟨"HowFarShesGot$Garden", "kindOfSeeker", "(I)I"⟩, 7), (⟨"HowFarShesGot$Garden", "squareOfSeeker", "(I)I"⟩, 7), (⟨"HowFarShesGot$Garden", "placeSeeker", "(II)V"⟩, 7), (⟨"HowFarShesGot$Wave", "spread", "(LHowFarShesGot$Garden;IJ)V"⟩, 2), (⟨"HowFarShesGot$Wave", "layer", "(I)J"⟩, 2), (⟨"HowFarShesGot$Wave", "stepsTo", "(J)I"⟩, 2), (⟨"HowFarShesGot", "reachedBy", "(I)J"⟩, 11)]
theorem lw_r2 : ∀ q ∈ lw_privs_2, lw_okq q := List.forall_mem_cons.mpr ⟨lw_p16, List.forall_mem_cons.mpr ⟨lw_p17, List.forall_mem_cons.mpr ⟨lw_p18, List.forall_mem_cons.mpr ⟨lw_p19, List.forall_mem_cons.mpr ⟨lw_p20, List.forall_mem_cons.mpr ⟨lw_p21, List.forall_mem_cons.mpr ⟨lw_p22, List.forall_mem_cons.mpr ⟨lw_p23, List.forall_mem_cons.mpr ⟨lw_p24, List.forall_mem_cons.mpr ⟨lw_p25, List.forall_mem_cons.mpr ⟨lw_p26, List.forall_mem_cons.mpr ⟨lw_p27, List.forall_mem_cons.mpr ⟨lw_p28, List.forall_mem_cons.mpr ⟨lw_p29, List.forall_mem_cons.mpr ⟨lw_p30, List.forall_mem_cons.mpr ⟨lw_p31, fun _ h => absurd h List.not_mem_nil⟩⟩⟩⟩⟩⟩⟩⟩⟩⟩⟩⟩⟩⟩⟩⟩
theorem lw_p32 : lw_okq (⟨"HowFarShesGot$Wave", "within", "(I)J"⟩, 2) := ⟨⟨by decide +kernel, by decide +kernel⟩, List.mem_of_getElem? (i := 96) (by decide +kernel), List.mem_of_getElem? (i := 510) (by decide +kernel), List.mem_of_getElem? (i := 511) (by decide +kernel)⟩
theorem lw_p33 : lw_okq (⟨"HowFarShesGot", "getsOut", "(J)Z"⟩, 11) := ⟨⟨by decide +kernel, by decide +kernel⟩, List.mem_of_getElem? (i := 20) (by decide +kernel), List.mem_of_getElem? (i := 543) (by decide +kernel), List.mem_of_getElem? (i := 544) (by decide +kernel)⟩
theorem lw_p34 : lw_okq (⟨"HowFarShesGot", "flooded", "(J)J"⟩, 11) := ⟨⟨by decide +kernel, by decide +kernel⟩, List.mem_of_getElem? (i := 20) (by decide +kernel), List.mem_of_getElem? (i := 547) (by decide +kernel), List.mem_of_getElem? (i := 548) (by decide +kernel)⟩
theorem lw_p35 : lw_okq (⟨"HowFarShesGot", "wrongSearch", "(III)I"⟩, 11) := ⟨⟨by decide +kernel, by decide +kernel⟩, List.mem_of_getElem? (i := 20) (by decide +kernel), List.mem_of_getElem? (i := 562) (by decide +kernel), List.mem_of_getElem? (i := 563) (by decide +kernel)⟩
theorem lw_p36 : lw_okq (⟨"HowFarShesGot", "looksTillEmpty", "(III)I"⟩, 11) := ⟨⟨by decide +kernel, by decide +kernel⟩, List.mem_of_getElem? (i := 20) (by decide +kernel), List.mem_of_getElem? (i := 566) (by decide +kernel), List.mem_of_getElem? (i := 567) (by decide +kernel)⟩
theorem lw_p37 : lw_okq (⟨"HowFarShesGot$Hunt", "begin", "(LHowFarShesGot$Garden;JI)V"⟩, 3) := ⟨⟨by decide +kernel, by decide +kernel⟩, List.mem_of_getElem? (i := 109) (by decide +kernel), List.mem_of_getElem? (i := 570) (by decide +kernel), List.mem_of_getElem? (i := 571) (by decide +kernel)⟩
theorem lw_p38 : lw_okq (⟨"HowFarShesGot$Hunt", "seek", "(LHowFarShesGot$Garden;II)V"⟩, 3) := ⟨⟨by decide +kernel, by decide +kernel⟩, List.mem_of_getElem? (i := 109) (by decide +kernel), List.mem_of_getElem? (i := 576) (by decide +kernel), List.mem_of_getElem? (i := 577) (by decide +kernel)⟩
theorem lw_p39 : lw_okq (⟨"HowFarShesGot$Hunt", "choice", "(LHowFarShesGot$Garden;II)I"⟩, 3) := ⟨⟨by decide +kernel, by decide +kernel⟩, List.mem_of_getElem? (i := 109) (by decide +kernel), List.mem_of_getElem? (i := 580) (by decide +kernel), List.mem_of_getElem? (i := 581) (by decide +kernel)⟩
theorem lw_p40 : lw_okq (⟨"HowFarShesGot$Hunt", "standOf", "(I)J"⟩, 3) := ⟨⟨by decide +kernel, by decide +kernel⟩, List.mem_of_getElem? (i := 109) (by decide +kernel), List.mem_of_getElem? (i := 584) (by decide +kernel), List.mem_of_getElem? (i := 585) (by decide +kernel)⟩
theorem lw_p41 : lw_okq (⟨"HowFarShesGot$Hunt", "nearest", "(J)I"⟩, 3) := ⟨⟨by decide +kernel, by decide +kernel⟩, List.mem_of_getElem? (i := 109) (by decide +kernel), List.mem_of_getElem? (i := 588) (by decide +kernel), List.mem_of_getElem? (i := 589) (by decide +kernel)⟩
theorem lw_p42 : lw_okq (⟨"HowFarShesGot$Hunt", "withMostBeside", "()I"⟩, 3) := ⟨⟨by decide +kernel, by decide +kernel⟩, List.mem_of_getElem? (i := 109) (by decide +kernel), List.mem_of_getElem? (i := 594) (by decide +kernel), List.mem_of_getElem? (i := 595) (by decide +kernel)⟩
theorem lw_p43 : lw_okq (⟨"HowFarShesGot$Hunt", "withFewestBeside", "()I"⟩, 3) := ⟨⟨by decide +kernel, by decide +kernel⟩, List.mem_of_getElem? (i := 109) (by decide +kernel), List.mem_of_getElem? (i := 599) (by decide +kernel), List.mem_of_getElem? (i := 600) (by decide +kernel)⟩
theorem lw_p44 : lw_okq (⟨"HowFarShesGot$Hunt", "goalAhead", "(JI)J"⟩, 3) := ⟨⟨by decide +kernel, by decide +kernel⟩, List.mem_of_getElem? (i := 109) (by decide +kernel), List.mem_of_getElem? (i := 604) (by decide +kernel), List.mem_of_getElem? (i := 605) (by decide +kernel)⟩
theorem lw_p45 : lw_okq (⟨"HowFarShesGot$Hunt", "look", "(LHowFarShesGot$Garden;I)V"⟩, 3) := ⟨⟨by decide +kernel, by decide +kernel⟩, List.mem_of_getElem? (i := 109) (by decide +kernel), List.mem_of_getElem? (i := 608) (by decide +kernel), List.mem_of_getElem? (i := 609) (by decide +kernel)⟩
theorem lw_p46 : lw_okq (⟨"HowFarShesGot", "lookOften", "(III)V"⟩, 11) := ⟨⟨by decide +kernel, by decide +kernel⟩, List.mem_of_getElem? (i := 20) (by decide +kernel), List.mem_of_getElem? (i := 619) (by decide +kernel), List.mem_of_getElem? (i := 620) (by decide +kernel)⟩
theorem lw_p47 : lw_okq (⟨"HowFarShesGot", "looksOfAll", "(I)I"⟩, 11) := ⟨⟨by decide +kernel, by decide +kernel⟩, List.mem_of_getElem? (i := 20) (by decide +kernel), List.mem_of_getElem? (i := 642) (by decide +kernel), List.mem_of_getElem? (i := 643) (by decide +kernel)⟩
def lw_privs_3 : List (MethodName × Nat) := [(⟨"HowFarShesGot$Wave", "within", "(I)J"⟩, 2), (⟨"HowFarShesGot", "getsOut", "(J)Z"⟩, 11), (⟨"HowFarShesGot", "flooded", "(J)J"⟩, 11), (⟨"HowFarShesGot", "wrongSearch", "(III)I"⟩, 11), (⟨"HowFarShesGot", "looksTillEmpty", "(III)I"⟩, 11), (⟨"HowFarShesGot$Hunt", "begin", "(LHowFarShesGot$Garden;JI)V"⟩, 3), (⟨"HowFarShesGot$Hunt", "seek", "(LHowFarShesGot$Garden;II)V"⟩, 3), (⟨"HowFarShesGot$Hunt", "choice", "(LHowFarShesGot$Garden;II)I"⟩, 3), (⟨"HowFarShesGot$Hunt", "standOf", "(I)J"⟩, 3), (⟨"HowFarShesGot$Hunt", "nearest", "(J)I"⟩, 3), (⟨"HowFarShesGot$Hunt", "withMostBeside", "()I"⟩, 3), (⟨"HowFarShesGot$Hunt", "withFewestBeside", "()I"⟩, 3), (⟨"HowFarShesGot$Hunt", "goalAhead", "(JI)J"⟩, 3), (⟨"HowFarShesGot$Hunt", "look", "(LHowFarShesGot$Garden;I)V"⟩, 3), (⟨"HowFarShesGot", "lookOften", "(III)V"⟩, 11), (⟨"HowFarShesGot", "looksOfAll", "(I)I"⟩, 11)]
theorem lw_r3 : ∀ q ∈ lw_privs_3, lw_okq q := List.forall_mem_cons.mpr ⟨lw_p32, List.forall_mem_cons.mpr ⟨lw_p33, List.forall_mem_cons.mpr ⟨lw_p34, List.forall_mem_cons.mpr ⟨lw_p35, List.forall_mem_cons.mpr ⟨lw_p36, List.forall_mem_cons.mpr ⟨lw_p37, List.forall_mem_cons.mpr ⟨lw_p38, List.forall_mem_cons.mpr ⟨lw_p39, List.forall_mem_cons.mpr ⟨lw_p40, List.forall_mem_cons.mpr ⟨lw_p41, List.forall_mem_cons.mpr ⟨lw_p42, List.forall_mem_cons.mpr ⟨lw_p43, List.forall_mem_cons.mpr ⟨lw_p44, List.forall_mem_cons.mpr ⟨lw_p45, List.forall_mem_cons.mpr ⟨lw_p46, List.forall_mem_cons.mpr ⟨lw_p47, fun _ h => absurd h List.not_mem_nil⟩⟩⟩⟩⟩⟩⟩⟩⟩⟩⟩⟩⟩⟩⟩⟩
theorem lw_p48 : lw_okq (⟨"HowFarShesGot", "rowTellsSquares", "(I)Z"⟩, 11) := ⟨⟨by decide +kernel, by decide +kernel⟩, List.mem_of_getElem? (i := 20) (by decide +kernel), List.mem_of_getElem? (i := 650) (by decide +kernel), List.mem_of_getElem? (i := 651) (by decide +kernel)⟩
theorem lw_p49 : lw_okq (⟨"HowFarShesGot", "squaresOfRow", "()J"⟩, 11) := ⟨⟨by decide +kernel, by decide +kernel⟩, List.mem_of_getElem? (i := 20) (by decide +kernel), List.mem_of_getElem? (i := 656) (by decide +kernel), List.mem_of_getElem? (i := 657) (by decide +kernel)⟩
theorem lw_p50 : lw_okq (⟨"HowFarShesGot", "reachedWhenHeld", "(J)J"⟩, 11) := ⟨⟨by decide +kernel, by decide +kernel⟩, List.mem_of_getElem? (i := 20) (by decide +kernel), List.mem_of_getElem? (i := 660) (by decide +kernel), List.mem_of_getElem? (i := 661) (by decide +kernel)⟩
theorem lw_p51 : lw_okq (⟨"HowFarShesGot", "oneMore", "(J)I"⟩, 11) := ⟨⟨by decide +kernel, by decide +kernel⟩, List.mem_of_getElem? (i := 20) (by decide +kernel), List.mem_of_getElem? (i := 664) (by decide +kernel), List.mem_of_getElem? (i := 665) (by decide +kernel)⟩
theorem lw_p52 : lw_okq (⟨"HowFarShesGot", "refusedLong", "(I)J"⟩, 11) := ⟨⟨by decide +kernel, by decide +kernel⟩, List.mem_of_getElem? (i := 20) (by decide +kernel), List.mem_of_getElem? (i := 675) (by decide +kernel), List.mem_of_getElem? (i := 676) (by decide +kernel)⟩
theorem lw_p53 : lw_okq (⟨"HowFarShesGot$Chances", "walk", "(LHowFarShesGot$Garden;I)V"⟩, 2) := ⟨⟨by decide +kernel, by decide +kernel⟩, List.mem_of_getElem? (i := 126) (by decide +kernel), List.mem_of_getElem? (i := 680) (by decide +kernel), List.mem_of_getElem? (i := 681) (by decide +kernel)⟩
theorem lw_p54 : lw_okq (⟨"HowFarShesGot$Chances", "comingOnto", "(LHowFarShesGot$Garden;I)J"⟩, 2) := ⟨⟨by decide +kernel, by decide +kernel⟩, List.mem_of_getElem? (i := 126) (by decide +kernel), List.mem_of_getElem? (i := 685) (by decide +kernel), List.mem_of_getElem? (i := 686) (by decide +kernel)⟩
theorem lw_p55 : lw_okq (⟨"HowFarShesGot$Chances", "endingOn", "(I)J"⟩, 2) := ⟨⟨by decide +kernel, by decide +kernel⟩, List.mem_of_getElem? (i := 126) (by decide +kernel), List.mem_of_getElem? (i := 696) (by decide +kernel), List.mem_of_getElem? (i := 697) (by decide +kernel)⟩
theorem lw_p56 : lw_okq (⟨"HowFarShesGot$Chances", "inAll", "()J"⟩, 2) := ⟨⟨by decide +kernel, by decide +kernel⟩, List.mem_of_getElem? (i := 126) (by decide +kernel), List.mem_of_getElem? (i := 704) (by decide +kernel), List.mem_of_getElem? (i := 705) (by decide +kernel)⟩
theorem lw_p57 : lw_okq (⟨"HowFarShesGot$Chances", "likeliestSquare", "()I"⟩, 2) := ⟨⟨by decide +kernel, by decide +kernel⟩, List.mem_of_getElem? (i := 126) (by decide +kernel), List.mem_of_getElem? (i := 715) (by decide +kernel), List.mem_of_getElem? (i := 716) (by decide +kernel)⟩
theorem lw_p58 : lw_okq (⟨"HowFarShesGot", "afterTurning", "(II)J"⟩, 11) := ⟨⟨by decide +kernel, by decide +kernel⟩, List.mem_of_getElem? (i := 20) (by decide +kernel), List.mem_of_getElem? (i := 724) (by decide +kernel), List.mem_of_getElem? (i := 725) (by decide +kernel)⟩
theorem lw_p59 : lw_okq (⟨"HowFarShesGot", "firstWrongPair", "(I)I"⟩, 11) := ⟨⟨by decide +kernel, by decide +kernel⟩, List.mem_of_getElem? (i := 20) (by decide +kernel), List.mem_of_getElem? (i := 732) (by decide +kernel), List.mem_of_getElem? (i := 733) (by decide +kernel)⟩
theorem lw_p60 : lw_okq (⟨"HowFarShesGot", "homesOfTraces", "()J"⟩, 11) := ⟨⟨by decide +kernel, by decide +kernel⟩, List.mem_of_getElem? (i := 20) (by decide +kernel), List.mem_of_getElem? (i := 736) (by decide +kernel), List.mem_of_getElem? (i := 737) (by decide +kernel)⟩
theorem lw_p61 : lw_okq (⟨"HowFarShesGot$Lot", "seed", "(I)V"⟩, 1) := ⟨⟨by decide +kernel, by decide +kernel⟩, List.mem_of_getElem? (i := 139) (by decide +kernel), List.mem_of_getElem? (i := 757) (by decide +kernel), List.mem_of_getElem? (i := 758) (by decide +kernel)⟩
theorem lw_p62 : lw_okq (⟨"HowFarShesGot", "afterWalkByLot", "()J"⟩, 11) := ⟨⟨by decide +kernel, by decide +kernel⟩, List.mem_of_getElem? (i := 20) (by decide +kernel), List.mem_of_getElem? (i := 761) (by decide +kernel), List.mem_of_getElem? (i := 762) (by decide +kernel)⟩
theorem lw_p63 : lw_okq (⟨"HowFarShesGot$Lot", "draw", "(I)I"⟩, 1) := ⟨⟨by decide +kernel, by decide +kernel⟩, List.mem_of_getElem? (i := 139) (by decide +kernel), List.mem_of_getElem? (i := 765) (by decide +kernel), List.mem_of_getElem? (i := 766) (by decide +kernel)⟩
def lw_privs_4 : List (MethodName × Nat) := [(⟨"HowFarShesGot", "rowTellsSquares", "(I)Z"⟩, 11), (⟨"HowFarShesGot", "squaresOfRow", "()J"⟩, 11), (⟨"HowFarShesGot", "reachedWhenHeld", "(J)J"⟩, 11), (⟨"HowFarShesGot", "oneMore", "(J)I"⟩, 11), (⟨"HowFarShesGot", "refusedLong", "(I)J"⟩, 11), (⟨"HowFarShesGot$Chances", "walk", "(LHowFarShesGot$Garden;I)V"⟩, 2), (⟨"HowFarShesGot$Chances", "comingOnto", "(LHowFarShesGot$Garden;I)J"⟩, 2), (⟨"HowFarShesGot$Chances", "endingOn", "(I)J"⟩, 2), (⟨"HowFarShesGot$Chances", "inAll", "()J"⟩, 2), (⟨"HowFarShesGot$Chances", "likeliestSquare", "()I"⟩, 2), (⟨"HowFarShesGot", "afterTurning", "(II)J"⟩, 11), (⟨"HowFarShesGot", "firstWrongPair", "(I)I"⟩, 11), (⟨"HowFarShesGot", "homesOfTraces", "()J"⟩, 11), (⟨"HowFarShesGot$Lot", "seed", "(I)V"⟩, 1), (⟨"HowFarShesGot", "afterWalkByLot", "()J"⟩, 11), (⟨"HowFarShesGot$Lot", "draw", "(I)I"⟩, 1)]
theorem lw_r4 : ∀ q ∈ lw_privs_4, lw_okq q := List.forall_mem_cons.mpr ⟨lw_p48, List.forall_mem_cons.mpr ⟨lw_p49, List.forall_mem_cons.mpr ⟨lw_p50, List.forall_mem_cons.mpr ⟨lw_p51, List.forall_mem_cons.mpr ⟨lw_p52, List.forall_mem_cons.mpr ⟨lw_p53, List.forall_mem_cons.mpr ⟨lw_p54, List.forall_mem_cons.mpr ⟨lw_p55, List.forall_mem_cons.mpr ⟨lw_p56, List.forall_mem_cons.mpr ⟨lw_p57, List.forall_mem_cons.mpr ⟨lw_p58, List.forall_mem_cons.mpr ⟨lw_p59, List.forall_mem_cons.mpr ⟨lw_p60, List.forall_mem_cons.mpr ⟨lw_p61, List.forall_mem_cons.mpr ⟨lw_p62, List.forall_mem_cons.mpr ⟨lw_p63, fun _ h => absurd h List.not_mem_nil⟩⟩⟩⟩⟩⟩⟩⟩⟩⟩⟩⟩⟩⟩⟩⟩
theorem lw_p64 : lw_okq (⟨"HowFarShesGot", "refusalsOf", "(I)I"⟩, 11) := ⟨⟨by decide +kernel, by decide +kernel⟩, List.mem_of_getElem? (i := 20) (by decide +kernel), List.mem_of_getElem? (i := 787) (by decide +kernel), List.mem_of_getElem? (i := 788) (by decide +kernel)⟩
theorem lw_p65 : lw_okq (⟨"HowFarShesGotModel", "no", "(I)I"⟩, 24) := ⟨⟨by decide +kernel, by decide +kernel⟩, List.mem_of_getElem? (i := 791) (by decide +kernel), List.mem_of_getElem? (i := 883) (by decide +kernel), List.mem_of_getElem? (i := 884) (by decide +kernel)⟩
theorem lw_p66 : lw_okq (⟨"HowFarShesGotModel", "read", "()I"⟩, 24) := ⟨⟨by decide +kernel, by decide +kernel⟩, List.mem_of_getElem? (i := 791) (by decide +kernel), List.mem_of_getElem? (i := 895) (by decide +kernel), List.mem_of_getElem? (i := 896) (by decide +kernel)⟩
theorem lw_p67 : lw_okq (⟨"HowFarShesGotModel", "statement", "()V"⟩, 24) := ⟨⟨by decide +kernel, by decide +kernel⟩, List.mem_of_getElem? (i := 791) (by decide +kernel), List.mem_of_getElem? (i := 899) (by decide +kernel), List.mem_of_getElem? (i := 900) (by decide +kernel)⟩
theorem lw_p68 : lw_okq (⟨"HowFarShesGotModel", "oneOf", "([C)I"⟩, 24) := ⟨⟨by decide +kernel, by decide +kernel⟩, List.mem_of_getElem? (i := 791) (by decide +kernel), List.mem_of_getElem? (i := 903) (by decide +kernel), List.mem_of_getElem? (i := 904) (by decide +kernel)⟩
theorem lw_p69 : lw_okq (⟨"HowFarShesGotModel", "figures", "(I)I"⟩, 24) := ⟨⟨by decide +kernel, by decide +kernel⟩, List.mem_of_getElem? (i := 791) (by decide +kernel), List.mem_of_getElem? (i := 907) (by decide +kernel), List.mem_of_getElem? (i := 908) (by decide +kernel)⟩
theorem lw_p70 : lw_okq (⟨"HowFarShesGotModel", "takes", "()Z"⟩, 24) := ⟨⟨by decide +kernel, by decide +kernel⟩, List.mem_of_getElem? (i := 791) (by decide +kernel), List.mem_of_getElem? (i := 911) (by decide +kernel), List.mem_of_getElem? (i := 912) (by decide +kernel)⟩
theorem lw_p71 : lw_okq (⟨"HowFarShesGotModel", "kindOf", "(I)I"⟩, 24) := ⟨⟨by decide +kernel, by decide +kernel⟩, List.mem_of_getElem? (i := 791) (by decide +kernel), List.mem_of_getElem? (i := 915) (by decide +kernel), List.mem_of_getElem? (i := 916) (by decide +kernel)⟩
theorem lw_p72 : lw_okq (⟨"HowFarShesGotModel", "off", "(I)I"⟩, 24) := ⟨⟨by decide +kernel, by decide +kernel⟩, List.mem_of_getElem? (i := 791) (by decide +kernel), List.mem_of_getElem? (i := 926) (by decide +kernel), List.mem_of_getElem? (i := 927) (by decide +kernel)⟩
theorem lw_p73 : lw_okq (⟨"HowFarShesGotModel", "isNoSeeker", "(I)Z"⟩, 24) := ⟨⟨by decide +kernel, by decide +kernel⟩, List.mem_of_getElem? (i := 791) (by decide +kernel), List.mem_of_getElem? (i := 942) (by decide +kernel), List.mem_of_getElem? (i := 943) (by decide +kernel)⟩
theorem lw_p74 : lw_okq (⟨"HowFarShesGotModel", "walkFrom", "(I)V"⟩, 24) := ⟨⟨by decide +kernel, by decide +kernel⟩, List.mem_of_getElem? (i := 791) (by decide +kernel), List.mem_of_getElem? (i := 954) (by decide +kernel), List.mem_of_getElem? (i := 955) (by decide +kernel)⟩
theorem lw_p75 : lw_okq (⟨"HowFarShesGotModel", "canBe", "(I)Z"⟩, 24) := ⟨⟨by decide +kernel, by decide +kernel⟩, List.mem_of_getElem? (i := 791) (by decide +kernel), List.mem_of_getElem? (i := 962) (by decide +kernel), List.mem_of_getElem? (i := 963) (by decide +kernel)⟩
theorem lw_p76 : lw_okq (⟨"HowFarShesGotModel", "mayBeAt", "(I)V"⟩, 24) := ⟨⟨by decide +kernel, by decide +kernel⟩, List.mem_of_getElem? (i := 791) (by decide +kernel), List.mem_of_getElem? (i := 970) (by decide +kernel), List.mem_of_getElem? (i := 971) (by decide +kernel)⟩
theorem lw_p77 : lw_okq (⟨"HowFarShesGotModel", "inSet", "()I"⟩, 24) := ⟨⟨by decide +kernel, by decide +kernel⟩, List.mem_of_getElem? (i := 791) (by decide +kernel), List.mem_of_getElem? (i := 974) (by decide +kernel), List.mem_of_getElem? (i := 975) (by decide +kernel)⟩
theorem lw_p78 : lw_okq (⟨"HowFarShesGotModel", "minutesOut", "()I"⟩, 24) := ⟨⟨by decide +kernel, by decide +kernel⟩, List.mem_of_getElem? (i := 791) (by decide +kernel), List.mem_of_getElem? (i := 982) (by decide +kernel), List.mem_of_getElem? (i := 983) (by decide +kernel)⟩
theorem lw_p79 : lw_okq (⟨"HowFarShesGotModel", "holdNone", "()V"⟩, 24) := ⟨⟨by decide +kernel, by decide +kernel⟩, List.mem_of_getElem? (i := 791) (by decide +kernel), List.mem_of_getElem? (i := 991) (by decide +kernel), List.mem_of_getElem? (i := 992) (by decide +kernel)⟩
def lw_privs_5 : List (MethodName × Nat) := [(⟨"HowFarShesGot", "refusalsOf", "(I)I"⟩, 11), (⟨"HowFarShesGotModel", "no", "(I)I"⟩, 24), (⟨"HowFarShesGotModel", "read", "()I"⟩, 24), (⟨"HowFarShesGotModel", "statement", "()V"⟩, 24), (⟨"HowFarShesGotModel", "oneOf", "([C)I"⟩, 24), (⟨"HowFarShesGotModel", "figures", "(I)I"⟩, 24), (⟨"HowFarShesGotModel", "takes", "()Z"⟩, 24), (⟨"HowFarShesGotModel", "kindOf", "(I)I"⟩, 24), (⟨"HowFarShesGotModel", "off", "(I)I"⟩, 24), (⟨"HowFarShesGotModel", "isNoSeeker", "(I)Z"⟩, 24), (⟨"HowFarShesGotModel", "walkFrom", "(I)V"⟩, 24), (⟨"HowFarShesGotModel", "canBe", "(I)Z"⟩, 24), (⟨"HowFarShesGotModel", "mayBeAt", "(I)V"⟩, 24), (⟨"HowFarShesGotModel", "inSet", "()I"⟩, 24), (⟨"HowFarShesGotModel", "minutesOut", "()I"⟩, 24), (⟨"HowFarShesGotModel", "holdNone", "()V"⟩, 24)]
theorem lw_r5 : ∀ q ∈ lw_privs_5, lw_okq q := List.forall_mem_cons.mpr ⟨lw_p64, List.forall_mem_cons.mpr ⟨lw_p65, List.forall_mem_cons.mpr ⟨lw_p66, List.forall_mem_cons.mpr ⟨lw_p67, List.forall_mem_cons.mpr ⟨lw_p68, List.forall_mem_cons.mpr ⟨lw_p69, List.forall_mem_cons.mpr ⟨lw_p70, List.forall_mem_cons.mpr ⟨lw_p71, List.forall_mem_cons.mpr ⟨lw_p72, List.forall_mem_cons.mpr ⟨lw_p73, List.forall_mem_cons.mpr ⟨lw_p74, List.forall_mem_cons.mpr ⟨lw_p75, List.forall_mem_cons.mpr ⟨lw_p76, List.forall_mem_cons.mpr ⟨lw_p77, List.forall_mem_cons.mpr ⟨lw_p78, List.forall_mem_cons.mpr ⟨lw_p79, fun _ h => absurd h List.not_mem_nil⟩⟩⟩⟩⟩⟩⟩⟩⟩⟩⟩⟩⟩⟩⟩⟩
theorem lw_p80 : lw_okq (⟨"HowFarShesGotModel", "kindOfSeeker", "(I)I"⟩, 24) := ⟨⟨by decide +kernel, by decide +kernel⟩, List.mem_of_getElem? (i := 791) (by decide +kernel), List.mem_of_getElem? (i := 1004) (by decide +kernel), List.mem_of_getElem? (i := 1005) (by decide +kernel)⟩
theorem lw_p81 : lw_okq (⟨"HowFarShesGotModel", "searchBy", "(III)I"⟩, 24) := ⟨⟨by decide +kernel, by decide +kernel⟩, List.mem_of_getElem? (i := 791) (by decide +kernel), List.mem_of_getElem? (i := 1008) (by decide +kernel), List.mem_of_getElem? (i := 1009) (by decide +kernel)⟩
theorem lw_p82 : lw_okq (⟨"HowFarShesGotModel", "begin", "(I)V"⟩, 24) := ⟨⟨by decide +kernel, by decide +kernel⟩, List.mem_of_getElem? (i := 791) (by decide +kernel), List.mem_of_getElem? (i := 1012) (by decide +kernel), List.mem_of_getElem? (i := 1013) (by decide +kernel)⟩
theorem lw_p83 : lw_okq (⟨"HowFarShesGotModel", "looks", "(II)I"⟩, 24) := ⟨⟨by decide +kernel, by decide +kernel⟩, List.mem_of_getElem? (i := 791) (by decide +kernel), List.mem_of_getElem? (i := 1016) (by decide +kernel), List.mem_of_getElem? (i := 1017) (by decide +kernel)⟩
theorem lw_p84 : lw_okq (⟨"HowFarShesGotModel", "waits", "(III)I"⟩, 24) := ⟨⟨by decide +kernel, by decide +kernel⟩, List.mem_of_getElem? (i := 791) (by decide +kernel), List.mem_of_getElem? (i := 1020) (by decide +kernel), List.mem_of_getElem? (i := 1021) (by decide +kernel)⟩
theorem lw_p85 : lw_okq (⟨"HowFarShesGotModel", "besideInSet", "(I)I"⟩, 24) := ⟨⟨by decide +kernel, by decide +kernel⟩, List.mem_of_getElem? (i := 791) (by decide +kernel), List.mem_of_getElem? (i := 1024) (by decide +kernel), List.mem_of_getElem? (i := 1025) (by decide +kernel)⟩
theorem lw_p86 : lw_okq (⟨"HowFarShesGotModel", "toRoad", "(I)I"⟩, 24) := ⟨⟨by decide +kernel, by decide +kernel⟩, List.mem_of_getElem? (i := 791) (by decide +kernel), List.mem_of_getElem? (i := 1028) (by decide +kernel), List.mem_of_getElem? (i := 1029) (by decide +kernel)⟩
theorem lw_p87 : lw_okq (⟨"HowFarShesGotModel", "apart", "(II)I"⟩, 24) := ⟨⟨by decide +kernel, by decide +kernel⟩, List.mem_of_getElem? (i := 791) (by decide +kernel), List.mem_of_getElem? (i := 1032) (by decide +kernel), List.mem_of_getElem? (i := 1033) (by decide +kernel)⟩
theorem lw_p88 : lw_okq (⟨"HowFarShesGotModel", "passes", "(I)V"⟩, 24) := ⟨⟨by decide +kernel, by decide +kernel⟩, List.mem_of_getElem? (i := 791) (by decide +kernel), List.mem_of_getElem? (i := 1039) (by decide +kernel), List.mem_of_getElem? (i := 1040) (by decide +kernel)⟩
theorem lw_p89 : lw_okq (⟨"HowFarShesGotModel", "refusal", "(III)I"⟩, 24) := ⟨⟨by decide +kernel, by decide +kernel⟩, List.mem_of_getElem? (i := 791) (by decide +kernel), List.mem_of_getElem? (i := 1047) (by decide +kernel), List.mem_of_getElem? (i := 1048) (by decide +kernel)⟩
theorem lw_p90 : lw_okq (⟨"HowFarShesGotModel", "lookOn", "(III)V"⟩, 24) := ⟨⟨by decide +kernel, by decide +kernel⟩, List.mem_of_getElem? (i := 791) (by decide +kernel), List.mem_of_getElem? (i := 1051) (by decide +kernel), List.mem_of_getElem? (i := 1052) (by decide +kernel)⟩
theorem lw_p91 : lw_okq (⟨"HowFarShesGotModel", "reached", "()I"⟩, 24) := ⟨⟨by decide +kernel, by decide +kernel⟩, List.mem_of_getElem? (i := 791) (by decide +kernel), List.mem_of_getElem? (i := 1071) (by decide +kernel), List.mem_of_getElem? (i := 1072) (by decide +kernel)⟩
theorem lw_p92 : lw_okq (⟨"HowFarShesGotModel", "oneMore", "()I"⟩, 24) := ⟨⟨by decide +kernel, by decide +kernel⟩, List.mem_of_getElem? (i := 791) (by decide +kernel), List.mem_of_getElem? (i := 1075) (by decide +kernel), List.mem_of_getElem? (i := 1076) (by decide +kernel)⟩
theorem lw_p93 : lw_okq (⟨"HowFarShesGotModel", "noLong", "(I)J"⟩, 24) := ⟨⟨by decide +kernel, by decide +kernel⟩, List.mem_of_getElem? (i := 791) (by decide +kernel), List.mem_of_getElem? (i := 1083) (by decide +kernel), List.mem_of_getElem? (i := 1084) (by decide +kernel)⟩
theorem lw_p94 : lw_okq (⟨"HowFarShesGotModel", "waysOf", "(I)J"⟩, 24) := ⟨⟨by decide +kernel, by decide +kernel⟩, List.mem_of_getElem? (i := 791) (by decide +kernel), List.mem_of_getElem? (i := 1088) (by decide +kernel), List.mem_of_getElem? (i := 1089) (by decide +kernel)⟩
theorem lw_p95 : lw_okq (⟨"HowFarShesGotModel", "firstWrong", "(I)I"⟩, 24) := ⟨⟨by decide +kernel, by decide +kernel⟩, List.mem_of_getElem? (i := 791) (by decide +kernel), List.mem_of_getElem? (i := 1108) (by decide +kernel), List.mem_of_getElem? (i := 1109) (by decide +kernel)⟩
def lw_privs_6 : List (MethodName × Nat) := [(⟨"HowFarShesGotModel", "kindOfSeeker", "(I)I"⟩, 24), (⟨"HowFarShesGotModel", "searchBy", "(III)I"⟩, 24), (⟨"HowFarShesGotModel", "begin", "(I)V"⟩, 24), (⟨"HowFarShesGotModel", "looks", "(II)I"⟩, 24), (⟨"HowFarShesGotModel", "waits", "(III)I"⟩, 24), (⟨"HowFarShesGotModel", "besideInSet", "(I)I"⟩, 24), (⟨"HowFarShesGotModel", "toRoad", "(I)I"⟩, 24), (⟨"HowFarShesGotModel", "apart", "(II)I"⟩, 24), (⟨"HowFarShesGotModel", "passes", "(I)V"⟩, 24), (⟨"HowFarShesGotModel", "refusal", "(III)I"⟩, 24), (⟨"HowFarShesGotModel", "lookOn", "(III)V"⟩, 24), (⟨"HowFarShesGotModel", "reached", "()I"⟩, 24), (⟨"HowFarShesGotModel", "oneMore", "()I"⟩, 24), (⟨"HowFarShesGotModel", "noLong", "(I)J"⟩, 24), (⟨"HowFarShesGotModel", "waysOf", "(I)J"⟩, 24), (⟨"HowFarShesGotModel", "firstWrong", "(I)I"⟩, 24)]
theorem lw_r6 : ∀ q ∈ lw_privs_6, lw_okq q := List.forall_mem_cons.mpr ⟨lw_p80, List.forall_mem_cons.mpr ⟨lw_p81, List.forall_mem_cons.mpr ⟨lw_p82, List.forall_mem_cons.mpr ⟨lw_p83, List.forall_mem_cons.mpr ⟨lw_p84, List.forall_mem_cons.mpr ⟨lw_p85, List.forall_mem_cons.mpr ⟨lw_p86, List.forall_mem_cons.mpr ⟨lw_p87, List.forall_mem_cons.mpr ⟨lw_p88, List.forall_mem_cons.mpr ⟨lw_p89, List.forall_mem_cons.mpr ⟨lw_p90, List.forall_mem_cons.mpr ⟨lw_p91, List.forall_mem_cons.mpr ⟨lw_p92, List.forall_mem_cons.mpr ⟨lw_p93, List.forall_mem_cons.mpr ⟨lw_p94, List.forall_mem_cons.mpr ⟨lw_p95, fun _ h => absurd h List.not_mem_nil⟩⟩⟩⟩⟩⟩⟩⟩⟩⟩⟩⟩⟩⟩⟩⟩
theorem lw_p96 : lw_okq (⟨"HowFarShesGotModel", "looksOfRow", "(I)I"⟩, 24) := ⟨⟨by decide +kernel, by decide +kernel⟩, List.mem_of_getElem? (i := 791) (by decide +kernel), List.mem_of_getElem? (i := 1120) (by decide +kernel), List.mem_of_getElem? (i := 1121) (by decide +kernel)⟩
def lw_privs_7 : List (MethodName × Nat) := [(⟨"HowFarShesGotModel", "looksOfRow", "(I)I"⟩, 24)]
theorem lw_r7 : ∀ q ∈ lw_privs_7, lw_okq q := List.forall_mem_cons.mpr ⟨lw_p96, fun _ h => absurd h List.not_mem_nil⟩
def lw_privs : List (MethodName × Nat) := lw_privs_1 ++ (lw_privs_2 ++ (lw_privs_3 ++ (lw_privs_4 ++ (lw_privs_5 ++ (lw_privs_6 ++ (lw_privs_7))))))
def lw_tbl : List Cond := k2_sels lw_privs ++ tables_1
theorem lw_privs_ok : ∀ q ∈ lw_privs, lw_okq q := by
  show ∀ q ∈ lw_privs_1 ++ (lw_privs_2 ++ (lw_privs_3 ++ (lw_privs_4 ++ (lw_privs_5 ++ (lw_privs_6 ++ (lw_privs_7)))))), lw_okq q
  exact List.forall_mem_append.mpr ⟨lw_r1, List.forall_mem_append.mpr ⟨lw_r2, List.forall_mem_append.mpr ⟨lw_r3, List.forall_mem_append.mpr ⟨lw_r4, List.forall_mem_append.mpr ⟨lw_r5, List.forall_mem_append.mpr ⟨lw_r6, lw_r7⟩⟩⟩⟩⟩⟩
def RX0 : String := "HowFarShesGot$Chances"
def TX0 : u_T := fun k => match k with
  | 0 => ("HowFarShesGot$Chances", "ending", "[J", true)
  | _ => ("HowFarShesGot$Chances", "before", "[J", true)
def tyX0 : Nat → FieldType := fun k => match k with
  | 0 => .array .long
  | _ => .array .long
abbrev wsX00 : List Cond := u_ws RX0 TX0 2
theorem nmX0 : ∀ a, a < 2 → ∀ b, b < 2 → a ≠ b → (TX0 a).2.1 ≠ (TX0 b).2.1 := by decide +kernel
theorem tyX0_ok : ∀ k, k < 2 → parseFieldDescriptor (TX0 k).2.2.1 = some (tyX0 k) := by decide +kernel
abbrev cX0_init : ByteArray := prog_2_method_1_code
def yX0_init : MethodName := ⟨RX0, "<init>", "()V"⟩
abbrev cX0_walk : ByteArray := prog_2_method_2_code
def yX0_walk : MethodName := ⟨RX0, "walk", "(LHowFarShesGot$Garden;I)V"⟩
abbrev cX0_comingOnto : ByteArray := prog_2_method_3_code
def yX0_comingOnto : MethodName := ⟨RX0, "comingOnto", "(LHowFarShesGot$Garden;I)J"⟩
abbrev cX0_endingOn : ByteArray := prog_2_method_4_code
def yX0_endingOn : MethodName := ⟨RX0, "endingOn", "(I)J"⟩
abbrev cX0_inAll : ByteArray := prog_2_method_5_code
def yX0_inAll : MethodName := ⟨RX0, "inAll", "()J"⟩
abbrev cX0_likeliestSquare : ByteArray := prog_2_method_6_code
def yX0_likeliestSquare : MethodName := ⟨RX0, "likeliestSquare", "()I"⟩
def RX1 : String := "HowFarShesGot$Garden"
def TX1 : u_T := fun k => match k with
  | 0 => ("HowFarShesGot$Garden", "byKind", "[J", true)
  | 1 => ("HowFarShesGot$Garden", "seekerKinds", "[I", true)
  | 2 => ("HowFarShesGot$Garden", "seekerSquares", "[I", true)
  | 3 => ("HowFarShesGot$Garden", "seekers", "I", false)
  | 4 => ("HowFarShesGot$Garden", "home", "I", false)
  | 5 => ("HowFarShesGot$Garden", "pace", "I", false)
  | _ => ("HowFarShesGot$Garden", "warm", "I", false)
def tyX1 : Nat → FieldType := fun k => match k with
  | 0 => .array .long
  | 1 => .array .int
  | 2 => .array .int
  | 3 => .int
  | 4 => .int
  | 5 => .int
  | _ => .int
abbrev wsX10 : List Cond := u_ws RX1 TX1 7
theorem nmX1 : ∀ a, a < 7 → ∀ b, b < 7 → a ≠ b → (TX1 a).2.1 ≠ (TX1 b).2.1 := by decide +kernel
theorem tyX1_ok : ∀ k, k < 7 → parseFieldDescriptor (TX1 k).2.2.1 = some (tyX1 k) := by decide +kernel
abbrev cX1_init : ByteArray := prog_3_method_1_code
def yX1_init : MethodName := ⟨RX1, "<init>", "()V"⟩
abbrev cX1_become : ByteArray := prog_3_method_2_code
def yX1_become : MethodName := ⟨RX1, "become", "(LHowFarShesGot$Garden;)V"⟩
abbrev cX1_squaresOf : ByteArray := prog_3_method_3_code
def yX1_squaresOf : MethodName := ⟨RX1, "squaresOf", "(I)J"⟩
abbrev cX1_open : ByteArray := prog_3_method_4_code
def yX1_open : MethodName := ⟨RX1, "open", "()J"⟩
abbrev cX1_kindAt : ByteArray := prog_3_method_5_code
def yX1_kindAt : MethodName := ⟨RX1, "kindAt", "(I)I"⟩
abbrev cX1_stepsOff : ByteArray := prog_3_method_6_code
def yX1_stepsOff : MethodName := ⟨RX1, "stepsOff", "(I)I"⟩
abbrev cX1_stepsOffSun : ByteArray := prog_3_method_7_code
def yX1_stepsOffSun : MethodName := ⟨RX1, "stepsOffSun", "()I"⟩
abbrev cX1_lay : ByteArray := prog_3_method_8_code
def yX1_lay : MethodName := ⟨RX1, "lay", "(III)Z"⟩
abbrev cX1_liveAt : ByteArray := prog_3_method_9_code
def yX1_liveAt : MethodName := ⟨RX1, "liveAt", "(I)Z"⟩
abbrev cX1_takePace : ByteArray := prog_3_method_10_code
def yX1_takePace : MethodName := ⟨RX1, "takePace", "(I)Z"⟩
abbrev cX1_takeWarm : ByteArray := prog_3_method_11_code
def yX1_takeWarm : MethodName := ⟨RX1, "takeWarm", "(I)Z"⟩
abbrev cX1_addSeeker : ByteArray := prog_3_method_12_code
def yX1_addSeeker : MethodName := ⟨RX1, "addSeeker", "(II)Z"⟩
abbrev cX1_hasSeeker : ByteArray := prog_3_method_13_code
def yX1_hasSeeker : MethodName := ⟨RX1, "hasSeeker", "(I)Z"⟩
abbrev cX1_kindOfSeeker : ByteArray := prog_3_method_14_code
def yX1_kindOfSeeker : MethodName := ⟨RX1, "kindOfSeeker", "(I)I"⟩
abbrev cX1_squareOfSeeker : ByteArray := prog_3_method_15_code
def yX1_squareOfSeeker : MethodName := ⟨RX1, "squareOfSeeker", "(I)I"⟩
abbrev cX1_placeSeeker : ByteArray := prog_3_method_16_code
def yX1_placeSeeker : MethodName := ⟨RX1, "placeSeeker", "(II)V"⟩
def RX2 : String := "HowFarShesGot$Hunt"
def TX2 : u_T := fun k => match k with
  | 0 => ("HowFarShesGot$Hunt", "stands", "[J", true)
  | 1 => ("HowFarShesGot$Hunt", "set", "J", false)
  | _ => ("HowFarShesGot$Hunt", "minute", "I", false)
def tyX2 : Nat → FieldType := fun k => match k with
  | 0 => .array .long
  | 1 => .long
  | _ => .int
abbrev wsX20 : List Cond := u_ws RX2 TX2 3
theorem nmX2 : ∀ a, a < 3 → ∀ b, b < 3 → a ≠ b → (TX2 a).2.1 ≠ (TX2 b).2.1 := by decide +kernel
theorem tyX2_ok : ∀ k, k < 3 → parseFieldDescriptor (TX2 k).2.2.1 = some (tyX2 k) := by decide +kernel
abbrev cX2_init : ByteArray := prog_4_method_1_code
def yX2_init : MethodName := ⟨RX2, "<init>", "()V"⟩
abbrev cX2_begin : ByteArray := prog_4_method_2_code
def yX2_begin : MethodName := ⟨RX2, "begin", "(LHowFarShesGot$Garden;JI)V"⟩
abbrev cX2_look : ByteArray := prog_4_method_3_code
def yX2_look : MethodName := ⟨RX2, "look", "(LHowFarShesGot$Garden;I)V"⟩
abbrev cX2_seek : ByteArray := prog_4_method_4_code
def yX2_seek : MethodName := ⟨RX2, "seek", "(LHowFarShesGot$Garden;II)V"⟩
abbrev cX2_choice : ByteArray := prog_4_method_5_code
def yX2_choice : MethodName := ⟨RX2, "choice", "(LHowFarShesGot$Garden;II)I"⟩
abbrev cX2_standOf : ByteArray := prog_4_method_6_code
def yX2_standOf : MethodName := ⟨RX2, "standOf", "(I)J"⟩
abbrev cX2_goalAhead : ByteArray := prog_4_method_7_code
def yX2_goalAhead : MethodName := ⟨RX2, "goalAhead", "(JI)J"⟩
abbrev cX2_nearest : ByteArray := prog_4_method_8_code
def yX2_nearest : MethodName := ⟨RX2, "nearest", "(J)I"⟩
abbrev cX2_withMostBeside : ByteArray := prog_4_method_9_code
def yX2_withMostBeside : MethodName := ⟨RX2, "withMostBeside", "()I"⟩
abbrev cX2_withFewestBeside : ByteArray := prog_4_method_10_code
def yX2_withFewestBeside : MethodName := ⟨RX2, "withFewestBeside", "()I"⟩
def RX3 : String := "HowFarShesGot$Lot"
def TX3 : u_T := fun k => match k with
  | _ => ("HowFarShesGot$Lot", "z", "I", false)
def tyX3 : Nat → FieldType := fun k => match k with
  | _ => .int
abbrev wsX30 : List Cond := u_ws RX3 TX3 1
theorem nmX3 : ∀ a, a < 1 → ∀ b, b < 1 → a ≠ b → (TX3 a).2.1 ≠ (TX3 b).2.1 := by decide +kernel
theorem tyX3_ok : ∀ k, k < 1 → parseFieldDescriptor (TX3 k).2.2.1 = some (tyX3 k) := by decide +kernel
abbrev cX3_init : ByteArray := prog_5_method_1_code
def yX3_init : MethodName := ⟨RX3, "<init>", "()V"⟩
abbrev cX3_seed : ByteArray := prog_5_method_2_code
def yX3_seed : MethodName := ⟨RX3, "seed", "(I)V"⟩
abbrev cX3_draw : ByteArray := prog_5_method_3_code
def yX3_draw : MethodName := ⟨RX3, "draw", "(I)I"⟩
def RX4 : String := "HowFarShesGot$Numbers"
def TX4 : u_T := fun k => match k with
  | 0 => ("HowFarShesGot$Numbers", "numbers", "[I", true)
  | _ => ("HowFarShesGot$Numbers", "size", "I", false)
def tyX4 : Nat → FieldType := fun k => match k with
  | 0 => .array .int
  | _ => .int
abbrev wsX40 : List Cond := u_ws RX4 TX4 2
theorem nmX4 : ∀ a, a < 2 → ∀ b, b < 2 → a ≠ b → (TX4 a).2.1 ≠ (TX4 b).2.1 := by decide +kernel
theorem tyX4_ok : ∀ k, k < 2 → parseFieldDescriptor (TX4 k).2.2.1 = some (tyX4 k) := by decide +kernel
abbrev cX4_init : ByteArray := prog_6_method_1_code
def yX4_init : MethodName := ⟨RX4, "<init>", "(I)V"⟩
abbrev cX4_isFull : ByteArray := prog_6_method_2_code
def yX4_isFull : MethodName := ⟨RX4, "isFull", "()Z"⟩
abbrev cX4_add : ByteArray := prog_6_method_3_code
def yX4_add : MethodName := ⟨RX4, "add", "(I)I"⟩
abbrev cX4_clear : ByteArray := prog_6_method_4_code
def yX4_clear : MethodName := ⟨RX4, "clear", "()V"⟩
abbrev cX4_at : ByteArray := prog_6_method_5_code
def yX4_at : MethodName := ⟨RX4, "at", "(I)I"⟩
def RX5 : String := "HowFarShesGot$Telling"
def TX5 : u_T := fun k => match k with
  | _ => ("HowFarShesGot$Telling", "letters", "LHowFarShesGot$Numbers;", true)
def tyX5 : Nat → FieldType := fun k => match k with
  | _ => .object "HowFarShesGot$Numbers"
abbrev wsX50 : List Cond := u_ws RX5 TX5 1
theorem nmX5 : ∀ a, a < 1 → ∀ b, b < 1 → a ≠ b → (TX5 a).2.1 ≠ (TX5 b).2.1 := by decide +kernel
theorem tyX5_ok : ∀ k, k < 1 → parseFieldDescriptor (TX5 k).2.2.1 = some (tyX5 k) := by decide +kernel
abbrev cX5_init : ByteArray := prog_7_method_1_code
def yX5_init : MethodName := ⟨RX5, "<init>", "()V"⟩
abbrev cX5_tellTo : ByteArray := prog_7_method_2_code
def yX5_tellTo : MethodName := ⟨RX5, "tellTo", "(LHowFarShesGot$Garden;)I"⟩
abbrev cX5_firstMisfit : ByteArray := prog_7_method_3_code
def yX5_firstMisfit : MethodName := ⟨RX5, "firstMisfit", "()I"⟩
abbrev cX5_shapeBehind : ByteArray := prog_7_method_4_code
def yX5_shapeBehind : MethodName := ⟨RX5, "shapeBehind", "(I)Ljava/lang/String;"⟩
abbrev cX5_fits : ByteArray := prog_7_method_5_code
def yX5_fits : MethodName := ⟨RX5, "fits", "(IC)Z"⟩
abbrev cX5_comes : ByteArray := prog_7_method_6_code
def yX5_comes : MethodName := ⟨RX5, "comes", "(LHowFarShesGot$Garden;I)Z"⟩
abbrev cX5_digitAt : ByteArray := prog_7_method_7_code
def yX5_digitAt : MethodName := ⟨RX5, "digitAt", "(I)I"⟩
abbrev cX5_pairAt : ByteArray := prog_7_method_8_code
def yX5_pairAt : MethodName := ⟨RX5, "pairAt", "(I)I"⟩
def RX6 : String := "HowFarShesGot$Wave"
def TX6 : u_T := fun k => match k with
  | 0 => ("HowFarShesGot$Wave", "layers", "[J", true)
  | _ => ("HowFarShesGot$Wave", "size", "I", false)
def tyX6 : Nat → FieldType := fun k => match k with
  | 0 => .array .long
  | _ => .int
abbrev wsX60 : List Cond := u_ws RX6 TX6 2
theorem nmX6 : ∀ a, a < 2 → ∀ b, b < 2 → a ≠ b → (TX6 a).2.1 ≠ (TX6 b).2.1 := by decide +kernel
theorem tyX6_ok : ∀ k, k < 2 → parseFieldDescriptor (TX6 k).2.2.1 = some (tyX6 k) := by decide +kernel
abbrev cX6_init : ByteArray := prog_8_method_1_code
def yX6_init : MethodName := ⟨RX6, "<init>", "()V"⟩
abbrev cX6_spread : ByteArray := prog_8_method_2_code
def yX6_spread : MethodName := ⟨RX6, "spread", "(LHowFarShesGot$Garden;IJ)V"⟩
abbrev cX6_layer : ByteArray := prog_8_method_3_code
def yX6_layer : MethodName := ⟨RX6, "layer", "(I)J"⟩
abbrev cX6_within : ByteArray := prog_8_method_4_code
def yX6_within : MethodName := ⟨RX6, "within", "(I)J"⟩
abbrev cX6_stepsTo : ByteArray := prog_8_method_5_code
def yX6_stepsTo : MethodName := ⟨RX6, "stepsTo", "(J)I"⟩
def RX7 : String := "HowFarShesGot"
def TX7 : u_T := fun k => match k with
  | 0 => ("HowFarShesGot", "garden", "LHowFarShesGot$Garden;", true)
  | 1 => ("HowFarShesGot", "draft", "LHowFarShesGot$Garden;", true)
  | 2 => ("HowFarShesGot", "image", "LHowFarShesGot$Garden;", true)
  | 3 => ("HowFarShesGot", "telling", "LHowFarShesGot$Telling;", true)
  | 4 => ("HowFarShesGot", "row", "LHowFarShesGot$Numbers;", true)
  | 5 => ("HowFarShesGot", "wave", "LHowFarShesGot$Wave;", true)
  | 6 => ("HowFarShesGot", "hunt", "LHowFarShesGot$Hunt;", true)
  | 7 => ("HowFarShesGot", "chances", "LHowFarShesGot$Chances;", true)
  | 8 => ("HowFarShesGot", "lot", "LHowFarShesGot$Lot;", true)
  | 9 => ("HowFarShesGot", "refusals", "[I", true)
  | _ => ("HowFarShesGot", "imageTaken", "Z", false)
def tyX7 : Nat → FieldType := fun k => match k with
  | 0 => .object "HowFarShesGot$Garden"
  | 1 => .object "HowFarShesGot$Garden"
  | 2 => .object "HowFarShesGot$Garden"
  | 3 => .object "HowFarShesGot$Telling"
  | 4 => .object "HowFarShesGot$Numbers"
  | 5 => .object "HowFarShesGot$Wave"
  | 6 => .object "HowFarShesGot$Hunt"
  | 7 => .object "HowFarShesGot$Chances"
  | 8 => .object "HowFarShesGot$Lot"
  | 9 => .array .int
  | _ => .boolean
abbrev wsX70 : List Cond := u_ws RX7 TX7 11
theorem nmX7 : ∀ a, a < 11 → ∀ b, b < 11 → a ≠ b → (TX7 a).2.1 ≠ (TX7 b).2.1 := by decide +kernel
theorem tyX7_ok : ∀ k, k < 11 → parseFieldDescriptor (TX7 k).2.2.1 = some (tyX7 k) := by decide +kernel
abbrev cX7_init : ByteArray := prog_1_method_1_code
def yX7_init : MethodName := ⟨RX7, "<init>", "()V"⟩
abbrev cX7_letter : ByteArray := prog_1_method_2_code
def yX7_letter : MethodName := ⟨RX7, "letter", "(I)I"⟩
abbrev cX7_garden : ByteArray := prog_1_method_3_code
def yX7_garden : MethodName := ⟨RX7, "garden", "()I"⟩
abbrev cX7_square : ByteArray := prog_1_method_4_code
def yX7_square : MethodName := ⟨RX7, "square", "(II)I"⟩
abbrev cX7_turnTo : ByteArray := prog_1_method_5_code
def yX7_turnTo : MethodName := ⟨RX7, "turnTo", "(II)I"⟩
abbrev cX7_set : ByteArray := prog_1_method_6_code
def yX7_set : MethodName := ⟨RX7, "set", "(II)I"⟩
abbrev cX7_seeker : ByteArray := prog_1_method_7_code
def yX7_seeker : MethodName := ⟨RX7, "seeker", "(II)I"⟩
abbrev cX7_stand : ByteArray := prog_1_method_8_code
def yX7_stand : MethodName := ⟨RX7, "stand", "(II)I"⟩
abbrev cX7_steps : ByteArray := prog_1_method_9_code
def yX7_steps : MethodName := ⟨RX7, "steps", "(I)I"⟩
abbrev cX7_mayBe : ByteArray := prog_1_method_10_code
def yX7_mayBe : MethodName := ⟨RX7, "mayBe", "(II)I"⟩
abbrev cX7_out : ByteArray := prog_1_method_11_code
def yX7_out : MethodName := ⟨RX7, "out", "(I)I"⟩
abbrev cX7_shut : ByteArray := prog_1_method_12_code
def yX7_shut : MethodName := ⟨RX7, "shut", "()I"⟩
abbrev cX7_firstGap : ByteArray := prog_1_method_13_code
def yX7_firstGap : MethodName := ⟨RX7, "firstGap", "()I"⟩
abbrev cX7_search : ByteArray := prog_1_method_14_code
def yX7_search : MethodName := ⟨RX7, "search", "(II)I"⟩
abbrev cX7_left : ByteArray := prog_1_method_15_code
def yX7_left : MethodName := ⟨RX7, "left", "(III)I"⟩
abbrev cX7_looksAt : ByteArray := prog_1_method_16_code
def yX7_looksAt : MethodName := ⟨RX7, "looksAt", "(III)I"⟩
abbrev cX7_bestSeeker : ByteArray := prog_1_method_17_code
def yX7_bestSeeker : MethodName := ⟨RX7, "bestSeeker", "(II)I"⟩
abbrev cX7_together : ByteArray := prog_1_method_18_code
def yX7_together : MethodName := ⟨RX7, "together", "(I)I"⟩
abbrev cX7_hold : ByteArray := prog_1_method_19_code
def yX7_hold : MethodName := ⟨RX7, "hold", "(I)I"⟩
abbrev cX7_ways : ByteArray := prog_1_method_20_code
def yX7_ways : MethodName := ⟨RX7, "ways", "(II)J"⟩
abbrev cX7_likely : ByteArray := prog_1_method_21_code
def yX7_likely : MethodName := ⟨RX7, "likely", "(III)J"⟩
abbrev cX7_likeliest : ByteArray := prog_1_method_22_code
def yX7_likeliest : MethodName := ⟨RX7, "likeliest", "(I)I"⟩
abbrev cX7_turning : ByteArray := prog_1_method_23_code
def yX7_turning : MethodName := ⟨RX7, "turning", "(II)I"⟩
abbrev cX7_finds : ByteArray := prog_1_method_24_code
def yX7_finds : MethodName := ⟨RX7, "finds", "(I)I"⟩
abbrev cX7_row : ByteArray := prog_1_method_25_code
def yX7_row : MethodName := ⟨RX7, "row", "(I)I"⟩
abbrev cX7_judge : ByteArray := prog_1_method_26_code
def yX7_judge : MethodName := ⟨RX7, "judge", "(I)I"⟩
abbrev cX7_behind : ByteArray := prog_1_method_27_code
def yX7_behind : MethodName := ⟨RX7, "behind", "(I)I"⟩
abbrev cX7_lots : ByteArray := prog_1_method_28_code
def yX7_lots : MethodName := ⟨RX7, "lots", "(II)I"⟩
abbrev cX7_image : ByteArray := prog_1_method_29_code
def yX7_image : MethodName := ⟨RX7, "image", "()I"⟩
abbrev cX7_on : ByteArray := prog_1_method_30_code
def yX7_on : MethodName := ⟨RX7, "on", "()I"⟩
abbrev cX7_count : ByteArray := prog_1_method_31_code
def yX7_count : MethodName := ⟨RX7, "count", "(I)I"⟩
abbrev cX7_refused : ByteArray := prog_1_method_32_code
def yX7_refused : MethodName := ⟨RX7, "refused", "(I)I"⟩
abbrev cX7_refusedLong : ByteArray := prog_1_method_33_code
def yX7_refusedLong : MethodName := ⟨RX7, "refusedLong", "(I)J"⟩
abbrev cX7_refusalsOf : ByteArray := prog_1_method_34_code
def yX7_refusalsOf : MethodName := ⟨RX7, "refusalsOf", "(I)I"⟩
abbrev cX7_wrongMinute : ByteArray := prog_1_method_35_code
def yX7_wrongMinute : MethodName := ⟨RX7, "wrongMinute", "(I)I"⟩
abbrev cX7_wrongNumber : ByteArray := prog_1_method_36_code
def yX7_wrongNumber : MethodName := ⟨RX7, "wrongNumber", "(II)I"⟩
abbrev cX7_wrongSearch : ByteArray := prog_1_method_37_code
def yX7_wrongSearch : MethodName := ⟨RX7, "wrongSearch", "(III)I"⟩
abbrev cX7_wrongWays : ByteArray := prog_1_method_38_code
def yX7_wrongWays : MethodName := ⟨RX7, "wrongWays", "(II)I"⟩
abbrev cX7_setHome : ByteArray := prog_1_method_39_code
def yX7_setHome : MethodName := ⟨RX7, "setHome", "(I)I"⟩
abbrev cX7_setPace : ByteArray := prog_1_method_40_code
def yX7_setPace : MethodName := ⟨RX7, "setPace", "(I)I"⟩
abbrev cX7_setWarm : ByteArray := prog_1_method_41_code
def yX7_setWarm : MethodName := ⟨RX7, "setWarm", "(I)I"⟩
abbrev cX7_reachedBy : ByteArray := prog_1_method_42_code
def yX7_reachedBy : MethodName := ⟨RX7, "reachedBy", "(I)J"⟩
abbrev cX7_getsOut : ByteArray := prog_1_method_43_code
def yX7_getsOut : MethodName := ⟨RX7, "getsOut", "(J)Z"⟩
abbrev cX7_flooded : ByteArray := prog_1_method_44_code
def yX7_flooded : MethodName := ⟨RX7, "flooded", "(J)J"⟩
abbrev cX7_gapsOfBits : ByteArray := prog_1_method_45_code
def yX7_gapsOfBits : MethodName := ⟨RX7, "gapsOfBits", "(JI)J"⟩
abbrev cX7_reachedWhenHeld : ByteArray := prog_1_method_46_code
def yX7_reachedWhenHeld : MethodName := ⟨RX7, "reachedWhenHeld", "(J)J"⟩
abbrev cX7_oneMore : ByteArray := prog_1_method_47_code
def yX7_oneMore : MethodName := ⟨RX7, "oneMore", "(J)I"⟩
abbrev cX7_looksTillEmpty : ByteArray := prog_1_method_48_code
def yX7_looksTillEmpty : MethodName := ⟨RX7, "looksTillEmpty", "(III)I"⟩
abbrev cX7_lookOften : ByteArray := prog_1_method_49_code
def yX7_lookOften : MethodName := ⟨RX7, "lookOften", "(III)V"⟩
abbrev cX7_looksOfAll : ByteArray := prog_1_method_50_code
def yX7_looksOfAll : MethodName := ⟨RX7, "looksOfAll", "(I)I"⟩
abbrev cX7_rowTellsSquares : ByteArray := prog_1_method_51_code
def yX7_rowTellsSquares : MethodName := ⟨RX7, "rowTellsSquares", "(I)Z"⟩
abbrev cX7_squaresOfRow : ByteArray := prog_1_method_52_code
def yX7_squaresOfRow : MethodName := ⟨RX7, "squaresOfRow", "()J"⟩
abbrev cX7_afterTurning : ByteArray := prog_1_method_53_code
def yX7_afterTurning : MethodName := ⟨RX7, "afterTurning", "(II)J"⟩
abbrev cX7_firstWrongPair : ByteArray := prog_1_method_54_code
def yX7_firstWrongPair : MethodName := ⟨RX7, "firstWrongPair", "(I)I"⟩
abbrev cX7_homesOfTraces : ByteArray := prog_1_method_55_code
def yX7_homesOfTraces : MethodName := ⟨RX7, "homesOfTraces", "()J"⟩
abbrev cX7_afterWalkByLot : ByteArray := prog_1_method_56_code
def yX7_afterWalkByLot : MethodName := ⟨RX7, "afterWalkByLot", "()J"⟩
abbrev cX7_drawnDirection : ByteArray := prog_1_method_57_code
def yX7_drawnDirection : MethodName := ⟨RX7, "drawnDirection", "(I)I"⟩
abbrev cX7_isSquare : ByteArray := prog_1_method_58_code
def yX7_isSquare : MethodName := ⟨RX7, "isSquare", "(I)Z"⟩
abbrev cX7_bit : ByteArray := prog_1_method_59_code
def yX7_bit : MethodName := ⟨RX7, "bit", "(I)J"⟩
abbrev cX7_has : ByteArray := prog_1_method_60_code
def yX7_has : MethodName := ⟨RX7, "has", "(JI)Z"⟩
abbrev cX7_least : ByteArray := prog_1_method_61_code
def yX7_least : MethodName := ⟨RX7, "least", "(J)I"⟩
abbrev cX7_moved : ByteArray := prog_1_method_62_code
def yX7_moved : MethodName := ⟨RX7, "moved", "(JI)J"⟩
abbrev cX7_beside : ByteArray := prog_1_method_63_code
def yX7_beside : MethodName := ⟨RX7, "beside", "(J)J"⟩
abbrev cX7_yesOrNo : ByteArray := prog_1_method_64_code
def yX7_yesOrNo : MethodName := ⟨RX7, "yesOrNo", "(Z)I"⟩
abbrev cX7_greatestDivisor : ByteArray := prog_1_method_65_code
def yX7_greatestDivisor : MethodName := ⟨RX7, "greatestDivisor", "(JJ)J"⟩
def RX8 : String := "HowFarShesGotModel"
def TX8 : u_T := fun k => match k with
  | 0 => ("HowFarShesGotModel", "refused", "[I", true)
  | 1 => ("HowFarShesGotModel", "now", "[I", true)
  | 2 => ("HowFarShesGotModel", "then", "[I", true)
  | 3 => ("HowFarShesGotModel", "kept", "Z", false)
  | 4 => ("HowFarShesGotModel", "tape", "[I", true)
  | 5 => ("HowFarShesGotModel", "taped", "I", false)
  | 6 => ("HowFarShesGotModel", "at", "I", false)
  | 7 => ("HowFarShesGotModel", "well", "Z", false)
  | 8 => ("HowFarShesGotModel", "begins", "[C", true)
  | 9 => ("HowFarShesGotModel", "kinds", "[C", true)
  | 10 => ("HowFarShesGotModel", "seekers", "[C", true)
  | 11 => ("HowFarShesGotModel", "sort", "I", false)
  | 12 => ("HowFarShesGotModel", "field", "[I", true)
  | 13 => ("HowFarShesGotModel", "was", "[I", true)
  | 14 => ("HowFarShesGotModel", "held", "[Z", true)
  | 15 => ("HowFarShesGotModel", "far", "[I", true)
  | 16 => ("HowFarShesGotModel", "set", "[Z", true)
  | 17 => ("HowFarShesGotModel", "spread", "[Z", true)
  | 18 => ("HowFarShesGotModel", "stands", "[I", true)
  | 19 => ("HowFarShesGotModel", "minute", "I", false)
  | 20 => ("HowFarShesGotModel", "line", "[I", true)
  | 21 => ("HowFarShesGotModel", "lined", "I", false)
  | 22 => ("HowFarShesGotModel", "ways", "[J", true)
  | _ => ("HowFarShesGotModel", "more", "[J", true)
def tyX8 : Nat → FieldType := fun k => match k with
  | 0 => .array .int
  | 1 => .array .int
  | 2 => .array .int
  | 3 => .boolean
  | 4 => .array .int
  | 5 => .int
  | 6 => .int
  | 7 => .boolean
  | 8 => .array .char
  | 9 => .array .char
  | 10 => .array .char
  | 11 => .int
  | 12 => .array .int
  | 13 => .array .int
  | 14 => .array .boolean
  | 15 => .array .int
  | 16 => .array .boolean
  | 17 => .array .boolean
  | 18 => .array .int
  | 19 => .int
  | 20 => .array .int
  | 21 => .int
  | 22 => .array .long
  | _ => .array .long
abbrev wsX80 : List Cond := u_ws RX8 TX8 24
theorem nmX8 : ∀ a, a < 24 → ∀ b, b < 24 → a ≠ b → (TX8 a).2.1 ≠ (TX8 b).2.1 := by decide +kernel
theorem tyX8_ok : ∀ k, k < 24 → parseFieldDescriptor (TX8 k).2.2.1 = some (tyX8 k) := by decide +kernel
abbrev cX8_no : ByteArray := prog_10_method_1_code
def yX8_no : MethodName := ⟨RX8, "no", "(I)I"⟩
abbrev cX8_noLong : ByteArray := prog_10_method_2_code
def yX8_noLong : MethodName := ⟨RX8, "noLong", "(I)J"⟩
abbrev cX8_init : ByteArray := prog_10_method_3_code
def yX8_init : MethodName := ⟨RX8, "<init>", "()V"⟩
abbrev cX8_move : ByteArray := prog_10_method_4_code
def yX8_move : MethodName := ⟨RX8, "move", "([I[I)V"⟩
abbrev cX8_image : ByteArray := prog_10_method_5_code
def yX8_image : MethodName := ⟨RX8, "image", "()I"⟩
abbrev cX8_on : ByteArray := prog_10_method_6_code
def yX8_on : MethodName := ⟨RX8, "on", "()I"⟩
abbrev cX8_isNoSquare : ByteArray := prog_10_method_7_code
def yX8_isNoSquare : MethodName := ⟨RX8, "isNoSquare", "(I)Z"⟩
abbrev cX8_kindOf : ByteArray := prog_10_method_8_code
def yX8_kindOf : MethodName := ⟨RX8, "kindOf", "(I)I"⟩
abbrev cX8_letter : ByteArray := prog_10_method_9_code
def yX8_letter : MethodName := ⟨RX8, "letter", "(I)I"⟩
abbrev cX8_oneOf : ByteArray := prog_10_method_10_code
def yX8_oneOf : MethodName := ⟨RX8, "oneOf", "([C)I"⟩
abbrev cX8_figures : ByteArray := prog_10_method_11_code
def yX8_figures : MethodName := ⟨RX8, "figures", "(I)I"⟩
abbrev cX8_statement : ByteArray := prog_10_method_12_code
def yX8_statement : MethodName := ⟨RX8, "statement", "()V"⟩
abbrev cX8_takes : ByteArray := prog_10_method_13_code
def yX8_takes : MethodName := ⟨RX8, "takes", "()Z"⟩
abbrev cX8_read : ByteArray := prog_10_method_14_code
def yX8_read : MethodName := ⟨RX8, "read", "()I"⟩
abbrev cX8_garden : ByteArray := prog_10_method_15_code
def yX8_garden : MethodName := ⟨RX8, "garden", "()I"⟩
abbrev cX8_canBe : ByteArray := prog_10_method_16_code
def yX8_canBe : MethodName := ⟨RX8, "canBe", "(I)Z"⟩
abbrev cX8_off : ByteArray := prog_10_method_17_code
def yX8_off : MethodName := ⟨RX8, "off", "(I)I"⟩
abbrev cX8_square : ByteArray := prog_10_method_18_code
def yX8_square : MethodName := ⟨RX8, "square", "(II)I"⟩
abbrev cX8_turnTo : ByteArray := prog_10_method_19_code
def yX8_turnTo : MethodName := ⟨RX8, "turnTo", "(II)I"⟩
abbrev cX8_set : ByteArray := prog_10_method_20_code
def yX8_set : MethodName := ⟨RX8, "set", "(II)I"⟩
abbrev cX8_isNoSeeker : ByteArray := prog_10_method_21_code
def yX8_isNoSeeker : MethodName := ⟨RX8, "isNoSeeker", "(I)Z"⟩
abbrev cX8_seeker : ByteArray := prog_10_method_22_code
def yX8_seeker : MethodName := ⟨RX8, "seeker", "(II)I"⟩
abbrev cX8_stand : ByteArray := prog_10_method_23_code
def yX8_stand : MethodName := ⟨RX8, "stand", "(II)I"⟩
abbrev cX8_beside : ByteArray := prog_10_method_24_code
def yX8_beside : MethodName := ⟨RX8, "beside", "(II)I"⟩
abbrev cX8_walkFrom : ByteArray := prog_10_method_25_code
def yX8_walkFrom : MethodName := ⟨RX8, "walkFrom", "(I)V"⟩
abbrev cX8_steps : ByteArray := prog_10_method_26_code
def yX8_steps : MethodName := ⟨RX8, "steps", "(I)I"⟩
abbrev cX8_mayBeAt : ByteArray := prog_10_method_27_code
def yX8_mayBeAt : MethodName := ⟨RX8, "mayBeAt", "(I)V"⟩
abbrev cX8_inSet : ByteArray := prog_10_method_28_code
def yX8_inSet : MethodName := ⟨RX8, "inSet", "()I"⟩
abbrev cX8_mayBe : ByteArray := prog_10_method_29_code
def yX8_mayBe : MethodName := ⟨RX8, "mayBe", "(II)I"⟩
abbrev cX8_minutesOut : ByteArray := prog_10_method_30_code
def yX8_minutesOut : MethodName := ⟨RX8, "minutesOut", "()I"⟩
abbrev cX8_out : ByteArray := prog_10_method_31_code
def yX8_out : MethodName := ⟨RX8, "out", "(I)I"⟩
abbrev cX8_holdNone : ByteArray := prog_10_method_32_code
def yX8_holdNone : MethodName := ⟨RX8, "holdNone", "()V"⟩
abbrev cX8_shut : ByteArray := prog_10_method_33_code
def yX8_shut : MethodName := ⟨RX8, "shut", "()I"⟩
abbrev cX8_firstGap : ByteArray := prog_10_method_34_code
def yX8_firstGap : MethodName := ⟨RX8, "firstGap", "()I"⟩
abbrev cX8_apart : ByteArray := prog_10_method_35_code
def yX8_apart : MethodName := ⟨RX8, "apart", "(II)I"⟩
abbrev cX8_toRoad : ByteArray := prog_10_method_36_code
def yX8_toRoad : MethodName := ⟨RX8, "toRoad", "(I)I"⟩
abbrev cX8_besideInSet : ByteArray := prog_10_method_37_code
def yX8_besideInSet : MethodName := ⟨RX8, "besideInSet", "(I)I"⟩
abbrev cX8_waits : ByteArray := prog_10_method_38_code
def yX8_waits : MethodName := ⟨RX8, "waits", "(III)I"⟩
abbrev cX8_looks : ByteArray := prog_10_method_39_code
def yX8_looks : MethodName := ⟨RX8, "looks", "(II)I"⟩
abbrev cX8_passes : ByteArray := prog_10_method_40_code
def yX8_passes : MethodName := ⟨RX8, "passes", "(I)V"⟩
abbrev cX8_begin : ByteArray := prog_10_method_41_code
def yX8_begin : MethodName := ⟨RX8, "begin", "(I)V"⟩
abbrev cX8_searchBy : ByteArray := prog_10_method_42_code
def yX8_searchBy : MethodName := ⟨RX8, "searchBy", "(III)I"⟩
abbrev cX8_kindOfSeeker : ByteArray := prog_10_method_43_code
def yX8_kindOfSeeker : MethodName := ⟨RX8, "kindOfSeeker", "(I)I"⟩
abbrev cX8_search : ByteArray := prog_10_method_44_code
def yX8_search : MethodName := ⟨RX8, "search", "(II)I"⟩
abbrev cX8_refusal : ByteArray := prog_10_method_45_code
def yX8_refusal : MethodName := ⟨RX8, "refusal", "(III)I"⟩
abbrev cX8_lookOn : ByteArray := prog_10_method_46_code
def yX8_lookOn : MethodName := ⟨RX8, "lookOn", "(III)V"⟩
abbrev cX8_left : ByteArray := prog_10_method_47_code
def yX8_left : MethodName := ⟨RX8, "left", "(III)I"⟩
abbrev cX8_looksAt : ByteArray := prog_10_method_48_code
def yX8_looksAt : MethodName := ⟨RX8, "looksAt", "(III)I"⟩
abbrev cX8_bestSeeker : ByteArray := prog_10_method_49_code
def yX8_bestSeeker : MethodName := ⟨RX8, "bestSeeker", "(II)I"⟩
abbrev cX8_together : ByteArray := prog_10_method_50_code
def yX8_together : MethodName := ⟨RX8, "together", "(I)I"⟩
abbrev cX8_reached : ByteArray := prog_10_method_51_code
def yX8_reached : MethodName := ⟨RX8, "reached", "()I"⟩
abbrev cX8_hold : ByteArray := prog_10_method_52_code
def yX8_hold : MethodName := ⟨RX8, "hold", "(I)I"⟩
abbrev cX8_oneMore : ByteArray := prog_10_method_53_code
def yX8_oneMore : MethodName := ⟨RX8, "oneMore", "()I"⟩
abbrev cX8_waysOf : ByteArray := prog_10_method_54_code
def yX8_waysOf : MethodName := ⟨RX8, "waysOf", "(I)J"⟩
abbrev cX8_ways : ByteArray := prog_10_method_55_code
def yX8_ways : MethodName := ⟨RX8, "ways", "(II)J"⟩
abbrev cX8_likely : ByteArray := prog_10_method_56_code
def yX8_likely : MethodName := ⟨RX8, "likely", "(III)J"⟩
abbrev cX8_likeliest : ByteArray := prog_10_method_57_code
def yX8_likeliest : MethodName := ⟨RX8, "likeliest", "(I)I"⟩
abbrev cX8_turning : ByteArray := prog_10_method_58_code
def yX8_turning : MethodName := ⟨RX8, "turning", "(II)I"⟩
abbrev cX8_firstWrong : ByteArray := prog_10_method_59_code
def yX8_firstWrong : MethodName := ⟨RX8, "firstWrong", "(I)I"⟩
abbrev cX8_finds : ByteArray := prog_10_method_60_code
def yX8_finds : MethodName := ⟨RX8, "finds", "(I)I"⟩
abbrev cX8_row : ByteArray := prog_10_method_61_code
def yX8_row : MethodName := ⟨RX8, "row", "(I)I"⟩
abbrev cX8_looksOfRow : ByteArray := prog_10_method_62_code
def yX8_looksOfRow : MethodName := ⟨RX8, "looksOfRow", "(I)I"⟩
abbrev cX8_judge : ByteArray := prog_10_method_63_code
def yX8_judge : MethodName := ⟨RX8, "judge", "(I)I"⟩
abbrev cX8_behind : ByteArray := prog_10_method_64_code
def yX8_behind : MethodName := ⟨RX8, "behind", "(I)I"⟩
abbrev cX8_lots : ByteArray := prog_10_method_65_code
def yX8_lots : MethodName := ⟨RX8, "lots", "(II)I"⟩
abbrev cX8_count : ByteArray := prog_10_method_66_code
def yX8_count : MethodName := ⟨RX8, "count", "(I)I"⟩
def RJ11 : String := "java/lang/Character"
def TJ11 : u_T := fun k => match k with
  | _ => ("", "", "", false)
def tyJ11 : Nat → FieldType := fun k => match k with
  | _ => .int
abbrev cJ11_isValidCodePoint_9a6ad : ByteArray := prog_11_method_11_code
def yJ11_isValidCodePoint_9a6ad : MethodName := ⟨RJ11, "isValidCodePoint", "(I)Z"⟩
abbrev cJ11_highSurrogate_5068e : ByteArray := prog_11_method_28_code
def yJ11_highSurrogate_5068e : MethodName := ⟨RJ11, "highSurrogate", "(I)C"⟩
abbrev cJ11_lowSurrogate_5068e : ByteArray := prog_11_method_29_code
def yJ11_lowSurrogate_5068e : MethodName := ⟨RJ11, "lowSurrogate", "(I)C"⟩
def RJ6 : String := "java/lang/Integer"
def TJ6 : u_T := fun k => match k with
  | _ => ("", "", "", false)
def tyJ6 : Nat → FieldType := fun k => match k with
  | _ => .int
abbrev cJ6_bitCount_0f7a4 : ByteArray := prog_12_method_49_code
def yJ6_bitCount_0f7a4 : MethodName := ⟨RJ6, "bitCount", "(I)I"⟩
def RJ13 : String := "java/lang/Long"
def TJ13 : u_T := fun k => match k with
  | _ => ("", "", "", false)
def tyJ13 : Nat → FieldType := fun k => match k with
  | _ => .int
abbrev cJ13_bitCount_95d88 : ByteArray := prog_13_method_50_code
def yJ13_bitCount_95d88 : MethodName := ⟨RJ13, "bitCount", "(J)I"⟩
def RJ9 : String := "java/lang/Math"
def TJ9 : u_T := fun k => match k with
  | _ => ("", "", "", false)
def tyJ9 : Nat → FieldType := fun k => match k with
  | _ => .int
abbrev cJ9_abs_0f7a4 : ByteArray := prog_14_method_59_code
def yJ9_abs_0f7a4 : MethodName := ⟨RJ9, "abs", "(I)I"⟩
abbrev cJ9_max_7cf53 : ByteArray := prog_14_method_65_code
def yJ9_max_7cf53 : MethodName := ⟨RJ9, "max", "(II)I"⟩
abbrev cJ9_min_7cf53 : ByteArray := prog_14_method_69_code
def yJ9_min_7cf53 : MethodName := ⟨RJ9, "min", "(II)I"⟩
def RJ0 : String := "java/lang/String"
def TJ0 : u_T := fun k => match k with
  | _ => ("", "", "", false)
def tyJ0 : Nat → FieldType := fun k => match k with
  | _ => .int
abbrev cJ0_length_8abf5 : ByteArray := prog_15_method_54_code
def yJ0_length_8abf5 : MethodName := ⟨RJ0, "length", "()I"⟩
abbrev cJ0_isEmpty_aae02 : ByteArray := prog_15_method_55_code
def yJ0_isEmpty_aae02 : MethodName := ⟨RJ0, "isEmpty", "()Z"⟩
abbrev cJ0_charAt_5068e : ByteArray := prog_15_method_56_code
def yJ0_charAt_5068e : MethodName := ⟨RJ0, "charAt", "(I)C"⟩
abbrev cJ0_indexOf_0f7a4 : ByteArray := prog_15_method_79_code
def yJ0_indexOf_0f7a4 : MethodName := ⟨RJ0, "indexOf", "(I)I"⟩
abbrev cJ0_indexOf_7cf53 : ByteArray := prog_15_method_80_code
def yJ0_indexOf_7cf53 : MethodName := ⟨RJ0, "indexOf", "(II)I"⟩
abbrev cJ0_coder_7d493 : ByteArray := prog_15_method_152_code
def yJ0_coder_7d493 : MethodName := ⟨RJ0, "coder", "()B"⟩
abbrev cJ0_isLatin1_aae02 : ByteArray := prog_15_method_154_code
def yJ0_isLatin1_aae02 : MethodName := ⟨RJ0, "isLatin1", "()Z"⟩
abbrev cJ0_checkIndex_df160 : ByteArray := prog_15_method_155_code
def yJ0_checkIndex_df160 : MethodName := ⟨RJ0, "checkIndex", "(II)V"⟩
abbrev cJ0_checkBoundsBeginEnd_23922 : ByteArray := prog_15_method_158_code
def yJ0_checkBoundsBeginEnd_23922 : MethodName := ⟨RJ0, "checkBoundsBeginEnd", "(III)V"⟩
def RJ1 : String := "java/lang/StringLatin1"
def TJ1 : u_T := fun k => match k with
  | _ => ("", "", "", false)
def tyJ1 : Nat → FieldType := fun k => match k with
  | _ => .int
abbrev cJ1_charAt_3b067 : ByteArray := prog_16_method_2_code
def yJ1_charAt_3b067 : MethodName := ⟨RJ1, "charAt", "([BI)C"⟩
abbrev cJ1_canEncode_9a6ad : ByteArray := prog_16_method_4_code
def yJ1_canEncode_9a6ad : MethodName := ⟨RJ1, "canEncode", "(I)Z"⟩
abbrev cJ1_indexOf_4cfef : ByteArray := prog_16_method_22_code
def yJ1_indexOf_4cfef : MethodName := ⟨RJ1, "indexOf", "([BIII)I"⟩
abbrev cJ1_indexOfChar_4cfef : ByteArray := prog_16_method_23_code
def yJ1_indexOfChar_4cfef : MethodName := ⟨RJ1, "indexOfChar", "([BIII)I"⟩
def RJ2 : String := "java/lang/StringUTF16"
def TJ2 : u_T := fun k => match k with
  | _ => ("", "", "", false)
def tyJ2 : Nat → FieldType := fun k => match k with
  | _ => .int
abbrev cJ2_getChar_3b067 : ByteArray := prog_17_method_5_code
def yJ2_getChar_3b067 : MethodName := ⟨RJ2, "getChar", "([BI)C"⟩
abbrev cJ2_length_9d52b : ByteArray := prog_17_method_6_code
def yJ2_length_9d52b : MethodName := ⟨RJ2, "length", "([B)I"⟩
abbrev cJ2_indexOf_4cfef : ByteArray := prog_17_method_40_code
def yJ2_indexOf_4cfef : MethodName := ⟨RJ2, "indexOf", "([BIII)I"⟩
abbrev cJ2_indexOfChar_4cfef : ByteArray := prog_17_method_47_code
def yJ2_indexOfChar_4cfef : MethodName := ⟨RJ2, "indexOfChar", "([BIII)I"⟩
abbrev cJ2_indexOfCharUnsafe_4cfef : ByteArray := prog_17_method_48_code
def yJ2_indexOfCharUnsafe_4cfef : MethodName := ⟨RJ2, "indexOfCharUnsafe", "([BIII)I"⟩
abbrev cJ2_indexOfSupplementary_4cfef : ByteArray := prog_17_method_49_code
def yJ2_indexOfSupplementary_4cfef : MethodName := ⟨RJ2, "indexOfSupplementary", "([BIII)I"⟩
abbrev cJ2_charAt_3b067 : ByteArray := prog_17_method_83_code
def yJ2_charAt_3b067 : MethodName := ⟨RJ2, "charAt", "([BI)C"⟩
abbrev cJ2_checkIndex_2214a : ByteArray := prog_17_method_91_code
def yJ2_checkIndex_2214a : MethodName := ⟨RJ2, "checkIndex", "(I[B)V"⟩
abbrev cJ2_checkBoundsBeginEnd_d044e : ByteArray := prog_17_method_93_code
def yJ2_checkBoundsBeginEnd_d044e : MethodName := ⟨RJ2, "checkBoundsBeginEnd", "(II[B)V"⟩
def RJ10 : String := "java/lang/System"
def TJ10 : u_T := fun k => match k with
  | _ => ("", "", "", false)
def tyJ10 : Nat → FieldType := fun k => match k with
  | _ => .int
def RJ3 : String := "jdk/internal/util/Preconditions"
def TJ3 : u_T := fun k => match k with
  | _ => ("", "", "", false)
def tyJ3 : Nat → FieldType := fun k => match k with
  | _ => .int
abbrev cJ3_checkIndex_8e157 : ByteArray := prog_19_method_11_code
def yJ3_checkIndex_8e157 : MethodName := ⟨RJ3, "checkIndex", "(IILjava/util/function/BiFunction;)I"⟩
abbrev cJ3_checkFromToIndex_8c36e : ByteArray := prog_19_method_12_code
def yJ3_checkFromToIndex_8c36e : MethodName := ⟨RJ3, "checkFromToIndex", "(IIILjava/util/function/BiFunction;)I"⟩
def RL : String := "HowFarShesGotLaw"
abbrev cL_law : ByteArray := code
def yL_law : MethodName := ⟨RL, "law", "([I)Z"⟩
abbrev vwCl : List vw_C := [(RX0, TX0, 2), (RX1, TX1, 7), (RX2, TX2, 3), (RX3, TX3, 1), (RX4, TX4, 2), (RX5, TX5, 1), (RX6, TX6, 2), (RX7, TX7, 11), (RX8, TX8, 24)]
end
section
/-! the tables of the abstract machine: printed by wip/whole/gen.py -/
abbrev am_X : Type := (Nat → Int32) × (Nat → Int64) × (Nat → Nat → Int32) × (Nat → Nat → Int64)
abbrev am_L : Type := List (Option Value)
abbrev am_S : Type := Nat × am_L × List Value × am_X
abbrev am_I : Type := Instr × Nat × Value × Nat × List (Int32 × Nat)
abbrev am_C : Type := List (Nat × am_I)
abbrev am_Sh : Type := (Nat × List (Nat × Nat)) ⊕ (Nat × Nat)
def am_shp : List am_Sh := [.inl (7, [(0, 1), (0, 5), (0, 9), (0, 13), (0, 16), (0, 18), (0, 20), (0, 22), (0, 25), (0, 26), (3, 10)]), .inl (1, [(0, 2), (0, 3), (0, 4), (1, 35), (1, 36), (1, 37), (1, 38)]), .inr (1, 6), .inr (0, 3), .inr (0, 3), .inl (1, [(0, 6), (0, 7), (0, 8), (1, 163), (1, 164), (1, 165), (1, 166)]), .inr (1, 6), .inr (0, 3), .inr (0, 3), .inl (1, [(0, 10), (0, 11), (0, 12), (1, 291), (1, 292), (1, 293), (1, 294)]), .inr (1, 6), .inr (0, 3), .inr (0, 3), .inl (5, [(0, 14)]), .inl (4, [(0, 15), (1, 449)]), .inr (0, 96), .inl (4, [(0, 17), (1, 513)]), .inr (0, 12), .inl (6, [(0, 19), (1, 577)]), .inr (1, 141), .inl (2, [(0, 21), (2, 641), (1, 642)]), .inr (1, 3), .inl (0, [(0, 23), (0, 24)]), .inr (1, 36), .inr (1, 36), .inl (3, [(1, 800)]), .inr (0, 7), .inl (8, [(0, 28), (0, 29), (0, 30), (3, 867), (0, 31), (1, 869), (1, 870), (3, 871), (0, 32), (0, 33), (0, 34), (1, 875), (0, 35), (0, 36), (0, 37), (0, 38), (0, 39), (0, 40), (0, 41), (1, 883), (0, 42), (1, 885), (0, 43), (0, 44)]), .inr (0, 7), .inr (0, 56), .inr (0, 56), .inr (0, 96), .inr (3, 6), .inr (3, 6), .inr (3, 5), .inr (0, 3), .inr (0, 56), .inr (2, 36), .inr (0, 36), .inr (2, 36), .inr (2, 36), .inr (0, 3), .inr (0, 12), .inr (1, 36), .inr (1, 36)]
def am_own : Nat → String
  | 0 => RX0
  | 1 => RX1
  | 2 => RX2
  | 3 => RX3
  | 4 => RX4
  | 5 => RX5
  | 6 => RX6
  | 7 => RX7
  | 8 => RX8
  | 20 => RJ0
  | 21 => RJ13
  | 22 => RJ6
  | 23 => RJ9
  | 24 => RJ1
  | 25 => RJ3
  | 30 => RL
  | _ => RL
def am_fl : List (Nat × Nat × Nat × Nat × Nat × Nat) := [(1, 9, 1, 0, 131, 0), (1, 15, 1, 1, 132, 0), (1, 19, 1, 2, 133, 0), (1, 40, 1, 3, 134, 0), (7, 217, 1, 3, 135, 1), (1, 22, 1, 4, 136, 0), (0, 18, 1, 4, 137, 1), (7, 143, 1, 4, 138, 1), (1, 26, 1, 5, 139, 0), (2, 35, 1, 5, 140, 1), (7, 170, 1, 5, 141, 1), (1, 29, 1, 6, 142, 0), (7, 296, 1, 6, 143, 1), (4, 15, 4, 0, 176, 0), (4, 21, 4, 1, 177, 0), (5, 22, 4, 1, 178, 1), (7, 267, 4, 1, 179, 1), (5, 14, 5, 0, 185, 0), (7, 74, 5, 0, 186, 1), (6, 11, 6, 0, 198, 0), (6, 34, 6, 1, 199, 0), (2, 11, 2, 0, 211, 0), (2, 17, 2, 1, 212, 0), (7, 209, 2, 1, 213, 1), (2, 21, 2, 2, 214, 0), (0, 9, 0, 0, 228, 0), (0, 15, 0, 1, 229, 0), (3, 7, 3, 0, 241, 0), (7, 12, 7, 0, 245, 0), (7, 16, 7, 1, 246, 0), (7, 19, 7, 2, 247, 0), (7, 25, 7, 3, 248, 0), (7, 34, 7, 4, 249, 0), (7, 41, 7, 5, 250, 0), (7, 48, 7, 6, 251, 0), (7, 55, 7, 7, 252, 0), (7, 62, 7, 8, 253, 0), (7, 66, 7, 9, 254, 0), (7, 292, 7, 10, 255, 0), (8, 1, 8, 0, 893, 0), (8, 19, 8, 1, 894, 0), (8, 22, 8, 2, 895, 0), (8, 70, 8, 3, 896, 0), (8, 25, 8, 4, 897, 0), (8, 78, 8, 5, 898, 0), (8, 85, 8, 6, 899, 0), (8, 82, 8, 7, 900, 0), (8, 28, 8, 8, 901, 0), (8, 32, 8, 9, 902, 0), (8, 35, 8, 10, 903, 0), (8, 92, 8, 11, 904, 0), (8, 38, 8, 12, 905, 0), (8, 41, 8, 13, 906, 0), (8, 44, 8, 14, 907, 0), (8, 48, 8, 15, 908, 0), (8, 51, 8, 16, 909, 0), (8, 54, 8, 17, 910, 0), (8, 57, 8, 18, 911, 0), (8, 170, 8, 19, 912, 0), (8, 60, 8, 20, 913, 0), (8, 195, 8, 21, 914, 0), (8, 63, 8, 22, 915, 0), (8, 67, 8, 23, 916, 0)]
def am_ml : List (Nat × Nat × Nat × Nat × Nat) := [(30, 13, 46, 279, 0), (7, 70, 76, 283, 0), (7, 77, 31, 287, 1), (7, 81, 32, 291, 1), (30, 18, 47, 295, 0), (7, 84, 5, 299, 1), (7, 88, 35, 306, 1), (5, 18, 36, 310, 0), (5, 30, 34, 315, 1), (5, 38, 177, 319, 0), (20, 335, 182, 323, 0), (5, 45, 179, 329, 0), (20, 492, 183, 333, 0), (20, 495, 185, 337, 0), (24, 9, 184, 340, 0), (20, 1059, 189, 345, 0), (5, 49, 38, 367, 0), (5, 69, 180, 371, 0), (20, 633, 181, 375, 0), (20, 505, 177, 379, 0), (20, 637, 187, 380, 0), (24, 88, 186, 383, 0), (24, 95, 188, 390, 0), (5, 34, 37, 429, 0), (5, 53, 178, 437, 0), (5, 26, 39, 441, 0), (5, 74, 41, 445, 0), (5, 87, 40, 449, 0), (5, 77, 11, 453, 1), (1, 61, 102, 457, 1), (5, 83, 12, 461, 1), (1, 65, 7, 465, 0), (1, 43, 6, 469, 0), (1, 49, 104, 473, 1), (7, 151, 103, 476, 0), (7, 95, 102, 479, 0), (5, 90, 13, 480, 1), (5, 93, 14, 484, 1), (5, 96, 15, 488, 1), (7, 92, 33, 492, 1), (30, 23, 48, 497, 0), (7, 99, 8, 501, 1), (7, 102, 7, 505, 1), (7, 106, 104, 506, 0), (7, 110, 108, 507, 0), (7, 114, 9, 510, 1), (1, 53, 8, 514, 0), (1, 57, 10, 515, 0), (30, 28, 49, 519, 0), (7, 117, 11, 523, 1), (30, 32, 50, 524, 0), (7, 121, 83, 528, 0), (7, 307, 12, 532, 1), (7, 124, 84, 533, 0), (7, 310, 13, 537, 1), (7, 127, 85, 538, 0), (7, 313, 14, 542, 1), (30, 36, 51, 543, 0), (7, 130, 16, 547, 1), (7, 133, 17, 551, 1), (1, 69, 16, 555, 0), (7, 136, 18, 556, 1), (30, 40, 52, 560, 0), (7, 139, 19, 564, 1), (30, 44, 53, 568, 0), (7, 147, 42, 572, 1), (6, 15, 7, 576, 1), (6, 23, 6, 578, 1), (6, 27, 10, 579, 1), (6, 31, 103, 580, 1), (6, 38, 43, 581, 0), (6, 41, 107, 585, 1), (7, 336, 106, 588, 0), (7, 155, 45, 594, 1), (30, 48, 54, 598, 0), (7, 159, 86, 602, 0), (7, 316, 44, 606, 1), (7, 162, 175, 610, 0), (30, 52, 55, 616, 0), (7, 167, 6, 620, 1), (7, 173, 43, 621, 1), (7, 176, 105, 622, 0), (30, 56, 56, 625, 0), (7, 185, 176, 630, 0), (7, 189, 89, 636, 0), (7, 193, 87, 639, 0), (7, 319, 88, 643, 0), (7, 324, 107, 648, 0), (30, 60, 57, 649, 0), (30, 64, 58, 654, 0), (7, 198, 81, 658, 0), (7, 202, 92, 662, 0), (7, 276, 20, 666, 1), (2, 25, 18, 670, 1), (2, 29, 103, 671, 1), (7, 327, 22, 672, 1), (2, 49, 23, 676, 0), (2, 61, 24, 680, 0), (2, 64, 26, 684, 0), (2, 41, 107, 688, 1), (2, 79, 105, 689, 1), (2, 68, 27, 690, 0), (2, 82, 175, 694, 0), (2, 72, 28, 695, 0), (2, 38, 6, 699, 1), (2, 75, 25, 700, 0), (2, 53, 21, 704, 0), (2, 45, 7, 709, 1), (2, 57, 102, 710, 1), (30, 68, 59, 711, 0), (7, 205, 93, 715, 0), (30, 73, 60, 719, 0), (7, 213, 23, 723, 1), (30, 77, 61, 724, 0), (30, 81, 62, 728, 0), (7, 220, 79, 732, 0), (7, 304, 80, 735, 0), (7, 223, 94, 738, 0), (30, 85, 63, 742, 0), (7, 226, 95, 746, 0), (7, 280, 34, 750, 1), (7, 229, 96, 752, 0), (7, 232, 90, 756, 0), (7, 236, 91, 760, 0), (30, 89, 64, 764, 0), (7, 239, 82, 768, 0), (7, 242, 77, 771, 0), (7, 245, 0, 776, 1), (0, 30, 1, 781, 0), (0, 34, 103, 785, 1), (0, 38, 7, 786, 1), (0, 42, 106, 787, 1), (0, 46, 6, 788, 1), (0, 51, 105, 790, 1), (0, 55, 102, 791, 1), (7, 249, 2, 792, 1), (30, 94, 65, 796, 0), (7, 252, 3, 800, 1), (7, 255, 109, 804, 0), (30, 99, 66, 807, 0), (7, 259, 4, 811, 1), (0, 59, 2, 815, 0), (30, 103, 67, 816, 0), (7, 263, 97, 820, 0), (30, 107, 68, 824, 0), (7, 270, 98, 828, 0), (7, 273, 99, 832, 0), (30, 111, 69, 836, 0), (30, 115, 70, 840, 0), (7, 283, 21, 844, 1), (30, 119, 71, 845, 0), (30, 123, 72, 849, 0), (7, 286, 29, 853, 1), (7, 289, 100, 857, 0), (7, 339, 30, 861, 1), (7, 342, 101, 868, 0), (30, 127, 73, 871, 0), (30, 131, 74, 875, 0), (30, 135, 75, 879, 0), (7, 299, 78, 883, 0), (30, 130, 113, 968, 0), (8, 74, 112, 972, 0), (30, 134, 114, 975, 0), (8, 9, 110, 979, 0), (30, 17, 117, 983, 0), (30, 22, 123, 987, 0), (8, 108, 122, 991, 0), (8, 101, 120, 995, 0), (8, 88, 118, 999, 0), (8, 95, 119, 1003, 0), (8, 104, 121, 1007, 0), (8, 98, 116, 1011, 0), (30, 27, 126, 1015, 0), (8, 112, 115, 1019, 0), (8, 116, 125, 1022, 0), (30, 31, 127, 1026, 0), (30, 35, 128, 1030, 0), (30, 39, 130, 1034, 0), (8, 119, 129, 1038, 0), (30, 43, 131, 1042, 0), (30, 47, 134, 1046, 0), (8, 130, 133, 1050, 0), (8, 123, 132, 1055, 0), (8, 127, 124, 1058, 0), (30, 51, 137, 1062, 0), (8, 134, 135, 1066, 0), (8, 137, 136, 1070, 0), (30, 55, 139, 1074, 0), (8, 145, 138, 1078, 0), (30, 59, 141, 1083, 0), (8, 148, 140, 1087, 0), (30, 63, 142, 1091, 0), (30, 67, 152, 1096, 0), (8, 182, 151, 1100, 0), (8, 185, 150, 1104, 0), (8, 173, 149, 1108, 0), (8, 176, 147, 1112, 0), (8, 166, 146, 1116, 0), (8, 160, 145, 1120, 0), (8, 163, 144, 1124, 0), (8, 157, 143, 1128, 0), (8, 179, 148, 1135, 0), (30, 72, 155, 1139, 0), (8, 188, 153, 1143, 0), (8, 191, 154, 1147, 0), (30, 76, 156, 1151, 0), (30, 80, 157, 1155, 0), (30, 84, 158, 1159, 0), (30, 88, 160, 1163, 0), (8, 198, 159, 1167, 0), (8, 201, 161, 1171, 0), (30, 93, 163, 1175, 0), (8, 204, 111, 1179, 0), (8, 208, 162, 1184, 0), (30, 98, 164, 1188, 0), (30, 102, 165, 1192, 0), (30, 106, 166, 1196, 0), (30, 110, 168, 1200, 0), (8, 211, 167, 1204, 0), (30, 114, 169, 1208, 0), (30, 118, 171, 1212, 0), (8, 214, 170, 1216, 0), (30, 122, 172, 1220, 0), (30, 126, 173, 1224, 0), (30, 138, 174, 1231, 0)]
def am_ci : List (Nat × Nat × Int32 × Nat) := [(22, 265, 1431655765, 633), (22, 266, 858993459, 634), (22, 267, 252645135, 635), (7, 197, 1000000, 653), (3, 13, 1664525, 865), (3, 14, 1013904223, 866), (3, 15, 2147483647, 867), (8, 122, 100000, 1054), (8, 217, 1664525, 1228), (8, 218, 1013904223, 1229), (8, 219, 2147483647, 1230)]
def am_cj : List (Nat × Nat × Int64 × Nat) := [(1, 32, 68719476735, 130), (1, 47, -1, 460), (6, 21, -1, 577), (7, 345, -1090785346, 591), (7, 334, 68719476735, 592), (7, 347, -34905131041, 593), (21, 314, 6148914691236517205, 613), (21, 316, 3689348814741910323, 614), (21, 318, 1085102592571150095, 615), (7, 322, -1, 647), (2, 33, -1, 708), (7, 302, 4000000000000000000, 775), (0, 49, -1, 789), (8, 7, 4000000000000000000, 1183)]
def am_st : List (Nat × String × Nat) := [(43, "", 314), (57, "KDD;", 432), (59, "KDDDD;", 433), (61, "DD;", 434), (63, "D;", 435), (65, "SDD;", 436), (67, "lhgsbr", 370), (72, "fnmea", 428)]
/-- methods: own class, name, code, maxLocals, answer, static, number of parameters, places of words: code, static/instance, selects, initialized -/
abbrev am_Me : Type := Nat × MethodName × ByteArray × Nat × Option FieldType × Bool × Nat × Nat × Nat × Nat × Nat
abbrev meX0_walk : am_Me := (0, yX0_walk, cX0_walk, 5, none, false, 2, 779, 778, 53, 105)
abbrev meX0_comingOnto : am_Me := (0, yX0_comingOnto, cX0_comingOnto, 9, (some .long), false, 2, 784, 783, 54, 105)
abbrev meX0_endingOn : am_Me := (0, yX0_endingOn, cX0_endingOn, 2, (some .long), false, 1, 795, 794, 55, 105)
abbrev meX0_inAll : am_Me := (0, yX0_inAll, cX0_inAll, 4, (some .long), false, 0, 803, 802, 56, 105)
abbrev meX0_likeliestSquare : am_Me := (0, yX0_likeliestSquare, cX0_likeliestSquare, 3, (some .int), false, 0, 814, 813, 57, 105)
abbrev meX1_become : am_Me := (1, yX1_become, cX1_become, 2, none, false, 1, 302, 301, 3, 99)
abbrev meX1_squaresOf : am_Me := (1, yX1_squaresOf, cX1_squaresOf, 2, (some .long), false, 1, 472, 471, 13, 99)
abbrev meX1_open : am_Me := (1, yX1_open, cX1_open, 1, (some .long), false, 0, 468, 467, 12, 99)
abbrev meX1_kindAt : am_Me := (1, yX1_kindAt, cX1_kindAt, 3, (some .int), false, 1, 504, 503, 18, 99)
abbrev meX1_stepsOff : am_Me := (1, yX1_stepsOff, cX1_stepsOff, 2, (some .int), false, 1, 513, 512, 19, 99)
abbrev meX1_stepsOffSun : am_Me := (1, yX1_stepsOffSun, cX1_stepsOffSun, 1, (some .int), false, 0, 518, 517, 20, 99)
abbrev meX1_lay : am_Me := (1, yX1_lay, cX1_lay, 7, (some .boolean), false, 3, 456, 455, 10, 99)
abbrev meX1_liveAt : am_Me := (1, yX1_liveAt, cX1_liveAt, 2, (some .boolean), false, 1, 464, 463, 11, 99)
abbrev meX1_takePace : am_Me := (1, yX1_takePace, cX1_takePace, 2, (some .boolean), false, 1, 483, 482, 14, 99)
abbrev meX1_takeWarm : am_Me := (1, yX1_takeWarm, cX1_takeWarm, 2, (some .boolean), false, 1, 487, 486, 15, 99)
abbrev meX1_addSeeker : am_Me := (1, yX1_addSeeker, cX1_addSeeker, 3, (some .boolean), false, 2, 491, 490, 16, 99)
abbrev meX1_hasSeeker : am_Me := (1, yX1_hasSeeker, cX1_hasSeeker, 2, (some .boolean), false, 1, 550, 549, 24, 99)
abbrev meX1_kindOfSeeker : am_Me := (1, yX1_kindOfSeeker, cX1_kindOfSeeker, 2, (some .int), false, 1, 554, 553, 25, 99)
abbrev meX1_squareOfSeeker : am_Me := (1, yX1_squareOfSeeker, cX1_squareOfSeeker, 2, (some .int), false, 1, 559, 558, 26, 99)
abbrev meX1_placeSeeker : am_Me := (1, yX1_placeSeeker, cX1_placeSeeker, 3, none, false, 2, 567, 566, 27, 99)
abbrev meX2_begin : am_Me := (2, yX2_begin, cX2_begin, 6, none, false, 3, 669, 668, 37, 104)
abbrev meX2_look : am_Me := (2, yX2_look, cX2_look, 3, none, false, 2, 707, 706, 45, 104)
abbrev meX2_seek : am_Me := (2, yX2_seek, cX2_seek, 6, none, false, 3, 675, 674, 38, 104)
abbrev meX2_choice : am_Me := (2, yX2_choice, cX2_choice, 4, (some .int), false, 3, 679, 678, 39, 104)
abbrev meX2_standOf : am_Me := (2, yX2_standOf, cX2_standOf, 2, (some .long), false, 1, 683, 682, 40, 104)
abbrev meX2_goalAhead : am_Me := (2, yX2_goalAhead, cX2_goalAhead, 4, (some .long), false, 2, 703, 702, 44, 104)
abbrev meX2_nearest : am_Me := (2, yX2_nearest, cX2_nearest, 6, (some .int), false, 1, 687, 686, 41, 104)
abbrev meX2_withMostBeside : am_Me := (2, yX2_withMostBeside, cX2_withMostBeside, 5, (some .int), false, 0, 693, 692, 42, 104)
abbrev meX2_withFewestBeside : am_Me := (2, yX2_withFewestBeside, cX2_withFewestBeside, 5, (some .int), false, 0, 698, 697, 43, 104)
abbrev meX3_seed : am_Me := (3, yX3_seed, cX3_seed, 2, none, false, 1, 856, 855, 61, 106)
abbrev meX3_draw : am_Me := (3, yX3_draw, cX3_draw, 2, (some .int), false, 1, 864, 863, 63, 106)
abbrev meX4_isFull : am_Me := (4, yX4_isFull, cX4_isFull, 1, (some .boolean), false, 0, 290, 289, 1, 101)
abbrev meX4_add : am_Me := (4, yX4_add, cX4_add, 2, (some .int), false, 1, 294, 293, 2, 101)
abbrev meX4_clear : am_Me := (4, yX4_clear, cX4_clear, 1, none, false, 0, 495, 494, 17, 101)
abbrev meX4_at : am_Me := (4, yX4_at, cX4_at, 2, (some .int), false, 1, 318, 317, 6, 101)
abbrev meX5_tellTo : am_Me := (5, yX5_tellTo, cX5_tellTo, 5, (some .int), false, 1, 309, 308, 4, 100)
abbrev meX5_firstMisfit : am_Me := (5, yX5_firstMisfit, cX5_firstMisfit, 5, (some .int), false, 0, 313, 312, 5, 100)
abbrev meX5_shapeBehind : am_Me := (5, yX5_shapeBehind, cX5_shapeBehind, 1, (some (.object "java/lang/String")), true, 1, 431, 430, 0, 100)
abbrev meX5_fits : am_Me := (5, yX5_fits, cX5_fits, 2, (some .boolean), true, 2, 369, 368, 0, 100)
abbrev meX5_comes : am_Me := (5, yX5_comes, cX5_comes, 4, (some .boolean), false, 2, 444, 443, 7, 100)
abbrev meX5_digitAt : am_Me := (5, yX5_digitAt, cX5_digitAt, 2, (some .int), false, 1, 452, 451, 9, 100)
abbrev meX5_pairAt : am_Me := (5, yX5_pairAt, cX5_pairAt, 2, (some .int), false, 1, 448, 447, 8, 100)
abbrev meX6_spread : am_Me := (6, yX6_spread, cX6_spread, 22, none, false, 3, 575, 574, 28, 103)
abbrev meX6_layer : am_Me := (6, yX6_layer, cX6_layer, 2, (some .long), false, 1, 584, 583, 29, 103)
abbrev meX6_within : am_Me := (6, yX6_within, cX6_within, 5, (some .long), false, 1, 609, 608, 32, 103)
abbrev meX6_stepsTo : am_Me := (6, yX6_stepsTo, cX6_stepsTo, 4, (some .int), false, 1, 597, 596, 30, 103)
abbrev meX7_letter : am_Me := (7, yX7_letter, cX7_letter, 2, (some .int), false, 1, 282, 280, 281, 98)
abbrev meX7_garden : am_Me := (7, yX7_garden, cX7_garden, 2, (some .int), false, 0, 298, 296, 297, 98)
abbrev meX7_square : am_Me := (7, yX7_square, cX7_square, 3, (some .int), false, 2, 500, 498, 499, 98)
abbrev meX7_turnTo : am_Me := (7, yX7_turnTo, cX7_turnTo, 4, (some .int), false, 2, 522, 520, 521, 98)
abbrev meX7_set : am_Me := (7, yX7_set, cX7_set, 3, (some .int), false, 2, 527, 525, 526, 98)
abbrev meX7_seeker : am_Me := (7, yX7_seeker, cX7_seeker, 3, (some .int), false, 2, 546, 544, 545, 98)
abbrev meX7_stand : am_Me := (7, yX7_stand, cX7_stand, 4, (some .int), false, 2, 563, 561, 562, 98)
abbrev meX7_steps : am_Me := (7, yX7_steps, cX7_steps, 2, (some .int), false, 1, 571, 569, 570, 98)
abbrev meX7_mayBe : am_Me := (7, yX7_mayBe, cX7_mayBe, 5, (some .int), false, 2, 601, 599, 600, 98)
abbrev meX7_out : am_Me := (7, yX7_out, cX7_out, 3, (some .int), false, 1, 619, 617, 618, 98)
abbrev meX7_shut : am_Me := (7, yX7_shut, cX7_shut, 7, (some .int), false, 0, 628, 626, 627, 98)
abbrev meX7_firstGap : am_Me := (7, yX7_firstGap, cX7_firstGap, 8, (some .int), false, 0, 652, 650, 651, 98)
abbrev meX7_search : am_Me := (7, yX7_search, cX7_search, 4, (some .int), false, 2, 657, 655, 656, 98)
abbrev meX7_left : am_Me := (7, yX7_left, cX7_left, 5, (some .int), false, 3, 714, 712, 713, 98)
abbrev meX7_looksAt : am_Me := (7, yX7_looksAt, cX7_looksAt, 5, (some .int), false, 3, 722, 720, 721, 98)
abbrev meX7_bestSeeker : am_Me := (7, yX7_bestSeeker, cX7_bestSeeker, 8, (some .int), false, 2, 727, 725, 726, 98)
abbrev meX7_together : am_Me := (7, yX7_together, cX7_together, 3, (some .int), false, 1, 731, 729, 730, 98)
abbrev meX7_hold : am_Me := (7, yX7_hold, cX7_hold, 4, (some .int), false, 1, 745, 743, 744, 98)
abbrev meX7_ways : am_Me := (7, yX7_ways, cX7_ways, 4, (some .long), false, 2, 767, 765, 766, 98)
abbrev meX7_likely : am_Me := (7, yX7_likely, cX7_likely, 11, (some .long), false, 3, 799, 797, 798, 98)
abbrev meX7_likeliest : am_Me := (7, yX7_likeliest, cX7_likeliest, 3, (some .int), false, 1, 810, 808, 809, 98)
abbrev meX7_turning : am_Me := (7, yX7_turning, cX7_turning, 3, (some .int), false, 2, 819, 817, 818, 98)
abbrev meX7_finds : am_Me := (7, yX7_finds, cX7_finds, 4, (some .int), false, 1, 827, 825, 826, 98)
abbrev meX7_row : am_Me := (7, yX7_row, cX7_row, 2, (some .int), false, 1, 839, 837, 838, 98)
abbrev meX7_judge : am_Me := (7, yX7_judge, cX7_judge, 4, (some .int), false, 1, 843, 841, 842, 98)
abbrev meX7_behind : am_Me := (7, yX7_behind, cX7_behind, 4, (some .int), false, 1, 848, 846, 847, 98)
abbrev meX7_lots : am_Me := (7, yX7_lots, cX7_lots, 5, (some .int), false, 2, 852, 850, 851, 98)
abbrev meX7_image : am_Me := (7, yX7_image, cX7_image, 1, (some .int), false, 0, 874, 872, 873, 98)
abbrev meX7_on : am_Me := (7, yX7_on, cX7_on, 1, (some .int), false, 0, 878, 876, 877, 98)
abbrev meX7_count : am_Me := (7, yX7_count, cX7_count, 2, (some .int), false, 1, 882, 880, 881, 98)
abbrev meX7_refused : am_Me := (7, yX7_refused, cX7_refused, 3, (some .int), false, 1, 286, 285, 0, 98)
abbrev meX7_refusedLong : am_Me := (7, yX7_refusedLong, cX7_refusedLong, 2, (some .long), false, 1, 774, 773, 52, 98)
abbrev meX7_refusalsOf : am_Me := (7, yX7_refusalsOf, cX7_refusalsOf, 2, (some .int), false, 1, 886, 885, 64, 98)
abbrev meX7_wrongMinute : am_Me := (7, yX7_wrongMinute, cX7_wrongMinute, 1, (some .int), true, 1, 734, 733, 0, 98)
abbrev meX7_wrongNumber : am_Me := (7, yX7_wrongNumber, cX7_wrongNumber, 2, (some .int), true, 2, 737, 736, 0, 98)
abbrev meX7_wrongSearch : am_Me := (7, yX7_wrongSearch, cX7_wrongSearch, 4, (some .int), false, 3, 661, 660, 35, 98)
abbrev meX7_wrongWays : am_Me := (7, yX7_wrongWays, cX7_wrongWays, 3, (some .int), true, 2, 770, 769, 0, 98)
abbrev meX7_setHome : am_Me := (7, yX7_setHome, cX7_setHome, 3, (some .int), false, 1, 531, 530, 21, 98)
abbrev meX7_setPace : am_Me := (7, yX7_setPace, cX7_setPace, 3, (some .int), false, 1, 536, 535, 22, 98)
abbrev meX7_setWarm : am_Me := (7, yX7_setWarm, cX7_setWarm, 3, (some .int), false, 1, 541, 540, 23, 98)
abbrev meX7_reachedBy : am_Me := (7, yX7_reachedBy, cX7_reachedBy, 2, (some .long), false, 1, 605, 604, 31, 98)
abbrev meX7_getsOut : am_Me := (7, yX7_getsOut, cX7_getsOut, 3, (some .boolean), false, 1, 642, 641, 33, 98)
abbrev meX7_flooded : am_Me := (7, yX7_flooded, cX7_flooded, 12, (some .long), false, 1, 646, 645, 34, 98)
abbrev meX7_gapsOfBits : am_Me := (7, yX7_gapsOfBits, cX7_gapsOfBits, 10, (some .long), true, 2, 638, 637, 0, 98)
abbrev meX7_reachedWhenHeld : am_Me := (7, yX7_reachedWhenHeld, cX7_reachedWhenHeld, 3, (some .long), false, 1, 759, 758, 50, 98)
abbrev meX7_oneMore : am_Me := (7, yX7_oneMore, cX7_oneMore, 7, (some .int), false, 1, 763, 762, 51, 98)
abbrev meX7_looksTillEmpty : am_Me := (7, yX7_looksTillEmpty, cX7_looksTillEmpty, 5, (some .int), false, 3, 665, 664, 36, 98)
abbrev meX7_lookOften : am_Me := (7, yX7_lookOften, cX7_lookOften, 5, none, false, 3, 718, 717, 46, 98)
abbrev meX7_looksOfAll : am_Me := (7, yX7_looksOfAll, cX7_looksOfAll, 4, (some .int), false, 1, 741, 740, 47, 98)
abbrev meX7_rowTellsSquares : am_Me := (7, yX7_rowTellsSquares, cX7_rowTellsSquares, 3, (some .boolean), false, 1, 749, 748, 48, 98)
abbrev meX7_squaresOfRow : am_Me := (7, yX7_squaresOfRow, cX7_squaresOfRow, 4, (some .long), false, 0, 755, 754, 49, 98)
abbrev meX7_afterTurning : am_Me := (7, yX7_afterTurning, cX7_afterTurning, 11, (some .long), false, 2, 823, 822, 58, 98)
abbrev meX7_firstWrongPair : am_Me := (7, yX7_firstWrongPair, cX7_firstWrongPair, 8, (some .int), false, 1, 831, 830, 59, 98)
abbrev meX7_homesOfTraces : am_Me := (7, yX7_homesOfTraces, cX7_homesOfTraces, 4, (some .long), false, 0, 835, 834, 60, 98)
abbrev meX7_afterWalkByLot : am_Me := (7, yX7_afterWalkByLot, cX7_afterWalkByLot, 8, (some .long), false, 0, 860, 859, 62, 98)
abbrev meX7_drawnDirection : am_Me := (7, yX7_drawnDirection, cX7_drawnDirection, 1, (some .int), true, 1, 870, 869, 0, 98)
abbrev meX7_isSquare : am_Me := (7, yX7_isSquare, cX7_isSquare, 1, (some .boolean), true, 1, 459, 458, 0, 98)
abbrev meX7_bit : am_Me := (7, yX7_bit, cX7_bit, 1, (some .long), true, 1, 478, 477, 0, 98)
abbrev meX7_has : am_Me := (7, yX7_has, cX7_has, 3, (some .boolean), true, 2, 475, 474, 0, 98)
abbrev meX7_least : am_Me := (7, yX7_least, cX7_least, 2, (some .int), true, 1, 624, 623, 0, 98)
abbrev meX7_moved : am_Me := (7, yX7_moved, cX7_moved, 3, (some .long), true, 2, 590, 589, 0, 98)
abbrev meX7_beside : am_Me := (7, yX7_beside, cX7_beside, 2, (some .long), true, 1, 587, 586, 0, 98)
abbrev meX7_yesOrNo : am_Me := (7, yX7_yesOrNo, cX7_yesOrNo, 1, (some .int), true, 1, 509, 508, 0, 98)
abbrev meX7_greatestDivisor : am_Me := (7, yX7_greatestDivisor, cX7_greatestDivisor, 11, (some .long), true, 2, 806, 805, 0, 98)
abbrev meX8_no : am_Me := (8, yX8_no, cX8_no, 2, (some .int), false, 1, 982, 981, 65, 107)
abbrev meX8_noLong : am_Me := (8, yX8_noLong, cX8_noLong, 2, (some .long), false, 1, 1182, 1181, 93, 107)
abbrev meX8_move : am_Me := (8, yX8_move, cX8_move, 3, none, true, 2, 974, 973, 0, 107)
abbrev meX8_image : am_Me := (8, yX8_image, cX8_image, 1, (some .int), false, 0, 971, 969, 970, 107)
abbrev meX8_on : am_Me := (8, yX8_on, cX8_on, 1, (some .int), false, 0, 978, 976, 977, 107)
abbrev meX8_isNoSquare : am_Me := (8, yX8_isNoSquare, cX8_isNoSquare, 1, (some .boolean), true, 1, 1021, 1020, 0, 107)
abbrev meX8_kindOf : am_Me := (8, yX8_kindOf, cX8_kindOf, 2, (some .int), false, 1, 1014, 1013, 71, 107)
abbrev meX8_letter : am_Me := (8, yX8_letter, cX8_letter, 2, (some .int), false, 1, 986, 984, 985, 107)
abbrev meX8_oneOf : am_Me := (8, yX8_oneOf, cX8_oneOf, 3, (some .int), false, 1, 1002, 1001, 68, 107)
abbrev meX8_figures : am_Me := (8, yX8_figures, cX8_figures, 4, (some .int), false, 1, 1006, 1005, 69, 107)
abbrev meX8_statement : am_Me := (8, yX8_statement, cX8_statement, 1, none, false, 0, 998, 997, 67, 107)
abbrev meX8_takes : am_Me := (8, yX8_takes, cX8_takes, 2, (some .boolean), false, 0, 1010, 1009, 70, 107)
abbrev meX8_read : am_Me := (8, yX8_read, cX8_read, 3, (some .int), false, 0, 994, 993, 66, 107)
abbrev meX8_garden : am_Me := (8, yX8_garden, cX8_garden, 2, (some .int), false, 0, 990, 988, 989, 107)
abbrev meX8_canBe : am_Me := (8, yX8_canBe, cX8_canBe, 2, (some .boolean), false, 1, 1061, 1060, 75, 107)
abbrev meX8_off : am_Me := (8, yX8_off, cX8_off, 3, (some .int), false, 1, 1025, 1024, 72, 107)
abbrev meX8_square : am_Me := (8, yX8_square, cX8_square, 4, (some .int), false, 2, 1018, 1016, 1017, 107)
abbrev meX8_turnTo : am_Me := (8, yX8_turnTo, cX8_turnTo, 4, (some .int), false, 2, 1029, 1027, 1028, 107)
abbrev meX8_set : am_Me := (8, yX8_set, cX8_set, 4, (some .int), false, 2, 1033, 1031, 1032, 107)
abbrev meX8_isNoSeeker : am_Me := (8, yX8_isNoSeeker, cX8_isNoSeeker, 2, (some .boolean), false, 1, 1041, 1040, 73, 107)
abbrev meX8_seeker : am_Me := (8, yX8_seeker, cX8_seeker, 3, (some .int), false, 2, 1037, 1035, 1036, 107)
abbrev meX8_stand : am_Me := (8, yX8_stand, cX8_stand, 4, (some .int), false, 2, 1045, 1043, 1044, 107)
abbrev meX8_beside : am_Me := (8, yX8_beside, cX8_beside, 2, (some .int), true, 2, 1057, 1056, 0, 107)
abbrev meX8_walkFrom : am_Me := (8, yX8_walkFrom, cX8_walkFrom, 6, none, false, 1, 1053, 1052, 74, 107)
abbrev meX8_steps : am_Me := (8, yX8_steps, cX8_steps, 2, (some .int), false, 1, 1049, 1047, 1048, 107)
abbrev meX8_mayBeAt : am_Me := (8, yX8_mayBeAt, cX8_mayBeAt, 3, none, false, 1, 1069, 1068, 76, 107)
abbrev meX8_inSet : am_Me := (8, yX8_inSet, cX8_inSet, 3, (some .int), false, 0, 1073, 1072, 77, 107)
abbrev meX8_mayBe : am_Me := (8, yX8_mayBe, cX8_mayBe, 3, (some .int), false, 2, 1065, 1063, 1064, 107)
abbrev meX8_minutesOut : am_Me := (8, yX8_minutesOut, cX8_minutesOut, 3, (some .int), false, 0, 1081, 1080, 78, 107)
abbrev meX8_out : am_Me := (8, yX8_out, cX8_out, 4, (some .int), false, 1, 1077, 1075, 1076, 107)
abbrev meX8_holdNone : am_Me := (8, yX8_holdNone, cX8_holdNone, 2, none, false, 0, 1090, 1089, 79, 107)
abbrev meX8_shut : am_Me := (8, yX8_shut, cX8_shut, 9, (some .int), false, 0, 1086, 1084, 1085, 107)
abbrev meX8_firstGap : am_Me := (8, yX8_firstGap, cX8_firstGap, 5, (some .int), false, 0, 1094, 1092, 1093, 107)
abbrev meX8_apart : am_Me := (8, yX8_apart, cX8_apart, 3, (some .int), false, 2, 1131, 1130, 87, 107)
abbrev meX8_toRoad : am_Me := (8, yX8_toRoad, cX8_toRoad, 4, (some .int), false, 1, 1127, 1126, 86, 107)
abbrev meX8_besideInSet : am_Me := (8, yX8_besideInSet, cX8_besideInSet, 5, (some .int), false, 1, 1123, 1122, 85, 107)
abbrev meX8_waits : am_Me := (8, yX8_waits, cX8_waits, 4, (some .int), false, 3, 1119, 1118, 84, 107)
abbrev meX8_looks : am_Me := (8, yX8_looks, cX8_looks, 7, (some .int), false, 2, 1115, 1114, 83, 107)
abbrev meX8_passes : am_Me := (8, yX8_passes, cX8_passes, 5, none, false, 1, 1138, 1137, 88, 107)
abbrev meX8_begin : am_Me := (8, yX8_begin, cX8_begin, 3, none, false, 1, 1111, 1110, 82, 107)
abbrev meX8_searchBy : am_Me := (8, yX8_searchBy, cX8_searchBy, 5, (some .int), false, 3, 1107, 1106, 81, 107)
abbrev meX8_kindOfSeeker : am_Me := (8, yX8_kindOfSeeker, cX8_kindOfSeeker, 2, (some .int), false, 1, 1103, 1102, 80, 107)
abbrev meX8_search : am_Me := (8, yX8_search, cX8_search, 3, (some .int), false, 2, 1099, 1097, 1098, 107)
abbrev meX8_refusal : am_Me := (8, yX8_refusal, cX8_refusal, 4, (some .int), false, 3, 1146, 1145, 89, 107)
abbrev meX8_lookOn : am_Me := (8, yX8_lookOn, cX8_lookOn, 5, none, false, 3, 1150, 1149, 90, 107)
abbrev meX8_left : am_Me := (8, yX8_left, cX8_left, 5, (some .int), false, 3, 1142, 1140, 1141, 107)
abbrev meX8_looksAt : am_Me := (8, yX8_looksAt, cX8_looksAt, 5, (some .int), false, 3, 1154, 1152, 1153, 107)
abbrev meX8_bestSeeker : am_Me := (8, yX8_bestSeeker, cX8_bestSeeker, 8, (some .int), false, 2, 1158, 1156, 1157, 107)
abbrev meX8_together : am_Me := (8, yX8_together, cX8_together, 4, (some .int), false, 1, 1162, 1160, 1161, 107)
abbrev meX8_reached : am_Me := (8, yX8_reached, cX8_reached, 3, (some .int), false, 0, 1170, 1169, 91, 107)
abbrev meX8_hold : am_Me := (8, yX8_hold, cX8_hold, 3, (some .int), false, 1, 1166, 1164, 1165, 107)
abbrev meX8_oneMore : am_Me := (8, yX8_oneMore, cX8_oneMore, 6, (some .int), false, 0, 1174, 1173, 92, 107)
abbrev meX8_waysOf : am_Me := (8, yX8_waysOf, cX8_waysOf, 6, (some .long), false, 1, 1187, 1186, 94, 107)
abbrev meX8_ways : am_Me := (8, yX8_ways, cX8_ways, 3, (some .long), false, 2, 1178, 1176, 1177, 107)
abbrev meX8_likely : am_Me := (8, yX8_likely, cX8_likely, 12, (some .long), false, 3, 1191, 1189, 1190, 107)
abbrev meX8_likeliest : am_Me := (8, yX8_likeliest, cX8_likeliest, 4, (some .int), false, 1, 1195, 1193, 1194, 107)
abbrev meX8_turning : am_Me := (8, yX8_turning, cX8_turning, 7, (some .int), false, 2, 1199, 1197, 1198, 107)
abbrev meX8_firstWrong : am_Me := (8, yX8_firstWrong, cX8_firstWrong, 7, (some .int), false, 1, 1207, 1206, 95, 107)
abbrev meX8_finds : am_Me := (8, yX8_finds, cX8_finds, 6, (some .int), false, 1, 1203, 1201, 1202, 107)
abbrev meX8_row : am_Me := (8, yX8_row, cX8_row, 2, (some .int), false, 1, 1211, 1209, 1210, 107)
abbrev meX8_looksOfRow : am_Me := (8, yX8_looksOfRow, cX8_looksOfRow, 5, (some .int), false, 1, 1219, 1218, 96, 107)
abbrev meX8_judge : am_Me := (8, yX8_judge, cX8_judge, 2, (some .int), false, 1, 1215, 1213, 1214, 107)
abbrev meX8_behind : am_Me := (8, yX8_behind, cX8_behind, 2, (some .int), false, 1, 1223, 1221, 1222, 107)
abbrev meX8_lots : am_Me := (8, yX8_lots, cX8_lots, 9, (some .int), false, 2, 1227, 1225, 1226, 107)
abbrev meX8_count : am_Me := (8, yX8_count, cX8_count, 5, (some .int), false, 1, 1234, 1232, 1233, 107)
abbrev meJ13_bitCount_95d88 : am_Me := (21, yJ13_bitCount_95d88, cJ13_bitCount_95d88, 2, (some .int), true, 1, 612, 611, 0, 114)
abbrev meJ6_bitCount_0f7a4 : am_Me := (22, yJ6_bitCount_0f7a4, cJ6_bitCount_0f7a4, 1, (some .int), true, 1, 632, 631, 0, 115)
abbrev meJ0_length_8abf5 : am_Me := (20, yJ0_length_8abf5, cJ0_length_8abf5, 1, (some .int), false, 0, 322, 320, 321, 109)
abbrev meJ0_isEmpty_aae02 : am_Me := (20, yJ0_isEmpty_aae02, cJ0_isEmpty_aae02, 1, (some .boolean), false, 0, 440, 438, 439, 109)
abbrev meJ0_charAt_5068e : am_Me := (20, yJ0_charAt_5068e, cJ0_charAt_5068e, 2, (some .char), false, 1, 332, 330, 331, 109)
abbrev meJ0_indexOf_0f7a4 : am_Me := (20, yJ0_indexOf_0f7a4, cJ0_indexOf_0f7a4, 2, (some .int), false, 1, 374, 372, 373, 109)
abbrev meJ0_indexOf_7cf53 : am_Me := (20, yJ0_indexOf_7cf53, cJ0_indexOf_7cf53, 3, (some .int), false, 2, 378, 376, 377, 109)
abbrev meJ0_coder_7d493 : am_Me := (20, yJ0_coder_7d493, cJ0_coder_7d493, 1, (some .byte), false, 0, 326, 324, 325, 109)
abbrev meJ0_isLatin1_aae02 : am_Me := (20, yJ0_isLatin1_aae02, cJ0_isLatin1_aae02, 1, (some .boolean), false, 0, 336, 334, 335, 109)
abbrev meJ0_checkIndex_df160 : am_Me := (20, yJ0_checkIndex_df160, cJ0_checkIndex_df160, 2, none, true, 2, 342, 341, 0, 109)
abbrev meJ1_charAt_3b067 : am_Me := (24, yJ1_charAt_3b067, cJ1_charAt_3b067, 2, (some .char), true, 2, 339, 338, 0, 110)
abbrev meJ1_canEncode_9a6ad : am_Me := (24, yJ1_canEncode_9a6ad, cJ1_canEncode_9a6ad, 1, (some .boolean), true, 1, 385, 384, 0, 110)
abbrev meJ1_indexOf_4cfef : am_Me := (24, yJ1_indexOf_4cfef, cJ1_indexOf_4cfef, 4, (some .int), true, 4, 382, 381, 0, 110)
abbrev meJ1_indexOfChar_4cfef : am_Me := (24, yJ1_indexOfChar_4cfef, cJ1_indexOfChar_4cfef, 6, (some .int), true, 4, 392, 391, 0, 110)
abbrev meJ3_checkIndex_8e157 : am_Me := (25, yJ3_checkIndex_8e157, cJ3_checkIndex_8e157, 3, (some .int), true, 3, 347, 346, 0, 111)
def am_mt : List am_Me := [meX0_walk, meX0_comingOnto, meX0_endingOn, meX0_inAll, meX0_likeliestSquare, meX1_become, meX1_squaresOf, meX1_open, meX1_kindAt, meX1_stepsOff, meX1_stepsOffSun, meX1_lay, meX1_liveAt, meX1_takePace, meX1_takeWarm, meX1_addSeeker, meX1_hasSeeker, meX1_kindOfSeeker, meX1_squareOfSeeker, meX1_placeSeeker, meX2_begin, meX2_look, meX2_seek, meX2_choice, meX2_standOf, meX2_goalAhead, meX2_nearest, meX2_withMostBeside, meX2_withFewestBeside, meX3_seed, meX3_draw, meX4_isFull, meX4_add, meX4_clear, meX4_at, meX5_tellTo, meX5_firstMisfit, meX5_shapeBehind, meX5_fits, meX5_comes, meX5_digitAt, meX5_pairAt, meX6_spread, meX6_layer, meX6_within, meX6_stepsTo, meX7_letter, meX7_garden, meX7_square, meX7_turnTo, meX7_set, meX7_seeker, meX7_stand, meX7_steps, meX7_mayBe, meX7_out, meX7_shut, meX7_firstGap, meX7_search, meX7_left, meX7_looksAt, meX7_bestSeeker, meX7_together, meX7_hold, meX7_ways, meX7_likely, meX7_likeliest, meX7_turning, meX7_finds, meX7_row, meX7_judge, meX7_behind, meX7_lots, meX7_image, meX7_on, meX7_count, meX7_refused, meX7_refusedLong, meX7_refusalsOf, meX7_wrongMinute, meX7_wrongNumber, meX7_wrongSearch, meX7_wrongWays, meX7_setHome, meX7_setPace, meX7_setWarm, meX7_reachedBy, meX7_getsOut, meX7_flooded, meX7_gapsOfBits, meX7_reachedWhenHeld, meX7_oneMore, meX7_looksTillEmpty, meX7_lookOften, meX7_looksOfAll, meX7_rowTellsSquares, meX7_squaresOfRow, meX7_afterTurning, meX7_firstWrongPair, meX7_homesOfTraces, meX7_afterWalkByLot, meX7_drawnDirection, meX7_isSquare, meX7_bit, meX7_has, meX7_least, meX7_moved, meX7_beside, meX7_yesOrNo, meX7_greatestDivisor, meX8_no, meX8_noLong, meX8_move, meX8_image, meX8_on, meX8_isNoSquare, meX8_kindOf, meX8_letter, meX8_oneOf, meX8_figures, meX8_statement, meX8_takes, meX8_read, meX8_garden, meX8_canBe, meX8_off, meX8_square, meX8_turnTo, meX8_set, meX8_isNoSeeker, meX8_seeker, meX8_stand, meX8_beside, meX8_walkFrom, meX8_steps, meX8_mayBeAt, meX8_inSet, meX8_mayBe, meX8_minutesOut, meX8_out, meX8_holdNone, meX8_shut, meX8_firstGap, meX8_apart, meX8_toRoad, meX8_besideInSet, meX8_waits, meX8_looks, meX8_passes, meX8_begin, meX8_searchBy, meX8_kindOfSeeker, meX8_search, meX8_refusal, meX8_lookOn, meX8_left, meX8_looksAt, meX8_bestSeeker, meX8_together, meX8_reached, meX8_hold, meX8_oneMore, meX8_waysOf, meX8_ways, meX8_likely, meX8_likeliest, meX8_turning, meX8_firstWrong, meX8_finds, meX8_row, meX8_looksOfRow, meX8_judge, meX8_behind, meX8_lots, meX8_count, meJ13_bitCount_95d88, meJ6_bitCount_0f7a4, meJ0_length_8abf5, meJ0_isEmpty_aae02, meJ0_charAt_5068e, meJ0_indexOf_0f7a4, meJ0_indexOf_7cf53, meJ0_coder_7d493, meJ0_isLatin1_aae02, meJ0_checkIndex_df160, meJ1_charAt_3b067, meJ1_canEncode_9a6ad, meJ1_indexOf_4cfef, meJ1_indexOfChar_4cfef, meJ3_checkIndex_8e157]
abbrev mX0_walk : Nat := 0
abbrev mX0_comingOnto : Nat := 1
abbrev mX0_endingOn : Nat := 2
abbrev mX0_inAll : Nat := 3
abbrev mX0_likeliestSquare : Nat := 4
abbrev mX1_become : Nat := 5
abbrev mX1_squaresOf : Nat := 6
abbrev mX1_open : Nat := 7
abbrev mX1_kindAt : Nat := 8
abbrev mX1_stepsOff : Nat := 9
abbrev mX1_stepsOffSun : Nat := 10
abbrev mX1_lay : Nat := 11
abbrev mX1_liveAt : Nat := 12
abbrev mX1_takePace : Nat := 13
abbrev mX1_takeWarm : Nat := 14
abbrev mX1_addSeeker : Nat := 15
abbrev mX1_hasSeeker : Nat := 16
abbrev mX1_kindOfSeeker : Nat := 17
abbrev mX1_squareOfSeeker : Nat := 18
abbrev mX1_placeSeeker : Nat := 19
abbrev mX2_begin : Nat := 20
abbrev mX2_look : Nat := 21
abbrev mX2_seek : Nat := 22
abbrev mX2_choice : Nat := 23
abbrev mX2_standOf : Nat := 24
abbrev mX2_goalAhead : Nat := 25
abbrev mX2_nearest : Nat := 26
abbrev mX2_withMostBeside : Nat := 27
abbrev mX2_withFewestBeside : Nat := 28
abbrev mX3_seed : Nat := 29
abbrev mX3_draw : Nat := 30
abbrev mX4_isFull : Nat := 31
abbrev mX4_add : Nat := 32
abbrev mX4_clear : Nat := 33
abbrev mX4_at : Nat := 34
abbrev mX5_tellTo : Nat := 35
abbrev mX5_firstMisfit : Nat := 36
abbrev mX5_shapeBehind : Nat := 37
abbrev mX5_fits : Nat := 38
abbrev mX5_comes : Nat := 39
abbrev mX5_digitAt : Nat := 40
abbrev mX5_pairAt : Nat := 41
abbrev mX6_spread : Nat := 42
abbrev mX6_layer : Nat := 43
abbrev mX6_within : Nat := 44
abbrev mX6_stepsTo : Nat := 45
abbrev mX7_letter : Nat := 46
abbrev mX7_garden : Nat := 47
abbrev mX7_square : Nat := 48
abbrev mX7_turnTo : Nat := 49
abbrev mX7_set : Nat := 50
abbrev mX7_seeker : Nat := 51
abbrev mX7_stand : Nat := 52
abbrev mX7_steps : Nat := 53
abbrev mX7_mayBe : Nat := 54
abbrev mX7_out : Nat := 55
abbrev mX7_shut : Nat := 56
abbrev mX7_firstGap : Nat := 57
abbrev mX7_search : Nat := 58
abbrev mX7_left : Nat := 59
abbrev mX7_looksAt : Nat := 60
abbrev mX7_bestSeeker : Nat := 61
abbrev mX7_together : Nat := 62
abbrev mX7_hold : Nat := 63
abbrev mX7_ways : Nat := 64
abbrev mX7_likely : Nat := 65
abbrev mX7_likeliest : Nat := 66
abbrev mX7_turning : Nat := 67
abbrev mX7_finds : Nat := 68
abbrev mX7_row : Nat := 69
abbrev mX7_judge : Nat := 70
abbrev mX7_behind : Nat := 71
abbrev mX7_lots : Nat := 72
abbrev mX7_image : Nat := 73
abbrev mX7_on : Nat := 74
abbrev mX7_count : Nat := 75
abbrev mX7_refused : Nat := 76
abbrev mX7_refusedLong : Nat := 77
abbrev mX7_refusalsOf : Nat := 78
abbrev mX7_wrongMinute : Nat := 79
abbrev mX7_wrongNumber : Nat := 80
abbrev mX7_wrongSearch : Nat := 81
abbrev mX7_wrongWays : Nat := 82
abbrev mX7_setHome : Nat := 83
abbrev mX7_setPace : Nat := 84
abbrev mX7_setWarm : Nat := 85
abbrev mX7_reachedBy : Nat := 86
abbrev mX7_getsOut : Nat := 87
abbrev mX7_flooded : Nat := 88
abbrev mX7_gapsOfBits : Nat := 89
abbrev mX7_reachedWhenHeld : Nat := 90
abbrev mX7_oneMore : Nat := 91
abbrev mX7_looksTillEmpty : Nat := 92
abbrev mX7_lookOften : Nat := 93
abbrev mX7_looksOfAll : Nat := 94
abbrev mX7_rowTellsSquares : Nat := 95
abbrev mX7_squaresOfRow : Nat := 96
abbrev mX7_afterTurning : Nat := 97
abbrev mX7_firstWrongPair : Nat := 98
abbrev mX7_homesOfTraces : Nat := 99
abbrev mX7_afterWalkByLot : Nat := 100
abbrev mX7_drawnDirection : Nat := 101
abbrev mX7_isSquare : Nat := 102
abbrev mX7_bit : Nat := 103
abbrev mX7_has : Nat := 104
abbrev mX7_least : Nat := 105
abbrev mX7_moved : Nat := 106
abbrev mX7_beside : Nat := 107
abbrev mX7_yesOrNo : Nat := 108
abbrev mX7_greatestDivisor : Nat := 109
abbrev mX8_no : Nat := 110
abbrev mX8_noLong : Nat := 111
abbrev mX8_move : Nat := 112
abbrev mX8_image : Nat := 113
abbrev mX8_on : Nat := 114
abbrev mX8_isNoSquare : Nat := 115
abbrev mX8_kindOf : Nat := 116
abbrev mX8_letter : Nat := 117
abbrev mX8_oneOf : Nat := 118
abbrev mX8_figures : Nat := 119
abbrev mX8_statement : Nat := 120
abbrev mX8_takes : Nat := 121
abbrev mX8_read : Nat := 122
abbrev mX8_garden : Nat := 123
abbrev mX8_canBe : Nat := 124
abbrev mX8_off : Nat := 125
abbrev mX8_square : Nat := 126
abbrev mX8_turnTo : Nat := 127
abbrev mX8_set : Nat := 128
abbrev mX8_isNoSeeker : Nat := 129
abbrev mX8_seeker : Nat := 130
abbrev mX8_stand : Nat := 131
abbrev mX8_beside : Nat := 132
abbrev mX8_walkFrom : Nat := 133
abbrev mX8_steps : Nat := 134
abbrev mX8_mayBeAt : Nat := 135
abbrev mX8_inSet : Nat := 136
abbrev mX8_mayBe : Nat := 137
abbrev mX8_minutesOut : Nat := 138
abbrev mX8_out : Nat := 139
abbrev mX8_holdNone : Nat := 140
abbrev mX8_shut : Nat := 141
abbrev mX8_firstGap : Nat := 142
abbrev mX8_apart : Nat := 143
abbrev mX8_toRoad : Nat := 144
abbrev mX8_besideInSet : Nat := 145
abbrev mX8_waits : Nat := 146
abbrev mX8_looks : Nat := 147
abbrev mX8_passes : Nat := 148
abbrev mX8_begin : Nat := 149
abbrev mX8_searchBy : Nat := 150
abbrev mX8_kindOfSeeker : Nat := 151
abbrev mX8_search : Nat := 152
abbrev mX8_refusal : Nat := 153
abbrev mX8_lookOn : Nat := 154
abbrev mX8_left : Nat := 155
abbrev mX8_looksAt : Nat := 156
abbrev mX8_bestSeeker : Nat := 157
abbrev mX8_together : Nat := 158
abbrev mX8_reached : Nat := 159
abbrev mX8_hold : Nat := 160
abbrev mX8_oneMore : Nat := 161
abbrev mX8_waysOf : Nat := 162
abbrev mX8_ways : Nat := 163
abbrev mX8_likely : Nat := 164
abbrev mX8_likeliest : Nat := 165
abbrev mX8_turning : Nat := 166
abbrev mX8_firstWrong : Nat := 167
abbrev mX8_finds : Nat := 168
abbrev mX8_row : Nat := 169
abbrev mX8_looksOfRow : Nat := 170
abbrev mX8_judge : Nat := 171
abbrev mX8_behind : Nat := 172
abbrev mX8_lots : Nat := 173
abbrev mX8_count : Nat := 174
abbrev mJ13_bitCount_95d88 : Nat := 175
abbrev mJ6_bitCount_0f7a4 : Nat := 176
abbrev mJ0_length_8abf5 : Nat := 177
abbrev mJ0_isEmpty_aae02 : Nat := 178
abbrev mJ0_charAt_5068e : Nat := 179
abbrev mJ0_indexOf_0f7a4 : Nat := 180
abbrev mJ0_indexOf_7cf53 : Nat := 181
abbrev mJ0_coder_7d493 : Nat := 182
abbrev mJ0_isLatin1_aae02 : Nat := 183
abbrev mJ0_checkIndex_df160 : Nat := 184
abbrev mJ1_charAt_3b067 : Nat := 185
abbrev mJ1_canEncode_9a6ad : Nat := 186
abbrev mJ1_indexOf_4cfef : Nat := 187
abbrev mJ1_indexOfChar_4cfef : Nat := 188
abbrev mJ3_checkIndex_8e157 : Nat := 189
def kX0_walk : am_C := [(0, (.iconst 0), 0, .int 0, 1, []),
  (1, (.istore_n 3), 3, .null, 2, []),
  (2, (.iload_n 3), 3, .null, 3, []),
  (3, (.bipush 36), 0, .int 36, 5, []),
  (5, (.if_icmp .ge 28), 33, .null, 8, []),
  (8, (.aload_n 0), 0, .null, 9, []),
  (9, (.getfield 9), 0, .ref 0, 12, []),
  (12, (.iload_n 3), 3, .null, 13, []),
  (13, (.iload_n 3), 3, .null, 14, []),
  (14, (.aload_n 1), 1, .null, 15, []),
  (15, (.getfield 18), 4, .ref 1, 18, []),
  (18, (.if_icmp .ne 7), 25, .null, 21, []),
  (21, (.lconst 1), 0, .long 1, 22, []),
  (22, (.goto 4), 26, .null, 25, []),
  (25, (.lconst 0), 0, .long 0, 26, []),
  (26, (.lastore), 0, .null, 27, []),
  (27, (.iinc 3 1), 3, .int 1, 30, []),
  (30, (.goto (-28)), 2, .null, 33, []),
  (33, (.iconst 0), 0, .int 0, 34, []),
  (34, (.istore_n 3), 3, .null, 35, []),
  (35, (.iload_n 3), 3, .null, 36, []),
  (36, (.iload_n 2), 2, .null, 37, []),
  (37, (.if_icmp .ge 62), 99, .null, 40, []),
  (40, (.aload_n 0), 0, .null, 41, []),
  (41, (.getfield 9), 0, .ref 0, 44, []),
  (44, (.iconst 0), 0, .int 0, 45, []),
  (45, (.aload_n 0), 0, .null, 46, []),
  (46, (.getfield 15), 1, .ref 0, 49, []),
  (49, (.iconst 0), 0, .int 0, 50, []),
  (50, (.bipush 36), 0, .int 36, 52, []),
  (52, (.invokestatic 24), 999, .ref 5, 55, []),
  (55, (.iconst 0), 0, .int 0, 56, []),
  (56, (.istore 4), 4, .null, 58, []),
  (58, (.iload 4), 4, .null, 60, []),
  (60, (.bipush 36), 0, .int 36, 62, []),
  (62, (.if_icmp .ge 31), 93, .null, 65, []),
  (65, (.aload_n 0), 0, .null, 66, []),
  (66, (.getfield 9), 0, .ref 0, 69, []),
  (69, (.iload 4), 4, .null, 71, []),
  (71, (.aload_n 0), 0, .null, 72, []),
  (72, (.getfield 15), 1, .ref 0, 75, []),
  (75, (.iload 4), 4, .null, 77, []),
  (77, (.laload), 0, .null, 78, []),
  (78, (.aload_n 0), 0, .null, 79, []),
  (79, (.aload_n 1), 1, .null, 80, []),
  (80, (.iload 4), 4, .null, 82, []),
  (82, (.invokevirtual 30), 1, .ref 12, 85, []),
  (85, (.ladd), 0, .null, 86, []),
  (86, (.lastore), 0, .null, 87, []),
  (87, (.iinc 4 1), 4, .int 1, 90, []),
  (90, (.goto (-32)), 58, .null, 93, []),
  (93, (.iinc 3 1), 3, .int 1, 96, []),
  (96, (.goto (-61)), 35, .null, 99, []),
  (99, (.return_), 0, .null, 100, [])]
def kX0_comingOnto : am_C := [(0, (.iload_n 2), 2, .null, 1, []),
  (1, (.invokestatic 34), 103, .ref 1, 4, []),
  (4, (.aload_n 1), 1, .null, 5, []),
  (5, (.invokevirtual 38), 7, .ref 20, 8, []),
  (8, (.land), 0, .null, 9, []),
  (9, (.lstore_n 3), 3, .null, 10, []),
  (10, (.lconst 0), 0, .long 0, 11, []),
  (11, (.lstore 5), 5, .null, 13, []),
  (13, (.iconst 0), 0, .int 0, 14, []),
  (14, (.istore 7), 7, .null, 16, []),
  (16, (.iload 7), 7, .null, 18, []),
  (18, (.iconst 4), 0, .int 4, 19, []),
  (19, (.if_icmp .ge 50), 69, .null, 22, []),
  (22, (.lload_n 3), 3, .null, 23, []),
  (23, (.iload 7), 7, .null, 25, []),
  (25, (.invokestatic 42), 106, .ref 2, 28, []),
  (28, (.aload_n 1), 1, .null, 29, []),
  (29, (.iconst 5), 0, .int 5, 30, []),
  (30, (.invokevirtual 46), 6, .ref 21, 33, []),
  (33, (.ldc2_w 49), 0, .long (-1), 36, []),
  (36, (.lxor), 0, .null, 37, []),
  (37, (.land), 0, .null, 38, []),
  (38, (.invokestatic 51), 105, .ref 1, 41, []),
  (41, (.istore 8), 8, .null, 43, []),
  (43, (.iload 8), 8, .null, 45, []),
  (45, (.invokestatic 55), 102, .ref 1, 48, []),
  (48, (.ifCond .eq 15), 63, .null, 51, []),
  (51, (.lload 5), 5, .null, 53, []),
  (53, (.aload_n 0), 0, .null, 54, []),
  (54, (.getfield 15), 1, .ref 0, 57, []),
  (57, (.iload 8), 8, .null, 59, []),
  (59, (.laload), 0, .null, 60, []),
  (60, (.ladd), 0, .null, 61, []),
  (61, (.lstore 5), 5, .null, 63, []),
  (63, (.iinc 7 1), 7, .int 1, 66, []),
  (66, (.goto (-50)), 16, .null, 69, []),
  (69, (.lload 5), 5, .null, 71, []),
  (71, (.lreturn), 0, .null, 72, [])]
def kX0_endingOn : am_C := [(0, (.iload_n 1), 1, .null, 1, []),
  (1, (.invokestatic 55), 102, .ref 1, 4, []),
  (4, (.ifCond .eq 12), 16, .null, 7, []),
  (7, (.aload_n 0), 0, .null, 8, []),
  (8, (.getfield 9), 0, .ref 0, 11, []),
  (11, (.iload_n 1), 1, .null, 12, []),
  (12, (.laload), 0, .null, 13, []),
  (13, (.goto 4), 17, .null, 16, []),
  (16, (.lconst 0), 0, .long 0, 17, []),
  (17, (.lreturn), 0, .null, 18, [])]
def kX0_inAll : am_C := [(0, (.lconst 0), 0, .long 0, 1, []),
  (1, (.lstore_n 1), 1, .null, 2, []),
  (2, (.iconst 0), 0, .int 0, 3, []),
  (3, (.istore_n 3), 3, .null, 4, []),
  (4, (.iload_n 3), 3, .null, 5, []),
  (5, (.bipush 36), 0, .int 36, 7, []),
  (7, (.if_icmp .ge 18), 25, .null, 10, []),
  (10, (.lload_n 1), 1, .null, 11, []),
  (11, (.aload_n 0), 0, .null, 12, []),
  (12, (.getfield 9), 0, .ref 0, 15, []),
  (15, (.iload_n 3), 3, .null, 16, []),
  (16, (.laload), 0, .null, 17, []),
  (17, (.ladd), 0, .null, 18, []),
  (18, (.lstore_n 1), 1, .null, 19, []),
  (19, (.iinc 3 1), 3, .int 1, 22, []),
  (22, (.goto (-18)), 4, .null, 25, []),
  (25, (.lload_n 1), 1, .null, 26, []),
  (26, (.lreturn), 0, .null, 27, [])]
def kX0_likeliestSquare : am_C := [(0, (.iconst 0), 0, .int 0, 1, []),
  (1, (.istore_n 1), 1, .null, 2, []),
  (2, (.iconst 1), 0, .int 1, 3, []),
  (3, (.istore_n 2), 2, .null, 4, []),
  (4, (.iload_n 2), 2, .null, 5, []),
  (5, (.bipush 36), 0, .int 36, 7, []),
  (7, (.if_icmp .ge 25), 32, .null, 10, []),
  (10, (.aload_n 0), 0, .null, 11, []),
  (11, (.iload_n 2), 2, .null, 12, []),
  (12, (.invokevirtual 59), 2, .ref 11, 15, []),
  (15, (.aload_n 0), 0, .null, 16, []),
  (16, (.iload_n 1), 1, .null, 17, []),
  (17, (.invokevirtual 59), 2, .ref 11, 20, []),
  (20, (.lcmp), 0, .null, 21, []),
  (21, (.ifCond .le 5), 26, .null, 24, []),
  (24, (.iload_n 2), 2, .null, 25, []),
  (25, (.istore_n 1), 1, .null, 26, []),
  (26, (.iinc 2 1), 2, .int 1, 29, []),
  (29, (.goto (-25)), 4, .null, 32, []),
  (32, (.iload_n 1), 1, .null, 33, []),
  (33, (.ireturn), 0, .null, 34, [])]
def kX1_become : am_C := [(0, (.aload_n 1), 1, .null, 1, []),
  (1, (.getfield 9), 0, .ref 1, 4, []),
  (4, (.iconst 0), 0, .int 0, 5, []),
  (5, (.aload_n 0), 0, .null, 6, []),
  (6, (.getfield 9), 0, .ref 1, 9, []),
  (9, (.iconst 0), 0, .int 0, 10, []),
  (10, (.bipush 6), 0, .int 6, 12, []),
  (12, (.invokestatic 34), 999, .ref 5, 15, []),
  (15, (.aload_n 1), 1, .null, 16, []),
  (16, (.getfield 15), 1, .ref 1, 19, []),
  (19, (.iconst 0), 0, .int 0, 20, []),
  (20, (.aload_n 0), 0, .null, 21, []),
  (21, (.getfield 15), 1, .ref 1, 24, []),
  (24, (.iconst 0), 0, .int 0, 25, []),
  (25, (.iconst 3), 0, .int 3, 26, []),
  (26, (.invokestatic 34), 999, .ref 5, 29, []),
  (29, (.aload_n 1), 1, .null, 30, []),
  (30, (.getfield 19), 2, .ref 1, 33, []),
  (33, (.iconst 0), 0, .int 0, 34, []),
  (34, (.aload_n 0), 0, .null, 35, []),
  (35, (.getfield 19), 2, .ref 1, 38, []),
  (38, (.iconst 0), 0, .int 0, 39, []),
  (39, (.iconst 3), 0, .int 3, 40, []),
  (40, (.invokestatic 34), 999, .ref 5, 43, []),
  (43, (.aload_n 0), 0, .null, 44, []),
  (44, (.aload_n 1), 1, .null, 45, []),
  (45, (.getfield 40), 3, .ref 1, 48, []),
  (48, (.putfield 40), 3, .ref 1, 51, []),
  (51, (.aload_n 0), 0, .null, 52, []),
  (52, (.aload_n 1), 1, .null, 53, []),
  (53, (.getfield 22), 4, .ref 1, 56, []),
  (56, (.putfield 22), 4, .ref 1, 59, []),
  (59, (.aload_n 0), 0, .null, 60, []),
  (60, (.aload_n 1), 1, .null, 61, []),
  (61, (.getfield 26), 5, .ref 1, 64, []),
  (64, (.putfield 26), 5, .ref 1, 67, []),
  (67, (.aload_n 0), 0, .null, 68, []),
  (68, (.aload_n 1), 1, .null, 69, []),
  (69, (.getfield 29), 6, .ref 1, 72, []),
  (72, (.putfield 29), 6, .ref 1, 75, []),
  (75, (.return_), 0, .null, 76, [])]
def kX1_squaresOf : am_C := [(0, (.iload_n 1), 1, .null, 1, []),
  (1, (.ifCond .lt 21), 22, .null, 4, []),
  (4, (.iload_n 1), 1, .null, 5, []),
  (5, (.aload_n 0), 0, .null, 6, []),
  (6, (.getfield 9), 0, .ref 1, 9, []),
  (9, (.arraylength), 0, .null, 10, []),
  (10, (.if_icmp .ge 12), 22, .null, 13, []),
  (13, (.aload_n 0), 0, .null, 14, []),
  (14, (.getfield 9), 0, .ref 1, 17, []),
  (17, (.iload_n 1), 1, .null, 18, []),
  (18, (.laload), 0, .null, 19, []),
  (19, (.goto 4), 23, .null, 22, []),
  (22, (.lconst 0), 0, .long 0, 23, []),
  (23, (.lreturn), 0, .null, 24, [])]
def kX1_open : am_C := [(0, (.ldc2_w 32), 0, .long 68719476735, 3, []),
  (3, (.aload_n 0), 0, .null, 4, []),
  (4, (.iconst 1), 0, .int 1, 5, []),
  (5, (.invokevirtual 43), 6, .ref 21, 8, []),
  (8, (.ldc2_w 47), 0, .long (-1), 11, []),
  (11, (.lxor), 0, .null, 12, []),
  (12, (.land), 0, .null, 13, []),
  (13, (.lreturn), 0, .null, 14, [])]
def kX1_kindAt : am_C := [(0, (.iconst 0), 0, .int 0, 1, []),
  (1, (.istore_n 2), 2, .null, 2, []),
  (2, (.iload_n 2), 2, .null, 3, []),
  (3, (.bipush 6), 0, .int 6, 5, []),
  (5, (.if_icmp .ge 23), 28, .null, 8, []),
  (8, (.aload_n 0), 0, .null, 9, []),
  (9, (.iload_n 2), 2, .null, 10, []),
  (10, (.invokevirtual 43), 6, .ref 21, 13, []),
  (13, (.iload_n 1), 1, .null, 14, []),
  (14, (.invokestatic 49), 104, .ref 2, 17, []),
  (17, (.ifCond .eq 5), 22, .null, 20, []),
  (20, (.iload_n 2), 2, .null, 21, []),
  (21, (.ireturn), 0, .null, 22, []),
  (22, (.iinc 2 1), 2, .int 1, 25, []),
  (25, (.goto (-23)), 2, .null, 28, []),
  (28, (.iconst 0), 0, .int 0, 29, []),
  (29, (.ireturn), 0, .null, 30, [])]
def kX1_stepsOff : am_C := [(0, (.aload_n 0), 0, .null, 1, []),
  (1, (.iload_n 1), 1, .null, 2, []),
  (2, (.invokevirtual 53), 8, .ref 21, 5, []),
  (5, (.tableswitch 46 1 5 #[35, 46, 39, 44, 37]), 51, .null, 40, [(1, 40), (2, 51), (3, 44), (4, 49), (5, 42)]),
  (40, (.iconst 0), 0, .int 0, 41, []),
  (41, (.ireturn), 0, .null, 42, []),
  (42, (.iconst 0), 0, .int 0, 43, []),
  (43, (.ireturn), 0, .null, 44, []),
  (44, (.aload_n 0), 0, .null, 45, []),
  (45, (.invokevirtual 57), 10, .ref 20, 48, []),
  (48, (.ireturn), 0, .null, 49, []),
  (49, (.iconst 2), 0, .int 2, 50, []),
  (50, (.ireturn), 0, .null, 51, []),
  (51, (.iconst 1), 0, .int 1, 52, []),
  (52, (.ireturn), 0, .null, 53, [])]
def kX1_stepsOffSun : am_C := [(0, (.iconst 1), 0, .int 1, 1, []),
  (1, (.aload_n 0), 0, .null, 2, []),
  (2, (.getfield 29), 6, .ref 1, 5, []),
  (5, (.iconst 3), 0, .int 3, 6, []),
  (6, (.idiv), 0, .null, 7, []),
  (7, (.iadd), 0, .null, 8, []),
  (8, (.ireturn), 0, .null, 9, [])]
def kX1_lay : am_C := [(0, (.iload_n 2), 2, .null, 1, []),
  (1, (.invokestatic 61), 102, .ref 1, 4, []),
  (4, (.ifCond .eq 15), 19, .null, 7, []),
  (7, (.iload_n 3), 3, .null, 8, []),
  (8, (.invokestatic 61), 102, .ref 1, 11, []),
  (11, (.ifCond .eq 8), 19, .null, 14, []),
  (14, (.iload_n 2), 2, .null, 15, []),
  (15, (.iload_n 3), 3, .null, 16, []),
  (16, (.if_icmp .le 5), 21, .null, 19, []),
  (19, (.iconst 0), 0, .int 0, 20, []),
  (20, (.ireturn), 1, .null, 21, []),
  (21, (.iload_n 1), 1, .null, 22, []),
  (22, (.ifCond .lt 12), 34, .null, 25, []),
  (25, (.iload_n 1), 1, .null, 26, []),
  (26, (.aload_n 0), 0, .null, 27, []),
  (27, (.getfield 9), 0, .ref 1, 30, []),
  (30, (.arraylength), 0, .null, 31, []),
  (31, (.if_icmp .lt 5), 36, .null, 34, []),
  (34, (.iconst 0), 0, .int 0, 35, []),
  (35, (.ireturn), 1, .null, 36, []),
  (36, (.iload_n 1), 1, .null, 37, []),
  (37, (.iconst 1), 0, .int 1, 38, []),
  (38, (.if_icmp .ne 21), 59, .null, 41, []),
  (41, (.iload_n 2), 2, .null, 42, []),
  (42, (.aload_n 0), 0, .null, 43, []),
  (43, (.getfield 22), 4, .ref 1, 46, []),
  (46, (.if_icmp .gt 13), 59, .null, 49, []),
  (49, (.aload_n 0), 0, .null, 50, []),
  (50, (.getfield 22), 4, .ref 1, 53, []),
  (53, (.iload_n 3), 3, .null, 54, []),
  (54, (.if_icmp .gt 5), 59, .null, 57, []),
  (57, (.iconst 0), 0, .int 0, 58, []),
  (58, (.ireturn), 1, .null, 59, []),
  (59, (.lconst 1), 0, .long 1, 60, []),
  (60, (.iload_n 3), 3, .null, 61, []),
  (61, (.iconst 1), 0, .int 1, 62, []),
  (62, (.iadd), 0, .null, 63, []),
  (63, (.lshl), 0, .null, 64, []),
  (64, (.lconst 1), 0, .long 1, 65, []),
  (65, (.iload_n 2), 2, .null, 66, []),
  (66, (.lshl), 0, .null, 67, []),
  (67, (.lsub), 0, .null, 68, []),
  (68, (.lstore 4), 4, .null, 70, []),
  (70, (.iconst 0), 0, .int 0, 71, []),
  (71, (.istore 6), 6, .null, 73, []),
  (73, (.iload 6), 6, .null, 75, []),
  (75, (.aload_n 0), 0, .null, 76, []),
  (76, (.getfield 9), 0, .ref 1, 79, []),
  (79, (.arraylength), 0, .null, 80, []),
  (80, (.if_icmp .ge 25), 105, .null, 83, []),
  (83, (.aload_n 0), 0, .null, 84, []),
  (84, (.getfield 9), 0, .ref 1, 87, []),
  (87, (.iload 6), 6, .null, 89, []),
  (89, (.dup2), 0, .null, 90, []),
  (90, (.laload), 0, .null, 91, []),
  (91, (.lload 4), 4, .null, 93, []),
  (93, (.ldc2_w 47), 0, .long (-1), 96, []),
  (96, (.lxor), 0, .null, 97, []),
  (97, (.land), 0, .null, 98, []),
  (98, (.lastore), 0, .null, 99, []),
  (99, (.iinc 6 1), 6, .int 1, 102, []),
  (102, (.goto (-29)), 73, .null, 105, []),
  (105, (.aload_n 0), 0, .null, 106, []),
  (106, (.getfield 9), 0, .ref 1, 109, []),
  (109, (.iload_n 1), 1, .null, 110, []),
  (110, (.dup2), 0, .null, 111, []),
  (111, (.laload), 0, .null, 112, []),
  (112, (.lload 4), 4, .null, 114, []),
  (114, (.lor), 0, .null, 115, []),
  (115, (.lastore), 0, .null, 116, []),
  (116, (.iconst 1), 0, .int 1, 117, []),
  (117, (.ireturn), 1, .null, 118, [])]
def kX1_liveAt : am_C := [(0, (.aload_n 0), 0, .null, 1, []),
  (1, (.invokevirtual 65), 7, .ref 20, 4, []),
  (4, (.iload_n 1), 1, .null, 5, []),
  (5, (.invokestatic 49), 104, .ref 2, 8, []),
  (8, (.ifCond .ne 5), 13, .null, 11, []),
  (11, (.iconst 0), 0, .int 0, 12, []),
  (12, (.ireturn), 1, .null, 13, []),
  (13, (.aload_n 0), 0, .null, 14, []),
  (14, (.iload_n 1), 1, .null, 15, []),
  (15, (.putfield 22), 4, .ref 1, 18, []),
  (18, (.iconst 1), 0, .int 1, 19, []),
  (19, (.ireturn), 1, .null, 20, [])]
def kX1_takePace : am_C := [(0, (.iload_n 1), 1, .null, 1, []),
  (1, (.iconst 1), 0, .int 1, 2, []),
  (2, (.if_icmp .lt 9), 11, .null, 5, []),
  (5, (.iload_n 1), 1, .null, 6, []),
  (6, (.bipush 9), 0, .int 9, 8, []),
  (8, (.if_icmp .le 5), 13, .null, 11, []),
  (11, (.iconst 0), 0, .int 0, 12, []),
  (12, (.ireturn), 1, .null, 13, []),
  (13, (.aload_n 0), 0, .null, 14, []),
  (14, (.iload_n 1), 1, .null, 15, []),
  (15, (.putfield 26), 5, .ref 1, 18, []),
  (18, (.iconst 1), 0, .int 1, 19, []),
  (19, (.ireturn), 1, .null, 20, [])]
def kX1_takeWarm : am_C := [(0, (.iload_n 1), 1, .null, 1, []),
  (1, (.ifCond .lt 9), 10, .null, 4, []),
  (4, (.iload_n 1), 1, .null, 5, []),
  (5, (.bipush 9), 0, .int 9, 7, []),
  (7, (.if_icmp .le 5), 12, .null, 10, []),
  (10, (.iconst 0), 0, .int 0, 11, []),
  (11, (.ireturn), 1, .null, 12, []),
  (12, (.aload_n 0), 0, .null, 13, []),
  (13, (.iload_n 1), 1, .null, 14, []),
  (14, (.putfield 29), 6, .ref 1, 17, []),
  (17, (.iconst 1), 0, .int 1, 18, []),
  (18, (.ireturn), 1, .null, 19, [])]
def kX1_addSeeker : am_C := [(0, (.aload_n 0), 0, .null, 1, []),
  (1, (.getfield 40), 3, .ref 1, 4, []),
  (4, (.ifCond .lt 18), 22, .null, 7, []),
  (7, (.aload_n 0), 0, .null, 8, []),
  (8, (.getfield 40), 3, .ref 1, 11, []),
  (11, (.iconst 3), 0, .int 3, 12, []),
  (12, (.if_icmp .ge 10), 22, .null, 15, []),
  (15, (.iload_n 2), 2, .null, 16, []),
  (16, (.invokestatic 61), 102, .ref 1, 19, []),
  (19, (.ifCond .ne 5), 24, .null, 22, []),
  (22, (.iconst 0), 0, .int 0, 23, []),
  (23, (.ireturn), 1, .null, 24, []),
  (24, (.aload_n 0), 0, .null, 25, []),
  (25, (.getfield 15), 1, .ref 1, 28, []),
  (28, (.aload_n 0), 0, .null, 29, []),
  (29, (.getfield 40), 3, .ref 1, 32, []),
  (32, (.iload_n 1), 1, .null, 33, []),
  (33, (.iastore), 0, .null, 34, []),
  (34, (.aload_n 0), 0, .null, 35, []),
  (35, (.getfield 19), 2, .ref 1, 38, []),
  (38, (.aload_n 0), 0, .null, 39, []),
  (39, (.getfield 40), 3, .ref 1, 42, []),
  (42, (.iload_n 2), 2, .null, 43, []),
  (43, (.iastore), 0, .null, 44, []),
  (44, (.aload_n 0), 0, .null, 45, []),
  (45, (.dup), 0, .null, 46, []),
  (46, (.getfield 40), 3, .ref 1, 49, []),
  (49, (.iconst 1), 0, .int 1, 50, []),
  (50, (.iadd), 0, .null, 51, []),
  (51, (.putfield 40), 3, .ref 1, 54, []),
  (54, (.iconst 1), 0, .int 1, 55, []),
  (55, (.ireturn), 1, .null, 56, [])]
def kX1_hasSeeker : am_C := [(0, (.iload_n 1), 1, .null, 1, []),
  (1, (.ifCond .lt 20), 21, .null, 4, []),
  (4, (.iload_n 1), 1, .null, 5, []),
  (5, (.aload_n 0), 0, .null, 6, []),
  (6, (.getfield 40), 3, .ref 1, 9, []),
  (9, (.if_icmp .ge 12), 21, .null, 12, []),
  (12, (.iload_n 1), 1, .null, 13, []),
  (13, (.iconst 3), 0, .int 3, 14, []),
  (14, (.if_icmp .ge 7), 21, .null, 17, []),
  (17, (.iconst 1), 0, .int 1, 18, []),
  (18, (.goto 4), 22, .null, 21, []),
  (21, (.iconst 0), 0, .int 0, 22, []),
  (22, (.ireturn), 1, .null, 23, [])]
def kX1_kindOfSeeker : am_C := [(0, (.aload_n 0), 0, .null, 1, []),
  (1, (.iload_n 1), 1, .null, 2, []),
  (2, (.invokevirtual 69), 16, .ref 21, 5, []),
  (5, (.ifCond .eq 12), 17, .null, 8, []),
  (8, (.aload_n 0), 0, .null, 9, []),
  (9, (.getfield 15), 1, .ref 1, 12, []),
  (12, (.iload_n 1), 1, .null, 13, []),
  (13, (.iaload), 0, .null, 14, []),
  (14, (.goto 4), 18, .null, 17, []),
  (17, (.iconst 0), 0, .int 0, 18, []),
  (18, (.ireturn), 0, .null, 19, [])]
def kX1_squareOfSeeker : am_C := [(0, (.aload_n 0), 0, .null, 1, []),
  (1, (.iload_n 1), 1, .null, 2, []),
  (2, (.invokevirtual 69), 16, .ref 21, 5, []),
  (5, (.ifCond .eq 12), 17, .null, 8, []),
  (8, (.aload_n 0), 0, .null, 9, []),
  (9, (.getfield 19), 2, .ref 1, 12, []),
  (12, (.iload_n 1), 1, .null, 13, []),
  (13, (.iaload), 0, .null, 14, []),
  (14, (.goto 5), 19, .null, 17, []),
  (17, (.bipush (-9)), 0, .int (-9), 19, []),
  (19, (.ireturn), 0, .null, 20, [])]
def kX1_placeSeeker : am_C := [(0, (.aload_n 0), 0, .null, 1, []),
  (1, (.iload_n 1), 1, .null, 2, []),
  (2, (.invokevirtual 69), 16, .ref 21, 5, []),
  (5, (.ifCond .eq 10), 15, .null, 8, []),
  (8, (.aload_n 0), 0, .null, 9, []),
  (9, (.getfield 19), 2, .ref 1, 12, []),
  (12, (.iload_n 1), 1, .null, 13, []),
  (13, (.iload_n 2), 2, .null, 14, []),
  (14, (.iastore), 0, .null, 15, []),
  (15, (.return_), 0, .null, 16, [])]
def kX2_begin : am_C := [(0, (.aload_n 0), 0, .null, 1, []),
  (1, (.lload_n 2), 2, .null, 2, []),
  (2, (.putfield 17), 1, .ref 2, 5, []),
  (5, (.aload_n 0), 0, .null, 6, []),
  (6, (.iload 4), 4, .null, 8, []),
  (8, (.putfield 21), 2, .ref 2, 11, []),
  (11, (.iconst 0), 0, .int 0, 12, []),
  (12, (.istore 5), 5, .null, 14, []),
  (14, (.iload 5), 5, .null, 16, []),
  (16, (.aload_n 0), 0, .null, 17, []),
  (17, (.getfield 11), 0, .ref 2, 20, []),
  (20, (.arraylength), 0, .null, 21, []),
  (21, (.if_icmp .ge 25), 46, .null, 24, []),
  (24, (.aload_n 0), 0, .null, 25, []),
  (25, (.getfield 11), 0, .ref 2, 28, []),
  (28, (.iload 5), 5, .null, 30, []),
  (30, (.aload_n 1), 1, .null, 31, []),
  (31, (.iload 5), 5, .null, 33, []),
  (33, (.invokevirtual 25), 18, .ref 21, 36, []),
  (36, (.invokestatic 29), 103, .ref 1, 39, []),
  (39, (.lastore), 0, .null, 40, []),
  (40, (.iinc 5 1), 5, .int 1, 43, []),
  (43, (.goto (-29)), 14, .null, 46, []),
  (46, (.return_), 0, .null, 47, [])]
def kX2_look : am_C := [(0, (.aload_n 0), 0, .null, 1, []),
  (1, (.dup), 0, .null, 2, []),
  (2, (.getfield 17), 1, .ref 2, 5, []),
  (5, (.iload_n 2), 2, .null, 6, []),
  (6, (.invokestatic 29), 103, .ref 1, 9, []),
  (9, (.ldc2_w 33), 0, .long (-1), 12, []),
  (12, (.lxor), 0, .null, 13, []),
  (13, (.land), 0, .null, 14, []),
  (14, (.putfield 17), 1, .ref 2, 17, []),
  (17, (.aload_n 0), 0, .null, 18, []),
  (18, (.dup), 0, .null, 19, []),
  (19, (.getfield 21), 2, .ref 2, 22, []),
  (22, (.iconst 1), 0, .int 1, 23, []),
  (23, (.iadd), 0, .null, 24, []),
  (24, (.putfield 21), 2, .ref 2, 27, []),
  (27, (.aload_n 1), 1, .null, 28, []),
  (28, (.getfield 35), 5, .ref 1, 31, []),
  (31, (.ifCond .le 46), 77, .null, 34, []),
  (34, (.aload_n 0), 0, .null, 35, []),
  (35, (.getfield 21), 2, .ref 2, 38, []),
  (38, (.aload_n 1), 1, .null, 39, []),
  (39, (.getfield 35), 5, .ref 1, 42, []),
  (42, (.irem), 0, .null, 43, []),
  (43, (.ifCond .ne 34), 77, .null, 46, []),
  (46, (.aload_n 0), 0, .null, 47, []),
  (47, (.dup), 0, .null, 48, []),
  (48, (.getfield 17), 1, .ref 2, 51, []),
  (51, (.aload_n 0), 0, .null, 52, []),
  (52, (.getfield 17), 1, .ref 2, 55, []),
  (55, (.aload_n 1), 1, .null, 56, []),
  (56, (.iconst 5), 0, .int 5, 57, []),
  (57, (.invokevirtual 38), 6, .ref 21, 60, []),
  (60, (.ldc2_w 33), 0, .long (-1), 63, []),
  (63, (.lxor), 0, .null, 64, []),
  (64, (.land), 0, .null, 65, []),
  (65, (.invokestatic 41), 107, .ref 1, 68, []),
  (68, (.aload_n 1), 1, .null, 69, []),
  (69, (.invokevirtual 45), 7, .ref 20, 72, []),
  (72, (.land), 0, .null, 73, []),
  (73, (.lor), 0, .null, 74, []),
  (74, (.putfield 17), 1, .ref 2, 77, []),
  (77, (.return_), 0, .null, 78, [])]
def kX2_seek : am_C := [(0, (.aload_n 0), 0, .null, 1, []),
  (1, (.aload_n 1), 1, .null, 2, []),
  (2, (.iload_n 2), 2, .null, 3, []),
  (3, (.iload_n 3), 3, .null, 4, []),
  (4, (.invokevirtual 49), 23, .ref 33, 7, []),
  (7, (.istore 4), 4, .null, 9, []),
  (9, (.aload_n 0), 0, .null, 10, []),
  (10, (.aload_n 1), 1, .null, 11, []),
  (11, (.iload 4), 4, .null, 13, []),
  (13, (.invokevirtual 53), 21, .ref 32, 16, []),
  (16, (.iload_n 3), 3, .null, 17, []),
  (17, (.iconst 1), 0, .int 1, 18, []),
  (18, (.if_icmp .eq 8), 26, .null, 21, []),
  (21, (.iload_n 3), 3, .null, 22, []),
  (22, (.iconst 4), 0, .int 4, 23, []),
  (23, (.if_icmp .ne 7), 30, .null, 26, []),
  (26, (.iconst 1), 0, .int 1, 27, []),
  (27, (.goto 4), 31, .null, 30, []),
  (30, (.iconst 0), 0, .int 0, 31, []),
  (31, (.istore 5), 5, .null, 33, []),
  (33, (.iload 5), 5, .null, 35, []),
  (35, (.ifCond .eq 35), 70, .null, 38, []),
  (38, (.iload 4), 4, .null, 40, []),
  (40, (.invokestatic 57), 102, .ref 1, 43, []),
  (43, (.ifCond .eq 27), 70, .null, 46, []),
  (46, (.iload_n 2), 2, .null, 47, []),
  (47, (.ifCond .lt 23), 70, .null, 50, []),
  (50, (.iload_n 2), 2, .null, 51, []),
  (51, (.aload_n 0), 0, .null, 52, []),
  (52, (.getfield 11), 0, .ref 2, 55, []),
  (55, (.arraylength), 0, .null, 56, []),
  (56, (.if_icmp .ge 14), 70, .null, 59, []),
  (59, (.aload_n 0), 0, .null, 60, []),
  (60, (.getfield 11), 0, .ref 2, 63, []),
  (63, (.iload_n 2), 2, .null, 64, []),
  (64, (.iload 4), 4, .null, 66, []),
  (66, (.invokestatic 29), 103, .ref 1, 69, []),
  (69, (.lastore), 0, .null, 70, []),
  (70, (.return_), 0, .null, 71, [])]
def kX2_choice : am_C := [(0, (.iload_n 3), 3, .null, 1, []),
  (1, (.tableswitch 66 1 4 #[31, 41, 46, 51]), 67, .null, 32, [(1, 32), (2, 42), (3, 47), (4, 52)]),
  (32, (.aload_n 0), 0, .null, 33, []),
  (33, (.aload_n 0), 0, .null, 34, []),
  (34, (.iload_n 2), 2, .null, 35, []),
  (35, (.invokevirtual 61), 24, .ref 31, 38, []),
  (38, (.invokevirtual 64), 26, .ref 31, 41, []),
  (41, (.ireturn), 0, .null, 42, []),
  (42, (.aload_n 0), 0, .null, 43, []),
  (43, (.invokevirtual 68), 27, .ref 30, 46, []),
  (46, (.ireturn), 0, .null, 47, []),
  (47, (.aload_n 0), 0, .null, 48, []),
  (48, (.invokevirtual 72), 28, .ref 30, 51, []),
  (51, (.ireturn), 0, .null, 52, []),
  (52, (.aload_n 0), 0, .null, 53, []),
  (53, (.aload_n 0), 0, .null, 54, []),
  (54, (.aload_n 1), 1, .null, 55, []),
  (55, (.iconst 5), 0, .int 5, 56, []),
  (56, (.invokevirtual 38), 6, .ref 21, 59, []),
  (59, (.iload_n 2), 2, .null, 60, []),
  (60, (.invokevirtual 75), 25, .ref 32, 63, []),
  (63, (.invokevirtual 64), 26, .ref 31, 66, []),
  (66, (.ireturn), 0, .null, 67, []),
  (67, (.aload_n 0), 0, .null, 68, []),
  (68, (.getfield 17), 1, .ref 2, 71, []),
  (71, (.invokestatic 79), 105, .ref 1, 74, []),
  (74, (.ireturn), 0, .null, 75, [])]
def kX2_standOf : am_C := [(0, (.iload_n 1), 1, .null, 1, []),
  (1, (.ifCond .lt 21), 22, .null, 4, []),
  (4, (.iload_n 1), 1, .null, 5, []),
  (5, (.aload_n 0), 0, .null, 6, []),
  (6, (.getfield 11), 0, .ref 2, 9, []),
  (9, (.arraylength), 0, .null, 10, []),
  (10, (.if_icmp .ge 12), 22, .null, 13, []),
  (13, (.aload_n 0), 0, .null, 14, []),
  (14, (.getfield 11), 0, .ref 2, 17, []),
  (17, (.iload_n 1), 1, .null, 18, []),
  (18, (.laload), 0, .null, 19, []),
  (19, (.goto 4), 23, .null, 22, []),
  (22, (.lconst 0), 0, .long 0, 23, []),
  (23, (.lreturn), 0, .null, 24, [])]
def kX2_goalAhead : am_C := [(0, (.lload_n 1), 1, .null, 1, []),
  (1, (.lconst 0), 0, .long 0, 2, []),
  (2, (.lcmp), 0, .null, 3, []),
  (3, (.ifCond .eq 7), 10, .null, 6, []),
  (6, (.lload_n 1), 1, .null, 7, []),
  (7, (.goto 8), 15, .null, 10, []),
  (10, (.aload_n 0), 0, .null, 11, []),
  (11, (.iload_n 3), 3, .null, 12, []),
  (12, (.invokevirtual 61), 24, .ref 31, 15, []),
  (15, (.lreturn), 0, .null, 16, [])]
def kX2_nearest : am_C := [(0, (.lload_n 1), 1, .null, 1, []),
  (1, (.lstore_n 3), 3, .null, 2, []),
  (2, (.iconst 0), 0, .int 0, 3, []),
  (3, (.istore 5), 5, .null, 5, []),
  (5, (.iload 5), 5, .null, 7, []),
  (7, (.bipush 10), 0, .int 10, 9, []),
  (9, (.if_icmp .ge 27), 36, .null, 12, []),
  (12, (.lload_n 3), 3, .null, 13, []),
  (13, (.aload_n 0), 0, .null, 14, []),
  (14, (.getfield 17), 1, .ref 2, 17, []),
  (17, (.land), 0, .null, 18, []),
  (18, (.lconst 0), 0, .long 0, 19, []),
  (19, (.lcmp), 0, .null, 20, []),
  (20, (.ifCond .ne 16), 36, .null, 23, []),
  (23, (.lload_n 3), 3, .null, 24, []),
  (24, (.lload_n 3), 3, .null, 25, []),
  (25, (.invokestatic 41), 107, .ref 1, 28, []),
  (28, (.lor), 0, .null, 29, []),
  (29, (.lstore_n 3), 3, .null, 30, []),
  (30, (.iinc 5 1), 5, .int 1, 33, []),
  (33, (.goto (-28)), 5, .null, 36, []),
  (36, (.lload_n 3), 3, .null, 37, []),
  (37, (.aload_n 0), 0, .null, 38, []),
  (38, (.getfield 17), 1, .ref 2, 41, []),
  (41, (.land), 0, .null, 42, []),
  (42, (.invokestatic 79), 105, .ref 1, 45, []),
  (45, (.ireturn), 0, .null, 46, [])]
def kX2_withMostBeside : am_C := [(0, (.aload_n 0), 0, .null, 1, []),
  (1, (.getfield 17), 1, .ref 2, 4, []),
  (4, (.invokestatic 79), 105, .ref 1, 7, []),
  (7, (.istore_n 1), 1, .null, 8, []),
  (8, (.iconst 0), 0, .int 0, 9, []),
  (9, (.istore_n 2), 2, .null, 10, []),
  (10, (.iconst 0), 0, .int 0, 11, []),
  (11, (.istore_n 3), 3, .null, 12, []),
  (12, (.iload_n 3), 3, .null, 13, []),
  (13, (.bipush 36), 0, .int 36, 15, []),
  (15, (.if_icmp .ge 41), 56, .null, 18, []),
  (18, (.lconst 1), 0, .long 1, 19, []),
  (19, (.iload_n 3), 3, .null, 20, []),
  (20, (.lshl), 0, .null, 21, []),
  (21, (.aload_n 0), 0, .null, 22, []),
  (22, (.getfield 17), 1, .ref 2, 25, []),
  (25, (.land), 0, .null, 26, []),
  (26, (.invokestatic 41), 107, .ref 1, 29, []),
  (29, (.aload_n 0), 0, .null, 30, []),
  (30, (.getfield 17), 1, .ref 2, 33, []),
  (33, (.land), 0, .null, 34, []),
  (34, (.invokestatic 82), 175, .ref 1, 37, []),
  (37, (.istore 4), 4, .null, 39, []),
  (39, (.iload 4), 4, .null, 41, []),
  (41, (.iload_n 2), 2, .null, 42, []),
  (42, (.if_icmp .le 8), 50, .null, 45, []),
  (45, (.iload 4), 4, .null, 47, []),
  (47, (.istore_n 2), 2, .null, 48, []),
  (48, (.iload_n 3), 3, .null, 49, []),
  (49, (.istore_n 1), 1, .null, 50, []),
  (50, (.iinc 3 1), 3, .int 1, 53, []),
  (53, (.goto (-41)), 12, .null, 56, []),
  (56, (.iload_n 1), 1, .null, 57, []),
  (57, (.ireturn), 0, .null, 58, [])]
def kX2_withFewestBeside : am_C := [(0, (.aload_n 0), 0, .null, 1, []),
  (1, (.getfield 17), 1, .ref 2, 4, []),
  (4, (.invokestatic 79), 105, .ref 1, 7, []),
  (7, (.istore_n 1), 1, .null, 8, []),
  (8, (.iconst 5), 0, .int 5, 9, []),
  (9, (.istore_n 2), 2, .null, 10, []),
  (10, (.iconst 0), 0, .int 0, 11, []),
  (11, (.istore_n 3), 3, .null, 12, []),
  (12, (.iload_n 3), 3, .null, 13, []),
  (13, (.bipush 36), 0, .int 36, 15, []),
  (15, (.if_icmp .ge 46), 61, .null, 18, []),
  (18, (.lconst 1), 0, .long 1, 19, []),
  (19, (.iload_n 3), 3, .null, 20, []),
  (20, (.lshl), 0, .null, 21, []),
  (21, (.aload_n 0), 0, .null, 22, []),
  (22, (.getfield 17), 1, .ref 2, 25, []),
  (25, (.land), 0, .null, 26, []),
  (26, (.invokestatic 41), 107, .ref 1, 29, []),
  (29, (.aload_n 0), 0, .null, 30, []),
  (30, (.getfield 17), 1, .ref 2, 33, []),
  (33, (.land), 0, .null, 34, []),
  (34, (.invokestatic 82), 175, .ref 1, 37, []),
  (37, (.istore 4), 4, .null, 39, []),
  (39, (.iload 4), 4, .null, 41, []),
  (41, (.ifCond .le 14), 55, .null, 44, []),
  (44, (.iload 4), 4, .null, 46, []),
  (46, (.iload_n 2), 2, .null, 47, []),
  (47, (.if_icmp .ge 8), 55, .null, 50, []),
  (50, (.iload 4), 4, .null, 52, []),
  (52, (.istore_n 2), 2, .null, 53, []),
  (53, (.iload_n 3), 3, .null, 54, []),
  (54, (.istore_n 1), 1, .null, 55, []),
  (55, (.iinc 3 1), 3, .int 1, 58, []),
  (58, (.goto (-46)), 12, .null, 61, []),
  (61, (.iload_n 1), 1, .null, 62, []),
  (62, (.ireturn), 0, .null, 63, [])]
def kX3_seed : am_C := [(0, (.aload_n 0), 0, .null, 1, []),
  (1, (.iload_n 1), 1, .null, 2, []),
  (2, (.putfield 7), 0, .ref 3, 5, []),
  (5, (.return_), 0, .null, 6, [])]
def kX3_draw : am_C := [(0, (.aload_n 0), 0, .null, 1, []),
  (1, (.aload_n 0), 0, .null, 2, []),
  (2, (.getfield 7), 0, .ref 3, 5, []),
  (5, (.ldc 13), 0, .int 1664525, 7, []),
  (7, (.imul), 0, .null, 8, []),
  (8, (.ldc 14), 0, .int 1013904223, 10, []),
  (10, (.iadd), 0, .null, 11, []),
  (11, (.putfield 7), 0, .ref 3, 14, []),
  (14, (.iload_n 1), 1, .null, 15, []),
  (15, (.iconst 1), 0, .int 1, 16, []),
  (16, (.if_icmp .ge 7), 23, .null, 19, []),
  (19, (.iconst 0), 0, .int 0, 20, []),
  (20, (.goto 16), 36, .null, 23, []),
  (23, (.aload_n 0), 0, .null, 24, []),
  (24, (.getfield 7), 0, .ref 3, 27, []),
  (27, (.ldc 15), 0, .int 2147483647, 29, []),
  (29, (.iand), 0, .null, 30, []),
  (30, (.sipush 256), 0, .int 256, 33, []),
  (33, (.idiv), 0, .null, 34, []),
  (34, (.iload_n 1), 1, .null, 35, []),
  (35, (.irem), 0, .null, 36, []),
  (36, (.ireturn), 0, .null, 37, [])]
def kX4_isFull : am_C := [(0, (.aload_n 0), 0, .null, 1, []),
  (1, (.getfield 21), 1, .ref 4, 4, []),
  (4, (.aload_n 0), 0, .null, 5, []),
  (5, (.getfield 15), 0, .ref 4, 8, []),
  (8, (.arraylength), 0, .null, 9, []),
  (9, (.if_icmp .lt 7), 16, .null, 12, []),
  (12, (.iconst 1), 0, .int 1, 13, []),
  (13, (.goto 4), 17, .null, 16, []),
  (16, (.iconst 0), 0, .int 0, 17, []),
  (17, (.ireturn), 1, .null, 18, [])]
def kX4_add : am_C := [(0, (.aload_n 0), 0, .null, 1, []),
  (1, (.getfield 21), 1, .ref 4, 4, []),
  (4, (.ifCond .lt 35), 39, .null, 7, []),
  (7, (.aload_n 0), 0, .null, 8, []),
  (8, (.getfield 21), 1, .ref 4, 11, []),
  (11, (.aload_n 0), 0, .null, 12, []),
  (12, (.getfield 15), 0, .ref 4, 15, []),
  (15, (.arraylength), 0, .null, 16, []),
  (16, (.if_icmp .ge 23), 39, .null, 19, []),
  (19, (.aload_n 0), 0, .null, 20, []),
  (20, (.getfield 15), 0, .ref 4, 23, []),
  (23, (.aload_n 0), 0, .null, 24, []),
  (24, (.getfield 21), 1, .ref 4, 27, []),
  (27, (.iload_n 1), 1, .null, 28, []),
  (28, (.iastore), 0, .null, 29, []),
  (29, (.aload_n 0), 0, .null, 30, []),
  (30, (.dup), 0, .null, 31, []),
  (31, (.getfield 21), 1, .ref 4, 34, []),
  (34, (.iconst 1), 0, .int 1, 35, []),
  (35, (.iadd), 0, .null, 36, []),
  (36, (.putfield 21), 1, .ref 4, 39, []),
  (39, (.aload_n 0), 0, .null, 40, []),
  (40, (.getfield 21), 1, .ref 4, 43, []),
  (43, (.ireturn), 0, .null, 44, [])]
def kX4_clear : am_C := [(0, (.aload_n 0), 0, .null, 1, []),
  (1, (.iconst 0), 0, .int 0, 2, []),
  (2, (.putfield 21), 1, .ref 4, 5, []),
  (5, (.return_), 0, .null, 6, [])]
def kX4_at : am_C := [(0, (.iload_n 1), 1, .null, 1, []),
  (1, (.ifCond .lt 29), 30, .null, 4, []),
  (4, (.iload_n 1), 1, .null, 5, []),
  (5, (.aload_n 0), 0, .null, 6, []),
  (6, (.getfield 21), 1, .ref 4, 9, []),
  (9, (.if_icmp .ge 21), 30, .null, 12, []),
  (12, (.iload_n 1), 1, .null, 13, []),
  (13, (.aload_n 0), 0, .null, 14, []),
  (14, (.getfield 15), 0, .ref 4, 17, []),
  (17, (.arraylength), 0, .null, 18, []),
  (18, (.if_icmp .ge 12), 30, .null, 21, []),
  (21, (.aload_n 0), 0, .null, 22, []),
  (22, (.getfield 15), 0, .ref 4, 25, []),
  (25, (.iload_n 1), 1, .null, 26, []),
  (26, (.iaload), 0, .null, 27, []),
  (27, (.goto 5), 32, .null, 30, []),
  (30, (.bipush (-9)), 0, .int (-9), 32, []),
  (32, (.ireturn), 0, .null, 33, [])]
def kX5_tellTo : am_C := [(0, (.aload_n 0), 0, .null, 1, []),
  (1, (.invokevirtual 18), 36, .ref 60, 4, []),
  (4, (.istore_n 2), 2, .null, 5, []),
  (5, (.iload_n 2), 2, .null, 6, []),
  (6, (.ifCond .lt 9), 15, .null, 9, []),
  (9, (.sipush (-1000)), 0, .int (-1000), 12, []),
  (12, (.iload_n 2), 2, .null, 13, []),
  (13, (.isub), 0, .null, 14, []),
  (14, (.ireturn), 0, .null, 15, []),
  (15, (.iconst 0), 0, .int 0, 16, []),
  (16, (.istore_n 3), 3, .null, 17, []),
  (17, (.iconst 0), 0, .int 0, 18, []),
  (18, (.istore 4), 4, .null, 20, []),
  (20, (.iload 4), 4, .null, 22, []),
  (22, (.aload_n 0), 0, .null, 23, []),
  (23, (.getfield 14), 0, .ref 5, 26, []),
  (26, (.getfield 22), 1, .ref 4, 29, []),
  (29, (.if_icmp .ge 54), 83, .null, 32, []),
  (32, (.iload_n 3), 3, .null, 33, []),
  (33, (.bipush 96), 0, .int 96, 35, []),
  (35, (.if_icmp .ge 48), 83, .null, 38, []),
  (38, (.aload_n 0), 0, .null, 39, []),
  (39, (.aload_n 1), 1, .null, 40, []),
  (40, (.iload 4), 4, .null, 42, []),
  (42, (.invokevirtual 26), 39, .ref 62, 45, []),
  (45, (.ifCond .ne 10), 55, .null, 48, []),
  (48, (.sipush (-2000)), 0, .int (-2000), 51, []),
  (51, (.iload 4), 4, .null, 53, []),
  (53, (.isub), 0, .null, 54, []),
  (54, (.ireturn), 0, .null, 55, []),
  (55, (.iinc 3 1), 3, .int 1, 58, []),
  (58, (.iload 4), 4, .null, 60, []),
  (60, (.iconst 1), 0, .int 1, 61, []),
  (61, (.aload_n 0), 0, .null, 62, []),
  (62, (.getfield 14), 0, .ref 5, 65, []),
  (65, (.iload 4), 4, .null, 67, []),
  (67, (.invokevirtual 30), 34, .ref 51, 70, []),
  (70, (.invokestatic 34), 37, .ref 1, 73, []),
  (73, (.invokevirtual 38), 177, .ref 210, 76, []),
  (76, (.iadd), 0, .null, 77, []),
  (77, (.iadd), 0, .null, 78, []),
  (78, (.istore 4), 4, .null, 80, []),
  (80, (.goto (-60)), 20, .null, 83, []),
  (83, (.iload_n 3), 3, .null, 84, []),
  (84, (.ireturn), 0, .null, 85, [])]
def kX5_firstMisfit : am_C := [(0, (.ldc 43), 0, .ref 1000, 2, []),
  (2, (.astore_n 1), 1, .null, 3, []),
  (3, (.iconst 0), 0, .int 0, 4, []),
  (4, (.istore_n 2), 2, .null, 5, []),
  (5, (.iconst 0), 0, .int 0, 6, []),
  (6, (.istore_n 3), 3, .null, 7, []),
  (7, (.iload_n 3), 3, .null, 8, []),
  (8, (.aload_n 0), 0, .null, 9, []),
  (9, (.getfield 14), 0, .ref 5, 12, []),
  (12, (.getfield 22), 1, .ref 4, 15, []),
  (15, (.if_icmp .ge 65), 80, .null, 18, []),
  (18, (.aload_n 0), 0, .null, 19, []),
  (19, (.getfield 14), 0, .ref 5, 22, []),
  (22, (.iload_n 3), 3, .null, 23, []),
  (23, (.invokevirtual 30), 34, .ref 51, 26, []),
  (26, (.istore 4), 4, .null, 28, []),
  (28, (.iload_n 2), 2, .null, 29, []),
  (29, (.aload_n 1), 1, .null, 30, []),
  (30, (.invokevirtual 38), 177, .ref 210, 33, []),
  (33, (.if_icmp .ge 24), 57, .null, 36, []),
  (36, (.iload 4), 4, .null, 38, []),
  (38, (.aload_n 1), 1, .null, 39, []),
  (39, (.iload_n 2), 2, .null, 40, []),
  (40, (.invokevirtual 45), 179, .ref 211, 43, []),
  (43, (.invokestatic 49), 38, .ref 2, 46, []),
  (46, (.ifCond .ne 5), 51, .null, 49, []),
  (49, (.iload_n 3), 3, .null, 50, []),
  (50, (.ireturn), 0, .null, 51, []),
  (51, (.iinc 2 1), 2, .int 1, 54, []),
  (54, (.goto 20), 74, .null, 57, []),
  (57, (.iload 4), 4, .null, 59, []),
  (59, (.invokestatic 34), 37, .ref 1, 62, []),
  (62, (.astore_n 1), 1, .null, 63, []),
  (63, (.iconst 0), 0, .int 0, 64, []),
  (64, (.istore_n 2), 2, .null, 65, []),
  (65, (.aload_n 1), 1, .null, 66, []),
  (66, (.invokevirtual 53), 178, .ref 210, 69, []),
  (69, (.ifCond .eq 5), 74, .null, 72, []),
  (72, (.iload_n 3), 3, .null, 73, []),
  (73, (.ireturn), 0, .null, 74, []),
  (74, (.iinc 3 1), 3, .int 1, 77, []),
  (77, (.goto (-70)), 7, .null, 80, []),
  (80, (.aload_n 0), 0, .null, 81, []),
  (81, (.getfield 14), 0, .ref 5, 84, []),
  (84, (.getfield 22), 1, .ref 4, 87, []),
  (87, (.ifCond .le 15), 102, .null, 90, []),
  (90, (.iload_n 2), 2, .null, 91, []),
  (91, (.aload_n 1), 1, .null, 92, []),
  (92, (.invokevirtual 38), 177, .ref 210, 95, []),
  (95, (.if_icmp .ne 7), 102, .null, 98, []),
  (98, (.iconst (-1)), 0, .int (-1), 99, []),
  (99, (.goto 10), 109, .null, 102, []),
  (102, (.aload_n 0), 0, .null, 103, []),
  (103, (.getfield 14), 0, .ref 5, 106, []),
  (106, (.getfield 22), 1, .ref 4, 109, []),
  (109, (.ireturn), 0, .null, 110, [])]
def kX5_shapeBehind : am_C := [(0, (.iload_n 0), 0, .null, 1, []),
  (1, (.tableswitch 97 104 119 #[85, 97, 97, 79, 97, 97, 97, 97, 88, 97, 97, 94, 97, 97, 82, 91]), 98, .null, 80, [(104, 86), (105, 98), (106, 98), (107, 80), (108, 98), (109, 98), (110, 98), (111, 98), (112, 89), (113, 98), (114, 98), (115, 95), (116, 98), (117, 98), (118, 83), (119, 92)]),
  (80, (.ldc 57), 0, .ref 1001, 82, []),
  (82, (.areturn), 0, .null, 83, []),
  (83, (.ldc 59), 0, .ref 1002, 85, []),
  (85, (.areturn), 0, .null, 86, []),
  (86, (.ldc 61), 0, .ref 1003, 88, []),
  (88, (.areturn), 0, .null, 89, []),
  (89, (.ldc 63), 0, .ref 1004, 91, []),
  (91, (.areturn), 0, .null, 92, []),
  (92, (.ldc 63), 0, .ref 1004, 94, []),
  (94, (.areturn), 0, .null, 95, []),
  (95, (.ldc 65), 0, .ref 1005, 97, []),
  (97, (.areturn), 0, .null, 98, []),
  (98, (.ldc 43), 0, .ref 1000, 100, []),
  (100, (.areturn), 0, .null, 101, [])]
def kX5_fits : am_C := [(0, (.iload_n 1), 1, .null, 1, []),
  (1, (.lookupswitch 85 #[(68, 67), (75, 35), (83, 51)]), 86, .null, 36, [(68, 68), (75, 36), (83, 52)]),
  (36, (.ldc 67), 0, .ref 1006, 38, []),
  (38, (.iload_n 0), 0, .null, 39, []),
  (39, (.i2c), 0, .null, 40, []),
  (40, (.invokevirtual 69), 180, .ref 211, 43, []),
  (43, (.ifCond .lt 7), 50, .null, 46, []),
  (46, (.iconst 1), 0, .int 1, 47, []),
  (47, (.goto 4), 51, .null, 50, []),
  (50, (.iconst 0), 0, .int 0, 51, []),
  (51, (.ireturn), 1, .null, 52, []),
  (52, (.ldc 72), 0, .ref 1007, 54, []),
  (54, (.iload_n 0), 0, .null, 55, []),
  (55, (.i2c), 0, .null, 56, []),
  (56, (.invokevirtual 69), 180, .ref 211, 59, []),
  (59, (.ifCond .lt 7), 66, .null, 62, []),
  (62, (.iconst 1), 0, .int 1, 63, []),
  (63, (.goto 4), 67, .null, 66, []),
  (66, (.iconst 0), 0, .int 0, 67, []),
  (67, (.ireturn), 1, .null, 68, []),
  (68, (.iload_n 0), 0, .null, 69, []),
  (69, (.bipush 48), 0, .int 48, 71, []),
  (71, (.if_icmp .lt 13), 84, .null, 74, []),
  (74, (.iload_n 0), 0, .null, 75, []),
  (75, (.bipush 57), 0, .int 57, 77, []),
  (77, (.if_icmp .gt 7), 84, .null, 80, []),
  (80, (.iconst 1), 0, .int 1, 81, []),
  (81, (.goto 4), 85, .null, 84, []),
  (84, (.iconst 0), 0, .int 0, 85, []),
  (85, (.ireturn), 1, .null, 86, []),
  (86, (.iload_n 0), 0, .null, 87, []),
  (87, (.iload_n 1), 1, .null, 88, []),
  (88, (.if_icmp .ne 7), 95, .null, 91, []),
  (91, (.iconst 1), 0, .int 1, 92, []),
  (92, (.goto 4), 96, .null, 95, []),
  (95, (.iconst 0), 0, .int 0, 96, []),
  (96, (.ireturn), 1, .null, 97, [])]
def kX5_comes : am_C := [(0, (.aload_n 0), 0, .null, 1, []),
  (1, (.getfield 14), 0, .ref 5, 4, []),
  (4, (.iload_n 2), 2, .null, 5, []),
  (5, (.iconst 1), 0, .int 1, 6, []),
  (6, (.iadd), 0, .null, 7, []),
  (7, (.invokevirtual 30), 34, .ref 51, 10, []),
  (10, (.istore_n 3), 3, .null, 11, []),
  (11, (.aload_n 0), 0, .null, 12, []),
  (12, (.getfield 14), 0, .ref 5, 15, []),
  (15, (.iload_n 2), 2, .null, 16, []),
  (16, (.invokevirtual 30), 34, .ref 51, 19, []),
  (19, (.tableswitch 184 104 119 #[129, 184, 184, 77, 184, 184, 184, 184, 141, 184, 184, 165, 184, 184, 103, 153]), 203, .null, 96, [(104, 148), (105, 203), (106, 203), (107, 96), (108, 203), (109, 203), (110, 203), (111, 203), (112, 160), (113, 203), (114, 203), (115, 184), (116, 203), (117, 203), (118, 122), (119, 172)]),
  (96, (.aload_n 1), 1, .null, 97, []),
  (97, (.ldc 67), 0, .ref 1006, 99, []),
  (99, (.iload_n 3), 3, .null, 100, []),
  (100, (.i2c), 0, .null, 101, []),
  (101, (.invokevirtual 69), 180, .ref 211, 104, []),
  (104, (.aload_n 0), 0, .null, 105, []),
  (105, (.iload_n 2), 2, .null, 106, []),
  (106, (.iconst 2), 0, .int 2, 107, []),
  (107, (.iadd), 0, .null, 108, []),
  (108, (.invokevirtual 74), 41, .ref 61, 111, []),
  (111, (.aload_n 0), 0, .null, 112, []),
  (112, (.iload_n 2), 2, .null, 113, []),
  (113, (.iconst 2), 0, .int 2, 114, []),
  (114, (.iadd), 0, .null, 115, []),
  (115, (.invokevirtual 74), 41, .ref 61, 118, []),
  (118, (.invokevirtual 77), 11, .ref 23, 121, []),
  (121, (.ireturn), 1, .null, 122, []),
  (122, (.aload_n 1), 1, .null, 123, []),
  (123, (.ldc 67), 0, .ref 1006, 125, []),
  (125, (.iload_n 3), 3, .null, 126, []),
  (126, (.i2c), 0, .null, 127, []),
  (127, (.invokevirtual 69), 180, .ref 211, 130, []),
  (130, (.aload_n 0), 0, .null, 131, []),
  (131, (.iload_n 2), 2, .null, 132, []),
  (132, (.iconst 2), 0, .int 2, 133, []),
  (133, (.iadd), 0, .null, 134, []),
  (134, (.invokevirtual 74), 41, .ref 61, 137, []),
  (137, (.aload_n 0), 0, .null, 138, []),
  (138, (.iload_n 2), 2, .null, 139, []),
  (139, (.iconst 4), 0, .int 4, 140, []),
  (140, (.iadd), 0, .null, 141, []),
  (141, (.invokevirtual 74), 41, .ref 61, 144, []),
  (144, (.invokevirtual 77), 11, .ref 23, 147, []),
  (147, (.ireturn), 1, .null, 148, []),
  (148, (.aload_n 1), 1, .null, 149, []),
  (149, (.aload_n 0), 0, .null, 150, []),
  (150, (.iload_n 2), 2, .null, 151, []),
  (151, (.iconst 1), 0, .int 1, 152, []),
  (152, (.iadd), 0, .null, 153, []),
  (153, (.invokevirtual 74), 41, .ref 61, 156, []),
  (156, (.invokevirtual 83), 12, .ref 21, 159, []),
  (159, (.ireturn), 1, .null, 160, []),
  (160, (.aload_n 1), 1, .null, 161, []),
  (161, (.aload_n 0), 0, .null, 162, []),
  (162, (.iload_n 2), 2, .null, 163, []),
  (163, (.iconst 1), 0, .int 1, 164, []),
  (164, (.iadd), 0, .null, 165, []),
  (165, (.invokevirtual 87), 40, .ref 61, 168, []),
  (168, (.invokevirtual 90), 13, .ref 21, 171, []),
  (171, (.ireturn), 1, .null, 172, []),
  (172, (.aload_n 1), 1, .null, 173, []),
  (173, (.aload_n 0), 0, .null, 174, []),
  (174, (.iload_n 2), 2, .null, 175, []),
  (175, (.iconst 1), 0, .int 1, 176, []),
  (176, (.iadd), 0, .null, 177, []),
  (177, (.invokevirtual 87), 40, .ref 61, 180, []),
  (180, (.invokevirtual 93), 14, .ref 21, 183, []),
  (183, (.ireturn), 1, .null, 184, []),
  (184, (.aload_n 1), 1, .null, 185, []),
  (185, (.ldc 72), 0, .ref 1007, 187, []),
  (187, (.iload_n 3), 3, .null, 188, []),
  (188, (.i2c), 0, .null, 189, []),
  (189, (.invokevirtual 69), 180, .ref 211, 192, []),
  (192, (.aload_n 0), 0, .null, 193, []),
  (193, (.iload_n 2), 2, .null, 194, []),
  (194, (.iconst 2), 0, .int 2, 195, []),
  (195, (.iadd), 0, .null, 196, []),
  (196, (.invokevirtual 74), 41, .ref 61, 199, []),
  (199, (.invokevirtual 96), 15, .ref 22, 202, []),
  (202, (.ireturn), 1, .null, 203, []),
  (203, (.iconst 0), 0, .int 0, 204, []),
  (204, (.ireturn), 1, .null, 205, [])]
def kX5_digitAt : am_C := [(0, (.aload_n 0), 0, .null, 1, []),
  (1, (.getfield 14), 0, .ref 5, 4, []),
  (4, (.iload_n 1), 1, .null, 5, []),
  (5, (.invokevirtual 30), 34, .ref 51, 8, []),
  (8, (.bipush 48), 0, .int 48, 10, []),
  (10, (.isub), 0, .null, 11, []),
  (11, (.ireturn), 0, .null, 12, [])]
def kX5_pairAt : am_C := [(0, (.bipush 10), 0, .int 10, 2, []),
  (2, (.aload_n 0), 0, .null, 3, []),
  (3, (.iload_n 1), 1, .null, 4, []),
  (4, (.invokevirtual 87), 40, .ref 61, 7, []),
  (7, (.imul), 0, .null, 8, []),
  (8, (.aload_n 0), 0, .null, 9, []),
  (9, (.iload_n 1), 1, .null, 10, []),
  (10, (.iconst 1), 0, .int 1, 11, []),
  (11, (.iadd), 0, .null, 12, []),
  (12, (.invokevirtual 87), 40, .ref 61, 15, []),
  (15, (.iadd), 0, .null, 16, []),
  (16, (.ireturn), 0, .null, 17, [])]
def kX6_spread : am_C := [(0, (.aload_n 1), 1, .null, 1, []),
  (1, (.invokevirtual 15), 7, .ref 20, 4, []),
  (4, (.lload_n 3), 3, .null, 5, []),
  (5, (.ldc2_w 21), 0, .long (-1), 8, []),
  (8, (.lxor), 0, .null, 9, []),
  (9, (.land), 0, .null, 10, []),
  (10, (.lstore 5), 5, .null, 12, []),
  (12, (.aload_n 1), 1, .null, 13, []),
  (13, (.iconst 3), 0, .int 3, 14, []),
  (14, (.invokevirtual 23), 6, .ref 21, 17, []),
  (17, (.lstore 7), 7, .null, 19, []),
  (19, (.aload_n 1), 1, .null, 20, []),
  (20, (.iconst 4), 0, .int 4, 21, []),
  (21, (.invokevirtual 23), 6, .ref 21, 24, []),
  (24, (.lstore 9), 9, .null, 26, []),
  (26, (.lload 5), 5, .null, 28, []),
  (28, (.lload 7), 7, .null, 30, []),
  (30, (.lload 9), 9, .null, 32, []),
  (32, (.lor), 0, .null, 33, []),
  (33, (.aload_n 1), 1, .null, 34, []),
  (34, (.iconst 5), 0, .int 5, 35, []),
  (35, (.invokevirtual 23), 6, .ref 21, 38, []),
  (38, (.lor), 0, .null, 39, []),
  (39, (.ldc2_w 21), 0, .long (-1), 42, []),
  (42, (.lxor), 0, .null, 43, []),
  (43, (.land), 0, .null, 44, []),
  (44, (.lstore 11), 11, .null, 46, []),
  (46, (.aload_n 1), 1, .null, 47, []),
  (47, (.invokevirtual 27), 10, .ref 20, 50, []),
  (50, (.istore 13), 13, .null, 52, []),
  (52, (.iload_n 2), 2, .null, 53, []),
  (53, (.invokestatic 31), 103, .ref 1, 56, []),
  (56, (.lload 5), 5, .null, 58, []),
  (58, (.land), 0, .null, 59, []),
  (59, (.lstore 14), 14, .null, 61, []),
  (61, (.aload_n 0), 0, .null, 62, []),
  (62, (.getfield 11), 0, .ref 6, 65, []),
  (65, (.iconst 0), 0, .int 0, 66, []),
  (66, (.lload 14), 14, .null, 68, []),
  (68, (.lastore), 0, .null, 69, []),
  (69, (.aload_n 0), 0, .null, 70, []),
  (70, (.iconst 1), 0, .int 1, 71, []),
  (71, (.putfield 34), 1, .ref 6, 74, []),
  (74, (.iconst 0), 0, .int 0, 75, []),
  (75, (.istore 16), 16, .null, 77, []),
  (77, (.iconst 1), 0, .int 1, 78, []),
  (78, (.istore 17), 17, .null, 80, []),
  (80, (.iload 17), 17, .null, 82, []),
  (82, (.aload_n 0), 0, .null, 83, []),
  (83, (.getfield 11), 0, .ref 6, 86, []),
  (86, (.arraylength), 0, .null, 87, []),
  (87, (.if_icmp .ge 121), 208, .null, 90, []),
  (90, (.iload 17), 17, .null, 92, []),
  (92, (.iload 16), 16, .null, 94, []),
  (94, (.isub), 0, .null, 95, []),
  (95, (.iconst 4), 0, .int 4, 96, []),
  (96, (.if_icmp .gt 112), 208, .null, 99, []),
  (99, (.aload_n 0), 0, .null, 100, []),
  (100, (.iload 17), 17, .null, 102, []),
  (102, (.iconst 1), 0, .int 1, 103, []),
  (103, (.isub), 0, .null, 104, []),
  (104, (.invokevirtual 38), 43, .ref 71, 107, []),
  (107, (.lload 11), 11, .null, 109, []),
  (109, (.land), 0, .null, 110, []),
  (110, (.lstore 18), 18, .null, 112, []),
  (112, (.lload 18), 18, .null, 114, []),
  (114, (.aload_n 0), 0, .null, 115, []),
  (115, (.iload 17), 17, .null, 117, []),
  (117, (.iconst 2), 0, .int 2, 118, []),
  (118, (.isub), 0, .null, 119, []),
  (119, (.invokevirtual 38), 43, .ref 71, 122, []),
  (122, (.lload 9), 9, .null, 124, []),
  (124, (.land), 0, .null, 125, []),
  (125, (.lor), 0, .null, 126, []),
  (126, (.lstore 18), 18, .null, 128, []),
  (128, (.lload 18), 18, .null, 130, []),
  (130, (.aload_n 0), 0, .null, 131, []),
  (131, (.iload 17), 17, .null, 133, []),
  (133, (.iload 13), 13, .null, 135, []),
  (135, (.isub), 0, .null, 136, []),
  (136, (.invokevirtual 38), 43, .ref 71, 139, []),
  (139, (.lload 7), 7, .null, 141, []),
  (141, (.land), 0, .null, 142, []),
  (142, (.lor), 0, .null, 143, []),
  (143, (.lstore 18), 18, .null, 145, []),
  (145, (.lload 18), 18, .null, 147, []),
  (147, (.invokestatic 41), 107, .ref 1, 150, []),
  (150, (.lload 5), 5, .null, 152, []),
  (152, (.land), 0, .null, 153, []),
  (153, (.lload 14), 14, .null, 155, []),
  (155, (.ldc2_w 21), 0, .long (-1), 158, []),
  (158, (.lxor), 0, .null, 159, []),
  (159, (.land), 0, .null, 160, []),
  (160, (.lstore 20), 20, .null, 162, []),
  (162, (.aload_n 0), 0, .null, 163, []),
  (163, (.getfield 11), 0, .ref 6, 166, []),
  (166, (.iload 17), 17, .null, 168, []),
  (168, (.lload 20), 20, .null, 170, []),
  (170, (.lastore), 0, .null, 171, []),
  (171, (.aload_n 0), 0, .null, 172, []),
  (172, (.iload 17), 17, .null, 174, []),
  (174, (.iconst 1), 0, .int 1, 175, []),
  (175, (.iadd), 0, .null, 176, []),
  (176, (.putfield 34), 1, .ref 6, 179, []),
  (179, (.lload 14), 14, .null, 181, []),
  (181, (.lload 20), 20, .null, 183, []),
  (183, (.lor), 0, .null, 184, []),
  (184, (.lstore 14), 14, .null, 186, []),
  (186, (.lload 20), 20, .null, 188, []),
  (188, (.lconst 0), 0, .long 0, 189, []),
  (189, (.lcmp), 0, .null, 190, []),
  (190, (.ifCond .eq 8), 198, .null, 193, []),
  (193, (.iload 17), 17, .null, 195, []),
  (195, (.goto 5), 200, .null, 198, []),
  (198, (.iload 16), 16, .null, 200, []),
  (200, (.istore 16), 16, .null, 202, []),
  (202, (.iinc 17 1), 17, .int 1, 205, []),
  (205, (.goto (-125)), 80, .null, 208, []),
  (208, (.return_), 0, .null, 209, [])]
def kX6_layer : am_C := [(0, (.iload_n 1), 1, .null, 1, []),
  (1, (.ifCond .lt 29), 30, .null, 4, []),
  (4, (.iload_n 1), 1, .null, 5, []),
  (5, (.aload_n 0), 0, .null, 6, []),
  (6, (.getfield 34), 1, .ref 6, 9, []),
  (9, (.if_icmp .ge 21), 30, .null, 12, []),
  (12, (.iload_n 1), 1, .null, 13, []),
  (13, (.aload_n 0), 0, .null, 14, []),
  (14, (.getfield 11), 0, .ref 6, 17, []),
  (17, (.arraylength), 0, .null, 18, []),
  (18, (.if_icmp .ge 12), 30, .null, 21, []),
  (21, (.aload_n 0), 0, .null, 22, []),
  (22, (.getfield 11), 0, .ref 6, 25, []),
  (25, (.iload_n 1), 1, .null, 26, []),
  (26, (.laload), 0, .null, 27, []),
  (27, (.goto 4), 31, .null, 30, []),
  (30, (.lconst 0), 0, .long 0, 31, []),
  (31, (.lreturn), 0, .null, 32, [])]
def kX6_within : am_C := [(0, (.lconst 0), 0, .long 0, 1, []),
  (1, (.lstore_n 2), 2, .null, 2, []),
  (2, (.iconst 0), 0, .int 0, 3, []),
  (3, (.istore 4), 4, .null, 5, []),
  (5, (.iload 4), 4, .null, 7, []),
  (7, (.iload_n 1), 1, .null, 8, []),
  (8, (.if_icmp .gt 27), 35, .null, 11, []),
  (11, (.iload 4), 4, .null, 13, []),
  (13, (.aload_n 0), 0, .null, 14, []),
  (14, (.getfield 34), 1, .ref 6, 17, []),
  (17, (.if_icmp .ge 18), 35, .null, 20, []),
  (20, (.lload_n 2), 2, .null, 21, []),
  (21, (.aload_n 0), 0, .null, 22, []),
  (22, (.iload 4), 4, .null, 24, []),
  (24, (.invokevirtual 38), 43, .ref 71, 27, []),
  (27, (.lor), 0, .null, 28, []),
  (28, (.lstore_n 2), 2, .null, 29, []),
  (29, (.iinc 4 1), 4, .int 1, 32, []),
  (32, (.goto (-27)), 5, .null, 35, []),
  (35, (.lload_n 2), 2, .null, 36, []),
  (36, (.lreturn), 0, .null, 37, [])]
def kX6_stepsTo : am_C := [(0, (.iconst 0), 0, .int 0, 1, []),
  (1, (.istore_n 3), 3, .null, 2, []),
  (2, (.iload_n 3), 3, .null, 3, []),
  (3, (.aload_n 0), 0, .null, 4, []),
  (4, (.getfield 34), 1, .ref 6, 7, []),
  (7, (.if_icmp .ge 23), 30, .null, 10, []),
  (10, (.aload_n 0), 0, .null, 11, []),
  (11, (.iload_n 3), 3, .null, 12, []),
  (12, (.invokevirtual 38), 43, .ref 71, 15, []),
  (15, (.lload_n 1), 1, .null, 16, []),
  (16, (.land), 0, .null, 17, []),
  (17, (.lconst 0), 0, .long 0, 18, []),
  (18, (.lcmp), 0, .null, 19, []),
  (19, (.ifCond .eq 5), 24, .null, 22, []),
  (22, (.iload_n 3), 3, .null, 23, []),
  (23, (.ireturn), 0, .null, 24, []),
  (24, (.iinc 3 1), 3, .int 1, 27, []),
  (27, (.goto (-25)), 2, .null, 30, []),
  (30, (.bipush (-9)), 0, .int (-9), 32, []),
  (32, (.ireturn), 0, .null, 33, [])]
def kX7_letter : am_C := [(0, (.iload_n 1), 1, .null, 1, []),
  (1, (.ifCond .ge 10), 11, .null, 4, []),
  (4, (.aload_n 0), 0, .null, 5, []),
  (5, (.bipush (-4)), 0, .int (-4), 7, []),
  (7, (.invokevirtual 70), 76, .ref 81, 10, []),
  (10, (.ireturn), 0, .null, 11, []),
  (11, (.iload_n 1), 1, .null, 12, []),
  (12, (.sipush 255), 0, .int 255, 15, []),
  (15, (.if_icmp .gt 16), 31, .null, 18, []),
  (18, (.aload_n 0), 0, .null, 19, []),
  (19, (.getfield 25), 3, .ref 7, 22, []),
  (22, (.getfield 74), 0, .ref 5, 25, []),
  (25, (.invokevirtual 77), 31, .ref 50, 28, []),
  (28, (.ifCond .eq 10), 38, .null, 31, []),
  (31, (.aload_n 0), 0, .null, 32, []),
  (32, (.bipush (-6)), 0, .int (-6), 34, []),
  (34, (.invokevirtual 70), 76, .ref 81, 37, []),
  (37, (.ireturn), 0, .null, 38, []),
  (38, (.aload_n 0), 0, .null, 39, []),
  (39, (.getfield 25), 3, .ref 7, 42, []),
  (42, (.getfield 74), 0, .ref 5, 45, []),
  (45, (.iload_n 1), 1, .null, 46, []),
  (46, (.invokevirtual 81), 32, .ref 51, 49, []),
  (49, (.ireturn), 0, .null, 50, [])]
def kX7_garden : am_C := [(0, (.aload_n 0), 0, .null, 1, []),
  (1, (.getfield 16), 1, .ref 7, 4, []),
  (4, (.aload_n 0), 0, .null, 5, []),
  (5, (.getfield 12), 0, .ref 7, 8, []),
  (8, (.invokevirtual 84), 5, .ref 21, 11, []),
  (11, (.aload_n 0), 0, .null, 12, []),
  (12, (.getfield 25), 3, .ref 7, 15, []),
  (15, (.aload_n 0), 0, .null, 16, []),
  (16, (.getfield 16), 1, .ref 7, 19, []),
  (19, (.invokevirtual 88), 35, .ref 61, 22, []),
  (22, (.istore_n 1), 1, .null, 23, []),
  (23, (.aload_n 0), 0, .null, 24, []),
  (24, (.getfield 25), 3, .ref 7, 27, []),
  (27, (.getfield 74), 0, .ref 5, 30, []),
  (30, (.invokevirtual 92), 33, .ref 50, 33, []),
  (33, (.iload_n 1), 1, .null, 34, []),
  (34, (.ifCond .le 14), 48, .null, 37, []),
  (37, (.aload_n 0), 0, .null, 38, []),
  (38, (.getfield 12), 0, .ref 7, 41, []),
  (41, (.aload_n 0), 0, .null, 42, []),
  (42, (.getfield 16), 1, .ref 7, 45, []),
  (45, (.invokevirtual 84), 5, .ref 21, 48, []),
  (48, (.iload_n 1), 1, .null, 49, []),
  (49, (.ireturn), 0, .null, 50, [])]
def kX7_square : am_C := [(0, (.iload_n 1), 1, .null, 1, []),
  (1, (.invokestatic 95), 102, .ref 1, 4, []),
  (4, (.ifCond .ne 9), 13, .null, 7, []),
  (7, (.aload_n 0), 0, .null, 8, []),
  (8, (.iconst (-1)), 0, .int (-1), 9, []),
  (9, (.invokevirtual 70), 76, .ref 81, 12, []),
  (12, (.ireturn), 0, .null, 13, []),
  (13, (.iload_n 2), 2, .null, 14, []),
  (14, (.tableswitch 59 0 2 #[26, 35, 50]), 73, .null, 40, [(0, 40), (1, 49), (2, 64)]),
  (40, (.aload_n 0), 0, .null, 41, []),
  (41, (.getfield 12), 0, .ref 7, 44, []),
  (44, (.iload_n 1), 1, .null, 45, []),
  (45, (.invokevirtual 99), 8, .ref 21, 48, []),
  (48, (.ireturn), 0, .null, 49, []),
  (49, (.aload_n 0), 0, .null, 50, []),
  (50, (.getfield 12), 0, .ref 7, 53, []),
  (53, (.invokevirtual 102), 7, .ref 20, 56, []),
  (56, (.iload_n 1), 1, .null, 57, []),
  (57, (.invokestatic 106), 104, .ref 2, 60, []),
  (60, (.invokestatic 110), 108, .ref 1, 63, []),
  (63, (.ireturn), 0, .null, 64, []),
  (64, (.aload_n 0), 0, .null, 65, []),
  (65, (.getfield 12), 0, .ref 7, 68, []),
  (68, (.iload_n 1), 1, .null, 69, []),
  (69, (.invokevirtual 114), 9, .ref 21, 72, []),
  (72, (.ireturn), 0, .null, 73, []),
  (73, (.aload_n 0), 0, .null, 74, []),
  (74, (.bipush (-2)), 0, .int (-2), 76, []),
  (76, (.invokevirtual 70), 76, .ref 81, 79, []),
  (79, (.ireturn), 0, .null, 80, [])]
def kX7_turnTo : am_C := [(0, (.iload_n 1), 1, .null, 1, []),
  (1, (.invokestatic 95), 102, .ref 1, 4, []),
  (4, (.ifCond .ne 9), 13, .null, 7, []),
  (7, (.aload_n 0), 0, .null, 8, []),
  (8, (.iconst (-1)), 0, .int (-1), 9, []),
  (9, (.invokevirtual 70), 76, .ref 81, 12, []),
  (12, (.ireturn), 0, .null, 13, []),
  (13, (.iload_n 2), 2, .null, 14, []),
  (14, (.ifCond .lt 9), 23, .null, 17, []),
  (17, (.iload_n 2), 2, .null, 18, []),
  (18, (.bipush 6), 0, .int 6, 20, []),
  (20, (.if_icmp .lt 10), 30, .null, 23, []),
  (23, (.aload_n 0), 0, .null, 24, []),
  (24, (.bipush (-2)), 0, .int (-2), 26, []),
  (26, (.invokevirtual 70), 76, .ref 81, 29, []),
  (29, (.ireturn), 0, .null, 30, []),
  (30, (.aload_n 0), 0, .null, 31, []),
  (31, (.getfield 12), 0, .ref 7, 34, []),
  (34, (.iload_n 1), 1, .null, 35, []),
  (35, (.invokevirtual 99), 8, .ref 21, 38, []),
  (38, (.istore_n 3), 3, .null, 39, []),
  (39, (.aload_n 0), 0, .null, 40, []),
  (40, (.getfield 12), 0, .ref 7, 43, []),
  (43, (.iload_n 2), 2, .null, 44, []),
  (44, (.iload_n 1), 1, .null, 45, []),
  (45, (.iload_n 1), 1, .null, 46, []),
  (46, (.invokevirtual 117), 11, .ref 23, 49, []),
  (49, (.ifCond .eq 7), 56, .null, 52, []),
  (52, (.iload_n 3), 3, .null, 53, []),
  (53, (.goto 9), 62, .null, 56, []),
  (56, (.aload_n 0), 0, .null, 57, []),
  (57, (.bipush (-3)), 0, .int (-3), 59, []),
  (59, (.invokevirtual 70), 76, .ref 81, 62, []),
  (62, (.ireturn), 0, .null, 63, [])]
def kX7_set : am_C := [(0, (.iload_n 1), 1, .null, 1, []),
  (1, (.tableswitch 45 0 2 #[27, 33, 39]), 46, .null, 28, [(0, 28), (1, 34), (2, 40)]),
  (28, (.aload_n 0), 0, .null, 29, []),
  (29, (.iload_n 2), 2, .null, 30, []),
  (30, (.invokevirtual 121), 83, .ref 81, 33, []),
  (33, (.ireturn), 0, .null, 34, []),
  (34, (.aload_n 0), 0, .null, 35, []),
  (35, (.iload_n 2), 2, .null, 36, []),
  (36, (.invokevirtual 124), 84, .ref 81, 39, []),
  (39, (.ireturn), 0, .null, 40, []),
  (40, (.aload_n 0), 0, .null, 41, []),
  (41, (.iload_n 2), 2, .null, 42, []),
  (42, (.invokevirtual 127), 85, .ref 81, 45, []),
  (45, (.ireturn), 0, .null, 46, []),
  (46, (.aload_n 0), 0, .null, 47, []),
  (47, (.bipush (-2)), 0, .int (-2), 49, []),
  (49, (.invokevirtual 70), 76, .ref 81, 52, []),
  (52, (.ireturn), 0, .null, 53, [])]
def kX7_seeker : am_C := [(0, (.aload_n 0), 0, .null, 1, []),
  (1, (.getfield 12), 0, .ref 7, 4, []),
  (4, (.iload_n 1), 1, .null, 5, []),
  (5, (.invokevirtual 130), 16, .ref 21, 8, []),
  (8, (.ifCond .ne 9), 17, .null, 11, []),
  (11, (.aload_n 0), 0, .null, 12, []),
  (12, (.iconst (-1)), 0, .int (-1), 13, []),
  (13, (.invokevirtual 70), 76, .ref 81, 16, []),
  (16, (.ireturn), 0, .null, 17, []),
  (17, (.iload_n 2), 2, .null, 18, []),
  (18, (.lookupswitch 44 #[(0, 26), (1, 35)]), 62, .null, 44, [(0, 44), (1, 53)]),
  (44, (.aload_n 0), 0, .null, 45, []),
  (45, (.getfield 12), 0, .ref 7, 48, []),
  (48, (.iload_n 1), 1, .null, 49, []),
  (49, (.invokevirtual 133), 17, .ref 21, 52, []),
  (52, (.ireturn), 0, .null, 53, []),
  (53, (.aload_n 0), 0, .null, 54, []),
  (54, (.getfield 12), 0, .ref 7, 57, []),
  (57, (.iload_n 1), 1, .null, 58, []),
  (58, (.invokevirtual 136), 18, .ref 21, 61, []),
  (61, (.ireturn), 0, .null, 62, []),
  (62, (.aload_n 0), 0, .null, 63, []),
  (63, (.bipush (-2)), 0, .int (-2), 65, []),
  (65, (.invokevirtual 70), 76, .ref 81, 68, []),
  (68, (.ireturn), 0, .null, 69, [])]
def kX7_stand : am_C := [(0, (.aload_n 0), 0, .null, 1, []),
  (1, (.getfield 12), 0, .ref 7, 4, []),
  (4, (.iload_n 1), 1, .null, 5, []),
  (5, (.invokevirtual 130), 16, .ref 21, 8, []),
  (8, (.ifCond .eq 10), 18, .null, 11, []),
  (11, (.iload_n 2), 2, .null, 12, []),
  (12, (.invokestatic 95), 102, .ref 1, 15, []),
  (15, (.ifCond .ne 9), 24, .null, 18, []),
  (18, (.aload_n 0), 0, .null, 19, []),
  (19, (.iconst (-1)), 0, .int (-1), 20, []),
  (20, (.invokevirtual 70), 76, .ref 81, 23, []),
  (23, (.ireturn), 0, .null, 24, []),
  (24, (.aload_n 0), 0, .null, 25, []),
  (25, (.getfield 12), 0, .ref 7, 28, []),
  (28, (.iload_n 1), 1, .null, 29, []),
  (29, (.invokevirtual 136), 18, .ref 21, 32, []),
  (32, (.istore_n 3), 3, .null, 33, []),
  (33, (.aload_n 0), 0, .null, 34, []),
  (34, (.getfield 12), 0, .ref 7, 37, []),
  (37, (.iload_n 1), 1, .null, 38, []),
  (38, (.iload_n 2), 2, .null, 39, []),
  (39, (.invokevirtual 139), 19, .ref 22, 42, []),
  (42, (.iload_n 3), 3, .null, 43, []),
  (43, (.ireturn), 0, .null, 44, [])]
def kX7_steps : am_C := [(0, (.iload_n 1), 1, .null, 1, []),
  (1, (.invokestatic 95), 102, .ref 1, 4, []),
  (4, (.ifCond .ne 9), 13, .null, 7, []),
  (7, (.aload_n 0), 0, .null, 8, []),
  (8, (.iconst (-1)), 0, .int (-1), 9, []),
  (9, (.invokevirtual 70), 76, .ref 81, 12, []),
  (12, (.ireturn), 0, .null, 13, []),
  (13, (.aload_n 0), 0, .null, 14, []),
  (14, (.getfield 41), 5, .ref 7, 17, []),
  (17, (.aload_n 0), 0, .null, 18, []),
  (18, (.getfield 12), 0, .ref 7, 21, []),
  (21, (.aload_n 0), 0, .null, 22, []),
  (22, (.getfield 12), 0, .ref 7, 25, []),
  (25, (.getfield 143), 4, .ref 1, 28, []),
  (28, (.lconst 0), 0, .long 0, 29, []),
  (29, (.invokevirtual 147), 42, .ref 73, 32, []),
  (32, (.aload_n 0), 0, .null, 33, []),
  (33, (.getfield 41), 5, .ref 7, 36, []),
  (36, (.iload_n 1), 1, .null, 37, []),
  (37, (.invokestatic 151), 103, .ref 1, 40, []),
  (40, (.invokevirtual 155), 45, .ref 71, 43, []),
  (43, (.ireturn), 0, .null, 44, [])]
def kX7_mayBe : am_C := [(0, (.iload_n 1), 1, .null, 1, []),
  (1, (.ifCond .lt 8), 9, .null, 4, []),
  (4, (.iload_n 2), 2, .null, 5, []),
  (5, (.iconst (-1)), 0, .int (-1), 6, []),
  (6, (.if_icmp .ge 10), 16, .null, 9, []),
  (9, (.aload_n 0), 0, .null, 10, []),
  (10, (.bipush (-4)), 0, .int (-4), 12, []),
  (12, (.invokevirtual 70), 76, .ref 81, 15, []),
  (15, (.ireturn), 0, .null, 16, []),
  (16, (.iload_n 1), 1, .null, 17, []),
  (17, (.sipush 999), 0, .int 999, 20, []),
  (20, (.if_icmp .le 10), 30, .null, 23, []),
  (23, (.aload_n 0), 0, .null, 24, []),
  (24, (.bipush (-6)), 0, .int (-6), 26, []),
  (26, (.invokevirtual 70), 76, .ref 81, 29, []),
  (29, (.ireturn), 0, .null, 30, []),
  (30, (.iload_n 2), 2, .null, 31, []),
  (31, (.bipush 36), 0, .int 36, 33, []),
  (33, (.if_icmp .lt 9), 42, .null, 36, []),
  (36, (.aload_n 0), 0, .null, 37, []),
  (37, (.iconst (-1)), 0, .int (-1), 38, []),
  (38, (.invokevirtual 70), 76, .ref 81, 41, []),
  (41, (.ireturn), 0, .null, 42, []),
  (42, (.aload_n 0), 0, .null, 43, []),
  (43, (.iload_n 1), 1, .null, 44, []),
  (44, (.invokevirtual 159), 86, .ref 81, 47, []),
  (47, (.lstore_n 3), 3, .null, 48, []),
  (48, (.iload_n 2), 2, .null, 49, []),
  (49, (.ifCond .ge 10), 59, .null, 52, []),
  (52, (.lload_n 3), 3, .null, 53, []),
  (53, (.invokestatic 162), 175, .ref 1, 56, []),
  (56, (.goto 11), 67, .null, 59, []),
  (59, (.lload_n 3), 3, .null, 60, []),
  (60, (.iload_n 2), 2, .null, 61, []),
  (61, (.invokestatic 106), 104, .ref 2, 64, []),
  (64, (.invokestatic 110), 108, .ref 1, 67, []),
  (67, (.ireturn), 0, .null, 68, [])]
def kX7_out : am_C := [(0, (.iload_n 1), 1, .null, 1, []),
  (1, (.ifCond .eq 15), 16, .null, 4, []),
  (4, (.iload_n 1), 1, .null, 5, []),
  (5, (.iconst 1), 0, .int 1, 6, []),
  (6, (.if_icmp .eq 10), 16, .null, 9, []),
  (9, (.aload_n 0), 0, .null, 10, []),
  (10, (.bipush (-2)), 0, .int (-2), 12, []),
  (12, (.invokevirtual 70), 76, .ref 81, 15, []),
  (15, (.ireturn), 0, .null, 16, []),
  (16, (.aload_n 0), 0, .null, 17, []),
  (17, (.getfield 41), 5, .ref 7, 20, []),
  (20, (.aload_n 0), 0, .null, 21, []),
  (21, (.getfield 12), 0, .ref 7, 24, []),
  (24, (.aload_n 0), 0, .null, 25, []),
  (25, (.getfield 12), 0, .ref 7, 28, []),
  (28, (.getfield 143), 4, .ref 1, 31, []),
  (31, (.lconst 0), 0, .long 0, 32, []),
  (32, (.invokevirtual 147), 42, .ref 73, 35, []),
  (35, (.aload_n 0), 0, .null, 36, []),
  (36, (.getfield 41), 5, .ref 7, 39, []),
  (39, (.aload_n 0), 0, .null, 40, []),
  (40, (.getfield 12), 0, .ref 7, 43, []),
  (43, (.iconst 5), 0, .int 5, 44, []),
  (44, (.invokevirtual 167), 6, .ref 21, 47, []),
  (47, (.invokevirtual 155), 45, .ref 71, 50, []),
  (50, (.istore_n 2), 2, .null, 51, []),
  (51, (.iload_n 2), 2, .null, 52, []),
  (52, (.ifCond .ge 6), 58, .null, 55, []),
  (55, (.bipush (-9)), 0, .int (-9), 57, []),
  (57, (.ireturn), 0, .null, 58, []),
  (58, (.iload_n 1), 1, .null, 59, []),
  (59, (.ifCond .ne 15), 74, .null, 62, []),
  (62, (.iload_n 2), 2, .null, 63, []),
  (63, (.aload_n 0), 0, .null, 64, []),
  (64, (.getfield 12), 0, .ref 7, 67, []),
  (67, (.getfield 170), 5, .ref 1, 70, []),
  (70, (.imul), 0, .null, 71, []),
  (71, (.goto 23), 94, .null, 74, []),
  (74, (.aload_n 0), 0, .null, 75, []),
  (75, (.getfield 41), 5, .ref 7, 78, []),
  (78, (.iload_n 2), 2, .null, 79, []),
  (79, (.invokevirtual 173), 43, .ref 71, 82, []),
  (82, (.aload_n 0), 0, .null, 83, []),
  (83, (.getfield 12), 0, .ref 7, 86, []),
  (86, (.iconst 5), 0, .int 5, 87, []),
  (87, (.invokevirtual 167), 6, .ref 21, 90, []),
  (90, (.land), 0, .null, 91, []),
  (91, (.invokestatic 176), 105, .ref 1, 94, []),
  (94, (.ireturn), 0, .null, 95, [])]
def kX7_shut : am_C := [(0, (.aload_n 0), 0, .null, 1, []),
  (1, (.getfield 12), 0, .ref 7, 4, []),
  (4, (.iconst 2), 0, .int 2, 5, []),
  (5, (.invokevirtual 167), 6, .ref 21, 8, []),
  (8, (.lstore_n 1), 1, .null, 9, []),
  (9, (.iconst 1), 0, .int 1, 10, []),
  (10, (.bipush 10), 0, .int 10, 12, []),
  (12, (.lload_n 1), 1, .null, 13, []),
  (13, (.invokestatic 162), 175, .ref 1, 16, []),
  (16, (.invokestatic 179), 1001, .null, 19, []),
  (19, (.ishl), 0, .null, 20, []),
  (20, (.istore_n 3), 3, .null, 21, []),
  (21, (.bipush (-9)), 0, .int (-9), 23, []),
  (23, (.istore 4), 4, .null, 25, []),
  (25, (.iconst 0), 0, .int 0, 26, []),
  (26, (.istore 5), 5, .null, 28, []),
  (28, (.iload 5), 5, .null, 30, []),
  (30, (.iload_n 3), 3, .null, 31, []),
  (31, (.if_icmp .ge 56), 87, .null, 34, []),
  (34, (.iload 4), 4, .null, 36, []),
  (36, (.ifCond .lt 16), 52, .null, 39, []),
  (39, (.iload 5), 5, .null, 41, []),
  (41, (.invokestatic 185), 176, .ref 1, 44, []),
  (44, (.iload 4), 4, .null, 46, []),
  (46, (.invokestatic 185), 176, .ref 1, 49, []),
  (49, (.if_icmp .ge 7), 56, .null, 52, []),
  (52, (.iconst 1), 0, .int 1, 53, []),
  (53, (.goto 4), 57, .null, 56, []),
  (56, (.iconst 0), 0, .int 0, 57, []),
  (57, (.istore 6), 6, .null, 59, []),
  (59, (.iload 6), 6, .null, 61, []),
  (61, (.ifCond .eq 20), 81, .null, 64, []),
  (64, (.aload_n 0), 0, .null, 65, []),
  (65, (.lload_n 1), 1, .null, 66, []),
  (66, (.iload 5), 5, .null, 68, []),
  (68, (.invokestatic 189), 89, .ref 2, 71, []),
  (71, (.invokevirtual 193), 87, .ref 81, 74, []),
  (74, (.ifCond .ne 7), 81, .null, 77, []),
  (77, (.iload 5), 5, .null, 79, []),
  (79, (.istore 4), 4, .null, 81, []),
  (81, (.iinc 5 1), 5, .int 1, 84, []),
  (84, (.goto (-56)), 28, .null, 87, []),
  (87, (.iload 4), 4, .null, 89, []),
  (89, (.ireturn), 0, .null, 90, [])]
def kX7_firstGap : am_C := [(0, (.aload_n 0), 0, .null, 1, []),
  (1, (.getfield 12), 0, .ref 7, 4, []),
  (4, (.iconst 2), 0, .int 2, 5, []),
  (5, (.invokevirtual 167), 6, .ref 21, 8, []),
  (8, (.lstore_n 1), 1, .null, 9, []),
  (9, (.bipush (-9)), 0, .int (-9), 11, []),
  (11, (.istore_n 3), 3, .null, 12, []),
  (12, (.iconst (-1)), 0, .int (-1), 13, []),
  (13, (.istore 4), 4, .null, 15, []),
  (15, (.iconst 0), 0, .int 0, 16, []),
  (16, (.istore 5), 5, .null, 18, []),
  (18, (.iload 5), 5, .null, 20, []),
  (20, (.bipush 36), 0, .int 36, 22, []),
  (22, (.if_icmp .ge 89), 111, .null, 25, []),
  (25, (.lload_n 1), 1, .null, 26, []),
  (26, (.iload 5), 5, .null, 28, []),
  (28, (.invokestatic 106), 104, .ref 2, 31, []),
  (31, (.ifCond .ne 6), 37, .null, 34, []),
  (34, (.goto 71), 105, .null, 37, []),
  (37, (.aload_n 0), 0, .null, 38, []),
  (38, (.getfield 41), 5, .ref 7, 41, []),
  (41, (.aload_n 0), 0, .null, 42, []),
  (42, (.getfield 12), 0, .ref 7, 45, []),
  (45, (.aload_n 0), 0, .null, 46, []),
  (46, (.getfield 12), 0, .ref 7, 49, []),
  (49, (.getfield 143), 4, .ref 1, 52, []),
  (52, (.iload 5), 5, .null, 54, []),
  (54, (.invokestatic 151), 103, .ref 1, 57, []),
  (57, (.invokevirtual 147), 42, .ref 73, 60, []),
  (60, (.aload_n 0), 0, .null, 61, []),
  (61, (.getfield 41), 5, .ref 7, 64, []),
  (64, (.aload_n 0), 0, .null, 65, []),
  (65, (.getfield 12), 0, .ref 7, 68, []),
  (68, (.iconst 5), 0, .int 5, 69, []),
  (69, (.invokevirtual 167), 6, .ref 21, 72, []),
  (72, (.invokevirtual 155), 45, .ref 71, 75, []),
  (75, (.istore 6), 6, .null, 77, []),
  (77, (.iload 6), 6, .null, 79, []),
  (79, (.ifCond .ge 8), 87, .null, 82, []),
  (82, (.ldc 197), 0, .int 1000000, 84, []),
  (84, (.goto 5), 89, .null, 87, []),
  (87, (.iload 6), 6, .null, 89, []),
  (89, (.istore 7), 7, .null, 91, []),
  (91, (.iload 7), 7, .null, 93, []),
  (93, (.iload 4), 4, .null, 95, []),
  (95, (.if_icmp .le 10), 105, .null, 98, []),
  (98, (.iload 7), 7, .null, 100, []),
  (100, (.istore 4), 4, .null, 102, []),
  (102, (.iload 5), 5, .null, 104, []),
  (104, (.istore_n 3), 3, .null, 105, []),
  (105, (.iinc 5 1), 5, .int 1, 108, []),
  (108, (.goto (-90)), 18, .null, 111, []),
  (111, (.iload_n 3), 3, .null, 112, []),
  (112, (.ireturn), 0, .null, 113, [])]
def kX7_search : am_C := [(0, (.aload_n 0), 0, .null, 1, []),
  (1, (.iload_n 1), 1, .null, 2, []),
  (2, (.iload_n 2), 2, .null, 3, []),
  (3, (.iconst 0), 0, .int 0, 4, []),
  (4, (.invokevirtual 198), 81, .ref 83, 7, []),
  (7, (.istore_n 3), 3, .null, 8, []),
  (8, (.iload_n 3), 3, .null, 9, []),
  (9, (.ifCond .ge 9), 18, .null, 12, []),
  (12, (.aload_n 0), 0, .null, 13, []),
  (13, (.iload_n 3), 3, .null, 14, []),
  (14, (.invokevirtual 70), 76, .ref 81, 17, []),
  (17, (.ireturn), 0, .null, 18, []),
  (18, (.aload_n 0), 0, .null, 19, []),
  (19, (.iload_n 1), 1, .null, 20, []),
  (20, (.aload_n 0), 0, .null, 21, []),
  (21, (.getfield 12), 0, .ref 7, 24, []),
  (24, (.iload_n 1), 1, .null, 25, []),
  (25, (.invokevirtual 133), 17, .ref 21, 28, []),
  (28, (.iload_n 2), 2, .null, 29, []),
  (29, (.invokevirtual 202), 92, .ref 83, 32, []),
  (32, (.ireturn), 0, .null, 33, [])]
def kX7_left : am_C := [(0, (.aload_n 0), 0, .null, 1, []),
  (1, (.iload_n 1), 1, .null, 2, []),
  (2, (.iload_n 2), 2, .null, 3, []),
  (3, (.iload_n 3), 3, .null, 4, []),
  (4, (.invokevirtual 198), 81, .ref 83, 7, []),
  (7, (.istore 4), 4, .null, 9, []),
  (9, (.iload 4), 4, .null, 11, []),
  (11, (.ifCond .ge 10), 21, .null, 14, []),
  (14, (.aload_n 0), 0, .null, 15, []),
  (15, (.iload 4), 4, .null, 17, []),
  (17, (.invokevirtual 70), 76, .ref 81, 20, []),
  (20, (.ireturn), 0, .null, 21, []),
  (21, (.aload_n 0), 0, .null, 22, []),
  (22, (.iload_n 1), 1, .null, 23, []),
  (23, (.iload_n 2), 2, .null, 24, []),
  (24, (.iload_n 3), 3, .null, 25, []),
  (25, (.invokevirtual 205), 93, .ref 83, 28, []),
  (28, (.aload_n 0), 0, .null, 29, []),
  (29, (.getfield 48), 6, .ref 7, 32, []),
  (32, (.getfield 209), 1, .ref 2, 35, []),
  (35, (.invokestatic 162), 175, .ref 1, 38, []),
  (38, (.ireturn), 0, .null, 39, [])]
def kX7_looksAt : am_C := [(0, (.aload_n 0), 0, .null, 1, []),
  (1, (.iload_n 1), 1, .null, 2, []),
  (2, (.iload_n 2), 2, .null, 3, []),
  (3, (.iload_n 3), 3, .null, 4, []),
  (4, (.invokevirtual 198), 81, .ref 83, 7, []),
  (7, (.istore 4), 4, .null, 9, []),
  (9, (.iload 4), 4, .null, 11, []),
  (11, (.ifCond .ge 10), 21, .null, 14, []),
  (14, (.aload_n 0), 0, .null, 15, []),
  (15, (.iload 4), 4, .null, 17, []),
  (17, (.invokevirtual 70), 76, .ref 81, 20, []),
  (20, (.ireturn), 0, .null, 21, []),
  (21, (.aload_n 0), 0, .null, 22, []),
  (22, (.iload_n 1), 1, .null, 23, []),
  (23, (.iload_n 2), 2, .null, 24, []),
  (24, (.iload_n 3), 3, .null, 25, []),
  (25, (.invokevirtual 205), 93, .ref 83, 28, []),
  (28, (.aload_n 0), 0, .null, 29, []),
  (29, (.getfield 48), 6, .ref 7, 32, []),
  (32, (.aload_n 0), 0, .null, 33, []),
  (33, (.getfield 12), 0, .ref 7, 36, []),
  (36, (.iload_n 1), 1, .null, 37, []),
  (37, (.aload_n 0), 0, .null, 38, []),
  (38, (.getfield 12), 0, .ref 7, 41, []),
  (41, (.iload_n 1), 1, .null, 42, []),
  (42, (.invokevirtual 133), 17, .ref 21, 45, []),
  (45, (.invokevirtual 213), 23, .ref 33, 48, []),
  (48, (.ireturn), 0, .null, 49, [])]
def kX7_bestSeeker : am_C := [(0, (.aload_n 0), 0, .null, 1, []),
  (1, (.iload_n 1), 1, .null, 2, []),
  (2, (.iload_n 2), 2, .null, 3, []),
  (3, (.iconst 0), 0, .int 0, 4, []),
  (4, (.invokevirtual 198), 81, .ref 83, 7, []),
  (7, (.istore_n 3), 3, .null, 8, []),
  (8, (.iload_n 3), 3, .null, 9, []),
  (9, (.ifCond .ge 9), 18, .null, 12, []),
  (12, (.aload_n 0), 0, .null, 13, []),
  (13, (.iload_n 3), 3, .null, 14, []),
  (14, (.invokevirtual 70), 76, .ref 81, 17, []),
  (17, (.ireturn), 0, .null, 18, []),
  (18, (.bipush (-9)), 0, .int (-9), 20, []),
  (20, (.istore 4), 4, .null, 22, []),
  (22, (.sipush 201), 0, .int 201, 25, []),
  (25, (.istore 5), 5, .null, 27, []),
  (27, (.iconst 0), 0, .int 0, 28, []),
  (28, (.istore 6), 6, .null, 30, []),
  (30, (.iload 6), 6, .null, 32, []),
  (32, (.iconst 5), 0, .int 5, 33, []),
  (33, (.if_icmp .ge 39), 72, .null, 36, []),
  (36, (.aload_n 0), 0, .null, 37, []),
  (37, (.iload_n 1), 1, .null, 38, []),
  (38, (.iload 6), 6, .null, 40, []),
  (40, (.iload_n 2), 2, .null, 41, []),
  (41, (.invokevirtual 202), 92, .ref 83, 44, []),
  (44, (.istore 7), 7, .null, 46, []),
  (46, (.iload 7), 7, .null, 48, []),
  (48, (.ifCond .lt 18), 66, .null, 51, []),
  (51, (.iload 7), 7, .null, 53, []),
  (53, (.iload 5), 5, .null, 55, []),
  (55, (.if_icmp .ge 11), 66, .null, 58, []),
  (58, (.iload 7), 7, .null, 60, []),
  (60, (.istore 5), 5, .null, 62, []),
  (62, (.iload 6), 6, .null, 64, []),
  (64, (.istore 4), 4, .null, 66, []),
  (66, (.iinc 6 1), 6, .int 1, 69, []),
  (69, (.goto (-39)), 30, .null, 72, []),
  (72, (.iload 4), 4, .null, 74, []),
  (74, (.ireturn), 0, .null, 75, [])]
def kX7_together : am_C := [(0, (.aload_n 0), 0, .null, 1, []),
  (1, (.getfield 12), 0, .ref 7, 4, []),
  (4, (.getfield 217), 3, .ref 1, 7, []),
  (7, (.ifCond .ne 10), 17, .null, 10, []),
  (10, (.aload_n 0), 0, .null, 11, []),
  (11, (.bipush (-3)), 0, .int (-3), 13, []),
  (13, (.invokevirtual 70), 76, .ref 81, 16, []),
  (16, (.ireturn), 0, .null, 17, []),
  (17, (.iload_n 1), 1, .null, 18, []),
  (18, (.invokestatic 220), 79, .ref 1, 21, []),
  (21, (.istore_n 2), 2, .null, 22, []),
  (22, (.iload_n 2), 2, .null, 23, []),
  (23, (.ifCond .ge 11), 34, .null, 26, []),
  (26, (.aload_n 0), 0, .null, 27, []),
  (27, (.iload_n 2), 2, .null, 28, []),
  (28, (.invokevirtual 70), 76, .ref 81, 31, []),
  (31, (.goto 8), 39, .null, 34, []),
  (34, (.aload_n 0), 0, .null, 35, []),
  (35, (.iload_n 1), 1, .null, 36, []),
  (36, (.invokevirtual 223), 94, .ref 81, 39, []),
  (39, (.ireturn), 0, .null, 40, [])]
def kX7_hold : am_C := [(0, (.iload_n 1), 1, .null, 1, []),
  (1, (.ifCond .lt 8), 9, .null, 4, []),
  (4, (.iload_n 1), 1, .null, 5, []),
  (5, (.iconst 2), 0, .int 2, 6, []),
  (6, (.if_icmp .le 10), 16, .null, 9, []),
  (9, (.aload_n 0), 0, .null, 10, []),
  (10, (.bipush (-2)), 0, .int (-2), 12, []),
  (12, (.invokevirtual 70), 76, .ref 81, 15, []),
  (15, (.ireturn), 0, .null, 16, []),
  (16, (.aload_n 0), 0, .null, 17, []),
  (17, (.iconst 1), 0, .int 1, 18, []),
  (18, (.invokevirtual 226), 95, .ref 81, 21, []),
  (21, (.ifCond .ne 10), 31, .null, 24, []),
  (24, (.aload_n 0), 0, .null, 25, []),
  (25, (.bipush (-3)), 0, .int (-3), 27, []),
  (27, (.invokevirtual 70), 76, .ref 81, 30, []),
  (30, (.ireturn), 0, .null, 31, []),
  (31, (.aload_n 0), 0, .null, 32, []),
  (32, (.invokevirtual 229), 96, .ref 80, 35, []),
  (35, (.lstore_n 2), 2, .null, 36, []),
  (36, (.iload_n 1), 1, .null, 37, []),
  (37, (.lookupswitch 64 #[(0, 27), (1, 55)]), 101, .null, 64, [(0, 64), (1, 92)]),
  (64, (.aload_n 0), 0, .null, 65, []),
  (65, (.lload_n 2), 2, .null, 66, []),
  (66, (.invokevirtual 232), 90, .ref 81, 69, []),
  (69, (.aload_n 0), 0, .null, 70, []),
  (70, (.getfield 12), 0, .ref 7, 73, []),
  (73, (.iconst 5), 0, .int 5, 74, []),
  (74, (.invokevirtual 167), 6, .ref 21, 77, []),
  (77, (.land), 0, .null, 78, []),
  (78, (.lconst 0), 0, .long 0, 79, []),
  (79, (.lcmp), 0, .null, 80, []),
  (80, (.ifCond .eq 7), 87, .null, 83, []),
  (83, (.iconst 1), 0, .int 1, 84, []),
  (84, (.goto 4), 88, .null, 87, []),
  (87, (.iconst 0), 0, .int 0, 88, []),
  (88, (.invokestatic 110), 108, .ref 1, 91, []),
  (91, (.ireturn), 0, .null, 92, []),
  (92, (.aload_n 0), 0, .null, 93, []),
  (93, (.lload_n 2), 2, .null, 94, []),
  (94, (.invokevirtual 232), 90, .ref 81, 97, []),
  (97, (.invokestatic 162), 175, .ref 1, 100, []),
  (100, (.ireturn), 0, .null, 101, []),
  (101, (.aload_n 0), 0, .null, 102, []),
  (102, (.lload_n 2), 2, .null, 103, []),
  (103, (.invokevirtual 236), 91, .ref 81, 106, []),
  (106, (.ireturn), 0, .null, 107, [])]
def kX7_ways : am_C := [(0, (.iload_n 1), 1, .null, 1, []),
  (1, (.iload_n 2), 2, .null, 2, []),
  (2, (.invokestatic 239), 82, .ref 2, 5, []),
  (5, (.istore_n 3), 3, .null, 6, []),
  (6, (.iload_n 3), 3, .null, 7, []),
  (7, (.ifCond .ge 9), 16, .null, 10, []),
  (10, (.aload_n 0), 0, .null, 11, []),
  (11, (.iload_n 3), 3, .null, 12, []),
  (12, (.invokevirtual 242), 77, .ref 81, 15, []),
  (15, (.lreturn), 0, .null, 16, []),
  (16, (.aload_n 0), 0, .null, 17, []),
  (17, (.getfield 55), 7, .ref 7, 20, []),
  (20, (.aload_n 0), 0, .null, 21, []),
  (21, (.getfield 12), 0, .ref 7, 24, []),
  (24, (.iload_n 1), 1, .null, 25, []),
  (25, (.invokevirtual 245), 0, .ref 12, 28, []),
  (28, (.aload_n 0), 0, .null, 29, []),
  (29, (.getfield 55), 7, .ref 7, 32, []),
  (32, (.iload_n 2), 2, .null, 33, []),
  (33, (.invokevirtual 249), 2, .ref 11, 36, []),
  (36, (.lreturn), 0, .null, 37, [])]
def kX7_likely : am_C := [(0, (.iload_n 1), 1, .null, 1, []),
  (1, (.iload_n 2), 2, .null, 2, []),
  (2, (.invokestatic 239), 82, .ref 2, 5, []),
  (5, (.istore 4), 4, .null, 7, []),
  (7, (.iload 4), 4, .null, 9, []),
  (9, (.ifCond .ge 10), 19, .null, 12, []),
  (12, (.aload_n 0), 0, .null, 13, []),
  (13, (.iload 4), 4, .null, 15, []),
  (15, (.invokevirtual 242), 77, .ref 81, 18, []),
  (18, (.lreturn), 0, .null, 19, []),
  (19, (.iload_n 3), 3, .null, 20, []),
  (20, (.ifCond .eq 15), 35, .null, 23, []),
  (23, (.iload_n 3), 3, .null, 24, []),
  (24, (.iconst 1), 0, .int 1, 25, []),
  (25, (.if_icmp .eq 10), 35, .null, 28, []),
  (28, (.aload_n 0), 0, .null, 29, []),
  (29, (.bipush (-2)), 0, .int (-2), 31, []),
  (31, (.invokevirtual 242), 77, .ref 81, 34, []),
  (34, (.lreturn), 0, .null, 35, []),
  (35, (.aload_n 0), 0, .null, 36, []),
  (36, (.getfield 55), 7, .ref 7, 39, []),
  (39, (.aload_n 0), 0, .null, 40, []),
  (40, (.getfield 12), 0, .ref 7, 43, []),
  (43, (.iload_n 1), 1, .null, 44, []),
  (44, (.invokevirtual 245), 0, .ref 12, 47, []),
  (47, (.aload_n 0), 0, .null, 48, []),
  (48, (.getfield 55), 7, .ref 7, 51, []),
  (51, (.iload_n 2), 2, .null, 52, []),
  (52, (.invokevirtual 249), 2, .ref 11, 55, []),
  (55, (.lstore 5), 5, .null, 57, []),
  (57, (.aload_n 0), 0, .null, 58, []),
  (58, (.getfield 55), 7, .ref 7, 61, []),
  (61, (.invokevirtual 252), 3, .ref 10, 64, []),
  (64, (.lstore 7), 7, .null, 66, []),
  (66, (.lload 7), 7, .null, 68, []),
  (68, (.lload 5), 5, .null, 70, []),
  (70, (.invokestatic 255), 109, .ref 2, 73, []),
  (73, (.lstore 9), 9, .null, 75, []),
  (75, (.lload 9), 9, .null, 77, []),
  (77, (.lconst 0), 0, .long 0, 78, []),
  (78, (.lcmp), 0, .null, 79, []),
  (79, (.ifCond .ne 7), 86, .null, 82, []),
  (82, (.lconst 0), 0, .long 0, 83, []),
  (83, (.goto 17), 100, .null, 86, []),
  (86, (.iload_n 3), 3, .null, 87, []),
  (87, (.ifCond .ne 8), 95, .null, 90, []),
  (90, (.lload 5), 5, .null, 92, []),
  (92, (.goto 5), 97, .null, 95, []),
  (95, (.lload 7), 7, .null, 97, []),
  (97, (.lload 9), 9, .null, 99, []),
  (99, (.ldiv), 0, .null, 100, []),
  (100, (.lreturn), 0, .null, 101, [])]
def kX7_likeliest : am_C := [(0, (.iload_n 1), 1, .null, 1, []),
  (1, (.iconst 0), 0, .int 0, 2, []),
  (2, (.invokestatic 239), 82, .ref 2, 5, []),
  (5, (.istore_n 2), 2, .null, 6, []),
  (6, (.iload_n 2), 2, .null, 7, []),
  (7, (.ifCond .ge 9), 16, .null, 10, []),
  (10, (.aload_n 0), 0, .null, 11, []),
  (11, (.iload_n 2), 2, .null, 12, []),
  (12, (.invokevirtual 70), 76, .ref 81, 15, []),
  (15, (.ireturn), 0, .null, 16, []),
  (16, (.aload_n 0), 0, .null, 17, []),
  (17, (.getfield 55), 7, .ref 7, 20, []),
  (20, (.aload_n 0), 0, .null, 21, []),
  (21, (.getfield 12), 0, .ref 7, 24, []),
  (24, (.iload_n 1), 1, .null, 25, []),
  (25, (.invokevirtual 245), 0, .ref 12, 28, []),
  (28, (.aload_n 0), 0, .null, 29, []),
  (29, (.getfield 55), 7, .ref 7, 32, []),
  (32, (.invokevirtual 259), 4, .ref 10, 35, []),
  (35, (.ireturn), 0, .null, 36, [])]
def kX7_turning : am_C := [(0, (.iload_n 1), 1, .null, 1, []),
  (1, (.ifCond .lt 8), 9, .null, 4, []),
  (4, (.iload_n 1), 1, .null, 5, []),
  (5, (.iconst 4), 0, .int 4, 6, []),
  (6, (.if_icmp .lt 10), 16, .null, 9, []),
  (9, (.aload_n 0), 0, .null, 10, []),
  (10, (.bipush (-2)), 0, .int (-2), 12, []),
  (12, (.invokevirtual 70), 76, .ref 81, 15, []),
  (15, (.ireturn), 0, .null, 16, []),
  (16, (.iload_n 2), 2, .null, 17, []),
  (17, (.ifCond .ge 10), 27, .null, 20, []),
  (20, (.aload_n 0), 0, .null, 21, []),
  (21, (.bipush (-4)), 0, .int (-4), 23, []),
  (23, (.invokevirtual 70), 76, .ref 81, 26, []),
  (26, (.ireturn), 0, .null, 27, []),
  (27, (.iload_n 2), 2, .null, 28, []),
  (28, (.bipush 99), 0, .int 99, 30, []),
  (30, (.if_icmp .le 10), 40, .null, 33, []),
  (33, (.aload_n 0), 0, .null, 34, []),
  (34, (.bipush (-6)), 0, .int (-6), 36, []),
  (36, (.invokevirtual 70), 76, .ref 81, 39, []),
  (39, (.ireturn), 0, .null, 40, []),
  (40, (.aload_n 0), 0, .null, 41, []),
  (41, (.iload_n 1), 1, .null, 42, []),
  (42, (.iload_n 2), 2, .null, 43, []),
  (43, (.invokevirtual 263), 97, .ref 82, 46, []),
  (46, (.invokestatic 176), 105, .ref 1, 49, []),
  (49, (.ireturn), 0, .null, 50, [])]
def kX7_finds : am_C := [(0, (.iload_n 1), 1, .null, 1, []),
  (1, (.ifCond .lt 8), 9, .null, 4, []),
  (4, (.iload_n 1), 1, .null, 5, []),
  (5, (.iconst 2), 0, .int 2, 6, []),
  (6, (.if_icmp .le 10), 16, .null, 9, []),
  (9, (.aload_n 0), 0, .null, 10, []),
  (10, (.bipush (-2)), 0, .int (-2), 12, []),
  (12, (.invokevirtual 70), 76, .ref 81, 15, []),
  (15, (.ireturn), 0, .null, 16, []),
  (16, (.aload_n 0), 0, .null, 17, []),
  (17, (.getfield 34), 4, .ref 7, 20, []),
  (20, (.getfield 267), 1, .ref 4, 23, []),
  (23, (.iconst 2), 0, .int 2, 24, []),
  (24, (.irem), 0, .null, 25, []),
  (25, (.ifCond .ne 11), 36, .null, 28, []),
  (28, (.aload_n 0), 0, .null, 29, []),
  (29, (.iconst 2), 0, .int 2, 30, []),
  (30, (.invokevirtual 226), 95, .ref 81, 33, []),
  (33, (.ifCond .ne 10), 43, .null, 36, []),
  (36, (.aload_n 0), 0, .null, 37, []),
  (37, (.bipush (-3)), 0, .int (-3), 39, []),
  (39, (.invokevirtual 70), 76, .ref 81, 42, []),
  (42, (.ireturn), 0, .null, 43, []),
  (43, (.iload_n 1), 1, .null, 44, []),
  (44, (.ifCond .ne 15), 59, .null, 47, []),
  (47, (.aload_n 0), 0, .null, 48, []),
  (48, (.aload_n 0), 0, .null, 49, []),
  (49, (.getfield 12), 0, .ref 7, 52, []),
  (52, (.getfield 143), 4, .ref 1, 55, []),
  (55, (.invokevirtual 270), 98, .ref 81, 58, []),
  (58, (.ireturn), 0, .null, 59, []),
  (59, (.aload_n 0), 0, .null, 60, []),
  (60, (.invokevirtual 273), 99, .ref 80, 63, []),
  (63, (.lstore_n 2), 2, .null, 64, []),
  (64, (.iload_n 1), 1, .null, 65, []),
  (65, (.iconst 1), 0, .int 1, 66, []),
  (66, (.if_icmp .ne 10), 76, .null, 69, []),
  (69, (.lload_n 2), 2, .null, 70, []),
  (70, (.invokestatic 162), 175, .ref 1, 73, []),
  (73, (.goto 7), 80, .null, 76, []),
  (76, (.lload_n 2), 2, .null, 77, []),
  (77, (.invokestatic 176), 105, .ref 1, 80, []),
  (80, (.ireturn), 0, .null, 81, [])]
def kX7_row : am_C := [(0, (.iload_n 1), 1, .null, 1, []),
  (1, (.ifCond .ge 10), 11, .null, 4, []),
  (4, (.aload_n 0), 0, .null, 5, []),
  (5, (.bipush (-4)), 0, .int (-4), 7, []),
  (7, (.invokevirtual 70), 76, .ref 81, 10, []),
  (10, (.ireturn), 0, .null, 11, []),
  (11, (.iload_n 1), 1, .null, 12, []),
  (12, (.bipush 99), 0, .int 99, 14, []),
  (14, (.if_icmp .gt 13), 27, .null, 17, []),
  (17, (.aload_n 0), 0, .null, 18, []),
  (18, (.getfield 34), 4, .ref 7, 21, []),
  (21, (.invokevirtual 77), 31, .ref 50, 24, []),
  (24, (.ifCond .eq 10), 34, .null, 27, []),
  (27, (.aload_n 0), 0, .null, 28, []),
  (28, (.bipush (-6)), 0, .int (-6), 30, []),
  (30, (.invokevirtual 70), 76, .ref 81, 33, []),
  (33, (.ireturn), 0, .null, 34, []),
  (34, (.aload_n 0), 0, .null, 35, []),
  (35, (.getfield 34), 4, .ref 7, 38, []),
  (38, (.iload_n 1), 1, .null, 39, []),
  (39, (.invokevirtual 81), 32, .ref 51, 42, []),
  (42, (.ireturn), 0, .null, 43, [])]
def kX7_judge : am_C := [(0, (.iload_n 1), 1, .null, 1, []),
  (1, (.invokestatic 220), 79, .ref 1, 4, []),
  (4, (.istore_n 2), 2, .null, 5, []),
  (5, (.iload_n 2), 2, .null, 6, []),
  (6, (.ifCond .ge 9), 15, .null, 9, []),
  (9, (.aload_n 0), 0, .null, 10, []),
  (10, (.iload_n 2), 2, .null, 11, []),
  (11, (.invokevirtual 70), 76, .ref 81, 14, []),
  (14, (.ireturn), 0, .null, 15, []),
  (15, (.aload_n 0), 0, .null, 16, []),
  (16, (.getfield 48), 6, .ref 7, 19, []),
  (19, (.aload_n 0), 0, .null, 20, []),
  (20, (.getfield 12), 0, .ref 7, 23, []),
  (23, (.aload_n 0), 0, .null, 24, []),
  (24, (.iload_n 1), 1, .null, 25, []),
  (25, (.invokevirtual 159), 86, .ref 81, 28, []),
  (28, (.iload_n 1), 1, .null, 29, []),
  (29, (.invokevirtual 276), 20, .ref 33, 32, []),
  (32, (.iconst 0), 0, .int 0, 33, []),
  (33, (.istore_n 3), 3, .null, 34, []),
  (34, (.iload_n 3), 3, .null, 35, []),
  (35, (.aload_n 0), 0, .null, 36, []),
  (36, (.getfield 34), 4, .ref 7, 39, []),
  (39, (.getfield 267), 1, .ref 4, 42, []),
  (42, (.if_icmp .ge 51), 93, .null, 45, []),
  (45, (.aload_n 0), 0, .null, 46, []),
  (46, (.getfield 48), 6, .ref 7, 49, []),
  (49, (.getfield 209), 1, .ref 2, 52, []),
  (52, (.aload_n 0), 0, .null, 53, []),
  (53, (.getfield 34), 4, .ref 7, 56, []),
  (56, (.iload_n 3), 3, .null, 57, []),
  (57, (.invokevirtual 280), 34, .ref 51, 60, []),
  (60, (.invokestatic 106), 104, .ref 2, 63, []),
  (63, (.ifCond .ne 5), 68, .null, 66, []),
  (66, (.iload_n 3), 3, .null, 67, []),
  (67, (.ireturn), 0, .null, 68, []),
  (68, (.aload_n 0), 0, .null, 69, []),
  (69, (.getfield 48), 6, .ref 7, 72, []),
  (72, (.aload_n 0), 0, .null, 73, []),
  (73, (.getfield 12), 0, .ref 7, 76, []),
  (76, (.aload_n 0), 0, .null, 77, []),
  (77, (.getfield 34), 4, .ref 7, 80, []),
  (80, (.iload_n 3), 3, .null, 81, []),
  (81, (.invokevirtual 280), 34, .ref 51, 84, []),
  (84, (.invokevirtual 283), 21, .ref 32, 87, []),
  (87, (.iinc 3 1), 3, .int 1, 90, []),
  (90, (.goto (-56)), 34, .null, 93, []),
  (93, (.bipush (-9)), 0, .int (-9), 95, []),
  (95, (.ireturn), 0, .null, 96, [])]
def kX7_behind : am_C := [(0, (.iload_n 1), 1, .null, 1, []),
  (1, (.invokestatic 220), 79, .ref 1, 4, []),
  (4, (.istore_n 2), 2, .null, 5, []),
  (5, (.iload_n 2), 2, .null, 6, []),
  (6, (.ifCond .ge 9), 15, .null, 9, []),
  (9, (.aload_n 0), 0, .null, 10, []),
  (10, (.iload_n 2), 2, .null, 11, []),
  (11, (.invokevirtual 70), 76, .ref 81, 14, []),
  (14, (.ireturn), 0, .null, 15, []),
  (15, (.aload_n 0), 0, .null, 16, []),
  (16, (.getfield 48), 6, .ref 7, 19, []),
  (19, (.aload_n 0), 0, .null, 20, []),
  (20, (.getfield 12), 0, .ref 7, 23, []),
  (23, (.aload_n 0), 0, .null, 24, []),
  (24, (.iload_n 1), 1, .null, 25, []),
  (25, (.invokevirtual 159), 86, .ref 81, 28, []),
  (28, (.iload_n 1), 1, .null, 29, []),
  (29, (.invokevirtual 276), 20, .ref 33, 32, []),
  (32, (.iconst 0), 0, .int 0, 33, []),
  (33, (.istore_n 3), 3, .null, 34, []),
  (34, (.iload_n 3), 3, .null, 35, []),
  (35, (.aload_n 0), 0, .null, 36, []),
  (36, (.getfield 34), 4, .ref 7, 39, []),
  (39, (.getfield 267), 1, .ref 4, 42, []),
  (42, (.if_icmp .ge 28), 70, .null, 45, []),
  (45, (.aload_n 0), 0, .null, 46, []),
  (46, (.getfield 48), 6, .ref 7, 49, []),
  (49, (.aload_n 0), 0, .null, 50, []),
  (50, (.getfield 12), 0, .ref 7, 53, []),
  (53, (.aload_n 0), 0, .null, 54, []),
  (54, (.getfield 34), 4, .ref 7, 57, []),
  (57, (.iload_n 3), 3, .null, 58, []),
  (58, (.invokevirtual 280), 34, .ref 51, 61, []),
  (61, (.invokevirtual 283), 21, .ref 32, 64, []),
  (64, (.iinc 3 1), 3, .int 1, 67, []),
  (67, (.goto (-33)), 34, .null, 70, []),
  (70, (.aload_n 0), 0, .null, 71, []),
  (71, (.getfield 34), 4, .ref 7, 74, []),
  (74, (.invokevirtual 92), 33, .ref 50, 77, []),
  (77, (.aload_n 0), 0, .null, 78, []),
  (78, (.getfield 48), 6, .ref 7, 81, []),
  (81, (.getfield 209), 1, .ref 2, 84, []),
  (84, (.invokestatic 162), 175, .ref 1, 87, []),
  (87, (.ireturn), 0, .null, 88, [])]
def kX7_lots : am_C := [(0, (.iload_n 1), 1, .null, 1, []),
  (1, (.iconst 1), 0, .int 1, 2, []),
  (2, (.if_icmp .ge 10), 12, .null, 5, []),
  (5, (.aload_n 0), 0, .null, 6, []),
  (6, (.bipush (-4)), 0, .int (-4), 8, []),
  (8, (.invokevirtual 70), 76, .ref 81, 11, []),
  (11, (.ireturn), 0, .null, 12, []),
  (12, (.iload_n 1), 1, .null, 13, []),
  (13, (.bipush 20), 0, .int 20, 15, []),
  (15, (.if_icmp .le 10), 25, .null, 18, []),
  (18, (.aload_n 0), 0, .null, 19, []),
  (19, (.bipush (-6)), 0, .int (-6), 21, []),
  (21, (.invokevirtual 70), 76, .ref 81, 24, []),
  (24, (.ireturn), 0, .null, 25, []),
  (25, (.aload_n 0), 0, .null, 26, []),
  (26, (.getfield 62), 8, .ref 7, 29, []),
  (29, (.iload_n 2), 2, .null, 30, []),
  (30, (.invokevirtual 286), 29, .ref 41, 33, []),
  (33, (.iconst 0), 0, .int 0, 34, []),
  (34, (.istore_n 3), 3, .null, 35, []),
  (35, (.iconst 0), 0, .int 0, 36, []),
  (36, (.istore 4), 4, .null, 38, []),
  (38, (.iload 4), 4, .null, 40, []),
  (40, (.iload_n 1), 1, .null, 41, []),
  (41, (.if_icmp .ge 30), 71, .null, 44, []),
  (44, (.aload_n 0), 0, .null, 45, []),
  (45, (.invokevirtual 289), 100, .ref 80, 48, []),
  (48, (.aload_n 0), 0, .null, 49, []),
  (49, (.getfield 12), 0, .ref 7, 52, []),
  (52, (.iconst 5), 0, .int 5, 53, []),
  (53, (.invokevirtual 167), 6, .ref 21, 56, []),
  (56, (.land), 0, .null, 57, []),
  (57, (.lconst 0), 0, .long 0, 58, []),
  (58, (.lcmp), 0, .null, 59, []),
  (59, (.ifCond .eq 6), 65, .null, 62, []),
  (62, (.iinc 3 1), 3, .int 1, 65, []),
  (65, (.iinc 4 1), 4, .int 1, 68, []),
  (68, (.goto (-30)), 38, .null, 71, []),
  (71, (.iload_n 3), 3, .null, 72, []),
  (72, (.ireturn), 0, .null, 73, [])]
def kX7_image : am_C := [(0, (.aload_n 0), 0, .null, 1, []),
  (1, (.getfield 19), 2, .ref 7, 4, []),
  (4, (.aload_n 0), 0, .null, 5, []),
  (5, (.getfield 12), 0, .ref 7, 8, []),
  (8, (.invokevirtual 84), 5, .ref 21, 11, []),
  (11, (.aload_n 0), 0, .null, 12, []),
  (12, (.iconst 1), 0, .int 1, 13, []),
  (13, (.putfield 292), 10, .ref 7, 16, []),
  (16, (.aload_n 0), 0, .null, 17, []),
  (17, (.getfield 12), 0, .ref 7, 20, []),
  (20, (.getfield 143), 4, .ref 1, 23, []),
  (23, (.ireturn), 0, .null, 24, [])]
def kX7_on : am_C := [(0, (.aload_n 0), 0, .null, 1, []),
  (1, (.getfield 292), 10, .ref 7, 4, []),
  (4, (.ifCond .ne 10), 14, .null, 7, []),
  (7, (.aload_n 0), 0, .null, 8, []),
  (8, (.bipush (-3)), 0, .int (-3), 10, []),
  (10, (.invokevirtual 70), 76, .ref 81, 13, []),
  (13, (.ireturn), 0, .null, 14, []),
  (14, (.aload_n 0), 0, .null, 15, []),
  (15, (.getfield 12), 0, .ref 7, 18, []),
  (18, (.aload_n 0), 0, .null, 19, []),
  (19, (.getfield 19), 2, .ref 7, 22, []),
  (22, (.invokevirtual 84), 5, .ref 21, 25, []),
  (25, (.aload_n 0), 0, .null, 26, []),
  (26, (.getfield 12), 0, .ref 7, 29, []),
  (29, (.getfield 143), 4, .ref 1, 32, []),
  (32, (.ireturn), 0, .null, 33, [])]
def kX7_count : am_C := [(0, (.iload_n 1), 1, .null, 1, []),
  (1, (.tableswitch 138 0 8 #[51, 59, 67, 75, 83, 95, 107, 119, 127]), 139, .null, 52, [(0, 52), (1, 60), (2, 68), (3, 76), (4, 84), (5, 96), (6, 108), (7, 120), (8, 128)]),
  (52, (.aload_n 0), 0, .null, 53, []),
  (53, (.getfield 12), 0, .ref 7, 56, []),
  (56, (.getfield 143), 4, .ref 1, 59, []),
  (59, (.ireturn), 0, .null, 60, []),
  (60, (.aload_n 0), 0, .null, 61, []),
  (61, (.getfield 12), 0, .ref 7, 64, []),
  (64, (.getfield 170), 5, .ref 1, 67, []),
  (67, (.ireturn), 0, .null, 68, []),
  (68, (.aload_n 0), 0, .null, 69, []),
  (69, (.getfield 12), 0, .ref 7, 72, []),
  (72, (.getfield 296), 6, .ref 1, 75, []),
  (75, (.ireturn), 0, .null, 76, []),
  (76, (.aload_n 0), 0, .null, 77, []),
  (77, (.getfield 12), 0, .ref 7, 80, []),
  (80, (.getfield 217), 3, .ref 1, 83, []),
  (83, (.ireturn), 0, .null, 84, []),
  (84, (.aload_n 0), 0, .null, 85, []),
  (85, (.getfield 12), 0, .ref 7, 88, []),
  (88, (.iconst 1), 0, .int 1, 89, []),
  (89, (.invokevirtual 167), 6, .ref 21, 92, []),
  (92, (.invokestatic 162), 175, .ref 1, 95, []),
  (95, (.ireturn), 0, .null, 96, []),
  (96, (.aload_n 0), 0, .null, 97, []),
  (97, (.getfield 12), 0, .ref 7, 100, []),
  (100, (.iconst 2), 0, .int 2, 101, []),
  (101, (.invokevirtual 167), 6, .ref 21, 104, []),
  (104, (.invokestatic 162), 175, .ref 1, 107, []),
  (107, (.ireturn), 0, .null, 108, []),
  (108, (.aload_n 0), 0, .null, 109, []),
  (109, (.getfield 12), 0, .ref 7, 112, []),
  (112, (.iconst 5), 0, .int 5, 113, []),
  (113, (.invokevirtual 167), 6, .ref 21, 116, []),
  (116, (.invokestatic 162), 175, .ref 1, 119, []),
  (119, (.ireturn), 0, .null, 120, []),
  (120, (.aload_n 0), 0, .null, 121, []),
  (121, (.getfield 34), 4, .ref 7, 124, []),
  (124, (.getfield 267), 1, .ref 4, 127, []),
  (127, (.ireturn), 0, .null, 128, []),
  (128, (.aload_n 0), 0, .null, 129, []),
  (129, (.getfield 25), 3, .ref 7, 132, []),
  (132, (.getfield 74), 0, .ref 5, 135, []),
  (135, (.getfield 267), 1, .ref 4, 138, []),
  (138, (.ireturn), 0, .null, 139, []),
  (139, (.aload_n 0), 0, .null, 140, []),
  (140, (.bipush 10), 0, .int 10, 142, []),
  (142, (.iload_n 1), 1, .null, 143, []),
  (143, (.isub), 0, .null, 144, []),
  (144, (.invokevirtual 299), 78, .ref 81, 147, []),
  (147, (.ireturn), 0, .null, 148, [])]
def kX7_refused : am_C := [(0, (.iload_n 1), 1, .null, 1, []),
  (1, (.ineg), 0, .null, 2, []),
  (2, (.istore_n 2), 2, .null, 3, []),
  (3, (.iload_n 2), 2, .null, 4, []),
  (4, (.ifCond .lt 22), 26, .null, 7, []),
  (7, (.iload_n 2), 2, .null, 8, []),
  (8, (.aload_n 0), 0, .null, 9, []),
  (9, (.getfield 66), 9, .ref 7, 12, []),
  (12, (.arraylength), 0, .null, 13, []),
  (13, (.if_icmp .ge 13), 26, .null, 16, []),
  (16, (.aload_n 0), 0, .null, 17, []),
  (17, (.getfield 66), 9, .ref 7, 20, []),
  (20, (.iload_n 2), 2, .null, 21, []),
  (21, (.dup2), 0, .null, 22, []),
  (22, (.iaload), 0, .null, 23, []),
  (23, (.iconst 1), 0, .int 1, 24, []),
  (24, (.iadd), 0, .null, 25, []),
  (25, (.iastore), 0, .null, 26, []),
  (26, (.iload_n 1), 1, .null, 27, []),
  (27, (.ireturn), 0, .null, 28, [])]
def kX7_refusedLong : am_C := [(0, (.ldc2_w 302), 0, .long 4000000000000000000, 3, []),
  (3, (.aload_n 0), 0, .null, 4, []),
  (4, (.iload_n 1), 1, .null, 5, []),
  (5, (.invokevirtual 70), 76, .ref 81, 8, []),
  (8, (.i2l), 0, .null, 9, []),
  (9, (.lsub), 0, .null, 10, []),
  (10, (.lreturn), 0, .null, 11, [])]
def kX7_refusalsOf : am_C := [(0, (.iload_n 1), 1, .null, 1, []),
  (1, (.iconst (-1)), 0, .int (-1), 2, []),
  (2, (.if_icmp .gt 9), 11, .null, 5, []),
  (5, (.iload_n 1), 1, .null, 6, []),
  (6, (.bipush (-6)), 0, .int (-6), 8, []),
  (8, (.if_icmp .ge 8), 16, .null, 11, []),
  (11, (.bipush (-9)), 0, .int (-9), 13, []),
  (13, (.goto 10), 23, .null, 16, []),
  (16, (.aload_n 0), 0, .null, 17, []),
  (17, (.getfield 66), 9, .ref 7, 20, []),
  (20, (.iload_n 1), 1, .null, 21, []),
  (21, (.ineg), 0, .null, 22, []),
  (22, (.iaload), 0, .null, 23, []),
  (23, (.ireturn), 0, .null, 24, [])]
def kX7_wrongMinute : am_C := [(0, (.iload_n 0), 0, .null, 1, []),
  (1, (.sipush 999), 0, .int 999, 4, []),
  (4, (.invokestatic 304), 80, .ref 2, 7, []),
  (7, (.ireturn), 0, .null, 8, [])]
def kX7_wrongNumber : am_C := [(0, (.iload_n 0), 0, .null, 1, []),
  (1, (.ifCond .ge 6), 7, .null, 4, []),
  (4, (.bipush (-4)), 0, .int (-4), 6, []),
  (6, (.ireturn), 0, .null, 7, []),
  (7, (.iload_n 0), 0, .null, 8, []),
  (8, (.iload_n 1), 1, .null, 9, []),
  (9, (.if_icmp .le 8), 17, .null, 12, []),
  (12, (.bipush (-6)), 0, .int (-6), 14, []),
  (14, (.goto 4), 18, .null, 17, []),
  (17, (.iconst 0), 0, .int 0, 18, []),
  (18, (.ireturn), 0, .null, 19, [])]
def kX7_wrongSearch : am_C := [(0, (.aload_n 0), 0, .null, 1, []),
  (1, (.getfield 12), 0, .ref 7, 4, []),
  (4, (.iload_n 1), 1, .null, 5, []),
  (5, (.invokevirtual 130), 16, .ref 21, 8, []),
  (8, (.ifCond .ne 5), 13, .null, 11, []),
  (11, (.iconst (-1)), 0, .int (-1), 12, []),
  (12, (.ireturn), 0, .null, 13, []),
  (13, (.iload_n 2), 2, .null, 14, []),
  (14, (.ifCond .lt 7), 21, .null, 17, []),
  (17, (.iload_n 3), 3, .null, 18, []),
  (18, (.ifCond .ge 6), 24, .null, 21, []),
  (21, (.bipush (-4)), 0, .int (-4), 23, []),
  (23, (.ireturn), 0, .null, 24, []),
  (24, (.iload_n 2), 2, .null, 25, []),
  (25, (.sipush 999), 0, .int 999, 28, []),
  (28, (.if_icmp .gt 9), 37, .null, 31, []),
  (31, (.iload_n 3), 3, .null, 32, []),
  (32, (.bipush 60), 0, .int 60, 34, []),
  (34, (.if_icmp .le 8), 42, .null, 37, []),
  (37, (.bipush (-6)), 0, .int (-6), 39, []),
  (39, (.goto 4), 43, .null, 42, []),
  (42, (.iconst 0), 0, .int 0, 43, []),
  (43, (.ireturn), 0, .null, 44, [])]
def kX7_wrongWays : am_C := [(0, (.iload_n 0), 0, .null, 1, []),
  (1, (.bipush 20), 0, .int 20, 3, []),
  (3, (.invokestatic 304), 80, .ref 2, 6, []),
  (6, (.istore_n 2), 2, .null, 7, []),
  (7, (.iload_n 2), 2, .null, 8, []),
  (8, (.ifCond .ge 5), 13, .null, 11, []),
  (11, (.iload_n 2), 2, .null, 12, []),
  (12, (.ireturn), 0, .null, 13, []),
  (13, (.iload_n 1), 1, .null, 14, []),
  (14, (.invokestatic 95), 102, .ref 1, 17, []),
  (17, (.ifCond .eq 7), 24, .null, 20, []),
  (20, (.iconst 0), 0, .int 0, 21, []),
  (21, (.goto 4), 25, .null, 24, []),
  (24, (.iconst (-1)), 0, .int (-1), 25, []),
  (25, (.ireturn), 0, .null, 26, [])]
def kX7_setHome : am_C := [(0, (.iload_n 1), 1, .null, 1, []),
  (1, (.invokestatic 95), 102, .ref 1, 4, []),
  (4, (.ifCond .ne 9), 13, .null, 7, []),
  (7, (.aload_n 0), 0, .null, 8, []),
  (8, (.iconst (-1)), 0, .int (-1), 9, []),
  (9, (.invokevirtual 70), 76, .ref 81, 12, []),
  (12, (.ireturn), 0, .null, 13, []),
  (13, (.aload_n 0), 0, .null, 14, []),
  (14, (.getfield 12), 0, .ref 7, 17, []),
  (17, (.getfield 143), 4, .ref 1, 20, []),
  (20, (.istore_n 2), 2, .null, 21, []),
  (21, (.aload_n 0), 0, .null, 22, []),
  (22, (.getfield 12), 0, .ref 7, 25, []),
  (25, (.iload_n 1), 1, .null, 26, []),
  (26, (.invokevirtual 307), 12, .ref 21, 29, []),
  (29, (.ifCond .eq 7), 36, .null, 32, []),
  (32, (.iload_n 2), 2, .null, 33, []),
  (33, (.goto 9), 42, .null, 36, []),
  (36, (.aload_n 0), 0, .null, 37, []),
  (37, (.bipush (-3)), 0, .int (-3), 39, []),
  (39, (.invokevirtual 70), 76, .ref 81, 42, []),
  (42, (.ireturn), 0, .null, 43, [])]
def kX7_setPace : am_C := [(0, (.iload_n 1), 1, .null, 1, []),
  (1, (.iconst 1), 0, .int 1, 2, []),
  (2, (.if_icmp .ge 10), 12, .null, 5, []),
  (5, (.aload_n 0), 0, .null, 6, []),
  (6, (.bipush (-4)), 0, .int (-4), 8, []),
  (8, (.invokevirtual 70), 76, .ref 81, 11, []),
  (11, (.ireturn), 0, .null, 12, []),
  (12, (.aload_n 0), 0, .null, 13, []),
  (13, (.getfield 12), 0, .ref 7, 16, []),
  (16, (.getfield 170), 5, .ref 1, 19, []),
  (19, (.istore_n 2), 2, .null, 20, []),
  (20, (.aload_n 0), 0, .null, 21, []),
  (21, (.getfield 12), 0, .ref 7, 24, []),
  (24, (.iload_n 1), 1, .null, 25, []),
  (25, (.invokevirtual 310), 13, .ref 21, 28, []),
  (28, (.ifCond .eq 7), 35, .null, 31, []),
  (31, (.iload_n 2), 2, .null, 32, []),
  (32, (.goto 9), 41, .null, 35, []),
  (35, (.aload_n 0), 0, .null, 36, []),
  (36, (.bipush (-6)), 0, .int (-6), 38, []),
  (38, (.invokevirtual 70), 76, .ref 81, 41, []),
  (41, (.ireturn), 0, .null, 42, [])]
def kX7_setWarm : am_C := [(0, (.iload_n 1), 1, .null, 1, []),
  (1, (.ifCond .ge 10), 11, .null, 4, []),
  (4, (.aload_n 0), 0, .null, 5, []),
  (5, (.bipush (-4)), 0, .int (-4), 7, []),
  (7, (.invokevirtual 70), 76, .ref 81, 10, []),
  (10, (.ireturn), 0, .null, 11, []),
  (11, (.aload_n 0), 0, .null, 12, []),
  (12, (.getfield 12), 0, .ref 7, 15, []),
  (15, (.getfield 296), 6, .ref 1, 18, []),
  (18, (.istore_n 2), 2, .null, 19, []),
  (19, (.aload_n 0), 0, .null, 20, []),
  (20, (.getfield 12), 0, .ref 7, 23, []),
  (23, (.iload_n 1), 1, .null, 24, []),
  (24, (.invokevirtual 313), 14, .ref 21, 27, []),
  (27, (.ifCond .eq 7), 34, .null, 30, []),
  (30, (.iload_n 2), 2, .null, 31, []),
  (31, (.goto 9), 40, .null, 34, []),
  (34, (.aload_n 0), 0, .null, 35, []),
  (35, (.bipush (-6)), 0, .int (-6), 37, []),
  (37, (.invokevirtual 70), 76, .ref 81, 40, []),
  (40, (.ireturn), 0, .null, 41, [])]
def kX7_reachedBy : am_C := [(0, (.aload_n 0), 0, .null, 1, []),
  (1, (.getfield 41), 5, .ref 7, 4, []),
  (4, (.aload_n 0), 0, .null, 5, []),
  (5, (.getfield 12), 0, .ref 7, 8, []),
  (8, (.aload_n 0), 0, .null, 9, []),
  (9, (.getfield 12), 0, .ref 7, 12, []),
  (12, (.getfield 143), 4, .ref 1, 15, []),
  (15, (.lconst 0), 0, .long 0, 16, []),
  (16, (.invokevirtual 147), 42, .ref 73, 19, []),
  (19, (.aload_n 0), 0, .null, 20, []),
  (20, (.getfield 12), 0, .ref 7, 23, []),
  (23, (.getfield 170), 5, .ref 1, 26, []),
  (26, (.iconst 1), 0, .int 1, 27, []),
  (27, (.if_icmp .ge 7), 34, .null, 30, []),
  (30, (.lconst 0), 0, .long 0, 31, []),
  (31, (.goto 19), 50, .null, 34, []),
  (34, (.aload_n 0), 0, .null, 35, []),
  (35, (.getfield 41), 5, .ref 7, 38, []),
  (38, (.iload_n 1), 1, .null, 39, []),
  (39, (.aload_n 0), 0, .null, 40, []),
  (40, (.getfield 12), 0, .ref 7, 43, []),
  (43, (.getfield 170), 5, .ref 1, 46, []),
  (46, (.idiv), 0, .null, 47, []),
  (47, (.invokevirtual 316), 44, .ref 71, 50, []),
  (50, (.lreturn), 0, .null, 51, [])]
def kX7_getsOut : am_C := [(0, (.aload_n 0), 0, .null, 1, []),
  (1, (.lload_n 1), 1, .null, 2, []),
  (2, (.invokevirtual 319), 88, .ref 81, 5, []),
  (5, (.aload_n 0), 0, .null, 6, []),
  (6, (.getfield 12), 0, .ref 7, 9, []),
  (9, (.iconst 5), 0, .int 5, 10, []),
  (10, (.invokevirtual 167), 6, .ref 21, 13, []),
  (13, (.land), 0, .null, 14, []),
  (14, (.lconst 0), 0, .long 0, 15, []),
  (15, (.lcmp), 0, .null, 16, []),
  (16, (.ifCond .eq 7), 23, .null, 19, []),
  (19, (.iconst 1), 0, .int 1, 20, []),
  (20, (.goto 4), 24, .null, 23, []),
  (23, (.iconst 0), 0, .int 0, 24, []),
  (24, (.ireturn), 1, .null, 25, [])]
def kX7_flooded : am_C := [(0, (.aload_n 0), 0, .null, 1, []),
  (1, (.getfield 12), 0, .ref 7, 4, []),
  (4, (.invokevirtual 102), 7, .ref 20, 7, []),
  (7, (.lload_n 1), 1, .null, 8, []),
  (8, (.ldc2_w 322), 0, .long (-1), 11, []),
  (11, (.lxor), 0, .null, 12, []),
  (12, (.land), 0, .null, 13, []),
  (13, (.lstore_n 3), 3, .null, 14, []),
  (14, (.lload_n 3), 3, .null, 15, []),
  (15, (.aload_n 0), 0, .null, 16, []),
  (16, (.getfield 12), 0, .ref 7, 19, []),
  (19, (.iconst 5), 0, .int 5, 20, []),
  (20, (.invokevirtual 167), 6, .ref 21, 23, []),
  (23, (.ldc2_w 322), 0, .long (-1), 26, []),
  (26, (.lxor), 0, .null, 27, []),
  (27, (.land), 0, .null, 28, []),
  (28, (.lstore 5), 5, .null, 30, []),
  (30, (.aload_n 0), 0, .null, 31, []),
  (31, (.getfield 12), 0, .ref 7, 34, []),
  (34, (.getfield 143), 4, .ref 1, 37, []),
  (37, (.invokestatic 151), 103, .ref 1, 40, []),
  (40, (.lload_n 3), 3, .null, 41, []),
  (41, (.land), 0, .null, 42, []),
  (42, (.lstore 7), 7, .null, 44, []),
  (44, (.lload 7), 7, .null, 46, []),
  (46, (.lstore 9), 9, .null, 48, []),
  (48, (.iconst 0), 0, .int 0, 49, []),
  (49, (.istore 11), 11, .null, 51, []),
  (51, (.iload 11), 11, .null, 53, []),
  (53, (.bipush 36), 0, .int 36, 55, []),
  (55, (.if_icmp .ge 42), 97, .null, 58, []),
  (58, (.lload 9), 9, .null, 60, []),
  (60, (.lconst 0), 0, .long 0, 61, []),
  (61, (.lcmp), 0, .null, 62, []),
  (62, (.ifCond .eq 35), 97, .null, 65, []),
  (65, (.lload 9), 9, .null, 67, []),
  (67, (.lload 5), 5, .null, 69, []),
  (69, (.land), 0, .null, 70, []),
  (70, (.invokestatic 324), 107, .ref 1, 73, []),
  (73, (.lload_n 3), 3, .null, 74, []),
  (74, (.land), 0, .null, 75, []),
  (75, (.lload 7), 7, .null, 77, []),
  (77, (.ldc2_w 322), 0, .long (-1), 80, []),
  (80, (.lxor), 0, .null, 81, []),
  (81, (.land), 0, .null, 82, []),
  (82, (.lstore 9), 9, .null, 84, []),
  (84, (.lload 7), 7, .null, 86, []),
  (86, (.lload 9), 9, .null, 88, []),
  (88, (.lor), 0, .null, 89, []),
  (89, (.lstore 7), 7, .null, 91, []),
  (91, (.iinc 11 1), 11, .int 1, 94, []),
  (94, (.goto (-43)), 51, .null, 97, []),
  (97, (.lload 7), 7, .null, 99, []),
  (99, (.lreturn), 0, .null, 100, [])]
def kX7_gapsOfBits : am_C := [(0, (.lconst 0), 0, .long 0, 1, []),
  (1, (.lstore_n 3), 3, .null, 2, []),
  (2, (.lload_n 0), 0, .null, 3, []),
  (3, (.lstore 5), 5, .null, 5, []),
  (5, (.iconst 0), 0, .int 0, 6, []),
  (6, (.istore 7), 7, .null, 8, []),
  (8, (.iload 7), 7, .null, 10, []),
  (10, (.bipush 10), 0, .int 10, 12, []),
  (12, (.if_icmp .ge 38), 50, .null, 15, []),
  (15, (.lload 5), 5, .null, 17, []),
  (17, (.lload 5), 5, .null, 19, []),
  (19, (.lneg), 0, .null, 20, []),
  (20, (.land), 0, .null, 21, []),
  (21, (.lstore 8), 8, .null, 23, []),
  (23, (.iload_n 2), 2, .null, 24, []),
  (24, (.iload 7), 7, .null, 26, []),
  (26, (.ishr), 0, .null, 27, []),
  (27, (.iconst 1), 0, .int 1, 28, []),
  (28, (.iand), 0, .null, 29, []),
  (29, (.ifCond .eq 8), 37, .null, 32, []),
  (32, (.lload_n 3), 3, .null, 33, []),
  (33, (.lload 8), 8, .null, 35, []),
  (35, (.lor), 0, .null, 36, []),
  (36, (.lstore_n 3), 3, .null, 37, []),
  (37, (.lload 5), 5, .null, 39, []),
  (39, (.lload 8), 8, .null, 41, []),
  (41, (.lxor), 0, .null, 42, []),
  (42, (.lstore 5), 5, .null, 44, []),
  (44, (.iinc 7 1), 7, .int 1, 47, []),
  (47, (.goto (-39)), 8, .null, 50, []),
  (50, (.lload_n 3), 3, .null, 51, []),
  (51, (.lreturn), 0, .null, 52, [])]
def kX7_reachedWhenHeld : am_C := [(0, (.aload_n 0), 0, .null, 1, []),
  (1, (.lload_n 1), 1, .null, 2, []),
  (2, (.aload_n 0), 0, .null, 3, []),
  (3, (.getfield 12), 0, .ref 7, 6, []),
  (6, (.getfield 143), 4, .ref 1, 9, []),
  (9, (.invokestatic 151), 103, .ref 1, 12, []),
  (12, (.ldc2_w 322), 0, .long (-1), 15, []),
  (15, (.lxor), 0, .null, 16, []),
  (16, (.land), 0, .null, 17, []),
  (17, (.invokevirtual 319), 88, .ref 81, 20, []),
  (20, (.lreturn), 0, .null, 21, [])]
def kX7_oneMore : am_C := [(0, (.bipush (-9)), 0, .int (-9), 2, []),
  (2, (.istore_n 3), 3, .null, 3, []),
  (3, (.bipush 37), 0, .int 37, 5, []),
  (5, (.istore 4), 4, .null, 7, []),
  (7, (.iconst 0), 0, .int 0, 8, []),
  (8, (.istore 5), 5, .null, 10, []),
  (10, (.iload 5), 5, .null, 12, []),
  (12, (.bipush 36), 0, .int 36, 14, []),
  (14, (.if_icmp .ge 39), 53, .null, 17, []),
  (17, (.aload_n 0), 0, .null, 18, []),
  (18, (.lload_n 1), 1, .null, 19, []),
  (19, (.iload 5), 5, .null, 21, []),
  (21, (.invokestatic 151), 103, .ref 1, 24, []),
  (24, (.lor), 0, .null, 25, []),
  (25, (.invokevirtual 232), 90, .ref 81, 28, []),
  (28, (.invokestatic 162), 175, .ref 1, 31, []),
  (31, (.istore 6), 6, .null, 33, []),
  (33, (.iload 6), 6, .null, 35, []),
  (35, (.iload 4), 4, .null, 37, []),
  (37, (.if_icmp .ge 10), 47, .null, 40, []),
  (40, (.iload 6), 6, .null, 42, []),
  (42, (.istore 4), 4, .null, 44, []),
  (44, (.iload 5), 5, .null, 46, []),
  (46, (.istore_n 3), 3, .null, 47, []),
  (47, (.iinc 5 1), 5, .int 1, 50, []),
  (50, (.goto (-40)), 10, .null, 53, []),
  (53, (.iload_n 3), 3, .null, 54, []),
  (54, (.ireturn), 0, .null, 55, [])]
def kX7_looksTillEmpty : am_C := [(0, (.aload_n 0), 0, .null, 1, []),
  (1, (.getfield 48), 6, .ref 7, 4, []),
  (4, (.aload_n 0), 0, .null, 5, []),
  (5, (.getfield 12), 0, .ref 7, 8, []),
  (8, (.aload_n 0), 0, .null, 9, []),
  (9, (.iload_n 3), 3, .null, 10, []),
  (10, (.invokevirtual 159), 86, .ref 81, 13, []),
  (13, (.iload_n 3), 3, .null, 14, []),
  (14, (.invokevirtual 276), 20, .ref 33, 17, []),
  (17, (.iconst 0), 0, .int 0, 18, []),
  (18, (.istore 4), 4, .null, 20, []),
  (20, (.iload 4), 4, .null, 22, []),
  (22, (.sipush 200), 0, .int 200, 25, []),
  (25, (.if_icmp .gt 37), 62, .null, 28, []),
  (28, (.aload_n 0), 0, .null, 29, []),
  (29, (.getfield 48), 6, .ref 7, 32, []),
  (32, (.getfield 209), 1, .ref 2, 35, []),
  (35, (.lconst 0), 0, .long 0, 36, []),
  (36, (.lcmp), 0, .null, 37, []),
  (37, (.ifCond .ne 6), 43, .null, 40, []),
  (40, (.iload 4), 4, .null, 42, []),
  (42, (.ireturn), 0, .null, 43, []),
  (43, (.aload_n 0), 0, .null, 44, []),
  (44, (.getfield 48), 6, .ref 7, 47, []),
  (47, (.aload_n 0), 0, .null, 48, []),
  (48, (.getfield 12), 0, .ref 7, 51, []),
  (51, (.iload_n 1), 1, .null, 52, []),
  (52, (.iload_n 2), 2, .null, 53, []),
  (53, (.invokevirtual 327), 22, .ref 33, 56, []),
  (56, (.iinc 4 1), 4, .int 1, 59, []),
  (59, (.goto (-39)), 20, .null, 62, []),
  (62, (.bipush (-9)), 0, .int (-9), 64, []),
  (64, (.ireturn), 0, .null, 65, [])]
def kX7_lookOften : am_C := [(0, (.aload_n 0), 0, .null, 1, []),
  (1, (.getfield 48), 6, .ref 7, 4, []),
  (4, (.aload_n 0), 0, .null, 5, []),
  (5, (.getfield 12), 0, .ref 7, 8, []),
  (8, (.aload_n 0), 0, .null, 9, []),
  (9, (.iload_n 2), 2, .null, 10, []),
  (10, (.invokevirtual 159), 86, .ref 81, 13, []),
  (13, (.iload_n 2), 2, .null, 14, []),
  (14, (.invokevirtual 276), 20, .ref 33, 17, []),
  (17, (.iconst 0), 0, .int 0, 18, []),
  (18, (.istore 4), 4, .null, 20, []),
  (20, (.iload 4), 4, .null, 22, []),
  (22, (.iload_n 3), 3, .null, 23, []),
  (23, (.if_icmp .ge 29), 52, .null, 26, []),
  (26, (.aload_n 0), 0, .null, 27, []),
  (27, (.getfield 48), 6, .ref 7, 30, []),
  (30, (.aload_n 0), 0, .null, 31, []),
  (31, (.getfield 12), 0, .ref 7, 34, []),
  (34, (.iload_n 1), 1, .null, 35, []),
  (35, (.aload_n 0), 0, .null, 36, []),
  (36, (.getfield 12), 0, .ref 7, 39, []),
  (39, (.iload_n 1), 1, .null, 40, []),
  (40, (.invokevirtual 133), 17, .ref 21, 43, []),
  (43, (.invokevirtual 327), 22, .ref 33, 46, []),
  (46, (.iinc 4 1), 4, .int 1, 49, []),
  (49, (.goto (-29)), 20, .null, 52, []),
  (52, (.return_), 0, .null, 53, [])]
def kX7_looksOfAll : am_C := [(0, (.aload_n 0), 0, .null, 1, []),
  (1, (.getfield 48), 6, .ref 7, 4, []),
  (4, (.aload_n 0), 0, .null, 5, []),
  (5, (.getfield 12), 0, .ref 7, 8, []),
  (8, (.aload_n 0), 0, .null, 9, []),
  (9, (.iload_n 1), 1, .null, 10, []),
  (10, (.invokevirtual 159), 86, .ref 81, 13, []),
  (13, (.iload_n 1), 1, .null, 14, []),
  (14, (.invokevirtual 276), 20, .ref 33, 17, []),
  (17, (.iconst 0), 0, .int 0, 18, []),
  (18, (.istore_n 2), 2, .null, 19, []),
  (19, (.iconst 0), 0, .int 0, 20, []),
  (20, (.istore_n 3), 3, .null, 21, []),
  (21, (.iload_n 3), 3, .null, 22, []),
  (22, (.sipush 200), 0, .int 200, 25, []),
  (25, (.if_icmp .gt 64), 89, .null, 28, []),
  (28, (.aload_n 0), 0, .null, 29, []),
  (29, (.getfield 48), 6, .ref 7, 32, []),
  (32, (.getfield 209), 1, .ref 2, 35, []),
  (35, (.lconst 0), 0, .long 0, 36, []),
  (36, (.lcmp), 0, .null, 37, []),
  (37, (.ifCond .ne 5), 42, .null, 40, []),
  (40, (.iload_n 3), 3, .null, 41, []),
  (41, (.ireturn), 0, .null, 42, []),
  (42, (.aload_n 0), 0, .null, 43, []),
  (43, (.getfield 48), 6, .ref 7, 46, []),
  (46, (.aload_n 0), 0, .null, 47, []),
  (47, (.getfield 12), 0, .ref 7, 50, []),
  (50, (.iload_n 2), 2, .null, 51, []),
  (51, (.aload_n 0), 0, .null, 52, []),
  (52, (.getfield 12), 0, .ref 7, 55, []),
  (55, (.iload_n 2), 2, .null, 56, []),
  (56, (.invokevirtual 133), 17, .ref 21, 59, []),
  (59, (.invokevirtual 327), 22, .ref 33, 62, []),
  (62, (.aload_n 0), 0, .null, 63, []),
  (63, (.getfield 12), 0, .ref 7, 66, []),
  (66, (.iload_n 2), 2, .null, 67, []),
  (67, (.iconst 1), 0, .int 1, 68, []),
  (68, (.iadd), 0, .null, 69, []),
  (69, (.invokevirtual 130), 16, .ref 21, 72, []),
  (72, (.ifCond .eq 9), 81, .null, 75, []),
  (75, (.iload_n 2), 2, .null, 76, []),
  (76, (.iconst 1), 0, .int 1, 77, []),
  (77, (.iadd), 0, .null, 78, []),
  (78, (.goto 4), 82, .null, 81, []),
  (81, (.iconst 0), 0, .int 0, 82, []),
  (82, (.istore_n 2), 2, .null, 83, []),
  (83, (.iinc 3 1), 3, .int 1, 86, []),
  (86, (.goto (-65)), 21, .null, 89, []),
  (89, (.bipush (-9)), 0, .int (-9), 91, []),
  (91, (.ireturn), 0, .null, 92, [])]
def kX7_rowTellsSquares : am_C := [(0, (.iconst 0), 0, .int 0, 1, []),
  (1, (.istore_n 2), 2, .null, 2, []),
  (2, (.iload_n 2), 2, .null, 3, []),
  (3, (.aload_n 0), 0, .null, 4, []),
  (4, (.getfield 34), 4, .ref 7, 7, []),
  (7, (.getfield 267), 1, .ref 4, 10, []),
  (10, (.if_icmp .ge 30), 40, .null, 13, []),
  (13, (.aload_n 0), 0, .null, 14, []),
  (14, (.getfield 34), 4, .ref 7, 17, []),
  (17, (.iload_n 2), 2, .null, 18, []),
  (18, (.invokevirtual 280), 34, .ref 51, 21, []),
  (21, (.invokestatic 95), 102, .ref 1, 24, []),
  (24, (.ifCond .ne 5), 29, .null, 27, []),
  (27, (.iconst 0), 0, .int 0, 28, []),
  (28, (.ireturn), 1, .null, 29, []),
  (29, (.iload_n 2), 2, .null, 30, []),
  (30, (.iconst 1), 0, .int 1, 31, []),
  (31, (.iload_n 1), 1, .null, 32, []),
  (32, (.invokestatic 331), 1000, .null, 35, []),
  (35, (.iadd), 0, .null, 36, []),
  (36, (.istore_n 2), 2, .null, 37, []),
  (37, (.goto (-35)), 2, .null, 40, []),
  (40, (.iconst 1), 0, .int 1, 41, []),
  (41, (.ireturn), 1, .null, 42, [])]
def kX7_squaresOfRow : am_C := [(0, (.lconst 0), 0, .long 0, 1, []),
  (1, (.lstore_n 1), 1, .null, 2, []),
  (2, (.iconst 0), 0, .int 0, 3, []),
  (3, (.istore_n 3), 3, .null, 4, []),
  (4, (.iload_n 3), 3, .null, 5, []),
  (5, (.aload_n 0), 0, .null, 6, []),
  (6, (.getfield 34), 4, .ref 7, 9, []),
  (9, (.getfield 267), 1, .ref 4, 12, []),
  (12, (.if_icmp .ge 23), 35, .null, 15, []),
  (15, (.lload_n 1), 1, .null, 16, []),
  (16, (.aload_n 0), 0, .null, 17, []),
  (17, (.getfield 34), 4, .ref 7, 20, []),
  (20, (.iload_n 3), 3, .null, 21, []),
  (21, (.invokevirtual 280), 34, .ref 51, 24, []),
  (24, (.invokestatic 151), 103, .ref 1, 27, []),
  (27, (.lor), 0, .null, 28, []),
  (28, (.lstore_n 1), 1, .null, 29, []),
  (29, (.iinc 3 1), 3, .int 1, 32, []),
  (32, (.goto (-28)), 4, .null, 35, []),
  (35, (.lload_n 1), 1, .null, 36, []),
  (36, (.lreturn), 0, .null, 37, [])]
def kX7_afterTurning : am_C := [(0, (.ldc2_w 334), 0, .long 68719476735, 3, []),
  (3, (.aload_n 0), 0, .null, 4, []),
  (4, (.getfield 12), 0, .ref 7, 7, []),
  (7, (.iconst 5), 0, .int 5, 8, []),
  (8, (.invokevirtual 167), 6, .ref 21, 11, []),
  (11, (.ldc2_w 322), 0, .long (-1), 14, []),
  (14, (.lxor), 0, .null, 15, []),
  (15, (.land), 0, .null, 16, []),
  (16, (.lstore_n 3), 3, .null, 17, []),
  (17, (.aload_n 0), 0, .null, 18, []),
  (18, (.getfield 12), 0, .ref 7, 21, []),
  (21, (.getfield 143), 4, .ref 1, 24, []),
  (24, (.invokestatic 151), 103, .ref 1, 27, []),
  (27, (.lstore 5), 5, .null, 29, []),
  (29, (.iload_n 1), 1, .null, 30, []),
  (30, (.istore 7), 7, .null, 32, []),
  (32, (.iconst 0), 0, .int 0, 33, []),
  (33, (.istore 8), 8, .null, 35, []),
  (35, (.iload 8), 8, .null, 37, []),
  (37, (.iload_n 2), 2, .null, 38, []),
  (38, (.if_icmp .ge 57), 95, .null, 41, []),
  (41, (.lload 5), 5, .null, 43, []),
  (43, (.lload_n 3), 3, .null, 44, []),
  (44, (.land), 0, .null, 45, []),
  (45, (.lconst 0), 0, .long 0, 46, []),
  (46, (.lcmp), 0, .null, 47, []),
  (47, (.ifCond .eq 48), 95, .null, 50, []),
  (50, (.lload 5), 5, .null, 52, []),
  (52, (.iload 7), 7, .null, 54, []),
  (54, (.invokestatic 336), 106, .ref 2, 57, []),
  (57, (.aload_n 0), 0, .null, 58, []),
  (58, (.getfield 12), 0, .ref 7, 61, []),
  (61, (.invokevirtual 102), 7, .ref 20, 64, []),
  (64, (.land), 0, .null, 65, []),
  (65, (.lstore 9), 9, .null, 67, []),
  (67, (.lload 9), 9, .null, 69, []),
  (69, (.lconst 0), 0, .long 0, 70, []),
  (70, (.lcmp), 0, .null, 71, []),
  (71, (.ifCond .eq 10), 81, .null, 74, []),
  (74, (.lload 9), 9, .null, 76, []),
  (76, (.lstore 5), 5, .null, 78, []),
  (78, (.goto 11), 89, .null, 81, []),
  (81, (.iload 7), 7, .null, 83, []),
  (83, (.iconst 1), 0, .int 1, 84, []),
  (84, (.iadd), 0, .null, 85, []),
  (85, (.iconst 4), 0, .int 4, 86, []),
  (86, (.irem), 0, .null, 87, []),
  (87, (.istore 7), 7, .null, 89, []),
  (89, (.iinc 8 1), 8, .int 1, 92, []),
  (92, (.goto (-57)), 35, .null, 95, []),
  (95, (.lload 5), 5, .null, 97, []),
  (97, (.lreturn), 0, .null, 98, [])]
def kX7_firstWrongPair : am_C := [(0, (.iload_n 1), 1, .null, 1, []),
  (1, (.istore_n 2), 2, .null, 2, []),
  (2, (.iconst 0), 0, .int 0, 3, []),
  (3, (.istore_n 3), 3, .null, 4, []),
  (4, (.iconst 0), 0, .int 0, 5, []),
  (5, (.istore 4), 4, .null, 7, []),
  (7, (.iconst 2), 0, .int 2, 8, []),
  (8, (.iload 4), 4, .null, 10, []),
  (10, (.imul), 0, .null, 11, []),
  (11, (.iconst 1), 0, .int 1, 12, []),
  (12, (.iadd), 0, .null, 13, []),
  (13, (.aload_n 0), 0, .null, 14, []),
  (14, (.getfield 34), 4, .ref 7, 17, []),
  (17, (.getfield 267), 1, .ref 4, 20, []),
  (20, (.if_icmp .ge 95), 115, .null, 23, []),
  (23, (.aload_n 0), 0, .null, 24, []),
  (24, (.getfield 34), 4, .ref 7, 27, []),
  (27, (.iconst 2), 0, .int 2, 28, []),
  (28, (.iload 4), 4, .null, 30, []),
  (30, (.imul), 0, .null, 31, []),
  (31, (.invokevirtual 280), 34, .ref 51, 34, []),
  (34, (.istore 5), 5, .null, 36, []),
  (36, (.aload_n 0), 0, .null, 37, []),
  (37, (.getfield 34), 4, .ref 7, 40, []),
  (40, (.iconst 2), 0, .int 2, 41, []),
  (41, (.iload 4), 4, .null, 43, []),
  (43, (.imul), 0, .null, 44, []),
  (44, (.iconst 1), 0, .int 1, 45, []),
  (45, (.iadd), 0, .null, 46, []),
  (46, (.invokevirtual 280), 34, .ref 51, 49, []),
  (49, (.istore 6), 6, .null, 51, []),
  (51, (.aload_n 0), 0, .null, 52, []),
  (52, (.getfield 41), 5, .ref 7, 55, []),
  (55, (.aload_n 0), 0, .null, 56, []),
  (56, (.getfield 12), 0, .ref 7, 59, []),
  (59, (.iload_n 2), 2, .null, 60, []),
  (60, (.lconst 0), 0, .long 0, 61, []),
  (61, (.invokevirtual 147), 42, .ref 73, 64, []),
  (64, (.aload_n 0), 0, .null, 65, []),
  (65, (.getfield 41), 5, .ref 7, 68, []),
  (68, (.iload 5), 5, .null, 70, []),
  (70, (.invokestatic 151), 103, .ref 1, 73, []),
  (73, (.invokevirtual 155), 45, .ref 71, 76, []),
  (76, (.istore 7), 7, .null, 78, []),
  (78, (.iload 7), 7, .null, 80, []),
  (80, (.ifCond .lt 20), 100, .null, 83, []),
  (83, (.iload 7), 7, .null, 85, []),
  (85, (.aload_n 0), 0, .null, 86, []),
  (86, (.getfield 12), 0, .ref 7, 89, []),
  (89, (.getfield 170), 5, .ref 1, 92, []),
  (92, (.imul), 0, .null, 93, []),
  (93, (.iload 6), 6, .null, 95, []),
  (95, (.iload_n 3), 3, .null, 96, []),
  (96, (.isub), 0, .null, 97, []),
  (97, (.if_icmp .le 6), 103, .null, 100, []),
  (100, (.iload 4), 4, .null, 102, []),
  (102, (.ireturn), 0, .null, 103, []),
  (103, (.iload 5), 5, .null, 105, []),
  (105, (.istore_n 2), 2, .null, 106, []),
  (106, (.iload 6), 6, .null, 108, []),
  (108, (.istore_n 3), 3, .null, 109, []),
  (109, (.iinc 4 1), 4, .int 1, 112, []),
  (112, (.goto (-105)), 7, .null, 115, []),
  (115, (.bipush (-9)), 0, .int (-9), 117, []),
  (117, (.ireturn), 0, .null, 118, [])]
def kX7_homesOfTraces : am_C := [(0, (.lconst 0), 0, .long 0, 1, []),
  (1, (.lstore_n 1), 1, .null, 2, []),
  (2, (.iconst 0), 0, .int 0, 3, []),
  (3, (.istore_n 3), 3, .null, 4, []),
  (4, (.iload_n 3), 3, .null, 5, []),
  (5, (.bipush 36), 0, .int 36, 7, []),
  (7, (.if_icmp .ge 38), 45, .null, 10, []),
  (10, (.aload_n 0), 0, .null, 11, []),
  (11, (.getfield 12), 0, .ref 7, 14, []),
  (14, (.invokevirtual 102), 7, .ref 20, 17, []),
  (17, (.iload_n 3), 3, .null, 18, []),
  (18, (.invokestatic 106), 104, .ref 2, 21, []),
  (21, (.ifCond .eq 18), 39, .null, 24, []),
  (24, (.aload_n 0), 0, .null, 25, []),
  (25, (.iload_n 3), 3, .null, 26, []),
  (26, (.invokevirtual 270), 98, .ref 81, 29, []),
  (29, (.ifCond .ge 10), 39, .null, 32, []),
  (32, (.lload_n 1), 1, .null, 33, []),
  (33, (.iload_n 3), 3, .null, 34, []),
  (34, (.invokestatic 151), 103, .ref 1, 37, []),
  (37, (.lor), 0, .null, 38, []),
  (38, (.lstore_n 1), 1, .null, 39, []),
  (39, (.iinc 3 1), 3, .int 1, 42, []),
  (42, (.goto (-38)), 4, .null, 45, []),
  (45, (.lload_n 1), 1, .null, 46, []),
  (46, (.lreturn), 0, .null, 47, [])]
def kX7_afterWalkByLot : am_C := [(0, (.ldc2_w 334), 0, .long 68719476735, 3, []),
  (3, (.aload_n 0), 0, .null, 4, []),
  (4, (.getfield 12), 0, .ref 7, 7, []),
  (7, (.iconst 5), 0, .int 5, 8, []),
  (8, (.invokevirtual 167), 6, .ref 21, 11, []),
  (11, (.ldc2_w 322), 0, .long (-1), 14, []),
  (14, (.lxor), 0, .null, 15, []),
  (15, (.land), 0, .null, 16, []),
  (16, (.lstore_n 1), 1, .null, 17, []),
  (17, (.aload_n 0), 0, .null, 18, []),
  (18, (.getfield 12), 0, .ref 7, 21, []),
  (21, (.getfield 143), 4, .ref 1, 24, []),
  (24, (.invokestatic 151), 103, .ref 1, 27, []),
  (27, (.lstore_n 3), 3, .null, 28, []),
  (28, (.iconst 0), 0, .int 0, 29, []),
  (29, (.istore 5), 5, .null, 31, []),
  (31, (.iload 5), 5, .null, 33, []),
  (33, (.bipush 30), 0, .int 30, 35, []),
  (35, (.if_icmp .ge 46), 81, .null, 38, []),
  (38, (.lload_n 3), 3, .null, 39, []),
  (39, (.lload_n 1), 1, .null, 40, []),
  (40, (.land), 0, .null, 41, []),
  (41, (.aload_n 0), 0, .null, 42, []),
  (42, (.getfield 62), 8, .ref 7, 45, []),
  (45, (.iconst 4), 0, .int 4, 46, []),
  (46, (.invokevirtual 339), 30, .ref 41, 49, []),
  (49, (.invokestatic 342), 101, .ref 1, 52, []),
  (52, (.invokestatic 336), 106, .ref 2, 55, []),
  (55, (.aload_n 0), 0, .null, 56, []),
  (56, (.getfield 12), 0, .ref 7, 59, []),
  (59, (.invokevirtual 102), 7, .ref 20, 62, []),
  (62, (.land), 0, .null, 63, []),
  (63, (.lstore 6), 6, .null, 65, []),
  (65, (.lload 6), 6, .null, 67, []),
  (67, (.lconst 0), 0, .long 0, 68, []),
  (68, (.lcmp), 0, .null, 69, []),
  (69, (.ifCond .eq 6), 75, .null, 72, []),
  (72, (.lload 6), 6, .null, 74, []),
  (74, (.lstore_n 3), 3, .null, 75, []),
  (75, (.iinc 5 1), 5, .int 1, 78, []),
  (78, (.goto (-47)), 31, .null, 81, []),
  (81, (.lload_n 3), 3, .null, 82, []),
  (82, (.lreturn), 0, .null, 83, [])]
def kX7_drawnDirection : am_C := [(0, (.iload_n 0), 0, .null, 1, []),
  (1, (.tableswitch 33 0 2 #[27, 29, 31]), 34, .null, 28, [(0, 28), (1, 30), (2, 32)]),
  (28, (.iconst 0), 0, .int 0, 29, []),
  (29, (.ireturn), 0, .null, 30, []),
  (30, (.iconst 1), 0, .int 1, 31, []),
  (31, (.ireturn), 0, .null, 32, []),
  (32, (.iconst 3), 0, .int 3, 33, []),
  (33, (.ireturn), 0, .null, 34, []),
  (34, (.iconst 2), 0, .int 2, 35, []),
  (35, (.ireturn), 0, .null, 36, [])]
def kX7_isSquare : am_C := [(0, (.iload_n 0), 0, .null, 1, []),
  (1, (.ifCond .lt 13), 14, .null, 4, []),
  (4, (.iload_n 0), 0, .null, 5, []),
  (5, (.bipush 36), 0, .int 36, 7, []),
  (7, (.if_icmp .ge 7), 14, .null, 10, []),
  (10, (.iconst 1), 0, .int 1, 11, []),
  (11, (.goto 4), 15, .null, 14, []),
  (14, (.iconst 0), 0, .int 0, 15, []),
  (15, (.ireturn), 1, .null, 16, [])]
def kX7_bit : am_C := [(0, (.iload_n 0), 0, .null, 1, []),
  (1, (.invokestatic 95), 102, .ref 1, 4, []),
  (4, (.ifCond .eq 9), 13, .null, 7, []),
  (7, (.lconst 1), 0, .long 1, 8, []),
  (8, (.iload_n 0), 0, .null, 9, []),
  (9, (.lshl), 0, .null, 10, []),
  (10, (.goto 4), 14, .null, 13, []),
  (13, (.lconst 0), 0, .long 0, 14, []),
  (14, (.lreturn), 0, .null, 15, [])]
def kX7_has : am_C := [(0, (.lload_n 0), 0, .null, 1, []),
  (1, (.iload_n 2), 2, .null, 2, []),
  (2, (.invokestatic 151), 103, .ref 1, 5, []),
  (5, (.land), 0, .null, 6, []),
  (6, (.lconst 0), 0, .long 0, 7, []),
  (7, (.lcmp), 0, .null, 8, []),
  (8, (.ifCond .eq 7), 15, .null, 11, []),
  (11, (.iconst 1), 0, .int 1, 12, []),
  (12, (.goto 4), 16, .null, 15, []),
  (15, (.iconst 0), 0, .int 0, 16, []),
  (16, (.ireturn), 1, .null, 17, [])]
def kX7_least : am_C := [(0, (.lload_n 0), 0, .null, 1, []),
  (1, (.lconst 0), 0, .long 0, 2, []),
  (2, (.lcmp), 0, .null, 3, []),
  (3, (.ifCond .ne 8), 11, .null, 6, []),
  (6, (.bipush (-9)), 0, .int (-9), 8, []),
  (8, (.goto 12), 20, .null, 11, []),
  (11, (.lload_n 0), 0, .null, 12, []),
  (12, (.lload_n 0), 0, .null, 13, []),
  (13, (.lneg), 0, .null, 14, []),
  (14, (.land), 0, .null, 15, []),
  (15, (.lconst 1), 0, .long 1, 16, []),
  (16, (.lsub), 0, .null, 17, []),
  (17, (.invokestatic 162), 175, .ref 1, 20, []),
  (20, (.ireturn), 0, .null, 21, [])]
def kX7_moved : am_C := [(0, (.iload_n 2), 2, .null, 1, []),
  (1, (.tableswitch 61 0 3 #[31, 36, 44, 53]), 62, .null, 32, [(0, 32), (1, 37), (2, 45), (3, 54)]),
  (32, (.lload_n 0), 0, .null, 33, []),
  (33, (.bipush 6), 0, .int 6, 35, []),
  (35, (.lushr), 0, .null, 36, []),
  (36, (.lreturn), 0, .null, 37, []),
  (37, (.lload_n 0), 0, .null, 38, []),
  (38, (.ldc2_w 345), 0, .long (-1090785346), 41, []),
  (41, (.land), 0, .null, 42, []),
  (42, (.iconst 1), 0, .int 1, 43, []),
  (43, (.lushr), 0, .null, 44, []),
  (44, (.lreturn), 0, .null, 45, []),
  (45, (.lload_n 0), 0, .null, 46, []),
  (46, (.bipush 6), 0, .int 6, 48, []),
  (48, (.lshl), 0, .null, 49, []),
  (49, (.ldc2_w 334), 0, .long 68719476735, 52, []),
  (52, (.land), 0, .null, 53, []),
  (53, (.lreturn), 0, .null, 54, []),
  (54, (.lload_n 0), 0, .null, 55, []),
  (55, (.ldc2_w 347), 0, .long (-34905131041), 58, []),
  (58, (.land), 0, .null, 59, []),
  (59, (.iconst 1), 0, .int 1, 60, []),
  (60, (.lshl), 0, .null, 61, []),
  (61, (.lreturn), 0, .null, 62, []),
  (62, (.lconst 0), 0, .long 0, 63, []),
  (63, (.lreturn), 0, .null, 64, [])]
def kX7_beside : am_C := [(0, (.lload_n 0), 0, .null, 1, []),
  (1, (.iconst 0), 0, .int 0, 2, []),
  (2, (.invokestatic 336), 106, .ref 2, 5, []),
  (5, (.lload_n 0), 0, .null, 6, []),
  (6, (.iconst 1), 0, .int 1, 7, []),
  (7, (.invokestatic 336), 106, .ref 2, 10, []),
  (10, (.lor), 0, .null, 11, []),
  (11, (.lload_n 0), 0, .null, 12, []),
  (12, (.iconst 2), 0, .int 2, 13, []),
  (13, (.invokestatic 336), 106, .ref 2, 16, []),
  (16, (.lor), 0, .null, 17, []),
  (17, (.lload_n 0), 0, .null, 18, []),
  (18, (.iconst 3), 0, .int 3, 19, []),
  (19, (.invokestatic 336), 106, .ref 2, 22, []),
  (22, (.lor), 0, .null, 23, []),
  (23, (.lreturn), 0, .null, 24, [])]
def kX7_yesOrNo : am_C := [(0, (.iload_n 0), 0, .null, 1, []),
  (1, (.ifCond .eq 7), 8, .null, 4, []),
  (4, (.iconst 1), 0, .int 1, 5, []),
  (5, (.goto 4), 9, .null, 8, []),
  (8, (.iconst 0), 0, .int 0, 9, []),
  (9, (.ireturn), 0, .null, 10, [])]
def kX7_greatestDivisor : am_C := [(0, (.lload_n 0), 0, .null, 1, []),
  (1, (.lstore 4), 4, .null, 3, []),
  (3, (.lload_n 2), 2, .null, 4, []),
  (4, (.lstore 6), 6, .null, 6, []),
  (6, (.iconst 0), 0, .int 0, 7, []),
  (7, (.istore 8), 8, .null, 9, []),
  (9, (.iload 8), 8, .null, 11, []),
  (11, (.sipush 1000), 0, .int 1000, 14, []),
  (14, (.if_icmp .ge 31), 45, .null, 17, []),
  (17, (.lload 6), 6, .null, 19, []),
  (19, (.lconst 0), 0, .long 0, 20, []),
  (20, (.lcmp), 0, .null, 21, []),
  (21, (.ifCond .eq 24), 45, .null, 24, []),
  (24, (.lload 4), 4, .null, 26, []),
  (26, (.lload 6), 6, .null, 28, []),
  (28, (.lrem), 0, .null, 29, []),
  (29, (.lstore 9), 9, .null, 31, []),
  (31, (.lload 6), 6, .null, 33, []),
  (33, (.lstore 4), 4, .null, 35, []),
  (35, (.lload 9), 9, .null, 37, []),
  (37, (.lstore 6), 6, .null, 39, []),
  (39, (.iinc 8 1), 8, .int 1, 42, []),
  (42, (.goto (-33)), 9, .null, 45, []),
  (45, (.lload 4), 4, .null, 47, []),
  (47, (.lreturn), 0, .null, 48, [])]
def kX8_no : am_C := [(0, (.aload_n 0), 0, .null, 1, []),
  (1, (.getfield 1), 0, .ref 8, 4, []),
  (4, (.iload_n 1), 1, .null, 5, []),
  (5, (.ineg), 0, .null, 6, []),
  (6, (.dup2), 0, .null, 7, []),
  (7, (.iaload), 0, .null, 8, []),
  (8, (.iconst 1), 0, .int 1, 9, []),
  (9, (.iadd), 0, .null, 10, []),
  (10, (.iastore), 0, .null, 11, []),
  (11, (.iload_n 1), 1, .null, 12, []),
  (12, (.ireturn), 0, .null, 13, [])]
def kX8_noLong : am_C := [(0, (.ldc2_w 7), 0, .long 4000000000000000000, 3, []),
  (3, (.aload_n 0), 0, .null, 4, []),
  (4, (.iload_n 1), 1, .null, 5, []),
  (5, (.invokevirtual 9), 110, .ref 91, 8, []),
  (8, (.i2l), 0, .null, 9, []),
  (9, (.lsub), 0, .null, 10, []),
  (10, (.lreturn), 0, .null, 11, [])]
def kX8_move : am_C := [(0, (.iconst 0), 0, .int 0, 1, []),
  (1, (.istore_n 2), 2, .null, 2, []),
  (2, (.iload_n 2), 2, .null, 3, []),
  (3, (.bipush 56), 0, .int 56, 5, []),
  (5, (.if_icmp .ge 15), 20, .null, 8, []),
  (8, (.aload_n 1), 1, .null, 9, []),
  (9, (.iload_n 2), 2, .null, 10, []),
  (10, (.aload_n 0), 0, .null, 11, []),
  (11, (.iload_n 2), 2, .null, 12, []),
  (12, (.iaload), 0, .null, 13, []),
  (13, (.iastore), 0, .null, 14, []),
  (14, (.iinc 2 1), 2, .int 1, 17, []),
  (17, (.goto (-15)), 2, .null, 20, []),
  (20, (.return_), 0, .null, 21, [])]
def kX8_image : am_C := [(0, (.aload_n 0), 0, .null, 1, []),
  (1, (.iconst 1), 0, .int 1, 2, []),
  (2, (.putfield 70), 3, .ref 8, 5, []),
  (5, (.aload_n 0), 0, .null, 6, []),
  (6, (.getfield 19), 1, .ref 8, 9, []),
  (9, (.aload_n 0), 0, .null, 10, []),
  (10, (.getfield 22), 2, .ref 8, 13, []),
  (13, (.invokestatic 74), 112, .ref 2, 16, []),
  (16, (.aload_n 0), 0, .null, 17, []),
  (17, (.getfield 19), 1, .ref 8, 20, []),
  (20, (.iconst 0), 0, .int 0, 21, []),
  (21, (.iaload), 0, .null, 22, []),
  (22, (.ireturn), 0, .null, 23, [])]
def kX8_on : am_C := [(0, (.aload_n 0), 0, .null, 1, []),
  (1, (.getfield 70), 3, .ref 8, 4, []),
  (4, (.ifCond .ne 10), 14, .null, 7, []),
  (7, (.aload_n 0), 0, .null, 8, []),
  (8, (.bipush (-3)), 0, .int (-3), 10, []),
  (10, (.invokevirtual 9), 110, .ref 91, 13, []),
  (13, (.ireturn), 0, .null, 14, []),
  (14, (.aload_n 0), 0, .null, 15, []),
  (15, (.getfield 22), 2, .ref 8, 18, []),
  (18, (.aload_n 0), 0, .null, 19, []),
  (19, (.getfield 19), 1, .ref 8, 22, []),
  (22, (.invokestatic 74), 112, .ref 2, 25, []),
  (25, (.aload_n 0), 0, .null, 26, []),
  (26, (.getfield 19), 1, .ref 8, 29, []),
  (29, (.iconst 0), 0, .int 0, 30, []),
  (30, (.iaload), 0, .null, 31, []),
  (31, (.ireturn), 0, .null, 32, [])]
def kX8_isNoSquare : am_C := [(0, (.iload_n 0), 0, .null, 1, []),
  (1, (.ifCond .lt 9), 10, .null, 4, []),
  (4, (.iload_n 0), 0, .null, 5, []),
  (5, (.bipush 36), 0, .int 36, 7, []),
  (7, (.if_icmp .lt 7), 14, .null, 10, []),
  (10, (.iconst 1), 0, .int 1, 11, []),
  (11, (.goto 4), 15, .null, 14, []),
  (14, (.iconst 0), 0, .int 0, 15, []),
  (15, (.ireturn), 1, .null, 16, [])]
def kX8_kindOf : am_C := [(0, (.aload_n 0), 0, .null, 1, []),
  (1, (.getfield 19), 1, .ref 8, 4, []),
  (4, (.bipush 20), 0, .int 20, 6, []),
  (6, (.iload_n 1), 1, .null, 7, []),
  (7, (.iadd), 0, .null, 8, []),
  (8, (.iaload), 0, .null, 9, []),
  (9, (.ireturn), 0, .null, 10, [])]
def kX8_letter : am_C := [(0, (.iload_n 1), 1, .null, 1, []),
  (1, (.ifCond .ge 10), 11, .null, 4, []),
  (4, (.aload_n 0), 0, .null, 5, []),
  (5, (.bipush (-4)), 0, .int (-4), 7, []),
  (7, (.invokevirtual 9), 110, .ref 91, 10, []),
  (10, (.ireturn), 0, .null, 11, []),
  (11, (.iload_n 1), 1, .null, 12, []),
  (12, (.sipush 255), 0, .int 255, 15, []),
  (15, (.if_icmp .gt 12), 27, .null, 18, []),
  (18, (.aload_n 0), 0, .null, 19, []),
  (19, (.getfield 78), 5, .ref 8, 22, []),
  (22, (.bipush 96), 0, .int 96, 24, []),
  (24, (.if_icmp .ne 10), 34, .null, 27, []),
  (27, (.aload_n 0), 0, .null, 28, []),
  (28, (.bipush (-6)), 0, .int (-6), 30, []),
  (30, (.invokevirtual 9), 110, .ref 91, 33, []),
  (33, (.ireturn), 0, .null, 34, []),
  (34, (.aload_n 0), 0, .null, 35, []),
  (35, (.getfield 25), 4, .ref 8, 38, []),
  (38, (.aload_n 0), 0, .null, 39, []),
  (39, (.getfield 78), 5, .ref 8, 42, []),
  (42, (.iload_n 1), 1, .null, 43, []),
  (43, (.iastore), 0, .null, 44, []),
  (44, (.aload_n 0), 0, .null, 45, []),
  (45, (.dup), 0, .null, 46, []),
  (46, (.getfield 78), 5, .ref 8, 49, []),
  (49, (.iconst 1), 0, .int 1, 50, []),
  (50, (.iadd), 0, .null, 51, []),
  (51, (.putfield 78), 5, .ref 8, 54, []),
  (54, (.aload_n 0), 0, .null, 55, []),
  (55, (.getfield 78), 5, .ref 8, 58, []),
  (58, (.ireturn), 0, .null, 59, [])]
def kX8_oneOf : am_C := [(0, (.iconst 0), 0, .int 0, 1, []),
  (1, (.istore_n 2), 2, .null, 2, []),
  (2, (.iload_n 2), 2, .null, 3, []),
  (3, (.aload_n 1), 1, .null, 4, []),
  (4, (.arraylength), 0, .null, 5, []),
  (5, (.if_icmp .ge 54), 59, .null, 8, []),
  (8, (.aload_n 0), 0, .null, 9, []),
  (9, (.getfield 82), 7, .ref 8, 12, []),
  (12, (.ifCond .eq 41), 53, .null, 15, []),
  (15, (.aload_n 0), 0, .null, 16, []),
  (16, (.getfield 85), 6, .ref 8, 19, []),
  (19, (.aload_n 0), 0, .null, 20, []),
  (20, (.getfield 78), 5, .ref 8, 23, []),
  (23, (.if_icmp .ge 30), 53, .null, 26, []),
  (26, (.aload_n 0), 0, .null, 27, []),
  (27, (.getfield 25), 4, .ref 8, 30, []),
  (30, (.aload_n 0), 0, .null, 31, []),
  (31, (.getfield 85), 6, .ref 8, 34, []),
  (34, (.iaload), 0, .null, 35, []),
  (35, (.aload_n 1), 1, .null, 36, []),
  (36, (.iload_n 2), 2, .null, 37, []),
  (37, (.caload), 0, .null, 38, []),
  (38, (.if_icmp .ne 15), 53, .null, 41, []),
  (41, (.aload_n 0), 0, .null, 42, []),
  (42, (.dup), 0, .null, 43, []),
  (43, (.getfield 85), 6, .ref 8, 46, []),
  (46, (.iconst 1), 0, .int 1, 47, []),
  (47, (.iadd), 0, .null, 48, []),
  (48, (.putfield 85), 6, .ref 8, 51, []),
  (51, (.iload_n 2), 2, .null, 52, []),
  (52, (.ireturn), 0, .null, 53, []),
  (53, (.iinc 2 1), 2, .int 1, 56, []),
  (56, (.goto (-54)), 2, .null, 59, []),
  (59, (.aload_n 0), 0, .null, 60, []),
  (60, (.iconst 0), 0, .int 0, 61, []),
  (61, (.putfield 82), 7, .ref 8, 64, []),
  (64, (.iconst 0), 0, .int 0, 65, []),
  (65, (.ireturn), 0, .null, 66, [])]
def kX8_figures : am_C := [(0, (.iconst 0), 0, .int 0, 1, []),
  (1, (.istore_n 2), 2, .null, 2, []),
  (2, (.iconst 0), 0, .int 0, 3, []),
  (3, (.istore_n 3), 3, .null, 4, []),
  (4, (.iload_n 3), 3, .null, 5, []),
  (5, (.iload_n 1), 1, .null, 6, []),
  (6, (.if_icmp .ge 91), 97, .null, 9, []),
  (9, (.aload_n 0), 0, .null, 10, []),
  (10, (.getfield 82), 7, .ref 8, 13, []),
  (13, (.ifCond .eq 73), 86, .null, 16, []),
  (16, (.aload_n 0), 0, .null, 17, []),
  (17, (.getfield 85), 6, .ref 8, 20, []),
  (20, (.aload_n 0), 0, .null, 21, []),
  (21, (.getfield 78), 5, .ref 8, 24, []),
  (24, (.if_icmp .ge 62), 86, .null, 27, []),
  (27, (.aload_n 0), 0, .null, 28, []),
  (28, (.getfield 25), 4, .ref 8, 31, []),
  (31, (.aload_n 0), 0, .null, 32, []),
  (32, (.getfield 85), 6, .ref 8, 35, []),
  (35, (.iaload), 0, .null, 36, []),
  (36, (.bipush 48), 0, .int 48, 38, []),
  (38, (.if_icmp .lt 48), 86, .null, 41, []),
  (41, (.aload_n 0), 0, .null, 42, []),
  (42, (.getfield 25), 4, .ref 8, 45, []),
  (45, (.aload_n 0), 0, .null, 46, []),
  (46, (.getfield 85), 6, .ref 8, 49, []),
  (49, (.iaload), 0, .null, 50, []),
  (50, (.bipush 57), 0, .int 57, 52, []),
  (52, (.if_icmp .gt 34), 86, .null, 55, []),
  (55, (.bipush 10), 0, .int 10, 57, []),
  (57, (.iload_n 2), 2, .null, 58, []),
  (58, (.imul), 0, .null, 59, []),
  (59, (.aload_n 0), 0, .null, 60, []),
  (60, (.getfield 25), 4, .ref 8, 63, []),
  (63, (.aload_n 0), 0, .null, 64, []),
  (64, (.getfield 85), 6, .ref 8, 67, []),
  (67, (.iaload), 0, .null, 68, []),
  (68, (.iadd), 0, .null, 69, []),
  (69, (.bipush 48), 0, .int 48, 71, []),
  (71, (.isub), 0, .null, 72, []),
  (72, (.istore_n 2), 2, .null, 73, []),
  (73, (.aload_n 0), 0, .null, 74, []),
  (74, (.dup), 0, .null, 75, []),
  (75, (.getfield 85), 6, .ref 8, 78, []),
  (78, (.iconst 1), 0, .int 1, 79, []),
  (79, (.iadd), 0, .null, 80, []),
  (80, (.putfield 85), 6, .ref 8, 83, []),
  (83, (.goto 8), 91, .null, 86, []),
  (86, (.aload_n 0), 0, .null, 87, []),
  (87, (.iconst 0), 0, .int 0, 88, []),
  (88, (.putfield 82), 7, .ref 8, 91, []),
  (91, (.iinc 3 1), 3, .int 1, 94, []),
  (94, (.goto (-90)), 4, .null, 97, []),
  (97, (.iload_n 2), 2, .null, 98, []),
  (98, (.ireturn), 0, .null, 99, [])]
def kX8_statement : am_C := [(0, (.aload_n 0), 0, .null, 1, []),
  (1, (.aload_n 0), 0, .null, 2, []),
  (2, (.aload_n 0), 0, .null, 3, []),
  (3, (.getfield 28), 8, .ref 8, 6, []),
  (6, (.invokevirtual 88), 118, .ref 91, 9, []),
  (9, (.putfield 92), 11, .ref 8, 12, []),
  (12, (.aload_n 0), 0, .null, 13, []),
  (13, (.getfield 92), 11, .ref 8, 16, []),
  (16, (.iconst 2), 0, .int 2, 17, []),
  (17, (.if_icmp .ge 58), 75, .null, 20, []),
  (20, (.aload_n 0), 0, .null, 21, []),
  (21, (.getfield 38), 12, .ref 8, 24, []),
  (24, (.iconst 0), 0, .int 0, 25, []),
  (25, (.aload_n 0), 0, .null, 26, []),
  (26, (.aload_n 0), 0, .null, 27, []),
  (27, (.getfield 32), 9, .ref 8, 30, []),
  (30, (.invokevirtual 88), 118, .ref 91, 33, []),
  (33, (.iastore), 0, .null, 34, []),
  (34, (.aload_n 0), 0, .null, 35, []),
  (35, (.getfield 38), 12, .ref 8, 38, []),
  (38, (.iconst 1), 0, .int 1, 39, []),
  (39, (.aload_n 0), 0, .null, 40, []),
  (40, (.iconst 2), 0, .int 2, 41, []),
  (41, (.invokevirtual 95), 119, .ref 91, 44, []),
  (44, (.iastore), 0, .null, 45, []),
  (45, (.aload_n 0), 0, .null, 46, []),
  (46, (.getfield 38), 12, .ref 8, 49, []),
  (49, (.iconst 2), 0, .int 2, 50, []),
  (50, (.aload_n 0), 0, .null, 51, []),
  (51, (.getfield 92), 11, .ref 8, 54, []),
  (54, (.ifCond .ne 12), 66, .null, 57, []),
  (57, (.aload_n 0), 0, .null, 58, []),
  (58, (.getfield 38), 12, .ref 8, 61, []),
  (61, (.iconst 1), 0, .int 1, 62, []),
  (62, (.iaload), 0, .null, 63, []),
  (63, (.goto 8), 71, .null, 66, []),
  (66, (.aload_n 0), 0, .null, 67, []),
  (67, (.iconst 2), 0, .int 2, 68, []),
  (68, (.invokevirtual 95), 119, .ref 91, 71, []),
  (71, (.iastore), 0, .null, 72, []),
  (72, (.goto 62), 134, .null, 75, []),
  (75, (.aload_n 0), 0, .null, 76, []),
  (76, (.getfield 92), 11, .ref 8, 79, []),
  (79, (.iconst 5), 0, .int 5, 80, []),
  (80, (.if_icmp .ne 31), 111, .null, 83, []),
  (83, (.aload_n 0), 0, .null, 84, []),
  (84, (.getfield 38), 12, .ref 8, 87, []),
  (87, (.iconst 0), 0, .int 0, 88, []),
  (88, (.aload_n 0), 0, .null, 89, []),
  (89, (.aload_n 0), 0, .null, 90, []),
  (90, (.getfield 35), 10, .ref 8, 93, []),
  (93, (.invokevirtual 88), 118, .ref 91, 96, []),
  (96, (.iastore), 0, .null, 97, []),
  (97, (.aload_n 0), 0, .null, 98, []),
  (98, (.getfield 38), 12, .ref 8, 101, []),
  (101, (.iconst 1), 0, .int 1, 102, []),
  (102, (.aload_n 0), 0, .null, 103, []),
  (103, (.iconst 2), 0, .int 2, 104, []),
  (104, (.invokevirtual 95), 119, .ref 91, 107, []),
  (107, (.iastore), 0, .null, 108, []),
  (108, (.goto 26), 134, .null, 111, []),
  (111, (.aload_n 0), 0, .null, 112, []),
  (112, (.getfield 38), 12, .ref 8, 115, []),
  (115, (.iconst 0), 0, .int 0, 116, []),
  (116, (.aload_n 0), 0, .null, 117, []),
  (117, (.aload_n 0), 0, .null, 118, []),
  (118, (.getfield 92), 11, .ref 8, 121, []),
  (121, (.iconst 2), 0, .int 2, 122, []),
  (122, (.if_icmp .ne 7), 129, .null, 125, []),
  (125, (.iconst 2), 0, .int 2, 126, []),
  (126, (.goto 4), 130, .null, 129, []),
  (129, (.iconst 1), 0, .int 1, 130, []),
  (130, (.invokevirtual 95), 119, .ref 91, 133, []),
  (133, (.iastore), 0, .null, 134, []),
  (134, (.aload_n 0), 0, .null, 135, []),
  (135, (.getfield 82), 7, .ref 8, 138, []),
  (138, (.ifCond .eq 41), 179, .null, 141, []),
  (141, (.aload_n 0), 0, .null, 142, []),
  (142, (.getfield 85), 6, .ref 8, 145, []),
  (145, (.aload_n 0), 0, .null, 146, []),
  (146, (.getfield 78), 5, .ref 8, 149, []),
  (149, (.if_icmp .ge 30), 179, .null, 152, []),
  (152, (.aload_n 0), 0, .null, 153, []),
  (153, (.getfield 25), 4, .ref 8, 156, []),
  (156, (.aload_n 0), 0, .null, 157, []),
  (157, (.getfield 85), 6, .ref 8, 160, []),
  (160, (.iaload), 0, .null, 161, []),
  (161, (.bipush 59), 0, .int 59, 163, []),
  (163, (.if_icmp .ne 16), 179, .null, 166, []),
  (166, (.aload_n 0), 0, .null, 167, []),
  (167, (.dup), 0, .null, 168, []),
  (168, (.getfield 85), 6, .ref 8, 171, []),
  (171, (.iconst 1), 0, .int 1, 172, []),
  (172, (.iadd), 0, .null, 173, []),
  (173, (.putfield 85), 6, .ref 8, 176, []),
  (176, (.goto 8), 184, .null, 179, []),
  (179, (.aload_n 0), 0, .null, 180, []),
  (180, (.iconst 0), 0, .int 0, 181, []),
  (181, (.putfield 82), 7, .ref 8, 184, []),
  (184, (.return_), 0, .null, 185, [])]
def kX8_takes : am_C := [(0, (.aload_n 0), 0, .null, 1, []),
  (1, (.getfield 92), 11, .ref 8, 4, []),
  (4, (.tableswitch 228 0 4 #[36, 36, 144, 187, 214]), 232, .null, 40, [(0, 40), (1, 40), (2, 148), (3, 191), (4, 218)]),
  (40, (.aload_n 0), 0, .null, 41, []),
  (41, (.getfield 38), 12, .ref 8, 44, []),
  (44, (.iconst 2), 0, .int 2, 45, []),
  (45, (.iaload), 0, .null, 46, []),
  (46, (.bipush 36), 0, .int 36, 48, []),
  (48, (.if_icmp .ge 58), 106, .null, 51, []),
  (51, (.aload_n 0), 0, .null, 52, []),
  (52, (.getfield 38), 12, .ref 8, 55, []),
  (55, (.iconst 1), 0, .int 1, 56, []),
  (56, (.iaload), 0, .null, 57, []),
  (57, (.aload_n 0), 0, .null, 58, []),
  (58, (.getfield 38), 12, .ref 8, 61, []),
  (61, (.iconst 2), 0, .int 2, 62, []),
  (62, (.iaload), 0, .null, 63, []),
  (63, (.if_icmp .gt 43), 106, .null, 66, []),
  (66, (.aload_n 0), 0, .null, 67, []),
  (67, (.getfield 38), 12, .ref 8, 70, []),
  (70, (.iconst 0), 0, .int 0, 71, []),
  (71, (.iaload), 0, .null, 72, []),
  (72, (.iconst 1), 0, .int 1, 73, []),
  (73, (.if_icmp .ne 35), 108, .null, 76, []),
  (76, (.aload_n 0), 0, .null, 77, []),
  (77, (.getfield 38), 12, .ref 8, 80, []),
  (80, (.iconst 1), 0, .int 1, 81, []),
  (81, (.iaload), 0, .null, 82, []),
  (82, (.aload_n 0), 0, .null, 83, []),
  (83, (.getfield 19), 1, .ref 8, 86, []),
  (86, (.iconst 0), 0, .int 0, 87, []),
  (87, (.iaload), 0, .null, 88, []),
  (88, (.if_icmp .gt 20), 108, .null, 91, []),
  (91, (.aload_n 0), 0, .null, 92, []),
  (92, (.getfield 19), 1, .ref 8, 95, []),
  (95, (.iconst 0), 0, .int 0, 96, []),
  (96, (.iaload), 0, .null, 97, []),
  (97, (.aload_n 0), 0, .null, 98, []),
  (98, (.getfield 38), 12, .ref 8, 101, []),
  (101, (.iconst 2), 0, .int 2, 102, []),
  (102, (.iaload), 0, .null, 103, []),
  (103, (.if_icmp .gt 5), 108, .null, 106, []),
  (106, (.iconst 0), 0, .int 0, 107, []),
  (107, (.ireturn), 1, .null, 108, []),
  (108, (.aload_n 0), 0, .null, 109, []),
  (109, (.getfield 38), 12, .ref 8, 112, []),
  (112, (.iconst 1), 0, .int 1, 113, []),
  (113, (.iaload), 0, .null, 114, []),
  (114, (.istore_n 1), 1, .null, 115, []),
  (115, (.iload_n 1), 1, .null, 116, []),
  (116, (.aload_n 0), 0, .null, 117, []),
  (117, (.getfield 38), 12, .ref 8, 120, []),
  (120, (.iconst 2), 0, .int 2, 121, []),
  (121, (.iaload), 0, .null, 122, []),
  (122, (.if_icmp .gt 24), 146, .null, 125, []),
  (125, (.aload_n 0), 0, .null, 126, []),
  (126, (.getfield 19), 1, .ref 8, 129, []),
  (129, (.bipush 20), 0, .int 20, 131, []),
  (131, (.iload_n 1), 1, .null, 132, []),
  (132, (.iadd), 0, .null, 133, []),
  (133, (.aload_n 0), 0, .null, 134, []),
  (134, (.getfield 38), 12, .ref 8, 137, []),
  (137, (.iconst 0), 0, .int 0, 138, []),
  (138, (.iaload), 0, .null, 139, []),
  (139, (.iastore), 0, .null, 140, []),
  (140, (.iinc 1 1), 1, .int 1, 143, []),
  (143, (.goto (-28)), 115, .null, 146, []),
  (146, (.iconst 1), 0, .int 1, 147, []),
  (147, (.ireturn), 1, .null, 148, []),
  (148, (.aload_n 0), 0, .null, 149, []),
  (149, (.getfield 19), 1, .ref 8, 152, []),
  (152, (.iconst 0), 0, .int 0, 153, []),
  (153, (.aload_n 0), 0, .null, 154, []),
  (154, (.getfield 38), 12, .ref 8, 157, []),
  (157, (.iconst 0), 0, .int 0, 158, []),
  (158, (.iaload), 0, .null, 159, []),
  (159, (.iastore), 0, .null, 160, []),
  (160, (.aload_n 0), 0, .null, 161, []),
  (161, (.getfield 38), 12, .ref 8, 164, []),
  (164, (.iconst 0), 0, .int 0, 165, []),
  (165, (.iaload), 0, .null, 166, []),
  (166, (.bipush 36), 0, .int 36, 168, []),
  (168, (.if_icmp .ge 21), 189, .null, 171, []),
  (171, (.aload_n 0), 0, .null, 172, []),
  (172, (.aload_n 0), 0, .null, 173, []),
  (173, (.getfield 38), 12, .ref 8, 176, []),
  (176, (.iconst 0), 0, .int 0, 177, []),
  (177, (.iaload), 0, .null, 178, []),
  (178, (.invokevirtual 98), 116, .ref 91, 181, []),
  (181, (.iconst 1), 0, .int 1, 182, []),
  (182, (.if_icmp .eq 7), 189, .null, 185, []),
  (185, (.iconst 1), 0, .int 1, 186, []),
  (186, (.goto 4), 190, .null, 189, []),
  (189, (.iconst 0), 0, .int 0, 190, []),
  (190, (.ireturn), 1, .null, 191, []),
  (191, (.aload_n 0), 0, .null, 192, []),
  (192, (.getfield 19), 1, .ref 8, 195, []),
  (195, (.iconst 1), 0, .int 1, 196, []),
  (196, (.aload_n 0), 0, .null, 197, []),
  (197, (.getfield 38), 12, .ref 8, 200, []),
  (200, (.iconst 0), 0, .int 0, 201, []),
  (201, (.iaload), 0, .null, 202, []),
  (202, (.iastore), 0, .null, 203, []),
  (203, (.aload_n 0), 0, .null, 204, []),
  (204, (.getfield 38), 12, .ref 8, 207, []),
  (207, (.iconst 0), 0, .int 0, 208, []),
  (208, (.iaload), 0, .null, 209, []),
  (209, (.ifCond .le 7), 216, .null, 212, []),
  (212, (.iconst 1), 0, .int 1, 213, []),
  (213, (.goto 4), 217, .null, 216, []),
  (216, (.iconst 0), 0, .int 0, 217, []),
  (217, (.ireturn), 1, .null, 218, []),
  (218, (.aload_n 0), 0, .null, 219, []),
  (219, (.getfield 19), 1, .ref 8, 222, []),
  (222, (.iconst 2), 0, .int 2, 223, []),
  (223, (.aload_n 0), 0, .null, 224, []),
  (224, (.getfield 38), 12, .ref 8, 227, []),
  (227, (.iconst 0), 0, .int 0, 228, []),
  (228, (.iaload), 0, .null, 229, []),
  (229, (.iastore), 0, .null, 230, []),
  (230, (.iconst 1), 0, .int 1, 231, []),
  (231, (.ireturn), 1, .null, 232, []),
  (232, (.aload_n 0), 0, .null, 233, []),
  (233, (.getfield 38), 12, .ref 8, 236, []),
  (236, (.iconst 1), 0, .int 1, 237, []),
  (237, (.iaload), 0, .null, 238, []),
  (238, (.bipush 36), 0, .int 36, 240, []),
  (240, (.if_icmp .ge 13), 253, .null, 243, []),
  (243, (.aload_n 0), 0, .null, 244, []),
  (244, (.getfield 19), 1, .ref 8, 247, []),
  (247, (.iconst 3), 0, .int 3, 248, []),
  (248, (.iaload), 0, .null, 249, []),
  (249, (.iconst 3), 0, .int 3, 250, []),
  (250, (.if_icmp .ne 5), 255, .null, 253, []),
  (253, (.iconst 0), 0, .int 0, 254, []),
  (254, (.ireturn), 1, .null, 255, []),
  (255, (.aload_n 0), 0, .null, 256, []),
  (256, (.getfield 19), 1, .ref 8, 259, []),
  (259, (.bipush 10), 0, .int 10, 261, []),
  (261, (.iconst 2), 0, .int 2, 262, []),
  (262, (.aload_n 0), 0, .null, 263, []),
  (263, (.getfield 19), 1, .ref 8, 266, []),
  (266, (.iconst 3), 0, .int 3, 267, []),
  (267, (.iaload), 0, .null, 268, []),
  (268, (.imul), 0, .null, 269, []),
  (269, (.iadd), 0, .null, 270, []),
  (270, (.aload_n 0), 0, .null, 271, []),
  (271, (.getfield 38), 12, .ref 8, 274, []),
  (274, (.iconst 0), 0, .int 0, 275, []),
  (275, (.iaload), 0, .null, 276, []),
  (276, (.iastore), 0, .null, 277, []),
  (277, (.aload_n 0), 0, .null, 278, []),
  (278, (.getfield 19), 1, .ref 8, 281, []),
  (281, (.bipush 10), 0, .int 10, 283, []),
  (283, (.iconst 2), 0, .int 2, 284, []),
  (284, (.aload_n 0), 0, .null, 285, []),
  (285, (.getfield 19), 1, .ref 8, 288, []),
  (288, (.iconst 3), 0, .int 3, 289, []),
  (289, (.iaload), 0, .null, 290, []),
  (290, (.imul), 0, .null, 291, []),
  (291, (.iadd), 0, .null, 292, []),
  (292, (.iconst 1), 0, .int 1, 293, []),
  (293, (.iadd), 0, .null, 294, []),
  (294, (.aload_n 0), 0, .null, 295, []),
  (295, (.getfield 38), 12, .ref 8, 298, []),
  (298, (.iconst 1), 0, .int 1, 299, []),
  (299, (.iaload), 0, .null, 300, []),
  (300, (.iastore), 0, .null, 301, []),
  (301, (.aload_n 0), 0, .null, 302, []),
  (302, (.getfield 19), 1, .ref 8, 305, []),
  (305, (.iconst 3), 0, .int 3, 306, []),
  (306, (.dup2), 0, .null, 307, []),
  (307, (.iaload), 0, .null, 308, []),
  (308, (.iconst 1), 0, .int 1, 309, []),
  (309, (.iadd), 0, .null, 310, []),
  (310, (.iastore), 0, .null, 311, []),
  (311, (.iconst 1), 0, .int 1, 312, []),
  (312, (.ireturn), 1, .null, 313, [])]
def kX8_read : am_C := [(0, (.iconst 0), 0, .int 0, 1, []),
  (1, (.istore_n 1), 1, .null, 2, []),
  (2, (.aload_n 0), 0, .null, 3, []),
  (3, (.iconst 0), 0, .int 0, 4, []),
  (4, (.putfield 85), 6, .ref 8, 7, []),
  (7, (.aload_n 0), 0, .null, 8, []),
  (8, (.iconst 1), 0, .int 1, 9, []),
  (9, (.putfield 82), 7, .ref 8, 12, []),
  (12, (.aload_n 0), 0, .null, 13, []),
  (13, (.invokevirtual 101), 120, .ref 90, 16, []),
  (16, (.iinc 1 1), 1, .int 1, 19, []),
  (19, (.aload_n 0), 0, .null, 20, []),
  (20, (.getfield 82), 7, .ref 8, 23, []),
  (23, (.ifCond .eq 14), 37, .null, 26, []),
  (26, (.aload_n 0), 0, .null, 27, []),
  (27, (.getfield 85), 6, .ref 8, 30, []),
  (30, (.aload_n 0), 0, .null, 31, []),
  (31, (.getfield 78), 5, .ref 8, 34, []),
  (34, (.if_icmp .lt (-22)), 12, .null, 37, []),
  (37, (.aload_n 0), 0, .null, 38, []),
  (38, (.getfield 82), 7, .ref 8, 41, []),
  (41, (.ifCond .ne 12), 53, .null, 44, []),
  (44, (.sipush (-1000)), 0, .int (-1000), 47, []),
  (47, (.aload_n 0), 0, .null, 48, []),
  (48, (.getfield 85), 6, .ref 8, 51, []),
  (51, (.isub), 0, .null, 52, []),
  (52, (.ireturn), 0, .null, 53, []),
  (53, (.aload_n 0), 0, .null, 54, []),
  (54, (.iconst 0), 0, .int 0, 55, []),
  (55, (.putfield 85), 6, .ref 8, 58, []),
  (58, (.aload_n 0), 0, .null, 59, []),
  (59, (.getfield 19), 1, .ref 8, 62, []),
  (62, (.aload_n 0), 0, .null, 63, []),
  (63, (.getfield 41), 13, .ref 8, 66, []),
  (66, (.invokestatic 74), 112, .ref 2, 69, []),
  (69, (.aload_n 0), 0, .null, 70, []),
  (70, (.getfield 85), 6, .ref 8, 73, []),
  (73, (.aload_n 0), 0, .null, 74, []),
  (74, (.getfield 78), 5, .ref 8, 77, []),
  (77, (.if_icmp .ge 39), 116, .null, 80, []),
  (80, (.aload_n 0), 0, .null, 81, []),
  (81, (.getfield 85), 6, .ref 8, 84, []),
  (84, (.istore_n 2), 2, .null, 85, []),
  (85, (.aload_n 0), 0, .null, 86, []),
  (86, (.invokevirtual 101), 120, .ref 90, 89, []),
  (89, (.aload_n 0), 0, .null, 90, []),
  (90, (.invokevirtual 104), 121, .ref 90, 93, []),
  (93, (.ifCond .ne 20), 113, .null, 96, []),
  (96, (.aload_n 0), 0, .null, 97, []),
  (97, (.getfield 41), 13, .ref 8, 100, []),
  (100, (.aload_n 0), 0, .null, 101, []),
  (101, (.getfield 19), 1, .ref 8, 104, []),
  (104, (.invokestatic 74), 112, .ref 2, 107, []),
  (107, (.sipush (-2000)), 0, .int (-2000), 110, []),
  (110, (.iload_n 2), 2, .null, 111, []),
  (111, (.isub), 0, .null, 112, []),
  (112, (.ireturn), 0, .null, 113, []),
  (113, (.goto (-44)), 69, .null, 116, []),
  (116, (.iload_n 1), 1, .null, 117, []),
  (117, (.ireturn), 0, .null, 118, [])]
def kX8_garden : am_C := [(0, (.aload_n 0), 0, .null, 1, []),
  (1, (.invokevirtual 108), 122, .ref 90, 4, []),
  (4, (.istore_n 1), 1, .null, 5, []),
  (5, (.aload_n 0), 0, .null, 6, []),
  (6, (.iconst 0), 0, .int 0, 7, []),
  (7, (.putfield 78), 5, .ref 8, 10, []),
  (10, (.iload_n 1), 1, .null, 11, []),
  (11, (.ireturn), 0, .null, 12, [])]
def kX8_canBe : am_C := [(0, (.aload_n 0), 0, .null, 1, []),
  (1, (.iload_n 1), 1, .null, 2, []),
  (2, (.invokevirtual 98), 116, .ref 91, 5, []),
  (5, (.iconst 1), 0, .int 1, 6, []),
  (6, (.if_icmp .eq 16), 22, .null, 9, []),
  (9, (.aload_n 0), 0, .null, 10, []),
  (10, (.getfield 44), 14, .ref 8, 13, []),
  (13, (.iload_n 1), 1, .null, 14, []),
  (14, (.baload), 0, .null, 15, []),
  (15, (.ifCond .ne 7), 22, .null, 18, []),
  (18, (.iconst 1), 0, .int 1, 19, []),
  (19, (.goto 4), 23, .null, 22, []),
  (22, (.iconst 0), 0, .int 0, 23, []),
  (23, (.ireturn), 1, .null, 24, [])]
def kX8_off : am_C := [(0, (.aload_n 0), 0, .null, 1, []),
  (1, (.iload_n 1), 1, .null, 2, []),
  (2, (.invokevirtual 98), 116, .ref 91, 5, []),
  (5, (.istore_n 2), 2, .null, 6, []),
  (6, (.iload_n 2), 2, .null, 7, []),
  (7, (.iconst 3), 0, .int 3, 8, []),
  (8, (.if_icmp .ne 16), 24, .null, 11, []),
  (11, (.iconst 1), 0, .int 1, 12, []),
  (12, (.aload_n 0), 0, .null, 13, []),
  (13, (.getfield 19), 1, .ref 8, 16, []),
  (16, (.iconst 2), 0, .int 2, 17, []),
  (17, (.iaload), 0, .null, 18, []),
  (18, (.iconst 3), 0, .int 3, 19, []),
  (19, (.idiv), 0, .null, 20, []),
  (20, (.iadd), 0, .null, 21, []),
  (21, (.goto 13), 34, .null, 24, []),
  (24, (.iload_n 2), 2, .null, 25, []),
  (25, (.iconst 4), 0, .int 4, 26, []),
  (26, (.if_icmp .ne 7), 33, .null, 29, []),
  (29, (.iconst 2), 0, .int 2, 30, []),
  (30, (.goto 4), 34, .null, 33, []),
  (33, (.iconst 1), 0, .int 1, 34, []),
  (34, (.ireturn), 0, .null, 35, [])]
def kX8_square : am_C := [(0, (.iload_n 1), 1, .null, 1, []),
  (1, (.invokestatic 112), 115, .ref 1, 4, []),
  (4, (.ifCond .eq 9), 13, .null, 7, []),
  (7, (.aload_n 0), 0, .null, 8, []),
  (8, (.iconst (-1)), 0, .int (-1), 9, []),
  (9, (.invokevirtual 9), 110, .ref 91, 12, []),
  (12, (.ireturn), 0, .null, 13, []),
  (13, (.aload_n 0), 0, .null, 14, []),
  (14, (.iload_n 1), 1, .null, 15, []),
  (15, (.invokevirtual 98), 116, .ref 91, 18, []),
  (18, (.istore_n 3), 3, .null, 19, []),
  (19, (.iload_n 2), 2, .null, 20, []),
  (20, (.tableswitch 61 0 2 #[28, 30, 41]), 81, .null, 48, [(0, 48), (1, 50), (2, 61)]),
  (48, (.iload_n 3), 3, .null, 49, []),
  (49, (.ireturn), 0, .null, 50, []),
  (50, (.iload_n 3), 3, .null, 51, []),
  (51, (.iconst 1), 0, .int 1, 52, []),
  (52, (.if_icmp .ne 7), 59, .null, 55, []),
  (55, (.iconst 0), 0, .int 0, 56, []),
  (56, (.goto 4), 60, .null, 59, []),
  (59, (.iconst 1), 0, .int 1, 60, []),
  (60, (.ireturn), 0, .null, 61, []),
  (61, (.iload_n 3), 3, .null, 62, []),
  (62, (.iconst 1), 0, .int 1, 63, []),
  (63, (.if_icmp .eq 8), 71, .null, 66, []),
  (66, (.iload_n 3), 3, .null, 67, []),
  (67, (.iconst 5), 0, .int 5, 68, []),
  (68, (.if_icmp .ne 7), 75, .null, 71, []),
  (71, (.iconst 0), 0, .int 0, 72, []),
  (72, (.goto 8), 80, .null, 75, []),
  (75, (.aload_n 0), 0, .null, 76, []),
  (76, (.iload_n 1), 1, .null, 77, []),
  (77, (.invokevirtual 116), 125, .ref 91, 80, []),
  (80, (.ireturn), 0, .null, 81, []),
  (81, (.aload_n 0), 0, .null, 82, []),
  (82, (.bipush (-2)), 0, .int (-2), 84, []),
  (84, (.invokevirtual 9), 110, .ref 91, 87, []),
  (87, (.ireturn), 0, .null, 88, [])]
def kX8_turnTo : am_C := [(0, (.iload_n 1), 1, .null, 1, []),
  (1, (.invokestatic 112), 115, .ref 1, 4, []),
  (4, (.ifCond .eq 9), 13, .null, 7, []),
  (7, (.aload_n 0), 0, .null, 8, []),
  (8, (.iconst (-1)), 0, .int (-1), 9, []),
  (9, (.invokevirtual 9), 110, .ref 91, 12, []),
  (12, (.ireturn), 0, .null, 13, []),
  (13, (.iload_n 2), 2, .null, 14, []),
  (14, (.ifCond .lt 8), 22, .null, 17, []),
  (17, (.iload_n 2), 2, .null, 18, []),
  (18, (.iconst 5), 0, .int 5, 19, []),
  (19, (.if_icmp .le 10), 29, .null, 22, []),
  (22, (.aload_n 0), 0, .null, 23, []),
  (23, (.bipush (-2)), 0, .int (-2), 25, []),
  (25, (.invokevirtual 9), 110, .ref 91, 28, []),
  (28, (.ireturn), 0, .null, 29, []),
  (29, (.iload_n 2), 2, .null, 30, []),
  (30, (.iconst 1), 0, .int 1, 31, []),
  (31, (.if_icmp .ne 20), 51, .null, 34, []),
  (34, (.iload_n 1), 1, .null, 35, []),
  (35, (.aload_n 0), 0, .null, 36, []),
  (36, (.getfield 19), 1, .ref 8, 39, []),
  (39, (.iconst 0), 0, .int 0, 40, []),
  (40, (.iaload), 0, .null, 41, []),
  (41, (.if_icmp .ne 10), 51, .null, 44, []),
  (44, (.aload_n 0), 0, .null, 45, []),
  (45, (.bipush (-3)), 0, .int (-3), 47, []),
  (47, (.invokevirtual 9), 110, .ref 91, 50, []),
  (50, (.ireturn), 0, .null, 51, []),
  (51, (.aload_n 0), 0, .null, 52, []),
  (52, (.iload_n 1), 1, .null, 53, []),
  (53, (.invokevirtual 98), 116, .ref 91, 56, []),
  (56, (.istore_n 3), 3, .null, 57, []),
  (57, (.aload_n 0), 0, .null, 58, []),
  (58, (.getfield 19), 1, .ref 8, 61, []),
  (61, (.bipush 20), 0, .int 20, 63, []),
  (63, (.iload_n 1), 1, .null, 64, []),
  (64, (.iadd), 0, .null, 65, []),
  (65, (.iload_n 2), 2, .null, 66, []),
  (66, (.iastore), 0, .null, 67, []),
  (67, (.iload_n 3), 3, .null, 68, []),
  (68, (.ireturn), 0, .null, 69, [])]
def kX8_set : am_C := [(0, (.iload_n 1), 1, .null, 1, []),
  (1, (.ifCond .lt 8), 9, .null, 4, []),
  (4, (.iload_n 1), 1, .null, 5, []),
  (5, (.iconst 2), 0, .int 2, 6, []),
  (6, (.if_icmp .le 10), 16, .null, 9, []),
  (9, (.aload_n 0), 0, .null, 10, []),
  (10, (.bipush (-2)), 0, .int (-2), 12, []),
  (12, (.invokevirtual 9), 110, .ref 91, 15, []),
  (15, (.ireturn), 0, .null, 16, []),
  (16, (.iload_n 1), 1, .null, 17, []),
  (17, (.ifCond .ne 32), 49, .null, 20, []),
  (20, (.iload_n 2), 2, .null, 21, []),
  (21, (.invokestatic 112), 115, .ref 1, 24, []),
  (24, (.ifCond .eq 9), 33, .null, 27, []),
  (27, (.aload_n 0), 0, .null, 28, []),
  (28, (.iconst (-1)), 0, .int (-1), 29, []),
  (29, (.invokevirtual 9), 110, .ref 91, 32, []),
  (32, (.ireturn), 0, .null, 33, []),
  (33, (.aload_n 0), 0, .null, 34, []),
  (34, (.iload_n 2), 2, .null, 35, []),
  (35, (.invokevirtual 98), 116, .ref 91, 38, []),
  (38, (.iconst 1), 0, .int 1, 39, []),
  (39, (.if_icmp .ne 37), 76, .null, 42, []),
  (42, (.aload_n 0), 0, .null, 43, []),
  (43, (.bipush (-3)), 0, .int (-3), 45, []),
  (45, (.invokevirtual 9), 110, .ref 91, 48, []),
  (48, (.ireturn), 0, .null, 49, []),
  (49, (.iload_n 2), 2, .null, 50, []),
  (50, (.iconst 2), 0, .int 2, 51, []),
  (51, (.iload_n 1), 1, .null, 52, []),
  (52, (.isub), 0, .null, 53, []),
  (53, (.if_icmp .ge 10), 63, .null, 56, []),
  (56, (.aload_n 0), 0, .null, 57, []),
  (57, (.bipush (-4)), 0, .int (-4), 59, []),
  (59, (.invokevirtual 9), 110, .ref 91, 62, []),
  (62, (.ireturn), 0, .null, 63, []),
  (63, (.iload_n 2), 2, .null, 64, []),
  (64, (.bipush 9), 0, .int 9, 66, []),
  (66, (.if_icmp .le 10), 76, .null, 69, []),
  (69, (.aload_n 0), 0, .null, 70, []),
  (70, (.bipush (-6)), 0, .int (-6), 72, []),
  (72, (.invokevirtual 9), 110, .ref 91, 75, []),
  (75, (.ireturn), 0, .null, 76, []),
  (76, (.aload_n 0), 0, .null, 77, []),
  (77, (.getfield 19), 1, .ref 8, 80, []),
  (80, (.iload_n 1), 1, .null, 81, []),
  (81, (.iaload), 0, .null, 82, []),
  (82, (.istore_n 3), 3, .null, 83, []),
  (83, (.aload_n 0), 0, .null, 84, []),
  (84, (.getfield 19), 1, .ref 8, 87, []),
  (87, (.iload_n 1), 1, .null, 88, []),
  (88, (.iload_n 2), 2, .null, 89, []),
  (89, (.iastore), 0, .null, 90, []),
  (90, (.iload_n 3), 3, .null, 91, []),
  (91, (.ireturn), 0, .null, 92, [])]
def kX8_isNoSeeker : am_C := [(0, (.iload_n 1), 1, .null, 1, []),
  (1, (.ifCond .lt 13), 14, .null, 4, []),
  (4, (.iload_n 1), 1, .null, 5, []),
  (5, (.aload_n 0), 0, .null, 6, []),
  (6, (.getfield 19), 1, .ref 8, 9, []),
  (9, (.iconst 3), 0, .int 3, 10, []),
  (10, (.iaload), 0, .null, 11, []),
  (11, (.if_icmp .lt 7), 18, .null, 14, []),
  (14, (.iconst 1), 0, .int 1, 15, []),
  (15, (.goto 4), 19, .null, 18, []),
  (18, (.iconst 0), 0, .int 0, 19, []),
  (19, (.ireturn), 1, .null, 20, [])]
def kX8_seeker : am_C := [(0, (.aload_n 0), 0, .null, 1, []),
  (1, (.iload_n 1), 1, .null, 2, []),
  (2, (.invokevirtual 119), 129, .ref 91, 5, []),
  (5, (.ifCond .eq 9), 14, .null, 8, []),
  (8, (.aload_n 0), 0, .null, 9, []),
  (9, (.iconst (-1)), 0, .int (-1), 10, []),
  (10, (.invokevirtual 9), 110, .ref 91, 13, []),
  (13, (.ireturn), 0, .null, 14, []),
  (14, (.iload_n 2), 2, .null, 15, []),
  (15, (.ifCond .eq 17), 32, .null, 18, []),
  (18, (.iload_n 2), 2, .null, 19, []),
  (19, (.iconst 1), 0, .int 1, 20, []),
  (20, (.if_icmp .eq 12), 32, .null, 23, []),
  (23, (.aload_n 0), 0, .null, 24, []),
  (24, (.bipush (-2)), 0, .int (-2), 26, []),
  (26, (.invokevirtual 9), 110, .ref 91, 29, []),
  (29, (.goto 16), 45, .null, 32, []),
  (32, (.aload_n 0), 0, .null, 33, []),
  (33, (.getfield 19), 1, .ref 8, 36, []),
  (36, (.bipush 10), 0, .int 10, 38, []),
  (38, (.iconst 2), 0, .int 2, 39, []),
  (39, (.iload_n 1), 1, .null, 40, []),
  (40, (.imul), 0, .null, 41, []),
  (41, (.iadd), 0, .null, 42, []),
  (42, (.iload_n 2), 2, .null, 43, []),
  (43, (.iadd), 0, .null, 44, []),
  (44, (.iaload), 0, .null, 45, []),
  (45, (.ireturn), 0, .null, 46, [])]
def kX8_stand : am_C := [(0, (.aload_n 0), 0, .null, 1, []),
  (1, (.iload_n 1), 1, .null, 2, []),
  (2, (.invokevirtual 119), 129, .ref 91, 5, []),
  (5, (.ifCond .ne 10), 15, .null, 8, []),
  (8, (.iload_n 2), 2, .null, 9, []),
  (9, (.invokestatic 112), 115, .ref 1, 12, []),
  (12, (.ifCond .eq 9), 21, .null, 15, []),
  (15, (.aload_n 0), 0, .null, 16, []),
  (16, (.iconst (-1)), 0, .int (-1), 17, []),
  (17, (.invokevirtual 9), 110, .ref 91, 20, []),
  (20, (.ireturn), 0, .null, 21, []),
  (21, (.aload_n 0), 0, .null, 22, []),
  (22, (.getfield 19), 1, .ref 8, 25, []),
  (25, (.bipush 10), 0, .int 10, 27, []),
  (27, (.iconst 2), 0, .int 2, 28, []),
  (28, (.iload_n 1), 1, .null, 29, []),
  (29, (.imul), 0, .null, 30, []),
  (30, (.iadd), 0, .null, 31, []),
  (31, (.iconst 1), 0, .int 1, 32, []),
  (32, (.iadd), 0, .null, 33, []),
  (33, (.iaload), 0, .null, 34, []),
  (34, (.istore_n 3), 3, .null, 35, []),
  (35, (.aload_n 0), 0, .null, 36, []),
  (36, (.getfield 19), 1, .ref 8, 39, []),
  (39, (.bipush 10), 0, .int 10, 41, []),
  (41, (.iconst 2), 0, .int 2, 42, []),
  (42, (.iload_n 1), 1, .null, 43, []),
  (43, (.imul), 0, .null, 44, []),
  (44, (.iadd), 0, .null, 45, []),
  (45, (.iconst 1), 0, .int 1, 46, []),
  (46, (.iadd), 0, .null, 47, []),
  (47, (.iload_n 2), 2, .null, 48, []),
  (48, (.iastore), 0, .null, 49, []),
  (49, (.iload_n 3), 3, .null, 50, []),
  (50, (.ireturn), 0, .null, 51, [])]
def kX8_beside : am_C := [(0, (.iload_n 1), 1, .null, 1, []),
  (1, (.tableswitch 75 0 2 #[27, 42, 58]), 76, .null, 28, [(0, 28), (1, 43), (2, 59)]),
  (28, (.iload_n 0), 0, .null, 29, []),
  (29, (.iconst 5), 0, .int 5, 30, []),
  (30, (.if_icmp .le 10), 40, .null, 33, []),
  (33, (.iload_n 0), 0, .null, 34, []),
  (34, (.bipush 6), 0, .int 6, 36, []),
  (36, (.isub), 0, .null, 37, []),
  (37, (.goto 5), 42, .null, 40, []),
  (40, (.bipush (-9)), 0, .int (-9), 42, []),
  (42, (.ireturn), 0, .null, 43, []),
  (43, (.iload_n 0), 0, .null, 44, []),
  (44, (.bipush 6), 0, .int 6, 46, []),
  (46, (.irem), 0, .null, 47, []),
  (47, (.ifCond .le 9), 56, .null, 50, []),
  (50, (.iload_n 0), 0, .null, 51, []),
  (51, (.iconst 1), 0, .int 1, 52, []),
  (52, (.isub), 0, .null, 53, []),
  (53, (.goto 5), 58, .null, 56, []),
  (56, (.bipush (-9)), 0, .int (-9), 58, []),
  (58, (.ireturn), 0, .null, 59, []),
  (59, (.iload_n 0), 0, .null, 60, []),
  (60, (.bipush 6), 0, .int 6, 62, []),
  (62, (.irem), 0, .null, 63, []),
  (63, (.iconst 5), 0, .int 5, 64, []),
  (64, (.if_icmp .ge 9), 73, .null, 67, []),
  (67, (.iload_n 0), 0, .null, 68, []),
  (68, (.iconst 1), 0, .int 1, 69, []),
  (69, (.iadd), 0, .null, 70, []),
  (70, (.goto 5), 75, .null, 73, []),
  (73, (.bipush (-9)), 0, .int (-9), 75, []),
  (75, (.ireturn), 0, .null, 76, []),
  (76, (.iload_n 0), 0, .null, 77, []),
  (77, (.bipush 30), 0, .int 30, 79, []),
  (79, (.if_icmp .ge 10), 89, .null, 82, []),
  (82, (.iload_n 0), 0, .null, 83, []),
  (83, (.bipush 6), 0, .int 6, 85, []),
  (85, (.iadd), 0, .null, 86, []),
  (86, (.goto 5), 91, .null, 89, []),
  (89, (.bipush (-9)), 0, .int (-9), 91, []),
  (91, (.ireturn), 0, .null, 92, [])]
def kX8_walkFrom : am_C := [(0, (.iconst 0), 0, .int 0, 1, []),
  (1, (.istore_n 2), 2, .null, 2, []),
  (2, (.iload_n 2), 2, .null, 3, []),
  (3, (.bipush 36), 0, .int 36, 5, []),
  (5, (.if_icmp .ge 35), 40, .null, 8, []),
  (8, (.aload_n 0), 0, .null, 9, []),
  (9, (.getfield 48), 15, .ref 8, 12, []),
  (12, (.iload_n 2), 2, .null, 13, []),
  (13, (.iload_n 2), 2, .null, 14, []),
  (14, (.iload_n 1), 1, .null, 15, []),
  (15, (.if_icmp .ne 16), 31, .null, 18, []),
  (18, (.aload_n 0), 0, .null, 19, []),
  (19, (.getfield 44), 14, .ref 8, 22, []),
  (22, (.iload_n 2), 2, .null, 23, []),
  (23, (.baload), 0, .null, 24, []),
  (24, (.ifCond .ne 7), 31, .null, 27, []),
  (27, (.iconst 0), 0, .int 0, 28, []),
  (28, (.goto 5), 33, .null, 31, []),
  (31, (.ldc 122), 0, .int 100000, 33, []),
  (33, (.iastore), 0, .null, 34, []),
  (34, (.iinc 2 1), 2, .int 1, 37, []),
  (37, (.goto (-35)), 2, .null, 40, []),
  (40, (.iconst 1), 0, .int 1, 41, []),
  (41, (.istore_n 2), 2, .null, 42, []),
  (42, (.iload_n 2), 2, .null, 43, []),
  (43, (.ifCond .eq 124), 167, .null, 46, []),
  (46, (.iconst 0), 0, .int 0, 47, []),
  (47, (.istore_n 2), 2, .null, 48, []),
  (48, (.iconst 0), 0, .int 0, 49, []),
  (49, (.istore_n 3), 3, .null, 50, []),
  (50, (.iload_n 3), 3, .null, 51, []),
  (51, (.bipush 36), 0, .int 36, 53, []),
  (53, (.if_icmp .ge 111), 164, .null, 56, []),
  (56, (.iconst 0), 0, .int 0, 57, []),
  (57, (.istore 4), 4, .null, 59, []),
  (59, (.iload 4), 4, .null, 61, []),
  (61, (.iconst 4), 0, .int 4, 62, []),
  (62, (.if_icmp .ge 96), 158, .null, 65, []),
  (65, (.aload_n 0), 0, .null, 66, []),
  (66, (.getfield 48), 15, .ref 8, 69, []),
  (69, (.iload_n 3), 3, .null, 70, []),
  (70, (.iaload), 0, .null, 71, []),
  (71, (.ldc 122), 0, .int 100000, 73, []),
  (73, (.if_icmp .ge 85), 158, .null, 76, []),
  (76, (.aload_n 0), 0, .null, 77, []),
  (77, (.iload_n 3), 3, .null, 78, []),
  (78, (.invokevirtual 98), 116, .ref 91, 81, []),
  (81, (.iconst 5), 0, .int 5, 82, []),
  (82, (.if_icmp .eq 76), 158, .null, 85, []),
  (85, (.iload_n 3), 3, .null, 86, []),
  (86, (.iload 4), 4, .null, 88, []),
  (88, (.invokestatic 123), 132, .ref 2, 91, []),
  (91, (.istore 5), 5, .null, 93, []),
  (93, (.iload 5), 5, .null, 95, []),
  (95, (.bipush (-9)), 0, .int (-9), 97, []),
  (97, (.if_icmp .eq 55), 152, .null, 100, []),
  (100, (.aload_n 0), 0, .null, 101, []),
  (101, (.iload 5), 5, .null, 103, []),
  (103, (.invokevirtual 127), 124, .ref 91, 106, []),
  (106, (.ifCond .eq 46), 152, .null, 109, []),
  (109, (.aload_n 0), 0, .null, 110, []),
  (110, (.getfield 48), 15, .ref 8, 113, []),
  (113, (.iload_n 3), 3, .null, 114, []),
  (114, (.iaload), 0, .null, 115, []),
  (115, (.aload_n 0), 0, .null, 116, []),
  (116, (.iload_n 3), 3, .null, 117, []),
  (117, (.invokevirtual 116), 125, .ref 91, 120, []),
  (120, (.iadd), 0, .null, 121, []),
  (121, (.aload_n 0), 0, .null, 122, []),
  (122, (.getfield 48), 15, .ref 8, 125, []),
  (125, (.iload 5), 5, .null, 127, []),
  (127, (.iaload), 0, .null, 128, []),
  (128, (.if_icmp .ge 24), 152, .null, 131, []),
  (131, (.aload_n 0), 0, .null, 132, []),
  (132, (.getfield 48), 15, .ref 8, 135, []),
  (135, (.iload 5), 5, .null, 137, []),
  (137, (.aload_n 0), 0, .null, 138, []),
  (138, (.getfield 48), 15, .ref 8, 141, []),
  (141, (.iload_n 3), 3, .null, 142, []),
  (142, (.iaload), 0, .null, 143, []),
  (143, (.aload_n 0), 0, .null, 144, []),
  (144, (.iload_n 3), 3, .null, 145, []),
  (145, (.invokevirtual 116), 125, .ref 91, 148, []),
  (148, (.iadd), 0, .null, 149, []),
  (149, (.iastore), 0, .null, 150, []),
  (150, (.iconst 1), 0, .int 1, 151, []),
  (151, (.istore_n 2), 2, .null, 152, []),
  (152, (.iinc 4 1), 4, .int 1, 155, []),
  (155, (.goto (-96)), 59, .null, 158, []),
  (158, (.iinc 3 1), 3, .int 1, 161, []),
  (161, (.goto (-111)), 50, .null, 164, []),
  (164, (.goto (-122)), 42, .null, 167, []),
  (167, (.return_), 0, .null, 168, [])]
def kX8_steps : am_C := [(0, (.iload_n 1), 1, .null, 1, []),
  (1, (.invokestatic 112), 115, .ref 1, 4, []),
  (4, (.ifCond .eq 9), 13, .null, 7, []),
  (7, (.aload_n 0), 0, .null, 8, []),
  (8, (.iconst (-1)), 0, .int (-1), 9, []),
  (9, (.invokevirtual 9), 110, .ref 91, 12, []),
  (12, (.ireturn), 0, .null, 13, []),
  (13, (.aload_n 0), 0, .null, 14, []),
  (14, (.aload_n 0), 0, .null, 15, []),
  (15, (.getfield 19), 1, .ref 8, 18, []),
  (18, (.iconst 0), 0, .int 0, 19, []),
  (19, (.iaload), 0, .null, 20, []),
  (20, (.invokevirtual 130), 133, .ref 91, 23, []),
  (23, (.aload_n 0), 0, .null, 24, []),
  (24, (.getfield 48), 15, .ref 8, 27, []),
  (27, (.iload_n 1), 1, .null, 28, []),
  (28, (.iaload), 0, .null, 29, []),
  (29, (.ldc 122), 0, .int 100000, 31, []),
  (31, (.if_icmp .ne 8), 39, .null, 34, []),
  (34, (.bipush (-9)), 0, .int (-9), 36, []),
  (36, (.goto 9), 45, .null, 39, []),
  (39, (.aload_n 0), 0, .null, 40, []),
  (40, (.getfield 48), 15, .ref 8, 43, []),
  (43, (.iload_n 1), 1, .null, 44, []),
  (44, (.iaload), 0, .null, 45, []),
  (45, (.ireturn), 0, .null, 46, [])]
def kX8_mayBeAt : am_C := [(0, (.aload_n 0), 0, .null, 1, []),
  (1, (.aload_n 0), 0, .null, 2, []),
  (2, (.getfield 19), 1, .ref 8, 5, []),
  (5, (.iconst 0), 0, .int 0, 6, []),
  (6, (.iaload), 0, .null, 7, []),
  (7, (.invokevirtual 130), 133, .ref 91, 10, []),
  (10, (.iconst 0), 0, .int 0, 11, []),
  (11, (.istore_n 2), 2, .null, 12, []),
  (12, (.iload_n 2), 2, .null, 13, []),
  (13, (.bipush 36), 0, .int 36, 15, []),
  (15, (.if_icmp .ge 37), 52, .null, 18, []),
  (18, (.aload_n 0), 0, .null, 19, []),
  (19, (.getfield 51), 16, .ref 8, 22, []),
  (22, (.iload_n 2), 2, .null, 23, []),
  (23, (.aload_n 0), 0, .null, 24, []),
  (24, (.getfield 48), 15, .ref 8, 27, []),
  (27, (.iload_n 2), 2, .null, 28, []),
  (28, (.iaload), 0, .null, 29, []),
  (29, (.iload_n 1), 1, .null, 30, []),
  (30, (.aload_n 0), 0, .null, 31, []),
  (31, (.getfield 19), 1, .ref 8, 34, []),
  (34, (.iconst 1), 0, .int 1, 35, []),
  (35, (.iaload), 0, .null, 36, []),
  (36, (.idiv), 0, .null, 37, []),
  (37, (.if_icmp .gt 7), 44, .null, 40, []),
  (40, (.iconst 1), 0, .int 1, 41, []),
  (41, (.goto 4), 45, .null, 44, []),
  (44, (.iconst 0), 0, .int 0, 45, []),
  (45, (.bastore), 0, .null, 46, []),
  (46, (.iinc 2 1), 2, .int 1, 49, []),
  (49, (.goto (-37)), 12, .null, 52, []),
  (52, (.return_), 0, .null, 53, [])]
def kX8_inSet : am_C := [(0, (.iconst 0), 0, .int 0, 1, []),
  (1, (.istore_n 1), 1, .null, 2, []),
  (2, (.iconst 0), 0, .int 0, 3, []),
  (3, (.istore_n 2), 2, .null, 4, []),
  (4, (.iload_n 2), 2, .null, 5, []),
  (5, (.bipush 36), 0, .int 36, 7, []),
  (7, (.if_icmp .ge 26), 33, .null, 10, []),
  (10, (.iload_n 1), 1, .null, 11, []),
  (11, (.aload_n 0), 0, .null, 12, []),
  (12, (.getfield 51), 16, .ref 8, 15, []),
  (15, (.iload_n 2), 2, .null, 16, []),
  (16, (.baload), 0, .null, 17, []),
  (17, (.ifCond .eq 7), 24, .null, 20, []),
  (20, (.iconst 1), 0, .int 1, 21, []),
  (21, (.goto 4), 25, .null, 24, []),
  (24, (.iconst 0), 0, .int 0, 25, []),
  (25, (.iadd), 0, .null, 26, []),
  (26, (.istore_n 1), 1, .null, 27, []),
  (27, (.iinc 2 1), 2, .int 1, 30, []),
  (30, (.goto (-26)), 4, .null, 33, []),
  (33, (.iload_n 1), 1, .null, 34, []),
  (34, (.ireturn), 0, .null, 35, [])]
def kX8_mayBe : am_C := [(0, (.iload_n 1), 1, .null, 1, []),
  (1, (.ifCond .lt 8), 9, .null, 4, []),
  (4, (.iload_n 2), 2, .null, 5, []),
  (5, (.iconst (-1)), 0, .int (-1), 6, []),
  (6, (.if_icmp .ge 10), 16, .null, 9, []),
  (9, (.aload_n 0), 0, .null, 10, []),
  (10, (.bipush (-4)), 0, .int (-4), 12, []),
  (12, (.invokevirtual 9), 110, .ref 91, 15, []),
  (15, (.ireturn), 0, .null, 16, []),
  (16, (.iload_n 1), 1, .null, 17, []),
  (17, (.sipush 999), 0, .int 999, 20, []),
  (20, (.if_icmp .le 10), 30, .null, 23, []),
  (23, (.aload_n 0), 0, .null, 24, []),
  (24, (.bipush (-6)), 0, .int (-6), 26, []),
  (26, (.invokevirtual 9), 110, .ref 91, 29, []),
  (29, (.ireturn), 0, .null, 30, []),
  (30, (.iload_n 2), 2, .null, 31, []),
  (31, (.bipush 36), 0, .int 36, 33, []),
  (33, (.if_icmp .lt 9), 42, .null, 36, []),
  (36, (.aload_n 0), 0, .null, 37, []),
  (37, (.iconst (-1)), 0, .int (-1), 38, []),
  (38, (.invokevirtual 9), 110, .ref 91, 41, []),
  (41, (.ireturn), 0, .null, 42, []),
  (42, (.aload_n 0), 0, .null, 43, []),
  (43, (.iload_n 1), 1, .null, 44, []),
  (44, (.invokevirtual 134), 135, .ref 91, 47, []),
  (47, (.iload_n 2), 2, .null, 48, []),
  (48, (.iconst (-1)), 0, .int (-1), 49, []),
  (49, (.if_icmp .ne 10), 59, .null, 52, []),
  (52, (.aload_n 0), 0, .null, 53, []),
  (53, (.invokevirtual 137), 136, .ref 90, 56, []),
  (56, (.goto 17), 73, .null, 59, []),
  (59, (.aload_n 0), 0, .null, 60, []),
  (60, (.getfield 51), 16, .ref 8, 63, []),
  (63, (.iload_n 2), 2, .null, 64, []),
  (64, (.baload), 0, .null, 65, []),
  (65, (.ifCond .eq 7), 72, .null, 68, []),
  (68, (.iconst 1), 0, .int 1, 69, []),
  (69, (.goto 4), 73, .null, 72, []),
  (72, (.iconst 0), 0, .int 0, 73, []),
  (73, (.ireturn), 0, .null, 74, [])]
def kX8_minutesOut : am_C := [(0, (.aload_n 0), 0, .null, 1, []),
  (1, (.aload_n 0), 0, .null, 2, []),
  (2, (.getfield 19), 1, .ref 8, 5, []),
  (5, (.iconst 0), 0, .int 0, 6, []),
  (6, (.iaload), 0, .null, 7, []),
  (7, (.invokevirtual 130), 133, .ref 91, 10, []),
  (10, (.ldc 122), 0, .int 100000, 12, []),
  (12, (.istore_n 1), 1, .null, 13, []),
  (13, (.iconst 0), 0, .int 0, 14, []),
  (14, (.istore_n 2), 2, .null, 15, []),
  (15, (.iload_n 2), 2, .null, 16, []),
  (16, (.bipush 36), 0, .int 36, 18, []),
  (18, (.if_icmp .ge 33), 51, .null, 21, []),
  (21, (.aload_n 0), 0, .null, 22, []),
  (22, (.iload_n 2), 2, .null, 23, []),
  (23, (.invokevirtual 98), 116, .ref 91, 26, []),
  (26, (.iconst 5), 0, .int 5, 27, []),
  (27, (.if_icmp .ne 16), 43, .null, 30, []),
  (30, (.iload_n 1), 1, .null, 31, []),
  (31, (.aload_n 0), 0, .null, 32, []),
  (32, (.getfield 48), 15, .ref 8, 35, []),
  (35, (.iload_n 2), 2, .null, 36, []),
  (36, (.iaload), 0, .null, 37, []),
  (37, (.invokestatic 140), 1001, .null, 40, []),
  (40, (.goto 4), 44, .null, 43, []),
  (43, (.iload_n 1), 1, .null, 44, []),
  (44, (.istore_n 1), 1, .null, 45, []),
  (45, (.iinc 2 1), 2, .int 1, 48, []),
  (48, (.goto (-33)), 15, .null, 51, []),
  (51, (.iload_n 1), 1, .null, 52, []),
  (52, (.ireturn), 0, .null, 53, [])]
def kX8_out : am_C := [(0, (.iload_n 1), 1, .null, 1, []),
  (1, (.ifCond .eq 15), 16, .null, 4, []),
  (4, (.iload_n 1), 1, .null, 5, []),
  (5, (.iconst 1), 0, .int 1, 6, []),
  (6, (.if_icmp .eq 10), 16, .null, 9, []),
  (9, (.aload_n 0), 0, .null, 10, []),
  (10, (.bipush (-2)), 0, .int (-2), 12, []),
  (12, (.invokevirtual 9), 110, .ref 91, 15, []),
  (15, (.ireturn), 0, .null, 16, []),
  (16, (.aload_n 0), 0, .null, 17, []),
  (17, (.invokevirtual 145), 138, .ref 90, 20, []),
  (20, (.istore_n 2), 2, .null, 21, []),
  (21, (.iload_n 2), 2, .null, 22, []),
  (22, (.ldc 122), 0, .int 100000, 24, []),
  (24, (.if_icmp .ne 6), 30, .null, 27, []),
  (27, (.bipush (-9)), 0, .int (-9), 29, []),
  (29, (.ireturn), 0, .null, 30, []),
  (30, (.iconst 0), 0, .int 0, 31, []),
  (31, (.istore_n 3), 3, .null, 32, []),
  (32, (.aload_n 0), 0, .null, 33, []),
  (33, (.iload_n 3), 3, .null, 34, []),
  (34, (.invokevirtual 98), 116, .ref 91, 37, []),
  (37, (.iconst 5), 0, .int 5, 38, []),
  (38, (.if_icmp .ne 13), 51, .null, 41, []),
  (41, (.aload_n 0), 0, .null, 42, []),
  (42, (.getfield 48), 15, .ref 8, 45, []),
  (45, (.iload_n 3), 3, .null, 46, []),
  (46, (.iaload), 0, .null, 47, []),
  (47, (.iload_n 2), 2, .null, 48, []),
  (48, (.if_icmp .eq 9), 57, .null, 51, []),
  (51, (.iinc 3 1), 3, .int 1, 54, []),
  (54, (.goto (-22)), 32, .null, 57, []),
  (57, (.iload_n 1), 1, .null, 58, []),
  (58, (.ifCond .ne 14), 72, .null, 61, []),
  (61, (.iload_n 2), 2, .null, 62, []),
  (62, (.aload_n 0), 0, .null, 63, []),
  (63, (.getfield 19), 1, .ref 8, 66, []),
  (66, (.iconst 1), 0, .int 1, 67, []),
  (67, (.iaload), 0, .null, 68, []),
  (68, (.imul), 0, .null, 69, []),
  (69, (.goto 4), 73, .null, 72, []),
  (72, (.iload_n 3), 3, .null, 73, []),
  (73, (.ireturn), 0, .null, 74, [])]
def kX8_holdNone : am_C := [(0, (.iconst 0), 0, .int 0, 1, []),
  (1, (.istore_n 1), 1, .null, 2, []),
  (2, (.iload_n 1), 1, .null, 3, []),
  (3, (.bipush 36), 0, .int 36, 5, []),
  (5, (.if_icmp .ge 16), 21, .null, 8, []),
  (8, (.aload_n 0), 0, .null, 9, []),
  (9, (.getfield 44), 14, .ref 8, 12, []),
  (12, (.iload_n 1), 1, .null, 13, []),
  (13, (.iconst 0), 0, .int 0, 14, []),
  (14, (.bastore), 0, .null, 15, []),
  (15, (.iinc 1 1), 1, .int 1, 18, []),
  (18, (.goto (-16)), 2, .null, 21, []),
  (21, (.return_), 0, .null, 22, [])]
def kX8_shut : am_C := [(0, (.iconst 0), 0, .int 0, 1, []),
  (1, (.istore_n 1), 1, .null, 2, []),
  (2, (.iconst 0), 0, .int 0, 3, []),
  (3, (.istore_n 2), 2, .null, 4, []),
  (4, (.iload_n 2), 2, .null, 5, []),
  (5, (.bipush 36), 0, .int 36, 7, []),
  (7, (.if_icmp .ge 32), 39, .null, 10, []),
  (10, (.iload_n 1), 1, .null, 11, []),
  (11, (.aload_n 0), 0, .null, 12, []),
  (12, (.iload_n 2), 2, .null, 13, []),
  (13, (.invokevirtual 98), 116, .ref 91, 16, []),
  (16, (.iconst 2), 0, .int 2, 17, []),
  (17, (.if_icmp .ne 13), 30, .null, 20, []),
  (20, (.iload_n 1), 1, .null, 21, []),
  (21, (.bipush 10), 0, .int 10, 23, []),
  (23, (.if_icmp .ge 7), 30, .null, 26, []),
  (26, (.iconst 1), 0, .int 1, 27, []),
  (27, (.goto 4), 31, .null, 30, []),
  (30, (.iconst 0), 0, .int 0, 31, []),
  (31, (.iadd), 0, .null, 32, []),
  (32, (.istore_n 1), 1, .null, 33, []),
  (33, (.iinc 2 1), 2, .int 1, 36, []),
  (36, (.goto (-32)), 4, .null, 39, []),
  (39, (.bipush (-9)), 0, .int (-9), 41, []),
  (41, (.istore_n 2), 2, .null, 42, []),
  (42, (.bipush 11), 0, .int 11, 44, []),
  (44, (.istore_n 3), 3, .null, 45, []),
  (45, (.iconst 0), 0, .int 0, 46, []),
  (46, (.istore 4), 4, .null, 48, []),
  (48, (.iload 4), 4, .null, 50, []),
  (50, (.iconst 1), 0, .int 1, 51, []),
  (51, (.iload_n 1), 1, .null, 52, []),
  (52, (.ishl), 0, .null, 53, []),
  (53, (.if_icmp .ge 138), 191, .null, 56, []),
  (56, (.iconst 0), 0, .int 0, 57, []),
  (57, (.istore 5), 5, .null, 59, []),
  (59, (.iconst 0), 0, .int 0, 60, []),
  (60, (.istore 6), 6, .null, 62, []),
  (62, (.iconst 0), 0, .int 0, 63, []),
  (63, (.istore 7), 7, .null, 65, []),
  (65, (.iload 7), 7, .null, 67, []),
  (67, (.bipush 36), 0, .int 36, 69, []),
  (69, (.if_icmp .ge 95), 164, .null, 72, []),
  (72, (.aload_n 0), 0, .null, 73, []),
  (73, (.iload 7), 7, .null, 75, []),
  (75, (.invokevirtual 98), 116, .ref 91, 78, []),
  (78, (.iconst 2), 0, .int 2, 79, []),
  (79, (.if_icmp .ne 13), 92, .null, 82, []),
  (82, (.iload 6), 6, .null, 84, []),
  (84, (.iload_n 1), 1, .null, 85, []),
  (85, (.if_icmp .ge 7), 92, .null, 88, []),
  (88, (.iconst 1), 0, .int 1, 89, []),
  (89, (.goto 4), 93, .null, 92, []),
  (92, (.iconst 0), 0, .int 0, 93, []),
  (93, (.istore 8), 8, .null, 95, []),
  (95, (.aload_n 0), 0, .null, 96, []),
  (96, (.getfield 44), 14, .ref 8, 99, []),
  (99, (.iload 7), 7, .null, 101, []),
  (101, (.iload 8), 8, .null, 103, []),
  (103, (.ifCond .eq 18), 121, .null, 106, []),
  (106, (.iload 4), 4, .null, 108, []),
  (108, (.iload 6), 6, .null, 110, []),
  (110, (.ishr), 0, .null, 111, []),
  (111, (.iconst 1), 0, .int 1, 112, []),
  (112, (.iand), 0, .null, 113, []),
  (113, (.iconst 1), 0, .int 1, 114, []),
  (114, (.if_icmp .ne 7), 121, .null, 117, []),
  (117, (.iconst 1), 0, .int 1, 118, []),
  (118, (.goto 4), 122, .null, 121, []),
  (121, (.iconst 0), 0, .int 0, 122, []),
  (122, (.bastore), 0, .null, 123, []),
  (123, (.iload 5), 5, .null, 125, []),
  (125, (.aload_n 0), 0, .null, 126, []),
  (126, (.getfield 44), 14, .ref 8, 129, []),
  (129, (.iload 7), 7, .null, 131, []),
  (131, (.baload), 0, .null, 132, []),
  (132, (.ifCond .eq 7), 139, .null, 135, []),
  (135, (.iconst 1), 0, .int 1, 136, []),
  (136, (.goto 4), 140, .null, 139, []),
  (139, (.iconst 0), 0, .int 0, 140, []),
  (140, (.iadd), 0, .null, 141, []),
  (141, (.istore 5), 5, .null, 143, []),
  (143, (.iload 6), 6, .null, 145, []),
  (145, (.iload 8), 8, .null, 147, []),
  (147, (.ifCond .eq 7), 154, .null, 150, []),
  (150, (.iconst 1), 0, .int 1, 151, []),
  (151, (.goto 4), 155, .null, 154, []),
  (154, (.iconst 0), 0, .int 0, 155, []),
  (155, (.iadd), 0, .null, 156, []),
  (156, (.istore 6), 6, .null, 158, []),
  (158, (.iinc 7 1), 7, .int 1, 161, []),
  (161, (.goto (-96)), 65, .null, 164, []),
  (164, (.iload 5), 5, .null, 166, []),
  (166, (.iload_n 3), 3, .null, 167, []),
  (167, (.if_icmp .ge 18), 185, .null, 170, []),
  (170, (.aload_n 0), 0, .null, 171, []),
  (171, (.invokevirtual 145), 138, .ref 90, 174, []),
  (174, (.ldc 122), 0, .int 100000, 176, []),
  (176, (.if_icmp .ne 9), 185, .null, 179, []),
  (179, (.iload 4), 4, .null, 181, []),
  (181, (.istore_n 2), 2, .null, 182, []),
  (182, (.iload 5), 5, .null, 184, []),
  (184, (.istore_n 3), 3, .null, 185, []),
  (185, (.iinc 4 1), 4, .int 1, 188, []),
  (188, (.goto (-140)), 48, .null, 191, []),
  (191, (.aload_n 0), 0, .null, 192, []),
  (192, (.invokevirtual 148), 140, .ref 90, 195, []),
  (195, (.iload_n 2), 2, .null, 196, []),
  (196, (.ireturn), 0, .null, 197, [])]
def kX8_firstGap : am_C := [(0, (.bipush (-9)), 0, .int (-9), 2, []),
  (2, (.istore_n 1), 1, .null, 3, []),
  (3, (.bipush (-9)), 0, .int (-9), 5, []),
  (5, (.istore_n 2), 2, .null, 6, []),
  (6, (.iconst 0), 0, .int 0, 7, []),
  (7, (.istore_n 3), 3, .null, 8, []),
  (8, (.iload_n 3), 3, .null, 9, []),
  (9, (.bipush 36), 0, .int 36, 11, []),
  (11, (.if_icmp .ge 57), 68, .null, 14, []),
  (14, (.aload_n 0), 0, .null, 15, []),
  (15, (.iload_n 3), 3, .null, 16, []),
  (16, (.invokevirtual 98), 116, .ref 91, 19, []),
  (19, (.iconst 2), 0, .int 2, 20, []),
  (20, (.if_icmp .ne 42), 62, .null, 23, []),
  (23, (.aload_n 0), 0, .null, 24, []),
  (24, (.getfield 44), 14, .ref 8, 27, []),
  (27, (.iload_n 3), 3, .null, 28, []),
  (28, (.iconst 1), 0, .int 1, 29, []),
  (29, (.bastore), 0, .null, 30, []),
  (30, (.aload_n 0), 0, .null, 31, []),
  (31, (.invokevirtual 145), 138, .ref 90, 34, []),
  (34, (.istore 4), 4, .null, 36, []),
  (36, (.aload_n 0), 0, .null, 37, []),
  (37, (.getfield 44), 14, .ref 8, 40, []),
  (40, (.iload_n 3), 3, .null, 41, []),
  (41, (.iconst 0), 0, .int 0, 42, []),
  (42, (.bastore), 0, .null, 43, []),
  (43, (.iload 4), 4, .null, 45, []),
  (45, (.iload_n 2), 2, .null, 46, []),
  (46, (.if_icmp .le 7), 53, .null, 49, []),
  (49, (.iload_n 3), 3, .null, 50, []),
  (50, (.goto 4), 54, .null, 53, []),
  (53, (.iload_n 1), 1, .null, 54, []),
  (54, (.istore_n 1), 1, .null, 55, []),
  (55, (.iload_n 2), 2, .null, 56, []),
  (56, (.iload 4), 4, .null, 58, []),
  (58, (.invokestatic 151), 1000, .null, 61, []),
  (61, (.istore_n 2), 2, .null, 62, []),
  (62, (.iinc 3 1), 3, .int 1, 65, []),
  (65, (.goto (-57)), 8, .null, 68, []),
  (68, (.iload_n 1), 1, .null, 69, []),
  (69, (.ireturn), 0, .null, 70, [])]
def kX8_apart : am_C := [(0, (.iload_n 1), 1, .null, 1, []),
  (1, (.bipush 6), 0, .int 6, 3, []),
  (3, (.idiv), 0, .null, 4, []),
  (4, (.iload_n 2), 2, .null, 5, []),
  (5, (.bipush 6), 0, .int 6, 7, []),
  (7, (.idiv), 0, .null, 8, []),
  (8, (.isub), 0, .null, 9, []),
  (9, (.invokestatic 154), 1002, .null, 12, []),
  (12, (.iload_n 1), 1, .null, 13, []),
  (13, (.bipush 6), 0, .int 6, 15, []),
  (15, (.irem), 0, .null, 16, []),
  (16, (.iload_n 2), 2, .null, 17, []),
  (17, (.bipush 6), 0, .int 6, 19, []),
  (19, (.irem), 0, .null, 20, []),
  (20, (.isub), 0, .null, 21, []),
  (21, (.invokestatic 154), 1002, .null, 24, []),
  (24, (.iadd), 0, .null, 25, []),
  (25, (.ireturn), 0, .null, 26, [])]
def kX8_toRoad : am_C := [(0, (.ldc 122), 0, .int 100000, 2, []),
  (2, (.istore_n 2), 2, .null, 3, []),
  (3, (.iconst 0), 0, .int 0, 4, []),
  (4, (.istore_n 3), 3, .null, 5, []),
  (5, (.iload_n 3), 3, .null, 6, []),
  (6, (.bipush 36), 0, .int 36, 8, []),
  (8, (.if_icmp .ge 33), 41, .null, 11, []),
  (11, (.aload_n 0), 0, .null, 12, []),
  (12, (.iload_n 3), 3, .null, 13, []),
  (13, (.invokevirtual 98), 116, .ref 91, 16, []),
  (16, (.iconst 5), 0, .int 5, 17, []),
  (17, (.if_icmp .ne 16), 33, .null, 20, []),
  (20, (.iload_n 2), 2, .null, 21, []),
  (21, (.aload_n 0), 0, .null, 22, []),
  (22, (.iload_n 1), 1, .null, 23, []),
  (23, (.iload_n 3), 3, .null, 24, []),
  (24, (.invokevirtual 157), 143, .ref 92, 27, []),
  (27, (.invokestatic 140), 1001, .null, 30, []),
  (30, (.goto 4), 34, .null, 33, []),
  (33, (.iload_n 2), 2, .null, 34, []),
  (34, (.istore_n 2), 2, .null, 35, []),
  (35, (.iinc 3 1), 3, .int 1, 38, []),
  (38, (.goto (-33)), 5, .null, 41, []),
  (41, (.iload_n 2), 2, .null, 42, []),
  (42, (.ireturn), 0, .null, 43, [])]
def kX8_besideInSet : am_C := [(0, (.iconst 0), 0, .int 0, 1, []),
  (1, (.istore_n 2), 2, .null, 2, []),
  (2, (.iconst 0), 0, .int 0, 3, []),
  (3, (.istore_n 3), 3, .null, 4, []),
  (4, (.iload_n 3), 3, .null, 5, []),
  (5, (.iconst 4), 0, .int 4, 6, []),
  (6, (.if_icmp .ge 41), 47, .null, 9, []),
  (9, (.iload_n 1), 1, .null, 10, []),
  (10, (.iload_n 3), 3, .null, 11, []),
  (11, (.invokestatic 123), 132, .ref 2, 14, []),
  (14, (.istore 4), 4, .null, 16, []),
  (16, (.iload_n 2), 2, .null, 17, []),
  (17, (.iload 4), 4, .null, 19, []),
  (19, (.bipush (-9)), 0, .int (-9), 21, []),
  (21, (.if_icmp .eq 17), 38, .null, 24, []),
  (24, (.aload_n 0), 0, .null, 25, []),
  (25, (.getfield 51), 16, .ref 8, 28, []),
  (28, (.iload 4), 4, .null, 30, []),
  (30, (.baload), 0, .null, 31, []),
  (31, (.ifCond .eq 7), 38, .null, 34, []),
  (34, (.iconst 1), 0, .int 1, 35, []),
  (35, (.goto 4), 39, .null, 38, []),
  (38, (.iconst 0), 0, .int 0, 39, []),
  (39, (.iadd), 0, .null, 40, []),
  (40, (.istore_n 2), 2, .null, 41, []),
  (41, (.iinc 3 1), 3, .int 1, 44, []),
  (44, (.goto (-40)), 4, .null, 47, []),
  (47, (.iload_n 2), 2, .null, 48, []),
  (48, (.ireturn), 0, .null, 49, [])]
def kX8_waits : am_C := [(0, (.iload_n 1), 1, .null, 1, []),
  (1, (.tableswitch 88 0 4 #[35, 88, 37, 44, 63]), 89, .null, 36, [(0, 36), (1, 89), (2, 38), (3, 45), (4, 64)]),
  (36, (.iload_n 2), 2, .null, 37, []),
  (37, (.ireturn), 0, .null, 38, []),
  (38, (.aload_n 0), 0, .null, 39, []),
  (39, (.iload_n 2), 2, .null, 40, []),
  (40, (.invokevirtual 160), 145, .ref 91, 43, []),
  (43, (.ineg), 0, .null, 44, []),
  (44, (.ireturn), 0, .null, 45, []),
  (45, (.aload_n 0), 0, .null, 46, []),
  (46, (.iload_n 2), 2, .null, 47, []),
  (47, (.invokevirtual 160), 145, .ref 91, 50, []),
  (50, (.ifCond .ne 8), 58, .null, 53, []),
  (53, (.ldc 122), 0, .int 100000, 55, []),
  (55, (.goto 8), 63, .null, 58, []),
  (58, (.aload_n 0), 0, .null, 59, []),
  (59, (.iload_n 2), 2, .null, 60, []),
  (60, (.invokevirtual 160), 145, .ref 91, 63, []),
  (63, (.ireturn), 0, .null, 64, []),
  (64, (.aload_n 0), 0, .null, 65, []),
  (65, (.iload_n 2), 2, .null, 66, []),
  (66, (.invokevirtual 163), 144, .ref 91, 69, []),
  (69, (.ldc 122), 0, .int 100000, 71, []),
  (71, (.if_icmp .ge 11), 82, .null, 74, []),
  (74, (.aload_n 0), 0, .null, 75, []),
  (75, (.iload_n 2), 2, .null, 76, []),
  (76, (.invokevirtual 163), 144, .ref 91, 79, []),
  (79, (.goto 9), 88, .null, 82, []),
  (82, (.aload_n 0), 0, .null, 83, []),
  (83, (.iload_n 2), 2, .null, 84, []),
  (84, (.iload_n 3), 3, .null, 85, []),
  (85, (.invokevirtual 157), 143, .ref 92, 88, []),
  (88, (.ireturn), 0, .null, 89, []),
  (89, (.aload_n 0), 0, .null, 90, []),
  (90, (.iload_n 2), 2, .null, 91, []),
  (91, (.iload_n 3), 3, .null, 92, []),
  (92, (.invokevirtual 157), 143, .ref 92, 95, []),
  (95, (.ireturn), 0, .null, 96, [])]
def kX8_looks : am_C := [(0, (.bipush (-9)), 0, .int (-9), 2, []),
  (2, (.istore_n 3), 3, .null, 3, []),
  (3, (.iconst 0), 0, .int 0, 4, []),
  (4, (.istore 4), 4, .null, 6, []),
  (6, (.iconst 0), 0, .int 0, 7, []),
  (7, (.istore 5), 5, .null, 9, []),
  (9, (.iload 5), 5, .null, 11, []),
  (11, (.bipush 36), 0, .int 36, 13, []),
  (13, (.if_icmp .ge 68), 81, .null, 16, []),
  (16, (.aload_n 0), 0, .null, 17, []),
  (17, (.getfield 51), 16, .ref 8, 20, []),
  (20, (.iload 5), 5, .null, 22, []),
  (22, (.baload), 0, .null, 23, []),
  (23, (.ifCond .eq 19), 42, .null, 26, []),
  (26, (.aload_n 0), 0, .null, 27, []),
  (27, (.iload_n 1), 1, .null, 28, []),
  (28, (.iload 5), 5, .null, 30, []),
  (30, (.aload_n 0), 0, .null, 31, []),
  (31, (.getfield 57), 18, .ref 8, 34, []),
  (34, (.iload_n 2), 2, .null, 35, []),
  (35, (.iaload), 0, .null, 36, []),
  (36, (.invokevirtual 166), 146, .ref 93, 39, []),
  (39, (.goto 4), 43, .null, 42, []),
  (42, (.iconst 0), 0, .int 0, 43, []),
  (43, (.istore 6), 6, .null, 45, []),
  (45, (.aload_n 0), 0, .null, 46, []),
  (46, (.getfield 51), 16, .ref 8, 49, []),
  (49, (.iload 5), 5, .null, 51, []),
  (51, (.baload), 0, .null, 52, []),
  (52, (.ifCond .eq 23), 75, .null, 55, []),
  (55, (.iload_n 3), 3, .null, 56, []),
  (56, (.bipush (-9)), 0, .int (-9), 58, []),
  (58, (.if_icmp .eq 10), 68, .null, 61, []),
  (61, (.iload 6), 6, .null, 63, []),
  (63, (.iload 4), 4, .null, 65, []),
  (65, (.if_icmp .ge 10), 75, .null, 68, []),
  (68, (.iload 5), 5, .null, 70, []),
  (70, (.istore_n 3), 3, .null, 71, []),
  (71, (.iload 6), 6, .null, 73, []),
  (73, (.istore 4), 4, .null, 75, []),
  (75, (.iinc 5 1), 5, .int 1, 78, []),
  (78, (.goto (-69)), 9, .null, 81, []),
  (81, (.iload_n 3), 3, .null, 82, []),
  (82, (.bipush (-9)), 0, .int (-9), 84, []),
  (84, (.if_icmp .eq 20), 104, .null, 87, []),
  (87, (.iload_n 1), 1, .null, 88, []),
  (88, (.iconst 1), 0, .int 1, 89, []),
  (89, (.if_icmp .eq 8), 97, .null, 92, []),
  (92, (.iload_n 1), 1, .null, 93, []),
  (93, (.iconst 4), 0, .int 4, 94, []),
  (94, (.if_icmp .ne 10), 104, .null, 97, []),
  (97, (.aload_n 0), 0, .null, 98, []),
  (98, (.getfield 57), 18, .ref 8, 101, []),
  (101, (.iload_n 2), 2, .null, 102, []),
  (102, (.iload_n 3), 3, .null, 103, []),
  (103, (.iastore), 0, .null, 104, []),
  (104, (.iload_n 3), 3, .null, 105, []),
  (105, (.ireturn), 0, .null, 106, [])]
def kX8_passes : am_C := [(0, (.iload_n 1), 1, .null, 1, []),
  (1, (.bipush (-9)), 0, .int (-9), 3, []),
  (3, (.if_icmp .eq 10), 13, .null, 6, []),
  (6, (.aload_n 0), 0, .null, 7, []),
  (7, (.getfield 51), 16, .ref 8, 10, []),
  (10, (.iload_n 1), 1, .null, 11, []),
  (11, (.iconst 0), 0, .int 0, 12, []),
  (12, (.bastore), 0, .null, 13, []),
  (13, (.aload_n 0), 0, .null, 14, []),
  (14, (.dup), 0, .null, 15, []),
  (15, (.getfield 170), 19, .ref 8, 18, []),
  (18, (.iconst 1), 0, .int 1, 19, []),
  (19, (.iadd), 0, .null, 20, []),
  (20, (.putfield 170), 19, .ref 8, 23, []),
  (23, (.aload_n 0), 0, .null, 24, []),
  (24, (.getfield 170), 19, .ref 8, 27, []),
  (27, (.aload_n 0), 0, .null, 28, []),
  (28, (.getfield 19), 1, .ref 8, 31, []),
  (31, (.iconst 1), 0, .int 1, 32, []),
  (32, (.iaload), 0, .null, 33, []),
  (33, (.irem), 0, .null, 34, []),
  (34, (.ifCond .eq 4), 38, .null, 37, []),
  (37, (.return_), 0, .null, 38, []),
  (38, (.iconst 0), 0, .int 0, 39, []),
  (39, (.istore_n 2), 2, .null, 40, []),
  (40, (.iload_n 2), 2, .null, 41, []),
  (41, (.bipush 36), 0, .int 36, 43, []),
  (43, (.if_icmp .ge 21), 64, .null, 46, []),
  (46, (.aload_n 0), 0, .null, 47, []),
  (47, (.getfield 54), 17, .ref 8, 50, []),
  (50, (.iload_n 2), 2, .null, 51, []),
  (51, (.aload_n 0), 0, .null, 52, []),
  (52, (.getfield 51), 16, .ref 8, 55, []),
  (55, (.iload_n 2), 2, .null, 56, []),
  (56, (.baload), 0, .null, 57, []),
  (57, (.bastore), 0, .null, 58, []),
  (58, (.iinc 2 1), 2, .int 1, 61, []),
  (61, (.goto (-21)), 40, .null, 64, []),
  (64, (.iconst 0), 0, .int 0, 65, []),
  (65, (.istore_n 2), 2, .null, 66, []),
  (66, (.iload_n 2), 2, .null, 67, []),
  (67, (.bipush 36), 0, .int 36, 69, []),
  (69, (.if_icmp .ge 71), 140, .null, 72, []),
  (72, (.iconst 0), 0, .int 0, 73, []),
  (73, (.istore_n 3), 3, .null, 74, []),
  (74, (.iload_n 3), 3, .null, 75, []),
  (75, (.iconst 4), 0, .int 4, 76, []),
  (76, (.if_icmp .ge 58), 134, .null, 79, []),
  (79, (.aload_n 0), 0, .null, 80, []),
  (80, (.getfield 54), 17, .ref 8, 83, []),
  (83, (.iload_n 2), 2, .null, 84, []),
  (84, (.baload), 0, .null, 85, []),
  (85, (.ifCond .eq 49), 134, .null, 88, []),
  (88, (.aload_n 0), 0, .null, 89, []),
  (89, (.iload_n 2), 2, .null, 90, []),
  (90, (.invokevirtual 98), 116, .ref 91, 93, []),
  (93, (.iconst 5), 0, .int 5, 94, []),
  (94, (.if_icmp .eq 40), 134, .null, 97, []),
  (97, (.iload_n 2), 2, .null, 98, []),
  (98, (.iload_n 3), 3, .null, 99, []),
  (99, (.invokestatic 123), 132, .ref 2, 102, []),
  (102, (.istore 4), 4, .null, 104, []),
  (104, (.iload 4), 4, .null, 106, []),
  (106, (.bipush (-9)), 0, .int (-9), 108, []),
  (108, (.if_icmp .eq 20), 128, .null, 111, []),
  (111, (.aload_n 0), 0, .null, 112, []),
  (112, (.iload 4), 4, .null, 114, []),
  (114, (.invokevirtual 127), 124, .ref 91, 117, []),
  (117, (.ifCond .eq 11), 128, .null, 120, []),
  (120, (.aload_n 0), 0, .null, 121, []),
  (121, (.getfield 51), 16, .ref 8, 124, []),
  (124, (.iload 4), 4, .null, 126, []),
  (126, (.iconst 1), 0, .int 1, 127, []),
  (127, (.bastore), 0, .null, 128, []),
  (128, (.iinc 3 1), 3, .int 1, 131, []),
  (131, (.goto (-57)), 74, .null, 134, []),
  (134, (.iinc 2 1), 2, .int 1, 137, []),
  (137, (.goto (-71)), 66, .null, 140, []),
  (140, (.return_), 0, .null, 141, [])]
def kX8_begin : am_C := [(0, (.aload_n 0), 0, .null, 1, []),
  (1, (.iload_n 1), 1, .null, 2, []),
  (2, (.invokevirtual 134), 135, .ref 91, 5, []),
  (5, (.aload_n 0), 0, .null, 6, []),
  (6, (.iload_n 1), 1, .null, 7, []),
  (7, (.putfield 170), 19, .ref 8, 10, []),
  (10, (.iconst 0), 0, .int 0, 11, []),
  (11, (.istore_n 2), 2, .null, 12, []),
  (12, (.iload_n 2), 2, .null, 13, []),
  (13, (.aload_n 0), 0, .null, 14, []),
  (14, (.getfield 19), 1, .ref 8, 17, []),
  (17, (.iconst 3), 0, .int 3, 18, []),
  (18, (.iaload), 0, .null, 19, []),
  (19, (.if_icmp .ge 28), 47, .null, 22, []),
  (22, (.aload_n 0), 0, .null, 23, []),
  (23, (.getfield 57), 18, .ref 8, 26, []),
  (26, (.iload_n 2), 2, .null, 27, []),
  (27, (.aload_n 0), 0, .null, 28, []),
  (28, (.getfield 19), 1, .ref 8, 31, []),
  (31, (.bipush 10), 0, .int 10, 33, []),
  (33, (.iconst 2), 0, .int 2, 34, []),
  (34, (.iload_n 2), 2, .null, 35, []),
  (35, (.imul), 0, .null, 36, []),
  (36, (.iadd), 0, .null, 37, []),
  (37, (.iconst 1), 0, .int 1, 38, []),
  (38, (.iadd), 0, .null, 39, []),
  (39, (.iaload), 0, .null, 40, []),
  (40, (.iastore), 0, .null, 41, []),
  (41, (.iinc 2 1), 2, .int 1, 44, []),
  (44, (.goto (-32)), 12, .null, 47, []),
  (47, (.return_), 0, .null, 48, [])]
def kX8_searchBy : am_C := [(0, (.aload_n 0), 0, .null, 1, []),
  (1, (.iload_n 3), 3, .null, 2, []),
  (2, (.invokevirtual 173), 149, .ref 91, 5, []),
  (5, (.iconst 1), 0, .int 1, 6, []),
  (6, (.istore 4), 4, .null, 8, []),
  (8, (.iload 4), 4, .null, 10, []),
  (10, (.sipush 200), 0, .int 200, 13, []),
  (13, (.if_icmp .gt 29), 42, .null, 16, []),
  (16, (.aload_n 0), 0, .null, 17, []),
  (17, (.aload_n 0), 0, .null, 18, []),
  (18, (.iload_n 1), 1, .null, 19, []),
  (19, (.iload_n 2), 2, .null, 20, []),
  (20, (.invokevirtual 176), 147, .ref 92, 23, []),
  (23, (.invokevirtual 179), 148, .ref 91, 26, []),
  (26, (.aload_n 0), 0, .null, 27, []),
  (27, (.invokevirtual 137), 136, .ref 90, 30, []),
  (30, (.ifCond .ne 6), 36, .null, 33, []),
  (33, (.iload 4), 4, .null, 35, []),
  (35, (.ireturn), 0, .null, 36, []),
  (36, (.iinc 4 1), 4, .int 1, 39, []),
  (39, (.goto (-31)), 8, .null, 42, []),
  (42, (.bipush (-9)), 0, .int (-9), 44, []),
  (44, (.ireturn), 0, .null, 45, [])]
def kX8_kindOfSeeker : am_C := [(0, (.aload_n 0), 0, .null, 1, []),
  (1, (.getfield 19), 1, .ref 8, 4, []),
  (4, (.bipush 10), 0, .int 10, 6, []),
  (6, (.iconst 2), 0, .int 2, 7, []),
  (7, (.iload_n 1), 1, .null, 8, []),
  (8, (.imul), 0, .null, 9, []),
  (9, (.iadd), 0, .null, 10, []),
  (10, (.iaload), 0, .null, 11, []),
  (11, (.ireturn), 0, .null, 12, [])]
def kX8_search : am_C := [(0, (.aload_n 0), 0, .null, 1, []),
  (1, (.iload_n 1), 1, .null, 2, []),
  (2, (.invokevirtual 119), 129, .ref 91, 5, []),
  (5, (.ifCond .eq 9), 14, .null, 8, []),
  (8, (.aload_n 0), 0, .null, 9, []),
  (9, (.iconst (-1)), 0, .int (-1), 10, []),
  (10, (.invokevirtual 9), 110, .ref 91, 13, []),
  (13, (.ireturn), 0, .null, 14, []),
  (14, (.iload_n 2), 2, .null, 15, []),
  (15, (.ifCond .ge 10), 25, .null, 18, []),
  (18, (.aload_n 0), 0, .null, 19, []),
  (19, (.bipush (-4)), 0, .int (-4), 21, []),
  (21, (.invokevirtual 9), 110, .ref 91, 24, []),
  (24, (.ireturn), 0, .null, 25, []),
  (25, (.iload_n 2), 2, .null, 26, []),
  (26, (.sipush 999), 0, .int 999, 29, []),
  (29, (.if_icmp .le 10), 39, .null, 32, []),
  (32, (.aload_n 0), 0, .null, 33, []),
  (33, (.bipush (-6)), 0, .int (-6), 35, []),
  (35, (.invokevirtual 9), 110, .ref 91, 38, []),
  (38, (.ireturn), 0, .null, 39, []),
  (39, (.aload_n 0), 0, .null, 40, []),
  (40, (.aload_n 0), 0, .null, 41, []),
  (41, (.iload_n 1), 1, .null, 42, []),
  (42, (.invokevirtual 182), 151, .ref 91, 45, []),
  (45, (.iload_n 1), 1, .null, 46, []),
  (46, (.iload_n 2), 2, .null, 47, []),
  (47, (.invokevirtual 185), 150, .ref 93, 50, []),
  (50, (.ireturn), 0, .null, 51, [])]
def kX8_refusal : am_C := [(0, (.aload_n 0), 0, .null, 1, []),
  (1, (.iload_n 1), 1, .null, 2, []),
  (2, (.invokevirtual 119), 129, .ref 91, 5, []),
  (5, (.ifCond .eq 9), 14, .null, 8, []),
  (8, (.aload_n 0), 0, .null, 9, []),
  (9, (.iconst (-1)), 0, .int (-1), 10, []),
  (10, (.invokevirtual 9), 110, .ref 91, 13, []),
  (13, (.ireturn), 0, .null, 14, []),
  (14, (.iload_n 2), 2, .null, 15, []),
  (15, (.ifCond .lt 7), 22, .null, 18, []),
  (18, (.iload_n 3), 3, .null, 19, []),
  (19, (.ifCond .ge 10), 29, .null, 22, []),
  (22, (.aload_n 0), 0, .null, 23, []),
  (23, (.bipush (-4)), 0, .int (-4), 25, []),
  (25, (.invokevirtual 9), 110, .ref 91, 28, []),
  (28, (.ireturn), 0, .null, 29, []),
  (29, (.iload_n 2), 2, .null, 30, []),
  (30, (.sipush 999), 0, .int 999, 33, []),
  (33, (.if_icmp .gt 9), 42, .null, 36, []),
  (36, (.iload_n 3), 3, .null, 37, []),
  (37, (.bipush 60), 0, .int 60, 39, []),
  (39, (.if_icmp .le 12), 51, .null, 42, []),
  (42, (.aload_n 0), 0, .null, 43, []),
  (43, (.bipush (-6)), 0, .int (-6), 45, []),
  (45, (.invokevirtual 9), 110, .ref 91, 48, []),
  (48, (.goto 4), 52, .null, 51, []),
  (51, (.iconst 0), 0, .int 0, 52, []),
  (52, (.ireturn), 0, .null, 53, [])]
def kX8_lookOn : am_C := [(0, (.aload_n 0), 0, .null, 1, []),
  (1, (.iload_n 2), 2, .null, 2, []),
  (2, (.invokevirtual 173), 149, .ref 91, 5, []),
  (5, (.iconst 0), 0, .int 0, 6, []),
  (6, (.istore 4), 4, .null, 8, []),
  (8, (.iload 4), 4, .null, 10, []),
  (10, (.iload_n 3), 3, .null, 11, []),
  (11, (.if_icmp .ge 23), 34, .null, 14, []),
  (14, (.aload_n 0), 0, .null, 15, []),
  (15, (.aload_n 0), 0, .null, 16, []),
  (16, (.aload_n 0), 0, .null, 17, []),
  (17, (.iload_n 1), 1, .null, 18, []),
  (18, (.invokevirtual 182), 151, .ref 91, 21, []),
  (21, (.iload_n 1), 1, .null, 22, []),
  (22, (.invokevirtual 176), 147, .ref 92, 25, []),
  (25, (.invokevirtual 179), 148, .ref 91, 28, []),
  (28, (.iinc 4 1), 4, .int 1, 31, []),
  (31, (.goto (-23)), 8, .null, 34, []),
  (34, (.return_), 0, .null, 35, [])]
def kX8_left : am_C := [(0, (.aload_n 0), 0, .null, 1, []),
  (1, (.iload_n 1), 1, .null, 2, []),
  (2, (.iload_n 2), 2, .null, 3, []),
  (3, (.iload_n 3), 3, .null, 4, []),
  (4, (.invokevirtual 188), 153, .ref 93, 7, []),
  (7, (.istore 4), 4, .null, 9, []),
  (9, (.iload 4), 4, .null, 11, []),
  (11, (.ifCond .ge 6), 17, .null, 14, []),
  (14, (.iload 4), 4, .null, 16, []),
  (16, (.ireturn), 0, .null, 17, []),
  (17, (.aload_n 0), 0, .null, 18, []),
  (18, (.iload_n 1), 1, .null, 19, []),
  (19, (.iload_n 2), 2, .null, 20, []),
  (20, (.iload_n 3), 3, .null, 21, []),
  (21, (.invokevirtual 191), 154, .ref 93, 24, []),
  (24, (.aload_n 0), 0, .null, 25, []),
  (25, (.invokevirtual 137), 136, .ref 90, 28, []),
  (28, (.ireturn), 0, .null, 29, [])]
def kX8_looksAt : am_C := [(0, (.aload_n 0), 0, .null, 1, []),
  (1, (.iload_n 1), 1, .null, 2, []),
  (2, (.iload_n 2), 2, .null, 3, []),
  (3, (.iload_n 3), 3, .null, 4, []),
  (4, (.invokevirtual 188), 153, .ref 93, 7, []),
  (7, (.istore 4), 4, .null, 9, []),
  (9, (.iload 4), 4, .null, 11, []),
  (11, (.ifCond .ge 6), 17, .null, 14, []),
  (14, (.iload 4), 4, .null, 16, []),
  (16, (.ireturn), 0, .null, 17, []),
  (17, (.aload_n 0), 0, .null, 18, []),
  (18, (.iload_n 1), 1, .null, 19, []),
  (19, (.iload_n 2), 2, .null, 20, []),
  (20, (.iload_n 3), 3, .null, 21, []),
  (21, (.invokevirtual 191), 154, .ref 93, 24, []),
  (24, (.aload_n 0), 0, .null, 25, []),
  (25, (.aload_n 0), 0, .null, 26, []),
  (26, (.iload_n 1), 1, .null, 27, []),
  (27, (.invokevirtual 182), 151, .ref 91, 30, []),
  (30, (.iload_n 1), 1, .null, 31, []),
  (31, (.invokevirtual 176), 147, .ref 92, 34, []),
  (34, (.ireturn), 0, .null, 35, [])]
def kX8_bestSeeker : am_C := [(0, (.aload_n 0), 0, .null, 1, []),
  (1, (.iload_n 1), 1, .null, 2, []),
  (2, (.iload_n 2), 2, .null, 3, []),
  (3, (.iconst 0), 0, .int 0, 4, []),
  (4, (.invokevirtual 188), 153, .ref 93, 7, []),
  (7, (.istore_n 3), 3, .null, 8, []),
  (8, (.iload_n 3), 3, .null, 9, []),
  (9, (.ifCond .ge 5), 14, .null, 12, []),
  (12, (.iload_n 3), 3, .null, 13, []),
  (13, (.ireturn), 0, .null, 14, []),
  (14, (.bipush (-9)), 0, .int (-9), 16, []),
  (16, (.istore 4), 4, .null, 18, []),
  (18, (.sipush 201), 0, .int 201, 21, []),
  (21, (.istore 5), 5, .null, 23, []),
  (23, (.iconst 0), 0, .int 0, 24, []),
  (24, (.istore 6), 6, .null, 26, []),
  (26, (.iload 6), 6, .null, 28, []),
  (28, (.iconst 5), 0, .int 5, 29, []),
  (29, (.if_icmp .ge 41), 70, .null, 32, []),
  (32, (.aload_n 0), 0, .null, 33, []),
  (33, (.iload 6), 6, .null, 35, []),
  (35, (.iload_n 1), 1, .null, 36, []),
  (36, (.iload_n 2), 2, .null, 37, []),
  (37, (.invokevirtual 185), 150, .ref 93, 40, []),
  (40, (.istore 7), 7, .null, 42, []),
  (42, (.iload 7), 7, .null, 44, []),
  (44, (.bipush (-9)), 0, .int (-9), 46, []),
  (46, (.if_icmp .eq 18), 64, .null, 49, []),
  (49, (.iload 7), 7, .null, 51, []),
  (51, (.iload 5), 5, .null, 53, []),
  (53, (.if_icmp .ge 11), 64, .null, 56, []),
  (56, (.iload 6), 6, .null, 58, []),
  (58, (.istore 4), 4, .null, 60, []),
  (60, (.iload 7), 7, .null, 62, []),
  (62, (.istore 5), 5, .null, 64, []),
  (64, (.iinc 6 1), 6, .int 1, 67, []),
  (67, (.goto (-41)), 26, .null, 70, []),
  (70, (.iload 4), 4, .null, 72, []),
  (72, (.ireturn), 0, .null, 73, [])]
def kX8_together : am_C := [(0, (.aload_n 0), 0, .null, 1, []),
  (1, (.getfield 19), 1, .ref 8, 4, []),
  (4, (.iconst 3), 0, .int 3, 5, []),
  (5, (.iaload), 0, .null, 6, []),
  (6, (.ifCond .ne 10), 16, .null, 9, []),
  (9, (.aload_n 0), 0, .null, 10, []),
  (10, (.bipush (-3)), 0, .int (-3), 12, []),
  (12, (.invokevirtual 9), 110, .ref 91, 15, []),
  (15, (.ireturn), 0, .null, 16, []),
  (16, (.iload_n 1), 1, .null, 17, []),
  (17, (.ifCond .ge 10), 27, .null, 20, []),
  (20, (.aload_n 0), 0, .null, 21, []),
  (21, (.bipush (-4)), 0, .int (-4), 23, []),
  (23, (.invokevirtual 9), 110, .ref 91, 26, []),
  (26, (.ireturn), 0, .null, 27, []),
  (27, (.iload_n 1), 1, .null, 28, []),
  (28, (.sipush 999), 0, .int 999, 31, []),
  (31, (.if_icmp .le 10), 41, .null, 34, []),
  (34, (.aload_n 0), 0, .null, 35, []),
  (35, (.bipush (-6)), 0, .int (-6), 37, []),
  (37, (.invokevirtual 9), 110, .ref 91, 40, []),
  (40, (.ireturn), 0, .null, 41, []),
  (41, (.aload_n 0), 0, .null, 42, []),
  (42, (.iload_n 1), 1, .null, 43, []),
  (43, (.invokevirtual 173), 149, .ref 91, 46, []),
  (46, (.iconst 1), 0, .int 1, 47, []),
  (47, (.istore_n 2), 2, .null, 48, []),
  (48, (.iload_n 2), 2, .null, 49, []),
  (49, (.sipush 200), 0, .int 200, 52, []),
  (52, (.if_icmp .gt 43), 95, .null, 55, []),
  (55, (.iload_n 2), 2, .null, 56, []),
  (56, (.iconst 1), 0, .int 1, 57, []),
  (57, (.isub), 0, .null, 58, []),
  (58, (.aload_n 0), 0, .null, 59, []),
  (59, (.getfield 19), 1, .ref 8, 62, []),
  (62, (.iconst 3), 0, .int 3, 63, []),
  (63, (.iaload), 0, .null, 64, []),
  (64, (.irem), 0, .null, 65, []),
  (65, (.istore_n 3), 3, .null, 66, []),
  (66, (.aload_n 0), 0, .null, 67, []),
  (67, (.aload_n 0), 0, .null, 68, []),
  (68, (.aload_n 0), 0, .null, 69, []),
  (69, (.iload_n 3), 3, .null, 70, []),
  (70, (.invokevirtual 182), 151, .ref 91, 73, []),
  (73, (.iload_n 3), 3, .null, 74, []),
  (74, (.invokevirtual 176), 147, .ref 92, 77, []),
  (77, (.invokevirtual 179), 148, .ref 91, 80, []),
  (80, (.aload_n 0), 0, .null, 81, []),
  (81, (.invokevirtual 137), 136, .ref 90, 84, []),
  (84, (.ifCond .ne 5), 89, .null, 87, []),
  (87, (.iload_n 2), 2, .null, 88, []),
  (88, (.ireturn), 0, .null, 89, []),
  (89, (.iinc 2 1), 2, .int 1, 92, []),
  (92, (.goto (-44)), 48, .null, 95, []),
  (95, (.bipush (-9)), 0, .int (-9), 97, []),
  (97, (.ireturn), 0, .null, 98, [])]
def kX8_reached : am_C := [(0, (.aload_n 0), 0, .null, 1, []),
  (1, (.aload_n 0), 0, .null, 2, []),
  (2, (.getfield 19), 1, .ref 8, 5, []),
  (5, (.iconst 0), 0, .int 0, 6, []),
  (6, (.iaload), 0, .null, 7, []),
  (7, (.invokevirtual 130), 133, .ref 91, 10, []),
  (10, (.iconst 0), 0, .int 0, 11, []),
  (11, (.istore_n 1), 1, .null, 12, []),
  (12, (.iconst 0), 0, .int 0, 13, []),
  (13, (.istore_n 2), 2, .null, 14, []),
  (14, (.iload_n 2), 2, .null, 15, []),
  (15, (.bipush 36), 0, .int 36, 17, []),
  (17, (.if_icmp .ge 28), 45, .null, 20, []),
  (20, (.iload_n 1), 1, .null, 21, []),
  (21, (.aload_n 0), 0, .null, 22, []),
  (22, (.getfield 48), 15, .ref 8, 25, []),
  (25, (.iload_n 2), 2, .null, 26, []),
  (26, (.iaload), 0, .null, 27, []),
  (27, (.ldc 122), 0, .int 100000, 29, []),
  (29, (.if_icmp .ge 7), 36, .null, 32, []),
  (32, (.iconst 1), 0, .int 1, 33, []),
  (33, (.goto 4), 37, .null, 36, []),
  (36, (.iconst 0), 0, .int 0, 37, []),
  (37, (.iadd), 0, .null, 38, []),
  (38, (.istore_n 1), 1, .null, 39, []),
  (39, (.iinc 2 1), 2, .int 1, 42, []),
  (42, (.goto (-28)), 14, .null, 45, []),
  (45, (.iload_n 1), 1, .null, 46, []),
  (46, (.ireturn), 0, .null, 47, [])]
def kX8_hold : am_C := [(0, (.iload_n 1), 1, .null, 1, []),
  (1, (.ifCond .lt 8), 9, .null, 4, []),
  (4, (.iload_n 1), 1, .null, 5, []),
  (5, (.iconst 2), 0, .int 2, 6, []),
  (6, (.if_icmp .le 10), 16, .null, 9, []),
  (9, (.aload_n 0), 0, .null, 10, []),
  (10, (.bipush (-2)), 0, .int (-2), 12, []),
  (12, (.invokevirtual 9), 110, .ref 91, 15, []),
  (15, (.ireturn), 0, .null, 16, []),
  (16, (.iconst 0), 0, .int 0, 17, []),
  (17, (.istore_n 2), 2, .null, 18, []),
  (18, (.iload_n 2), 2, .null, 19, []),
  (19, (.aload_n 0), 0, .null, 20, []),
  (20, (.getfield 195), 21, .ref 8, 23, []),
  (23, (.if_icmp .ge 27), 50, .null, 26, []),
  (26, (.aload_n 0), 0, .null, 27, []),
  (27, (.getfield 60), 20, .ref 8, 30, []),
  (30, (.iload_n 2), 2, .null, 31, []),
  (31, (.iaload), 0, .null, 32, []),
  (32, (.bipush 36), 0, .int 36, 34, []),
  (34, (.if_icmp .lt 10), 44, .null, 37, []),
  (37, (.aload_n 0), 0, .null, 38, []),
  (38, (.bipush (-3)), 0, .int (-3), 40, []),
  (40, (.invokevirtual 9), 110, .ref 91, 43, []),
  (43, (.ireturn), 0, .null, 44, []),
  (44, (.iinc 2 1), 2, .int 1, 47, []),
  (47, (.goto (-29)), 18, .null, 50, []),
  (50, (.iconst 0), 0, .int 0, 51, []),
  (51, (.istore_n 2), 2, .null, 52, []),
  (52, (.iload_n 2), 2, .null, 53, []),
  (53, (.aload_n 0), 0, .null, 54, []),
  (54, (.getfield 195), 21, .ref 8, 57, []),
  (57, (.if_icmp .ge 40), 97, .null, 60, []),
  (60, (.aload_n 0), 0, .null, 61, []),
  (61, (.getfield 44), 14, .ref 8, 64, []),
  (64, (.aload_n 0), 0, .null, 65, []),
  (65, (.getfield 60), 20, .ref 8, 68, []),
  (68, (.iload_n 2), 2, .null, 69, []),
  (69, (.iaload), 0, .null, 70, []),
  (70, (.aload_n 0), 0, .null, 71, []),
  (71, (.getfield 60), 20, .ref 8, 74, []),
  (74, (.iload_n 2), 2, .null, 75, []),
  (75, (.iaload), 0, .null, 76, []),
  (76, (.aload_n 0), 0, .null, 77, []),
  (77, (.getfield 19), 1, .ref 8, 80, []),
  (80, (.iconst 0), 0, .int 0, 81, []),
  (81, (.iaload), 0, .null, 82, []),
  (82, (.if_icmp .eq 7), 89, .null, 85, []),
  (85, (.iconst 1), 0, .int 1, 86, []),
  (86, (.goto 4), 90, .null, 89, []),
  (89, (.iconst 0), 0, .int 0, 90, []),
  (90, (.bastore), 0, .null, 91, []),
  (91, (.iinc 2 1), 2, .int 1, 94, []),
  (94, (.goto (-42)), 52, .null, 97, []),
  (97, (.iload_n 1), 1, .null, 98, []),
  (98, (.ifCond .ne 21), 119, .null, 101, []),
  (101, (.aload_n 0), 0, .null, 102, []),
  (102, (.invokevirtual 145), 138, .ref 90, 105, []),
  (105, (.ldc 122), 0, .int 100000, 107, []),
  (107, (.if_icmp .ge 7), 114, .null, 110, []),
  (110, (.iconst 1), 0, .int 1, 111, []),
  (111, (.goto 4), 115, .null, 114, []),
  (114, (.iconst 0), 0, .int 0, 115, []),
  (115, (.istore_n 2), 2, .null, 116, []),
  (116, (.goto 21), 137, .null, 119, []),
  (119, (.iload_n 1), 1, .null, 120, []),
  (120, (.iconst 1), 0, .int 1, 121, []),
  (121, (.if_icmp .ne 11), 132, .null, 124, []),
  (124, (.aload_n 0), 0, .null, 125, []),
  (125, (.invokevirtual 198), 159, .ref 90, 128, []),
  (128, (.istore_n 2), 2, .null, 129, []),
  (129, (.goto 8), 137, .null, 132, []),
  (132, (.aload_n 0), 0, .null, 133, []),
  (133, (.invokevirtual 201), 161, .ref 90, 136, []),
  (136, (.istore_n 2), 2, .null, 137, []),
  (137, (.aload_n 0), 0, .null, 138, []),
  (138, (.invokevirtual 148), 140, .ref 90, 141, []),
  (141, (.iload_n 2), 2, .null, 142, []),
  (142, (.ireturn), 0, .null, 143, [])]
def kX8_oneMore : am_C := [(0, (.bipush (-9)), 0, .int (-9), 2, []),
  (2, (.istore_n 1), 1, .null, 3, []),
  (3, (.ldc 122), 0, .int 100000, 5, []),
  (5, (.istore_n 2), 2, .null, 6, []),
  (6, (.iconst 0), 0, .int 0, 7, []),
  (7, (.istore_n 3), 3, .null, 8, []),
  (8, (.iload_n 3), 3, .null, 9, []),
  (9, (.bipush 36), 0, .int 36, 11, []),
  (11, (.if_icmp .ge 71), 82, .null, 14, []),
  (14, (.aload_n 0), 0, .null, 15, []),
  (15, (.getfield 44), 14, .ref 8, 18, []),
  (18, (.iload_n 3), 3, .null, 19, []),
  (19, (.baload), 0, .null, 20, []),
  (20, (.istore 4), 4, .null, 22, []),
  (22, (.aload_n 0), 0, .null, 23, []),
  (23, (.getfield 44), 14, .ref 8, 26, []),
  (26, (.iload_n 3), 3, .null, 27, []),
  (27, (.iload_n 3), 3, .null, 28, []),
  (28, (.aload_n 0), 0, .null, 29, []),
  (29, (.getfield 19), 1, .ref 8, 32, []),
  (32, (.iconst 0), 0, .int 0, 33, []),
  (33, (.iaload), 0, .null, 34, []),
  (34, (.if_icmp .eq 7), 41, .null, 37, []),
  (37, (.iconst 1), 0, .int 1, 38, []),
  (38, (.goto 4), 42, .null, 41, []),
  (41, (.iconst 0), 0, .int 0, 42, []),
  (42, (.bastore), 0, .null, 43, []),
  (43, (.aload_n 0), 0, .null, 44, []),
  (44, (.invokevirtual 198), 159, .ref 90, 47, []),
  (47, (.istore 5), 5, .null, 49, []),
  (49, (.aload_n 0), 0, .null, 50, []),
  (50, (.getfield 44), 14, .ref 8, 53, []),
  (53, (.iload_n 3), 3, .null, 54, []),
  (54, (.iload 4), 4, .null, 56, []),
  (56, (.bastore), 0, .null, 57, []),
  (57, (.iload 5), 5, .null, 59, []),
  (59, (.iload_n 2), 2, .null, 60, []),
  (60, (.if_icmp .ge 7), 67, .null, 63, []),
  (63, (.iload_n 3), 3, .null, 64, []),
  (64, (.goto 4), 68, .null, 67, []),
  (67, (.iload_n 1), 1, .null, 68, []),
  (68, (.istore_n 1), 1, .null, 69, []),
  (69, (.iload_n 2), 2, .null, 70, []),
  (70, (.iload 5), 5, .null, 72, []),
  (72, (.invokestatic 140), 1001, .null, 75, []),
  (75, (.istore_n 2), 2, .null, 76, []),
  (76, (.iinc 3 1), 3, .int 1, 79, []),
  (79, (.goto (-71)), 8, .null, 82, []),
  (82, (.iload_n 1), 1, .null, 83, []),
  (83, (.ireturn), 0, .null, 84, [])]
def kX8_waysOf : am_C := [(0, (.iconst 0), 0, .int 0, 1, []),
  (1, (.istore_n 2), 2, .null, 2, []),
  (2, (.iload_n 2), 2, .null, 3, []),
  (3, (.bipush 36), 0, .int 36, 5, []),
  (5, (.if_icmp .ge 30), 35, .null, 8, []),
  (8, (.aload_n 0), 0, .null, 9, []),
  (9, (.getfield 63), 22, .ref 8, 12, []),
  (12, (.iload_n 2), 2, .null, 13, []),
  (13, (.iload_n 2), 2, .null, 14, []),
  (14, (.aload_n 0), 0, .null, 15, []),
  (15, (.getfield 19), 1, .ref 8, 18, []),
  (18, (.iconst 0), 0, .int 0, 19, []),
  (19, (.iaload), 0, .null, 20, []),
  (20, (.if_icmp .ne 7), 27, .null, 23, []),
  (23, (.lconst 1), 0, .long 1, 24, []),
  (24, (.goto 4), 28, .null, 27, []),
  (27, (.lconst 0), 0, .long 0, 28, []),
  (28, (.lastore), 0, .null, 29, []),
  (29, (.iinc 2 1), 2, .int 1, 32, []),
  (32, (.goto (-30)), 2, .null, 35, []),
  (35, (.iconst 0), 0, .int 0, 36, []),
  (36, (.istore_n 2), 2, .null, 37, []),
  (37, (.iload_n 2), 2, .null, 38, []),
  (38, (.iload_n 1), 1, .null, 39, []),
  (39, (.if_icmp .ge 139), 178, .null, 42, []),
  (42, (.iconst 0), 0, .int 0, 43, []),
  (43, (.istore_n 3), 3, .null, 44, []),
  (44, (.iload_n 3), 3, .null, 45, []),
  (45, (.bipush 36), 0, .int 36, 47, []),
  (47, (.if_icmp .ge 21), 68, .null, 50, []),
  (50, (.aload_n 0), 0, .null, 51, []),
  (51, (.getfield 67), 23, .ref 8, 54, []),
  (54, (.iload_n 3), 3, .null, 55, []),
  (55, (.aload_n 0), 0, .null, 56, []),
  (56, (.getfield 63), 22, .ref 8, 59, []),
  (59, (.iload_n 3), 3, .null, 60, []),
  (60, (.laload), 0, .null, 61, []),
  (61, (.lastore), 0, .null, 62, []),
  (62, (.iinc 3 1), 3, .int 1, 65, []),
  (65, (.goto (-21)), 44, .null, 68, []),
  (68, (.iconst 0), 0, .int 0, 69, []),
  (69, (.istore_n 3), 3, .null, 70, []),
  (70, (.iload_n 3), 3, .null, 71, []),
  (71, (.bipush 36), 0, .int 36, 73, []),
  (73, (.if_icmp .ge 73), 146, .null, 76, []),
  (76, (.iconst 0), 0, .int 0, 77, []),
  (77, (.istore 4), 4, .null, 79, []),
  (79, (.iload 4), 4, .null, 81, []),
  (81, (.iconst 4), 0, .int 4, 82, []),
  (82, (.if_icmp .ge 58), 140, .null, 85, []),
  (85, (.aload_n 0), 0, .null, 86, []),
  (86, (.iload_n 3), 3, .null, 87, []),
  (87, (.invokevirtual 98), 116, .ref 91, 90, []),
  (90, (.iconst 5), 0, .int 5, 91, []),
  (91, (.if_icmp .eq 49), 140, .null, 94, []),
  (94, (.iload_n 3), 3, .null, 95, []),
  (95, (.iload 4), 4, .null, 97, []),
  (97, (.invokestatic 123), 132, .ref 2, 100, []),
  (100, (.istore 5), 5, .null, 102, []),
  (102, (.iload 5), 5, .null, 104, []),
  (104, (.bipush (-9)), 0, .int (-9), 106, []),
  (106, (.if_icmp .eq 28), 134, .null, 109, []),
  (109, (.aload_n 0), 0, .null, 110, []),
  (110, (.iload 5), 5, .null, 112, []),
  (112, (.invokevirtual 127), 124, .ref 91, 115, []),
  (115, (.ifCond .eq 19), 134, .null, 118, []),
  (118, (.aload_n 0), 0, .null, 119, []),
  (119, (.getfield 67), 23, .ref 8, 122, []),
  (122, (.iload 5), 5, .null, 124, []),
  (124, (.dup2), 0, .null, 125, []),
  (125, (.laload), 0, .null, 126, []),
  (126, (.aload_n 0), 0, .null, 127, []),
  (127, (.getfield 63), 22, .ref 8, 130, []),
  (130, (.iload_n 3), 3, .null, 131, []),
  (131, (.laload), 0, .null, 132, []),
  (132, (.ladd), 0, .null, 133, []),
  (133, (.lastore), 0, .null, 134, []),
  (134, (.iinc 4 1), 4, .int 1, 137, []),
  (137, (.goto (-58)), 79, .null, 140, []),
  (140, (.iinc 3 1), 3, .int 1, 143, []),
  (143, (.goto (-73)), 70, .null, 146, []),
  (146, (.iconst 0), 0, .int 0, 147, []),
  (147, (.istore_n 3), 3, .null, 148, []),
  (148, (.iload_n 3), 3, .null, 149, []),
  (149, (.bipush 36), 0, .int 36, 151, []),
  (151, (.if_icmp .ge 21), 172, .null, 154, []),
  (154, (.aload_n 0), 0, .null, 155, []),
  (155, (.getfield 63), 22, .ref 8, 158, []),
  (158, (.iload_n 3), 3, .null, 159, []),
  (159, (.aload_n 0), 0, .null, 160, []),
  (160, (.getfield 67), 23, .ref 8, 163, []),
  (163, (.iload_n 3), 3, .null, 164, []),
  (164, (.laload), 0, .null, 165, []),
  (165, (.lastore), 0, .null, 166, []),
  (166, (.iinc 3 1), 3, .int 1, 169, []),
  (169, (.goto (-21)), 148, .null, 172, []),
  (172, (.iinc 2 1), 2, .int 1, 175, []),
  (175, (.goto (-138)), 37, .null, 178, []),
  (178, (.lconst 0), 0, .long 0, 179, []),
  (179, (.lstore_n 2), 2, .null, 180, []),
  (180, (.iconst 0), 0, .int 0, 181, []),
  (181, (.istore 4), 4, .null, 183, []),
  (183, (.iload 4), 4, .null, 185, []),
  (185, (.bipush 36), 0, .int 36, 187, []),
  (187, (.if_icmp .ge 19), 206, .null, 190, []),
  (190, (.lload_n 2), 2, .null, 191, []),
  (191, (.aload_n 0), 0, .null, 192, []),
  (192, (.getfield 63), 22, .ref 8, 195, []),
  (195, (.iload 4), 4, .null, 197, []),
  (197, (.laload), 0, .null, 198, []),
  (198, (.ladd), 0, .null, 199, []),
  (199, (.lstore_n 2), 2, .null, 200, []),
  (200, (.iinc 4 1), 4, .int 1, 203, []),
  (203, (.goto (-20)), 183, .null, 206, []),
  (206, (.lload_n 2), 2, .null, 207, []),
  (207, (.lreturn), 0, .null, 208, [])]
def kX8_ways : am_C := [(0, (.iload_n 1), 1, .null, 1, []),
  (1, (.ifCond .ge 10), 11, .null, 4, []),
  (4, (.aload_n 0), 0, .null, 5, []),
  (5, (.bipush (-4)), 0, .int (-4), 7, []),
  (7, (.invokevirtual 204), 111, .ref 91, 10, []),
  (10, (.lreturn), 0, .null, 11, []),
  (11, (.iload_n 1), 1, .null, 12, []),
  (12, (.bipush 20), 0, .int 20, 14, []),
  (14, (.if_icmp .le 10), 24, .null, 17, []),
  (17, (.aload_n 0), 0, .null, 18, []),
  (18, (.bipush (-6)), 0, .int (-6), 20, []),
  (20, (.invokevirtual 204), 111, .ref 91, 23, []),
  (23, (.lreturn), 0, .null, 24, []),
  (24, (.iload_n 2), 2, .null, 25, []),
  (25, (.invokestatic 112), 115, .ref 1, 28, []),
  (28, (.ifCond .eq 9), 37, .null, 31, []),
  (31, (.aload_n 0), 0, .null, 32, []),
  (32, (.iconst (-1)), 0, .int (-1), 33, []),
  (33, (.invokevirtual 204), 111, .ref 91, 36, []),
  (36, (.lreturn), 0, .null, 37, []),
  (37, (.aload_n 0), 0, .null, 38, []),
  (38, (.iload_n 1), 1, .null, 39, []),
  (39, (.invokevirtual 208), 162, .ref 91, 42, []),
  (42, (.pop2), 0, .null, 43, []),
  (43, (.aload_n 0), 0, .null, 44, []),
  (44, (.getfield 63), 22, .ref 8, 47, []),
  (47, (.iload_n 2), 2, .null, 48, []),
  (48, (.laload), 0, .null, 49, []),
  (49, (.lreturn), 0, .null, 50, [])]
def kX8_likely : am_C := [(0, (.iload_n 1), 1, .null, 1, []),
  (1, (.ifCond .ge 10), 11, .null, 4, []),
  (4, (.aload_n 0), 0, .null, 5, []),
  (5, (.bipush (-4)), 0, .int (-4), 7, []),
  (7, (.invokevirtual 204), 111, .ref 91, 10, []),
  (10, (.lreturn), 0, .null, 11, []),
  (11, (.iload_n 1), 1, .null, 12, []),
  (12, (.bipush 20), 0, .int 20, 14, []),
  (14, (.if_icmp .le 10), 24, .null, 17, []),
  (17, (.aload_n 0), 0, .null, 18, []),
  (18, (.bipush (-6)), 0, .int (-6), 20, []),
  (20, (.invokevirtual 204), 111, .ref 91, 23, []),
  (23, (.lreturn), 0, .null, 24, []),
  (24, (.iload_n 2), 2, .null, 25, []),
  (25, (.invokestatic 112), 115, .ref 1, 28, []),
  (28, (.ifCond .eq 9), 37, .null, 31, []),
  (31, (.aload_n 0), 0, .null, 32, []),
  (32, (.iconst (-1)), 0, .int (-1), 33, []),
  (33, (.invokevirtual 204), 111, .ref 91, 36, []),
  (36, (.lreturn), 0, .null, 37, []),
  (37, (.iload_n 3), 3, .null, 38, []),
  (38, (.ifCond .eq 15), 53, .null, 41, []),
  (41, (.iload_n 3), 3, .null, 42, []),
  (42, (.iconst 1), 0, .int 1, 43, []),
  (43, (.if_icmp .eq 10), 53, .null, 46, []),
  (46, (.aload_n 0), 0, .null, 47, []),
  (47, (.bipush (-2)), 0, .int (-2), 49, []),
  (49, (.invokevirtual 204), 111, .ref 91, 52, []),
  (52, (.lreturn), 0, .null, 53, []),
  (53, (.aload_n 0), 0, .null, 54, []),
  (54, (.iload_n 1), 1, .null, 55, []),
  (55, (.invokevirtual 208), 162, .ref 91, 58, []),
  (58, (.lstore 4), 4, .null, 60, []),
  (60, (.aload_n 0), 0, .null, 61, []),
  (61, (.getfield 63), 22, .ref 8, 64, []),
  (64, (.iload_n 2), 2, .null, 65, []),
  (65, (.laload), 0, .null, 66, []),
  (66, (.lstore 6), 6, .null, 68, []),
  (68, (.lload 4), 4, .null, 70, []),
  (70, (.lstore 8), 8, .null, 72, []),
  (72, (.lload 8), 8, .null, 74, []),
  (74, (.lconst 0), 0, .long 0, 75, []),
  (75, (.lcmp), 0, .null, 76, []),
  (76, (.ifCond .eq 21), 97, .null, 79, []),
  (79, (.lload 6), 6, .null, 81, []),
  (81, (.lload 8), 8, .null, 83, []),
  (83, (.lrem), 0, .null, 84, []),
  (84, (.lstore 10), 10, .null, 86, []),
  (86, (.lload 8), 8, .null, 88, []),
  (88, (.lstore 6), 6, .null, 90, []),
  (90, (.lload 10), 10, .null, 92, []),
  (92, (.lstore 8), 8, .null, 94, []),
  (94, (.goto (-22)), 72, .null, 97, []),
  (97, (.iload_n 3), 3, .null, 98, []),
  (98, (.ifCond .ne 15), 113, .null, 101, []),
  (101, (.aload_n 0), 0, .null, 102, []),
  (102, (.getfield 63), 22, .ref 8, 105, []),
  (105, (.iload_n 2), 2, .null, 106, []),
  (106, (.laload), 0, .null, 107, []),
  (107, (.lload 6), 6, .null, 109, []),
  (109, (.ldiv), 0, .null, 110, []),
  (110, (.goto 8), 118, .null, 113, []),
  (113, (.lload 4), 4, .null, 115, []),
  (115, (.lload 6), 6, .null, 117, []),
  (117, (.ldiv), 0, .null, 118, []),
  (118, (.lreturn), 0, .null, 119, [])]
def kX8_likeliest : am_C := [(0, (.iload_n 1), 1, .null, 1, []),
  (1, (.ifCond .ge 10), 11, .null, 4, []),
  (4, (.aload_n 0), 0, .null, 5, []),
  (5, (.bipush (-4)), 0, .int (-4), 7, []),
  (7, (.invokevirtual 9), 110, .ref 91, 10, []),
  (10, (.ireturn), 0, .null, 11, []),
  (11, (.iload_n 1), 1, .null, 12, []),
  (12, (.bipush 20), 0, .int 20, 14, []),
  (14, (.if_icmp .le 10), 24, .null, 17, []),
  (17, (.aload_n 0), 0, .null, 18, []),
  (18, (.bipush (-6)), 0, .int (-6), 20, []),
  (20, (.invokevirtual 9), 110, .ref 91, 23, []),
  (23, (.ireturn), 0, .null, 24, []),
  (24, (.aload_n 0), 0, .null, 25, []),
  (25, (.iload_n 1), 1, .null, 26, []),
  (26, (.invokevirtual 208), 162, .ref 91, 29, []),
  (29, (.pop2), 0, .null, 30, []),
  (30, (.iconst 0), 0, .int 0, 31, []),
  (31, (.istore_n 2), 2, .null, 32, []),
  (32, (.iconst 1), 0, .int 1, 33, []),
  (33, (.istore_n 3), 3, .null, 34, []),
  (34, (.iload_n 3), 3, .null, 35, []),
  (35, (.bipush 36), 0, .int 36, 37, []),
  (37, (.if_icmp .ge 31), 68, .null, 40, []),
  (40, (.aload_n 0), 0, .null, 41, []),
  (41, (.getfield 63), 22, .ref 8, 44, []),
  (44, (.iload_n 3), 3, .null, 45, []),
  (45, (.laload), 0, .null, 46, []),
  (46, (.aload_n 0), 0, .null, 47, []),
  (47, (.getfield 63), 22, .ref 8, 50, []),
  (50, (.iload_n 2), 2, .null, 51, []),
  (51, (.laload), 0, .null, 52, []),
  (52, (.lcmp), 0, .null, 53, []),
  (53, (.ifCond .le 7), 60, .null, 56, []),
  (56, (.iload_n 3), 3, .null, 57, []),
  (57, (.goto 4), 61, .null, 60, []),
  (60, (.iload_n 2), 2, .null, 61, []),
  (61, (.istore_n 2), 2, .null, 62, []),
  (62, (.iinc 3 1), 3, .int 1, 65, []),
  (65, (.goto (-31)), 34, .null, 68, []),
  (68, (.iload_n 2), 2, .null, 69, []),
  (69, (.ireturn), 0, .null, 70, [])]
def kX8_turning : am_C := [(0, (.iload_n 1), 1, .null, 1, []),
  (1, (.ifCond .lt 8), 9, .null, 4, []),
  (4, (.iload_n 1), 1, .null, 5, []),
  (5, (.iconst 3), 0, .int 3, 6, []),
  (6, (.if_icmp .le 10), 16, .null, 9, []),
  (9, (.aload_n 0), 0, .null, 10, []),
  (10, (.bipush (-2)), 0, .int (-2), 12, []),
  (12, (.invokevirtual 9), 110, .ref 91, 15, []),
  (15, (.ireturn), 0, .null, 16, []),
  (16, (.iload_n 2), 2, .null, 17, []),
  (17, (.ifCond .ge 10), 27, .null, 20, []),
  (20, (.aload_n 0), 0, .null, 21, []),
  (21, (.bipush (-4)), 0, .int (-4), 23, []),
  (23, (.invokevirtual 9), 110, .ref 91, 26, []),
  (26, (.ireturn), 0, .null, 27, []),
  (27, (.iload_n 2), 2, .null, 28, []),
  (28, (.bipush 99), 0, .int 99, 30, []),
  (30, (.if_icmp .le 10), 40, .null, 33, []),
  (33, (.aload_n 0), 0, .null, 34, []),
  (34, (.bipush (-6)), 0, .int (-6), 36, []),
  (36, (.invokevirtual 9), 110, .ref 91, 39, []),
  (39, (.ireturn), 0, .null, 40, []),
  (40, (.aload_n 0), 0, .null, 41, []),
  (41, (.getfield 19), 1, .ref 8, 44, []),
  (44, (.iconst 0), 0, .int 0, 45, []),
  (45, (.iaload), 0, .null, 46, []),
  (46, (.istore_n 3), 3, .null, 47, []),
  (47, (.iload_n 1), 1, .null, 48, []),
  (48, (.istore 4), 4, .null, 50, []),
  (50, (.iconst 0), 0, .int 0, 51, []),
  (51, (.istore 5), 5, .null, 53, []),
  (53, (.iload 5), 5, .null, 55, []),
  (55, (.iload_n 2), 2, .null, 56, []),
  (56, (.if_icmp .ge 76), 132, .null, 59, []),
  (59, (.iload_n 3), 3, .null, 60, []),
  (60, (.iload 4), 4, .null, 62, []),
  (62, (.iconst 2), 0, .int 2, 63, []),
  (63, (.if_icmp .ne 7), 70, .null, 66, []),
  (66, (.iconst 3), 0, .int 3, 67, []),
  (67, (.goto 15), 82, .null, 70, []),
  (70, (.iload 4), 4, .null, 72, []),
  (72, (.iconst 3), 0, .int 3, 73, []),
  (73, (.if_icmp .ne 7), 80, .null, 76, []),
  (76, (.iconst 2), 0, .int 2, 77, []),
  (77, (.goto 5), 82, .null, 80, []),
  (80, (.iload 4), 4, .null, 82, []),
  (82, (.invokestatic 123), 132, .ref 2, 85, []),
  (85, (.istore 6), 6, .null, 87, []),
  (87, (.iload 6), 6, .null, 89, []),
  (89, (.bipush (-9)), 0, .int (-9), 91, []),
  (91, (.if_icmp .eq 27), 118, .null, 94, []),
  (94, (.aload_n 0), 0, .null, 95, []),
  (95, (.iload 6), 6, .null, 97, []),
  (97, (.invokevirtual 127), 124, .ref 91, 100, []),
  (100, (.ifCond .eq 18), 118, .null, 103, []),
  (103, (.aload_n 0), 0, .null, 104, []),
  (104, (.iload_n 3), 3, .null, 105, []),
  (105, (.invokevirtual 98), 116, .ref 91, 108, []),
  (108, (.iconst 5), 0, .int 5, 109, []),
  (109, (.if_icmp .eq 9), 118, .null, 112, []),
  (112, (.iload 6), 6, .null, 114, []),
  (114, (.istore_n 3), 3, .null, 115, []),
  (115, (.goto 11), 126, .null, 118, []),
  (118, (.iload 4), 4, .null, 120, []),
  (120, (.iconst 1), 0, .int 1, 121, []),
  (121, (.iadd), 0, .null, 122, []),
  (122, (.iconst 4), 0, .int 4, 123, []),
  (123, (.irem), 0, .null, 124, []),
  (124, (.istore 4), 4, .null, 126, []),
  (126, (.iinc 5 1), 5, .int 1, 129, []),
  (129, (.goto (-76)), 53, .null, 132, []),
  (132, (.iload_n 3), 3, .null, 133, []),
  (133, (.ireturn), 0, .null, 134, [])]
def kX8_firstWrong : am_C := [(0, (.iload_n 1), 1, .null, 1, []),
  (1, (.istore_n 2), 2, .null, 2, []),
  (2, (.iconst 0), 0, .int 0, 3, []),
  (3, (.istore_n 3), 3, .null, 4, []),
  (4, (.iconst 0), 0, .int 0, 5, []),
  (5, (.istore 4), 4, .null, 7, []),
  (7, (.iconst 2), 0, .int 2, 8, []),
  (8, (.iload 4), 4, .null, 10, []),
  (10, (.imul), 0, .null, 11, []),
  (11, (.aload_n 0), 0, .null, 12, []),
  (12, (.getfield 195), 21, .ref 8, 15, []),
  (15, (.if_icmp .ge 80), 95, .null, 18, []),
  (18, (.aload_n 0), 0, .null, 19, []),
  (19, (.getfield 60), 20, .ref 8, 22, []),
  (22, (.iconst 2), 0, .int 2, 23, []),
  (23, (.iload 4), 4, .null, 25, []),
  (25, (.imul), 0, .null, 26, []),
  (26, (.iaload), 0, .null, 27, []),
  (27, (.istore 5), 5, .null, 29, []),
  (29, (.aload_n 0), 0, .null, 30, []),
  (30, (.getfield 60), 20, .ref 8, 33, []),
  (33, (.iconst 2), 0, .int 2, 34, []),
  (34, (.iload 4), 4, .null, 36, []),
  (36, (.imul), 0, .null, 37, []),
  (37, (.iconst 1), 0, .int 1, 38, []),
  (38, (.iadd), 0, .null, 39, []),
  (39, (.iaload), 0, .null, 40, []),
  (40, (.istore 6), 6, .null, 42, []),
  (42, (.aload_n 0), 0, .null, 43, []),
  (43, (.iload_n 2), 2, .null, 44, []),
  (44, (.invokevirtual 130), 133, .ref 91, 47, []),
  (47, (.aload_n 0), 0, .null, 48, []),
  (48, (.getfield 48), 15, .ref 8, 51, []),
  (51, (.iload 5), 5, .null, 53, []),
  (53, (.iaload), 0, .null, 54, []),
  (54, (.ldc 122), 0, .int 100000, 56, []),
  (56, (.if_icmp .eq 24), 80, .null, 59, []),
  (59, (.aload_n 0), 0, .null, 60, []),
  (60, (.getfield 48), 15, .ref 8, 63, []),
  (63, (.iload 5), 5, .null, 65, []),
  (65, (.iaload), 0, .null, 66, []),
  (66, (.aload_n 0), 0, .null, 67, []),
  (67, (.getfield 19), 1, .ref 8, 70, []),
  (70, (.iconst 1), 0, .int 1, 71, []),
  (71, (.iaload), 0, .null, 72, []),
  (72, (.imul), 0, .null, 73, []),
  (73, (.iload 6), 6, .null, 75, []),
  (75, (.iload_n 3), 3, .null, 76, []),
  (76, (.isub), 0, .null, 77, []),
  (77, (.if_icmp .le 6), 83, .null, 80, []),
  (80, (.iload 4), 4, .null, 82, []),
  (82, (.ireturn), 0, .null, 83, []),
  (83, (.iload 5), 5, .null, 85, []),
  (85, (.istore_n 2), 2, .null, 86, []),
  (86, (.iload 6), 6, .null, 88, []),
  (88, (.istore_n 3), 3, .null, 89, []),
  (89, (.iinc 4 1), 4, .int 1, 92, []),
  (92, (.goto (-85)), 7, .null, 95, []),
  (95, (.bipush (-9)), 0, .int (-9), 97, []),
  (97, (.ireturn), 0, .null, 98, [])]
def kX8_finds : am_C := [(0, (.iload_n 1), 1, .null, 1, []),
  (1, (.ifCond .lt 8), 9, .null, 4, []),
  (4, (.iload_n 1), 1, .null, 5, []),
  (5, (.iconst 2), 0, .int 2, 6, []),
  (6, (.if_icmp .le 10), 16, .null, 9, []),
  (9, (.aload_n 0), 0, .null, 10, []),
  (10, (.bipush (-2)), 0, .int (-2), 12, []),
  (12, (.invokevirtual 9), 110, .ref 91, 15, []),
  (15, (.ireturn), 0, .null, 16, []),
  (16, (.aload_n 0), 0, .null, 17, []),
  (17, (.getfield 195), 21, .ref 8, 20, []),
  (20, (.iconst 2), 0, .int 2, 21, []),
  (21, (.irem), 0, .null, 22, []),
  (22, (.ifCond .ne 7), 29, .null, 25, []),
  (25, (.iconst 1), 0, .int 1, 26, []),
  (26, (.goto 4), 30, .null, 29, []),
  (29, (.iconst 0), 0, .int 0, 30, []),
  (30, (.istore_n 2), 2, .null, 31, []),
  (31, (.iconst 0), 0, .int 0, 32, []),
  (32, (.istore_n 3), 3, .null, 33, []),
  (33, (.iload_n 3), 3, .null, 34, []),
  (34, (.aload_n 0), 0, .null, 35, []),
  (35, (.getfield 195), 21, .ref 8, 38, []),
  (38, (.if_icmp .ge 30), 68, .null, 41, []),
  (41, (.iload_n 2), 2, .null, 42, []),
  (42, (.ifCond .eq 18), 60, .null, 45, []),
  (45, (.aload_n 0), 0, .null, 46, []),
  (46, (.getfield 60), 20, .ref 8, 49, []),
  (49, (.iload_n 3), 3, .null, 50, []),
  (50, (.iaload), 0, .null, 51, []),
  (51, (.bipush 36), 0, .int 36, 53, []),
  (53, (.if_icmp .ge 7), 60, .null, 56, []),
  (56, (.iconst 1), 0, .int 1, 57, []),
  (57, (.goto 4), 61, .null, 60, []),
  (60, (.iconst 0), 0, .int 0, 61, []),
  (61, (.istore_n 2), 2, .null, 62, []),
  (62, (.iinc 3 2), 3, .int 2, 65, []),
  (65, (.goto (-32)), 33, .null, 68, []),
  (68, (.iload_n 2), 2, .null, 69, []),
  (69, (.ifCond .ne 10), 79, .null, 72, []),
  (72, (.aload_n 0), 0, .null, 73, []),
  (73, (.bipush (-3)), 0, .int (-3), 75, []),
  (75, (.invokevirtual 9), 110, .ref 91, 78, []),
  (78, (.ireturn), 0, .null, 79, []),
  (79, (.iload_n 1), 1, .null, 80, []),
  (80, (.ifCond .ne 14), 94, .null, 83, []),
  (83, (.aload_n 0), 0, .null, 84, []),
  (84, (.aload_n 0), 0, .null, 85, []),
  (85, (.getfield 19), 1, .ref 8, 88, []),
  (88, (.iconst 0), 0, .int 0, 89, []),
  (89, (.iaload), 0, .null, 90, []),
  (90, (.invokevirtual 211), 167, .ref 91, 93, []),
  (93, (.ireturn), 0, .null, 94, []),
  (94, (.iconst 0), 0, .int 0, 95, []),
  (95, (.istore_n 3), 3, .null, 96, []),
  (96, (.bipush (-9)), 0, .int (-9), 98, []),
  (98, (.istore 4), 4, .null, 100, []),
  (100, (.iconst 0), 0, .int 0, 101, []),
  (101, (.istore 5), 5, .null, 103, []),
  (103, (.iload 5), 5, .null, 105, []),
  (105, (.bipush 36), 0, .int 36, 107, []),
  (107, (.if_icmp .ge 49), 156, .null, 110, []),
  (110, (.aload_n 0), 0, .null, 111, []),
  (111, (.iload 5), 5, .null, 113, []),
  (113, (.invokevirtual 98), 116, .ref 91, 116, []),
  (116, (.iconst 1), 0, .int 1, 117, []),
  (117, (.if_icmp .eq 33), 150, .null, 120, []),
  (120, (.aload_n 0), 0, .null, 121, []),
  (121, (.iload 5), 5, .null, 123, []),
  (123, (.invokevirtual 211), 167, .ref 91, 126, []),
  (126, (.bipush (-9)), 0, .int (-9), 128, []),
  (128, (.if_icmp .ne 22), 150, .null, 131, []),
  (131, (.iinc 3 1), 3, .int 1, 134, []),
  (134, (.iload 4), 4, .null, 136, []),
  (136, (.bipush (-9)), 0, .int (-9), 138, []),
  (138, (.if_icmp .ne 8), 146, .null, 141, []),
  (141, (.iload 5), 5, .null, 143, []),
  (143, (.goto 5), 148, .null, 146, []),
  (146, (.iload 4), 4, .null, 148, []),
  (148, (.istore 4), 4, .null, 150, []),
  (150, (.iinc 5 1), 5, .int 1, 153, []),
  (153, (.goto (-50)), 103, .null, 156, []),
  (156, (.iload_n 1), 1, .null, 157, []),
  (157, (.iconst 1), 0, .int 1, 158, []),
  (158, (.if_icmp .ne 7), 165, .null, 161, []),
  (161, (.iload_n 3), 3, .null, 162, []),
  (162, (.goto 5), 167, .null, 165, []),
  (165, (.iload 4), 4, .null, 167, []),
  (167, (.ireturn), 0, .null, 168, [])]
def kX8_row : am_C := [(0, (.iload_n 1), 1, .null, 1, []),
  (1, (.ifCond .ge 10), 11, .null, 4, []),
  (4, (.aload_n 0), 0, .null, 5, []),
  (5, (.bipush (-4)), 0, .int (-4), 7, []),
  (7, (.invokevirtual 9), 110, .ref 91, 10, []),
  (10, (.ireturn), 0, .null, 11, []),
  (11, (.iload_n 1), 1, .null, 12, []),
  (12, (.bipush 99), 0, .int 99, 14, []),
  (14, (.if_icmp .gt 12), 26, .null, 17, []),
  (17, (.aload_n 0), 0, .null, 18, []),
  (18, (.getfield 195), 21, .ref 8, 21, []),
  (21, (.bipush 12), 0, .int 12, 23, []),
  (23, (.if_icmp .ne 10), 33, .null, 26, []),
  (26, (.aload_n 0), 0, .null, 27, []),
  (27, (.bipush (-6)), 0, .int (-6), 29, []),
  (29, (.invokevirtual 9), 110, .ref 91, 32, []),
  (32, (.ireturn), 0, .null, 33, []),
  (33, (.aload_n 0), 0, .null, 34, []),
  (34, (.getfield 60), 20, .ref 8, 37, []),
  (37, (.aload_n 0), 0, .null, 38, []),
  (38, (.getfield 195), 21, .ref 8, 41, []),
  (41, (.iload_n 1), 1, .null, 42, []),
  (42, (.iastore), 0, .null, 43, []),
  (43, (.aload_n 0), 0, .null, 44, []),
  (44, (.dup), 0, .null, 45, []),
  (45, (.getfield 195), 21, .ref 8, 48, []),
  (48, (.iconst 1), 0, .int 1, 49, []),
  (49, (.iadd), 0, .null, 50, []),
  (50, (.putfield 195), 21, .ref 8, 53, []),
  (53, (.aload_n 0), 0, .null, 54, []),
  (54, (.getfield 195), 21, .ref 8, 57, []),
  (57, (.ireturn), 0, .null, 58, [])]
def kX8_looksOfRow : am_C := [(0, (.aload_n 0), 0, .null, 1, []),
  (1, (.iload_n 1), 1, .null, 2, []),
  (2, (.invokevirtual 173), 149, .ref 91, 5, []),
  (5, (.bipush (-9)), 0, .int (-9), 7, []),
  (7, (.istore_n 2), 2, .null, 8, []),
  (8, (.iconst 0), 0, .int 0, 9, []),
  (9, (.istore_n 3), 3, .null, 10, []),
  (10, (.iload_n 3), 3, .null, 11, []),
  (11, (.aload_n 0), 0, .null, 12, []),
  (12, (.getfield 195), 21, .ref 8, 15, []),
  (15, (.if_icmp .ge 78), 93, .null, 18, []),
  (18, (.aload_n 0), 0, .null, 19, []),
  (19, (.getfield 60), 20, .ref 8, 22, []),
  (22, (.iload_n 3), 3, .null, 23, []),
  (23, (.iaload), 0, .null, 24, []),
  (24, (.bipush 36), 0, .int 36, 26, []),
  (26, (.if_icmp .ge 21), 47, .null, 29, []),
  (29, (.aload_n 0), 0, .null, 30, []),
  (30, (.getfield 51), 16, .ref 8, 33, []),
  (33, (.aload_n 0), 0, .null, 34, []),
  (34, (.getfield 60), 20, .ref 8, 37, []),
  (37, (.iload_n 3), 3, .null, 38, []),
  (38, (.iaload), 0, .null, 39, []),
  (39, (.baload), 0, .null, 40, []),
  (40, (.ifCond .eq 7), 47, .null, 43, []),
  (43, (.iconst 1), 0, .int 1, 44, []),
  (44, (.goto 4), 48, .null, 47, []),
  (47, (.iconst 0), 0, .int 0, 48, []),
  (48, (.istore 4), 4, .null, 50, []),
  (50, (.iload_n 2), 2, .null, 51, []),
  (51, (.bipush (-9)), 0, .int (-9), 53, []),
  (53, (.if_icmp .ne 12), 65, .null, 56, []),
  (56, (.iload 4), 4, .null, 58, []),
  (58, (.ifCond .ne 7), 65, .null, 61, []),
  (61, (.iload_n 3), 3, .null, 62, []),
  (62, (.goto 4), 66, .null, 65, []),
  (65, (.iload_n 2), 2, .null, 66, []),
  (66, (.istore_n 2), 2, .null, 67, []),
  (67, (.aload_n 0), 0, .null, 68, []),
  (68, (.iload 4), 4, .null, 70, []),
  (70, (.ifCond .eq 12), 82, .null, 73, []),
  (73, (.aload_n 0), 0, .null, 74, []),
  (74, (.getfield 60), 20, .ref 8, 77, []),
  (77, (.iload_n 3), 3, .null, 78, []),
  (78, (.iaload), 0, .null, 79, []),
  (79, (.goto 5), 84, .null, 82, []),
  (82, (.bipush (-9)), 0, .int (-9), 84, []),
  (84, (.invokevirtual 179), 148, .ref 91, 87, []),
  (87, (.iinc 3 1), 3, .int 1, 90, []),
  (90, (.goto (-80)), 10, .null, 93, []),
  (93, (.iload_n 2), 2, .null, 94, []),
  (94, (.ireturn), 0, .null, 95, [])]
def kX8_judge : am_C := [(0, (.iload_n 1), 1, .null, 1, []),
  (1, (.ifCond .ge 10), 11, .null, 4, []),
  (4, (.aload_n 0), 0, .null, 5, []),
  (5, (.bipush (-4)), 0, .int (-4), 7, []),
  (7, (.invokevirtual 9), 110, .ref 91, 10, []),
  (10, (.ireturn), 0, .null, 11, []),
  (11, (.iload_n 1), 1, .null, 12, []),
  (12, (.sipush 999), 0, .int 999, 15, []),
  (15, (.if_icmp .le 12), 27, .null, 18, []),
  (18, (.aload_n 0), 0, .null, 19, []),
  (19, (.bipush (-6)), 0, .int (-6), 21, []),
  (21, (.invokevirtual 9), 110, .ref 91, 24, []),
  (24, (.goto 8), 32, .null, 27, []),
  (27, (.aload_n 0), 0, .null, 28, []),
  (28, (.iload_n 1), 1, .null, 29, []),
  (29, (.invokevirtual 214), 170, .ref 91, 32, []),
  (32, (.ireturn), 0, .null, 33, [])]
def kX8_behind : am_C := [(0, (.iload_n 1), 1, .null, 1, []),
  (1, (.ifCond .ge 10), 11, .null, 4, []),
  (4, (.aload_n 0), 0, .null, 5, []),
  (5, (.bipush (-4)), 0, .int (-4), 7, []),
  (7, (.invokevirtual 9), 110, .ref 91, 10, []),
  (10, (.ireturn), 0, .null, 11, []),
  (11, (.iload_n 1), 1, .null, 12, []),
  (12, (.sipush 999), 0, .int 999, 15, []),
  (15, (.if_icmp .le 10), 25, .null, 18, []),
  (18, (.aload_n 0), 0, .null, 19, []),
  (19, (.bipush (-6)), 0, .int (-6), 21, []),
  (21, (.invokevirtual 9), 110, .ref 91, 24, []),
  (24, (.ireturn), 0, .null, 25, []),
  (25, (.aload_n 0), 0, .null, 26, []),
  (26, (.iload_n 1), 1, .null, 27, []),
  (27, (.invokevirtual 214), 170, .ref 91, 30, []),
  (30, (.pop), 0, .null, 31, []),
  (31, (.aload_n 0), 0, .null, 32, []),
  (32, (.iconst 0), 0, .int 0, 33, []),
  (33, (.putfield 195), 21, .ref 8, 36, []),
  (36, (.aload_n 0), 0, .null, 37, []),
  (37, (.invokevirtual 137), 136, .ref 90, 40, []),
  (40, (.ireturn), 0, .null, 41, [])]
def kX8_lots : am_C := [(0, (.iload_n 1), 1, .null, 1, []),
  (1, (.iconst 1), 0, .int 1, 2, []),
  (2, (.if_icmp .ge 10), 12, .null, 5, []),
  (5, (.aload_n 0), 0, .null, 6, []),
  (6, (.bipush (-4)), 0, .int (-4), 8, []),
  (8, (.invokevirtual 9), 110, .ref 91, 11, []),
  (11, (.ireturn), 0, .null, 12, []),
  (12, (.iload_n 1), 1, .null, 13, []),
  (13, (.bipush 20), 0, .int 20, 15, []),
  (15, (.if_icmp .le 10), 25, .null, 18, []),
  (18, (.aload_n 0), 0, .null, 19, []),
  (19, (.bipush (-6)), 0, .int (-6), 21, []),
  (21, (.invokevirtual 9), 110, .ref 91, 24, []),
  (24, (.ireturn), 0, .null, 25, []),
  (25, (.iload_n 2), 2, .null, 26, []),
  (26, (.istore_n 3), 3, .null, 27, []),
  (27, (.iconst 0), 0, .int 0, 28, []),
  (28, (.istore 4), 4, .null, 30, []),
  (30, (.iconst 0), 0, .int 0, 31, []),
  (31, (.istore 5), 5, .null, 33, []),
  (33, (.iload 5), 5, .null, 35, []),
  (35, (.iload_n 1), 1, .null, 36, []),
  (36, (.if_icmp .ge 113), 149, .null, 39, []),
  (39, (.aload_n 0), 0, .null, 40, []),
  (40, (.getfield 19), 1, .ref 8, 43, []),
  (43, (.iconst 0), 0, .int 0, 44, []),
  (44, (.iaload), 0, .null, 45, []),
  (45, (.istore 6), 6, .null, 47, []),
  (47, (.iconst 0), 0, .int 0, 48, []),
  (48, (.istore 7), 7, .null, 50, []),
  (50, (.iload 7), 7, .null, 52, []),
  (52, (.bipush 30), 0, .int 30, 54, []),
  (54, (.if_icmp .ge 69), 123, .null, 57, []),
  (57, (.iload_n 3), 3, .null, 58, []),
  (58, (.ldc 217), 0, .int 1664525, 60, []),
  (60, (.imul), 0, .null, 61, []),
  (61, (.ldc 218), 0, .int 1013904223, 63, []),
  (63, (.iadd), 0, .null, 64, []),
  (64, (.istore_n 3), 3, .null, 65, []),
  (65, (.iload 6), 6, .null, 67, []),
  (67, (.iload_n 3), 3, .null, 68, []),
  (68, (.ldc 219), 0, .int 2147483647, 70, []),
  (70, (.iand), 0, .null, 71, []),
  (71, (.sipush 256), 0, .int 256, 74, []),
  (74, (.idiv), 0, .null, 75, []),
  (75, (.iconst 4), 0, .int 4, 76, []),
  (76, (.irem), 0, .null, 77, []),
  (77, (.invokestatic 123), 132, .ref 2, 80, []),
  (80, (.istore 8), 8, .null, 82, []),
  (82, (.iload 8), 8, .null, 84, []),
  (84, (.bipush (-9)), 0, .int (-9), 86, []),
  (86, (.if_icmp .eq 27), 113, .null, 89, []),
  (89, (.aload_n 0), 0, .null, 90, []),
  (90, (.iload 8), 8, .null, 92, []),
  (92, (.invokevirtual 127), 124, .ref 91, 95, []),
  (95, (.ifCond .eq 18), 113, .null, 98, []),
  (98, (.aload_n 0), 0, .null, 99, []),
  (99, (.iload 6), 6, .null, 101, []),
  (101, (.invokevirtual 98), 116, .ref 91, 104, []),
  (104, (.iconst 5), 0, .int 5, 105, []),
  (105, (.if_icmp .eq 8), 113, .null, 108, []),
  (108, (.iload 8), 8, .null, 110, []),
  (110, (.goto 5), 115, .null, 113, []),
  (113, (.iload 6), 6, .null, 115, []),
  (115, (.istore 6), 6, .null, 117, []),
  (117, (.iinc 7 1), 7, .int 1, 120, []),
  (120, (.goto (-70)), 50, .null, 123, []),
  (123, (.iload 4), 4, .null, 125, []),
  (125, (.aload_n 0), 0, .null, 126, []),
  (126, (.iload 6), 6, .null, 128, []),
  (128, (.invokevirtual 98), 116, .ref 91, 131, []),
  (131, (.iconst 5), 0, .int 5, 132, []),
  (132, (.if_icmp .ne 7), 139, .null, 135, []),
  (135, (.iconst 1), 0, .int 1, 136, []),
  (136, (.goto 4), 140, .null, 139, []),
  (139, (.iconst 0), 0, .int 0, 140, []),
  (140, (.iadd), 0, .null, 141, []),
  (141, (.istore 4), 4, .null, 143, []),
  (143, (.iinc 5 1), 5, .int 1, 146, []),
  (146, (.goto (-113)), 33, .null, 149, []),
  (149, (.iload 4), 4, .null, 151, []),
  (151, (.ireturn), 0, .null, 152, [])]
def kX8_count : am_C := [(0, (.iload_n 1), 1, .null, 1, []),
  (1, (.ifCond .lt 15), 16, .null, 4, []),
  (4, (.iload_n 1), 1, .null, 5, []),
  (5, (.iconst 3), 0, .int 3, 6, []),
  (6, (.if_icmp .gt 10), 16, .null, 9, []),
  (9, (.aload_n 0), 0, .null, 10, []),
  (10, (.getfield 19), 1, .ref 8, 13, []),
  (13, (.iload_n 1), 1, .null, 14, []),
  (14, (.iaload), 0, .null, 15, []),
  (15, (.ireturn), 0, .null, 16, []),
  (16, (.iload_n 1), 1, .null, 17, []),
  (17, (.iconst 4), 0, .int 4, 18, []),
  (18, (.if_icmp .lt 67), 85, .null, 21, []),
  (21, (.iload_n 1), 1, .null, 22, []),
  (22, (.bipush 6), 0, .int 6, 24, []),
  (24, (.if_icmp .gt 61), 85, .null, 27, []),
  (27, (.iload_n 1), 1, .null, 28, []),
  (28, (.iconst 4), 0, .int 4, 29, []),
  (29, (.if_icmp .ne 7), 36, .null, 32, []),
  (32, (.iconst 1), 0, .int 1, 33, []),
  (33, (.goto 13), 46, .null, 36, []),
  (36, (.iload_n 1), 1, .null, 37, []),
  (37, (.iconst 5), 0, .int 5, 38, []),
  (38, (.if_icmp .ne 7), 45, .null, 41, []),
  (41, (.iconst 2), 0, .int 2, 42, []),
  (42, (.goto 4), 46, .null, 45, []),
  (45, (.iconst 5), 0, .int 5, 46, []),
  (46, (.istore_n 2), 2, .null, 47, []),
  (47, (.iconst 0), 0, .int 0, 48, []),
  (48, (.istore_n 3), 3, .null, 49, []),
  (49, (.iconst 0), 0, .int 0, 50, []),
  (50, (.istore 4), 4, .null, 52, []),
  (52, (.iload 4), 4, .null, 54, []),
  (54, (.bipush 36), 0, .int 36, 56, []),
  (56, (.if_icmp .ge 27), 83, .null, 59, []),
  (59, (.iload_n 3), 3, .null, 60, []),
  (60, (.aload_n 0), 0, .null, 61, []),
  (61, (.iload 4), 4, .null, 63, []),
  (63, (.invokevirtual 98), 116, .ref 91, 66, []),
  (66, (.iload_n 2), 2, .null, 67, []),
  (67, (.if_icmp .ne 7), 74, .null, 70, []),
  (70, (.iconst 1), 0, .int 1, 71, []),
  (71, (.goto 4), 75, .null, 74, []),
  (74, (.iconst 0), 0, .int 0, 75, []),
  (75, (.iadd), 0, .null, 76, []),
  (76, (.istore_n 3), 3, .null, 77, []),
  (77, (.iinc 4 1), 4, .int 1, 80, []),
  (80, (.goto (-28)), 52, .null, 83, []),
  (83, (.iload_n 3), 3, .null, 84, []),
  (84, (.ireturn), 0, .null, 85, []),
  (85, (.iload_n 1), 1, .null, 86, []),
  (86, (.bipush 7), 0, .int 7, 88, []),
  (88, (.if_icmp .eq 9), 97, .null, 91, []),
  (91, (.iload_n 1), 1, .null, 92, []),
  (92, (.bipush 8), 0, .int 8, 94, []),
  (94, (.if_icmp .ne 21), 115, .null, 97, []),
  (97, (.iload_n 1), 1, .null, 98, []),
  (98, (.bipush 7), 0, .int 7, 100, []),
  (100, (.if_icmp .ne 10), 110, .null, 103, []),
  (103, (.aload_n 0), 0, .null, 104, []),
  (104, (.getfield 195), 21, .ref 8, 107, []),
  (107, (.goto 7), 114, .null, 110, []),
  (110, (.aload_n 0), 0, .null, 111, []),
  (111, (.getfield 78), 5, .ref 8, 114, []),
  (114, (.ireturn), 0, .null, 115, []),
  (115, (.iload_n 1), 1, .null, 116, []),
  (116, (.bipush 11), 0, .int 11, 118, []),
  (118, (.if_icmp .lt 21), 139, .null, 121, []),
  (121, (.iload_n 1), 1, .null, 122, []),
  (122, (.bipush 16), 0, .int 16, 124, []),
  (124, (.if_icmp .gt 15), 139, .null, 127, []),
  (127, (.aload_n 0), 0, .null, 128, []),
  (128, (.getfield 1), 0, .ref 8, 131, []),
  (131, (.iload_n 1), 1, .null, 132, []),
  (132, (.bipush 10), 0, .int 10, 134, []),
  (134, (.isub), 0, .null, 135, []),
  (135, (.iaload), 0, .null, 136, []),
  (136, (.goto 5), 141, .null, 139, []),
  (139, (.bipush (-9)), 0, .int (-9), 141, []),
  (141, (.ireturn), 0, .null, 142, [])]
def kJ13_bitCount_95d88 : am_C := [(0, (.lload_n 0), 0, .null, 1, []),
  (1, (.lload_n 0), 0, .null, 2, []),
  (2, (.iconst 1), 0, .int 1, 3, []),
  (3, (.lushr), 0, .null, 4, []),
  (4, (.ldc2_w 314), 0, .long 6148914691236517205, 7, []),
  (7, (.land), 0, .null, 8, []),
  (8, (.lsub), 0, .null, 9, []),
  (9, (.lstore_n 0), 0, .null, 10, []),
  (10, (.lload_n 0), 0, .null, 11, []),
  (11, (.ldc2_w 316), 0, .long 3689348814741910323, 14, []),
  (14, (.land), 0, .null, 15, []),
  (15, (.lload_n 0), 0, .null, 16, []),
  (16, (.iconst 2), 0, .int 2, 17, []),
  (17, (.lushr), 0, .null, 18, []),
  (18, (.ldc2_w 316), 0, .long 3689348814741910323, 21, []),
  (21, (.land), 0, .null, 22, []),
  (22, (.ladd), 0, .null, 23, []),
  (23, (.lstore_n 0), 0, .null, 24, []),
  (24, (.lload_n 0), 0, .null, 25, []),
  (25, (.lload_n 0), 0, .null, 26, []),
  (26, (.iconst 4), 0, .int 4, 27, []),
  (27, (.lushr), 0, .null, 28, []),
  (28, (.ladd), 0, .null, 29, []),
  (29, (.ldc2_w 318), 0, .long 1085102592571150095, 32, []),
  (32, (.land), 0, .null, 33, []),
  (33, (.lstore_n 0), 0, .null, 34, []),
  (34, (.lload_n 0), 0, .null, 35, []),
  (35, (.lload_n 0), 0, .null, 36, []),
  (36, (.bipush 8), 0, .int 8, 38, []),
  (38, (.lushr), 0, .null, 39, []),
  (39, (.ladd), 0, .null, 40, []),
  (40, (.lstore_n 0), 0, .null, 41, []),
  (41, (.lload_n 0), 0, .null, 42, []),
  (42, (.lload_n 0), 0, .null, 43, []),
  (43, (.bipush 16), 0, .int 16, 45, []),
  (45, (.lushr), 0, .null, 46, []),
  (46, (.ladd), 0, .null, 47, []),
  (47, (.lstore_n 0), 0, .null, 48, []),
  (48, (.lload_n 0), 0, .null, 49, []),
  (49, (.lload_n 0), 0, .null, 50, []),
  (50, (.bipush 32), 0, .int 32, 52, []),
  (52, (.lushr), 0, .null, 53, []),
  (53, (.ladd), 0, .null, 54, []),
  (54, (.lstore_n 0), 0, .null, 55, []),
  (55, (.lload_n 0), 0, .null, 56, []),
  (56, (.l2i), 0, .null, 57, []),
  (57, (.bipush 127), 0, .int 127, 59, []),
  (59, (.iand), 0, .null, 60, []),
  (60, (.ireturn), 0, .null, 61, [])]
def kJ6_bitCount_0f7a4 : am_C := [(0, (.iload_n 0), 0, .null, 1, []),
  (1, (.iload_n 0), 0, .null, 2, []),
  (2, (.iconst 1), 0, .int 1, 3, []),
  (3, (.iushr), 0, .null, 4, []),
  (4, (.ldc_w 265), 0, .int 1431655765, 7, []),
  (7, (.iand), 0, .null, 8, []),
  (8, (.isub), 0, .null, 9, []),
  (9, (.istore_n 0), 0, .null, 10, []),
  (10, (.iload_n 0), 0, .null, 11, []),
  (11, (.ldc_w 266), 0, .int 858993459, 14, []),
  (14, (.iand), 0, .null, 15, []),
  (15, (.iload_n 0), 0, .null, 16, []),
  (16, (.iconst 2), 0, .int 2, 17, []),
  (17, (.iushr), 0, .null, 18, []),
  (18, (.ldc_w 266), 0, .int 858993459, 21, []),
  (21, (.iand), 0, .null, 22, []),
  (22, (.iadd), 0, .null, 23, []),
  (23, (.istore_n 0), 0, .null, 24, []),
  (24, (.iload_n 0), 0, .null, 25, []),
  (25, (.iload_n 0), 0, .null, 26, []),
  (26, (.iconst 4), 0, .int 4, 27, []),
  (27, (.iushr), 0, .null, 28, []),
  (28, (.iadd), 0, .null, 29, []),
  (29, (.ldc_w 267), 0, .int 252645135, 32, []),
  (32, (.iand), 0, .null, 33, []),
  (33, (.istore_n 0), 0, .null, 34, []),
  (34, (.iload_n 0), 0, .null, 35, []),
  (35, (.iload_n 0), 0, .null, 36, []),
  (36, (.bipush 8), 0, .int 8, 38, []),
  (38, (.iushr), 0, .null, 39, []),
  (39, (.iadd), 0, .null, 40, []),
  (40, (.istore_n 0), 0, .null, 41, []),
  (41, (.iload_n 0), 0, .null, 42, []),
  (42, (.iload_n 0), 0, .null, 43, []),
  (43, (.bipush 16), 0, .int 16, 45, []),
  (45, (.iushr), 0, .null, 46, []),
  (46, (.iadd), 0, .null, 47, []),
  (47, (.istore_n 0), 0, .null, 48, []),
  (48, (.iload_n 0), 0, .null, 49, []),
  (49, (.bipush 63), 0, .int 63, 51, []),
  (51, (.iand), 0, .null, 52, []),
  (52, (.ireturn), 0, .null, 53, [])]
def kJ0_length_8abf5 : am_C := [(0, (.aload_n 0), 0, .null, 1, []),
  (1, (.getfield 9), 0, .ref 20, 4, []),
  (4, (.arraylength), 0, .null, 5, []),
  (5, (.aload_n 0), 0, .null, 6, []),
  (6, (.invokevirtual 335), 182, .ref 210, 9, []),
  (9, (.ishr), 0, .null, 10, []),
  (10, (.ireturn), 0, .null, 11, [])]
def kJ0_isEmpty_aae02 : am_C := [(0, (.aload_n 0), 0, .null, 1, []),
  (1, (.getfield 9), 0, .ref 20, 4, []),
  (4, (.arraylength), 0, .null, 5, []),
  (5, (.ifCond .ne 7), 12, .null, 8, []),
  (8, (.iconst 1), 0, .int 1, 9, []),
  (9, (.goto 4), 13, .null, 12, []),
  (12, (.iconst 0), 0, .int 0, 13, []),
  (13, (.ireturn), 1, .null, 14, [])]
def kJ0_charAt_5068e : am_C := [(0, (.aload_n 0), 0, .null, 1, []),
  (1, (.invokevirtual 492), 183, .ref 210, 4, []),
  (4, (.ifCond .eq 12), 16, .null, 7, []),
  (7, (.aload_n 0), 0, .null, 8, []),
  (8, (.getfield 9), 0, .ref 20, 11, []),
  (11, (.iload_n 1), 1, .null, 12, []),
  (12, (.invokestatic 495), 185, .ref 2, 15, []),
  (15, (.ireturn), 2, .null, 16, []),
  (16, (.aload_n 0), 0, .null, 17, []),
  (17, (.getfield 9), 0, .ref 20, 20, []),
  (20, (.iload_n 1), 1, .null, 21, []),
  (24, (.ireturn), 2, .null, 25, [])]
def kJ0_indexOf_0f7a4 : am_C := [(0, (.aload_n 0), 0, .null, 1, []),
  (1, (.iload_n 1), 1, .null, 2, []),
  (2, (.iconst 0), 0, .int 0, 3, []),
  (3, (.invokevirtual 633), 181, .ref 212, 6, []),
  (6, (.ireturn), 0, .null, 7, [])]
def kJ0_indexOf_7cf53 : am_C := [(0, (.aload_n 0), 0, .null, 1, []),
  (1, (.invokevirtual 492), 183, .ref 210, 4, []),
  (4, (.ifCond .eq 19), 23, .null, 7, []),
  (7, (.aload_n 0), 0, .null, 8, []),
  (8, (.getfield 9), 0, .ref 20, 11, []),
  (11, (.iload_n 1), 1, .null, 12, []),
  (12, (.iload_n 2), 2, .null, 13, []),
  (13, (.aload_n 0), 0, .null, 14, []),
  (14, (.invokevirtual 505), 177, .ref 210, 17, []),
  (17, (.invokestatic 637), 187, .ref 4, 20, []),
  (20, (.goto 16), 36, .null, 23, []),
  (23, (.aload_n 0), 0, .null, 24, []),
  (24, (.getfield 9), 0, .ref 20, 27, []),
  (27, (.iload_n 1), 1, .null, 28, []),
  (28, (.iload_n 2), 2, .null, 29, []),
  (29, (.aload_n 0), 0, .null, 30, []),
  (30, (.invokevirtual 505), 177, .ref 210, 33, []),
  (36, (.ireturn), 0, .null, 37, [])]
def kJ0_coder_7d493 : am_C := [(0, (.getstatic 38), 0, .int 1, 3, []),
  (3, (.ifCond .eq 10), 13, .null, 6, []),
  (6, (.aload_n 0), 0, .null, 7, []),
  (7, (.getfield 15), 1, .ref 20, 10, []),
  (10, (.goto 4), 14, .null, 13, []),
  (13, (.iconst 1), 0, .int 1, 14, []),
  (14, (.ireturn), 1, .null, 15, [])]
def kJ0_isLatin1_aae02 : am_C := [(0, (.getstatic 38), 0, .int 1, 3, []),
  (3, (.ifCond .eq 14), 17, .null, 6, []),
  (6, (.aload_n 0), 0, .null, 7, []),
  (7, (.getfield 15), 1, .ref 20, 10, []),
  (10, (.ifCond .ne 7), 17, .null, 13, []),
  (13, (.iconst 1), 0, .int 1, 14, []),
  (14, (.goto 4), 18, .null, 17, []),
  (17, (.iconst 0), 0, .int 0, 18, []),
  (18, (.ireturn), 1, .null, 19, [])]
def kJ0_checkIndex_df160 : am_C := [(0, (.iload_n 0), 0, .null, 1, []),
  (1, (.iload_n 1), 1, .null, 2, []),
  (2, (.getstatic 1053), 0, .ref 1200, 5, []),
  (5, (.invokestatic 1059), 189, .ref 3, 8, []),
  (8, (.pop), 0, .null, 9, []),
  (9, (.return_), 0, .null, 10, [])]
def kJ1_charAt_3b067 : am_C := [(0, (.iload_n 1), 1, .null, 1, []),
  (1, (.aload_n 0), 0, .null, 2, []),
  (2, (.arraylength), 0, .null, 3, []),
  (3, (.invokestatic 9), 184, .ref 2, 6, []),
  (6, (.aload_n 0), 0, .null, 7, []),
  (7, (.iload_n 1), 1, .null, 8, []),
  (8, (.baload), 0, .null, 9, []),
  (9, (.sipush 255), 0, .int 255, 12, []),
  (12, (.iand), 0, .null, 13, []),
  (13, (.i2c), 0, .null, 14, []),
  (14, (.ireturn), 2, .null, 15, [])]
def kJ1_canEncode_9a6ad : am_C := [(0, (.iload_n 0), 0, .null, 1, []),
  (1, (.ifCond .lt 14), 15, .null, 4, []),
  (4, (.iload_n 0), 0, .null, 5, []),
  (5, (.sipush 255), 0, .int 255, 8, []),
  (8, (.if_icmp .gt 7), 15, .null, 11, []),
  (11, (.iconst 1), 0, .int 1, 12, []),
  (12, (.goto 4), 16, .null, 15, []),
  (15, (.iconst 0), 0, .int 0, 16, []),
  (16, (.ireturn), 1, .null, 17, [])]
def kJ1_indexOf_4cfef : am_C := [(0, (.iload_n 1), 1, .null, 1, []),
  (1, (.invokestatic 88), 186, .ref 1, 4, []),
  (4, (.ifCond .ne 5), 9, .null, 7, []),
  (7, (.iconst (-1)), 0, .int (-1), 8, []),
  (8, (.ireturn), 0, .null, 9, []),
  (9, (.iload_n 2), 2, .null, 10, []),
  (10, (.iconst 0), 0, .int 0, 11, []),
  (11, (.invokestatic 92), 1000, .null, 14, []),
  (14, (.istore_n 2), 2, .null, 15, []),
  (15, (.iload_n 3), 3, .null, 16, []),
  (16, (.aload_n 0), 0, .null, 17, []),
  (17, (.arraylength), 0, .null, 18, []),
  (18, (.invokestatic 38), 1001, .null, 21, []),
  (21, (.istore_n 3), 3, .null, 22, []),
  (22, (.iload_n 2), 2, .null, 23, []),
  (23, (.iload_n 3), 3, .null, 24, []),
  (24, (.if_icmp .lt 5), 29, .null, 27, []),
  (27, (.iconst (-1)), 0, .int (-1), 28, []),
  (28, (.ireturn), 0, .null, 29, []),
  (29, (.aload_n 0), 0, .null, 30, []),
  (30, (.iload_n 1), 1, .null, 31, []),
  (31, (.iload_n 2), 2, .null, 32, []),
  (32, (.iload_n 3), 3, .null, 33, []),
  (33, (.invokestatic 95), 188, .ref 4, 36, []),
  (36, (.ireturn), 0, .null, 37, [])]
def kJ1_indexOfChar_4cfef : am_C := [(0, (.iload_n 1), 1, .null, 1, []),
  (1, (.i2b), 0, .null, 2, []),
  (2, (.istore 4), 4, .null, 4, []),
  (4, (.iload_n 2), 2, .null, 5, []),
  (5, (.istore 5), 5, .null, 7, []),
  (7, (.iload 5), 5, .null, 9, []),
  (9, (.iload_n 3), 3, .null, 10, []),
  (10, (.if_icmp .ge 21), 31, .null, 13, []),
  (13, (.aload_n 0), 0, .null, 14, []),
  (14, (.iload 5), 5, .null, 16, []),
  (16, (.baload), 0, .null, 17, []),
  (17, (.iload 4), 4, .null, 19, []),
  (19, (.if_icmp .ne 6), 25, .null, 22, []),
  (22, (.iload 5), 5, .null, 24, []),
  (24, (.ireturn), 0, .null, 25, []),
  (25, (.iinc 5 1), 5, .int 1, 28, []),
  (28, (.goto (-21)), 7, .null, 31, []),
  (31, (.iconst (-1)), 0, .int (-1), 32, []),
  (32, (.ireturn), 0, .null, 33, [])]
def kJ3_checkIndex_8e157 : am_C := [(0, (.iload_n 0), 0, .null, 1, []),
  (1, (.ifCond .lt 8), 9, .null, 4, []),
  (4, (.iload_n 0), 0, .null, 5, []),
  (5, (.iload_n 1), 1, .null, 6, []),
  (6, (.if_icmp .lt 10), 16, .null, 9, []),
  (9, (.aload_n 2), 2, .null, 10, []),
  (10, (.iload_n 0), 0, .null, 11, []),
  (11, (.iload_n 1), 1, .null, 12, []),
  (16, (.iload_n 0), 0, .null, 17, []),
  (17, (.ireturn), 0, .null, 18, [])]
def am_code : Nat → am_C
  | 0 => kX0_walk
  | 1 => kX0_comingOnto
  | 2 => kX0_endingOn
  | 3 => kX0_inAll
  | 4 => kX0_likeliestSquare
  | 5 => kX1_become
  | 6 => kX1_squaresOf
  | 7 => kX1_open
  | 8 => kX1_kindAt
  | 9 => kX1_stepsOff
  | 10 => kX1_stepsOffSun
  | 11 => kX1_lay
  | 12 => kX1_liveAt
  | 13 => kX1_takePace
  | 14 => kX1_takeWarm
  | 15 => kX1_addSeeker
  | 16 => kX1_hasSeeker
  | 17 => kX1_kindOfSeeker
  | 18 => kX1_squareOfSeeker
  | 19 => kX1_placeSeeker
  | 20 => kX2_begin
  | 21 => kX2_look
  | 22 => kX2_seek
  | 23 => kX2_choice
  | 24 => kX2_standOf
  | 25 => kX2_goalAhead
  | 26 => kX2_nearest
  | 27 => kX2_withMostBeside
  | 28 => kX2_withFewestBeside
  | 29 => kX3_seed
  | 30 => kX3_draw
  | 31 => kX4_isFull
  | 32 => kX4_add
  | 33 => kX4_clear
  | 34 => kX4_at
  | 35 => kX5_tellTo
  | 36 => kX5_firstMisfit
  | 37 => kX5_shapeBehind
  | 38 => kX5_fits
  | 39 => kX5_comes
  | 40 => kX5_digitAt
  | 41 => kX5_pairAt
  | 42 => kX6_spread
  | 43 => kX6_layer
  | 44 => kX6_within
  | 45 => kX6_stepsTo
  | 46 => kX7_letter
  | 47 => kX7_garden
  | 48 => kX7_square
  | 49 => kX7_turnTo
  | 50 => kX7_set
  | 51 => kX7_seeker
  | 52 => kX7_stand
  | 53 => kX7_steps
  | 54 => kX7_mayBe
  | 55 => kX7_out
  | 56 => kX7_shut
  | 57 => kX7_firstGap
  | 58 => kX7_search
  | 59 => kX7_left
  | 60 => kX7_looksAt
  | 61 => kX7_bestSeeker
  | 62 => kX7_together
  | 63 => kX7_hold
  | 64 => kX7_ways
  | 65 => kX7_likely
  | 66 => kX7_likeliest
  | 67 => kX7_turning
  | 68 => kX7_finds
  | 69 => kX7_row
  | 70 => kX7_judge
  | 71 => kX7_behind
  | 72 => kX7_lots
  | 73 => kX7_image
  | 74 => kX7_on
  | 75 => kX7_count
  | 76 => kX7_refused
  | 77 => kX7_refusedLong
  | 78 => kX7_refusalsOf
  | 79 => kX7_wrongMinute
  | 80 => kX7_wrongNumber
  | 81 => kX7_wrongSearch
  | 82 => kX7_wrongWays
  | 83 => kX7_setHome
  | 84 => kX7_setPace
  | 85 => kX7_setWarm
  | 86 => kX7_reachedBy
  | 87 => kX7_getsOut
  | 88 => kX7_flooded
  | 89 => kX7_gapsOfBits
  | 90 => kX7_reachedWhenHeld
  | 91 => kX7_oneMore
  | 92 => kX7_looksTillEmpty
  | 93 => kX7_lookOften
  | 94 => kX7_looksOfAll
  | 95 => kX7_rowTellsSquares
  | 96 => kX7_squaresOfRow
  | 97 => kX7_afterTurning
  | 98 => kX7_firstWrongPair
  | 99 => kX7_homesOfTraces
  | 100 => kX7_afterWalkByLot
  | 101 => kX7_drawnDirection
  | 102 => kX7_isSquare
  | 103 => kX7_bit
  | 104 => kX7_has
  | 105 => kX7_least
  | 106 => kX7_moved
  | 107 => kX7_beside
  | 108 => kX7_yesOrNo
  | 109 => kX7_greatestDivisor
  | 110 => kX8_no
  | 111 => kX8_noLong
  | 112 => kX8_move
  | 113 => kX8_image
  | 114 => kX8_on
  | 115 => kX8_isNoSquare
  | 116 => kX8_kindOf
  | 117 => kX8_letter
  | 118 => kX8_oneOf
  | 119 => kX8_figures
  | 120 => kX8_statement
  | 121 => kX8_takes
  | 122 => kX8_read
  | 123 => kX8_garden
  | 124 => kX8_canBe
  | 125 => kX8_off
  | 126 => kX8_square
  | 127 => kX8_turnTo
  | 128 => kX8_set
  | 129 => kX8_isNoSeeker
  | 130 => kX8_seeker
  | 131 => kX8_stand
  | 132 => kX8_beside
  | 133 => kX8_walkFrom
  | 134 => kX8_steps
  | 135 => kX8_mayBeAt
  | 136 => kX8_inSet
  | 137 => kX8_mayBe
  | 138 => kX8_minutesOut
  | 139 => kX8_out
  | 140 => kX8_holdNone
  | 141 => kX8_shut
  | 142 => kX8_firstGap
  | 143 => kX8_apart
  | 144 => kX8_toRoad
  | 145 => kX8_besideInSet
  | 146 => kX8_waits
  | 147 => kX8_looks
  | 148 => kX8_passes
  | 149 => kX8_begin
  | 150 => kX8_searchBy
  | 151 => kX8_kindOfSeeker
  | 152 => kX8_search
  | 153 => kX8_refusal
  | 154 => kX8_lookOn
  | 155 => kX8_left
  | 156 => kX8_looksAt
  | 157 => kX8_bestSeeker
  | 158 => kX8_together
  | 159 => kX8_reached
  | 160 => kX8_hold
  | 161 => kX8_oneMore
  | 162 => kX8_waysOf
  | 163 => kX8_ways
  | 164 => kX8_likely
  | 165 => kX8_likeliest
  | 166 => kX8_turning
  | 167 => kX8_firstWrong
  | 168 => kX8_finds
  | 169 => kX8_row
  | 170 => kX8_looksOfRow
  | 171 => kX8_judge
  | 172 => kX8_behind
  | 173 => kX8_lots
  | 174 => kX8_count
  | 175 => kJ13_bitCount_95d88
  | 176 => kJ6_bitCount_0f7a4
  | 177 => kJ0_length_8abf5
  | 178 => kJ0_isEmpty_aae02
  | 179 => kJ0_charAt_5068e
  | 180 => kJ0_indexOf_0f7a4
  | 181 => kJ0_indexOf_7cf53
  | 182 => kJ0_coder_7d493
  | 183 => kJ0_isLatin1_aae02
  | 184 => kJ0_checkIndex_df160
  | 185 => kJ1_charAt_3b067
  | 186 => kJ1_canEncode_9a6ad
  | 187 => kJ1_indexOf_4cfef
  | 188 => kJ1_indexOfChar_4cfef
  | 189 => kJ3_checkIndex_8e157
  | _ => []
end
section
/-! THE ABSTRACT MACHINE: the instructions over the cells of one object graph -/
abbrev am_R0 : Type := am_S ⊕ (Prop × am_S) ⊕ (Option Value × Prop × am_X) ⊕ (Nat × List Value × am_S)
def am_up {α : Type} (f : Nat → α) (k : Nat) (v : α) : Nat → α := fun j => if j = k then v else f j
def am_uI (x : am_X) (k : Nat) (v : Int32) : am_X := (am_up x.1 k v, x.2.1, x.2.2.1, x.2.2.2)
def am_uL (x : am_X) (k : Nat) (v : Int64) : am_X := (x.1, am_up x.2.1 k v, x.2.2.1, x.2.2.2)
def am_sA (x : am_X) (k : Nat) (f : Nat → Int32) : am_X := (x.1, x.2.1, am_up x.2.2.1 k f, x.2.2.2)
def am_sB (x : am_X) (k : Nat) (f : Nat → Int64) : am_X := (x.1, x.2.1, x.2.2.1, am_up x.2.2.2 k f)
def am_at {α : Type} : List α → Nat → Option α
  | [], _ => none
  | a :: _, 0 => some a
  | _ :: t, n + 1 => am_at t n
theorem am_at_eq {α : Type} (l : List α) (n : Nat) : am_at l n = l[n]? := by
  induction l generalizing n with
  | nil => simp [am_at]
  | cons a t ih => cases n with
    | zero => simp [am_at]
    | succ n => simp [am_at, ih]
def am_find : am_C → Nat → Option am_I
  | [], _ => none
  | (p, q) :: t, pc => bif Nat.beq p pc then some q else am_find t pc
/-- the locals by their places: a store of a value of one slot, of two -/
def am_c2 : Option Value → Option Value
  | some (.long _) => none
  | some (.double _) => none
  | o => o
def am_set1 : am_L → Nat → Value → am_L
  | [], _, _ => []
  | _ :: t, 0, v => some v :: t
  | [_], 1, _ => []
  | o :: _ :: t, 1, v => am_c2 o :: some v :: t
  | o :: t, n + 2, v => o :: am_set1 t (n + 1) v
def am_set2 : am_L → Nat → Value → am_L
  | [], _, _ => []
  | [_], _, _ => []
  | _ :: _ :: t, 0, v => some v :: none :: t
  | [_, _], 1, _ => []
  | o :: _ :: _ :: t, 1, v => am_c2 o :: some v :: none :: t
  | o :: t, n + 2, v => o :: am_set2 t (n + 1) v
/-- fewer known locals -/
def am_le : am_L → am_L → Prop
  | [], _ => True
  | none :: t, [] => am_le t []
  | some _ :: _, [] => False
  | none :: t, _ :: u => am_le t u
  | some v :: t, o :: u => o = some v ∧ am_le t u
def am_ent : Nat → am_L → List (Nat × Value)
  | _, [] => []
  | i, none :: t => am_ent (i + 1) t
  | i, some v :: t => (i, v) :: am_ent (i + 1) t
def am_entry : List Value → am_L
  | [] => []
  | .long y :: t => some (.long y) :: none :: am_entry t
  | .double y :: t => some (.double y) :: none :: am_entry t
  | v :: t => some v :: am_entry t
def am_pad : Nat → am_L → am_L
  | 0, l => l
  | n + 1, [] => none :: am_pad n []
  | n + 1, o :: t => o :: am_pad n t
/-- what needs the stack alone -/
def am_pure (i : Instr) (v : Value) (st : List Value) : Option (List Value) := match i with
  | .iconst _ | .bipush _ | .sipush _ | .lconst _ | .ldc _ | .ldc_w _ | .ldc2_w _ | .getstatic _ => some (v :: st)
  | .i2b => match st with | .int a :: r => some (.int a.toInt8.toInt32 :: r) | _ => none
  | .iadd => match st with | .int b :: .int a :: r => some (.int (a + b) :: r) | _ => none
  | .isub => match st with | .int b :: .int a :: r => some (.int (a - b) :: r) | _ => none
  | .imul => match st with | .int b :: .int a :: r => some (.int (a * b) :: r) | _ => none
  | .iand => match st with | .int b :: .int a :: r => some (.int (a &&& b) :: r) | _ => none
  | .ishl => match st with | .int b :: .int a :: r => some (.int (a <<< (b &&& 31)) :: r) | _ => none
  | .ishr => match st with | .int b :: .int a :: r => some (.int (a >>> (b &&& 31)) :: r) | _ => none
  | .iushr => match st with | .int b :: .int a :: r => some (.int (a.toUInt32 >>> (b.toUInt32 &&& Int32.toUInt32 31)).toInt32 :: r) | _ => none
  | .ineg => match st with | .int a :: r => some (.int (-a) :: r) | _ => none
  | .ladd => match st with | .long b :: .long a :: r => some (.long (a + b) :: r) | _ => none
  | .lsub => match st with | .long b :: .long a :: r => some (.long (a - b) :: r) | _ => none
  | .land => match st with | .long b :: .long a :: r => some (.long (a &&& b) :: r) | _ => none
  | .lor => match st with | .long b :: .long a :: r => some (.long (a ||| b) :: r) | _ => none
  | .lxor => match st with | .long b :: .long a :: r => some (.long (a ^^^ b) :: r) | _ => none
  | .lneg => match st with | .long a :: r => some (.long (-a) :: r) | _ => none
  | .lshl => match st with | .int b :: .long a :: r => some (.long (a <<< (b.toInt64 &&& 63)) :: r) | _ => none
  | .lushr => match st with | .int b :: .long a :: r => some (.long (a.toUInt64 >>> (b.toInt64.toUInt64 &&& Int64.toUInt64 63)).toInt64 :: r) | _ => none
  | .i2l => match st with | .int a :: r => some (.long a.toInt64 :: r) | _ => none
  | .l2i => match st with | .long a :: r => some (.int a.toInt32 :: r) | _ => none
  | .i2c => match st with | .int a :: r => some (.int (a.toUInt32 % 65536).toInt32 :: r) | _ => none
  | .lcmp => match st with | .long b :: .long a :: r => some (.int (lg_cmp a b) :: r) | _ => none
  | .dup => match st with | .int a :: r => some (.int a :: .int a :: r) | .ref a :: r => some (.ref a :: .ref a :: r) | _ => none
  | .dup2 => match st with | .int a :: .ref b :: r => some (.int a :: .ref b :: .int a :: .ref b :: r) | _ => none
  | .pop => match st with | .int _ :: r => some r | .ref _ :: r => some r | _ => none
  | .pop2 => match st with | .long _ :: r => some r | _ => none
  | _ => none
/-- a division: the divisor, and what comes if it isn't 0 -/
def am_div (i : Instr) (st : List Value) : Option (Prop × List Value) := match i with
  | .idiv => match st with | .int b :: .int a :: r => some (¬ b = 0, .int (a / b) :: r) | _ => none
  | .irem => match st with | .int b :: .int a :: r => some (¬ b = 0, .int (a - a / b * b) :: r) | _ => none
  | .ldiv => match st with | .long b :: .long a :: r => some (¬ b = 0, .long (a / b) :: r) | _ => none
  | .lrem => match st with | .long b :: .long a :: r => some (¬ b = 0, .long (a - a / b * b) :: r) | _ => none
  | _ => none
/-- locals -/
def am_loc (i : Instr) (a : Nat) (v : Value) (ls : am_L) (st : List Value) : Option (am_L × List Value) := match i with
  | .iload _ | .iload_n _ => match am_at ls a with | some (some (.int y)) => some (ls, .int y :: st) | _ => none
  | .lload _ | .lload_n _ => match am_at ls a with | some (some (.long y)) => some (ls, .long y :: st) | _ => none
  | .aload _ | .aload_n _ => match am_at ls a with | some (some (.ref y)) => some (ls, .ref y :: st) | _ => none
  | .istore _ | .istore_n _ => match st with | .int y :: r => some (am_set1 ls a (.int y), r) | _ => none
  | .lstore _ | .lstore_n _ => match st with | .long y :: r => some (am_set2 ls a (.long y), r) | _ => none
  | .astore _ | .astore_n _ => match st with | .ref y :: r => some (am_set1 ls a (.ref y), r) | _ => none
  | .iinc _ _ => match am_at ls a with | some (some (.int y)) => (match v with | .int z => some (am_set1 ls a (.int (y + z)), st) | _ => none) | _ => none
  | _ => none
def am_sw (d : Nat) : List (Int32 × Nat) → Int32 → Nat
  | [], _ => d
  | (k, t) :: r, z => if z = k then t else am_sw d r z
/-- branches -/
def am_br (i : Instr) (a nx : Nat) (tb : List (Int32 × Nat)) (st : List Value) : Option (Nat × List Value) := match i with
  | .goto _ => some (a, st)
  | .if_icmp .eq _ => match st with | .int y :: .int x :: r => some (if x = y then a else nx, r) | _ => none
  | .if_icmp .ne _ => match st with | .int y :: .int x :: r => some (if x = y then nx else a, r) | _ => none
  | .if_icmp .lt _ => match st with | .int y :: .int x :: r => some (if x < y then a else nx, r) | _ => none
  | .if_icmp .ge _ => match st with | .int y :: .int x :: r => some (if y ≤ x then a else nx, r) | _ => none
  | .if_icmp .gt _ => match st with | .int y :: .int x :: r => some (if y < x then a else nx, r) | _ => none
  | .if_icmp .le _ => match st with | .int y :: .int x :: r => some (if x ≤ y then a else nx, r) | _ => none
  | .ifCond .eq _ => match st with | .int x :: r => some (if x = 0 then a else nx, r) | _ => none
  | .ifCond .ne _ => match st with | .int x :: r => some (if x = 0 then nx else a, r) | _ => none
  | .ifCond .lt _ => match st with | .int x :: r => some (if x < 0 then a else nx, r) | _ => none
  | .ifCond .ge _ => match st with | .int x :: r => some (if 0 ≤ x then a else nx, r) | _ => none
  | .ifCond .gt _ => match st with | .int x :: r => some (if 0 < x then a else nx, r) | _ => none
  | .ifCond .le _ => match st with | .int x :: r => some (if x ≤ 0 then a else nx, r) | _ => none
  | .tableswitch _ _ _ _ => match st with | .int x :: r => some (am_sw a tb x, r) | _ => none
  | .lookupswitch _ _ => match st with | .int x :: r => some (am_sw a tb x, r) | _ => none
  | _ => none
def am_fv (x : am_X) (q : Nat × Nat) : Value := match q.1 with
  | 0 => .ref q.2
  | 2 => .long (x.2.1 q.2)
  | _ => .int (x.1 q.2)
def am_fld (ci k i : Nat) : Option (Nat × Nat) := match am_at am_shp i with
  | some (.inl (c2, fs)) => bif Nat.beq c2 ci then am_at fs k else none
  | _ => none
def am_arr (i : Nat) : Option (Nat × Nat) := match am_at am_shp i with
  | some (.inr q) => some q
  | _ => none
/-- the String constants -/
def am_txt : Nat → String := fun k => match k with
  | 1000 => "" | 1001 => "KDD;" | 1002 => "KDDDD;" | 1003 => "DD;" | 1004 => "D;" | 1005 => "SDD;" | 1006 => "lhgsbr" | _ => "fnmea"
def am_byt (k : Nat) : List Nat := (am_txt k).toList.map Char.toNat
def am_idx (c : Int32) : List Nat → Nat → Int32
  | [], _ => -1
  | b :: l, k => if nI b = c then nI k else am_idx c l (k + 1)
def am_len : List Nat := (List.range 8).map (fun i => (am_byt (1000 + i)).length)
def am_bI : List (List Int32) := (List.range 8).map (fun i => (am_byt (1000 + i)).map nI)
def am_bat (k : Nat) (j : Int32) : Int32 := (am_bI.getD (k - 1100) []).getD j.toNatClampNeg 0
def am_sum (r : List Value) : Nat := (r.map fun v => v.category).sum
/-- cells: reads and writes, with what must hold -/
def am_cel (i : Instr) (a : Nat) (v : Value) (st : List Value) (x : am_X) : Option (Option Prop × List Value × am_X) := match i with
  | .getfield _ => match st, v with
    | .ref k :: r, .ref ci => bif Nat.beq ci 20 then (bif Nat.ble 1000 k && Nat.blt k 1008 then some (none, (match a with | 0 => .ref (k + 100) | _ => .int 0) :: r, x) else none) else (match am_fld ci a k with | some q => some (none, am_fv x q :: r, x) | none => none)
    | _, _ => none
  | .putfield _ => match st, v with
    | .int y :: .ref k :: r, .ref ci => (match am_fld ci a k with
      | some (1, id) => some (none, r, am_uI x id y)
      | some (3, id) => some (some (y = 0 ∨ y = 1), r, am_uI x id y)
      | _ => none)
    | .long y :: .ref k :: r, .ref ci => (match am_fld ci a k with
      | some (2, id) => some (none, r, am_uL x id y)
      | _ => none)
    | _, _ => none
  | .arraylength => match st with
    | .ref k :: r => (match am_arr k with | some (_, n) => some (none, .int (Int32.ofNat n) :: r, x) | none => bif Nat.ble 1100 k && Nat.blt k 1108 then some (none, .int (Int32.ofNat (am_len.getD (k - 1100) 0)) :: r, x) else none)
    | _ => none
  | .iaload => match st with
    | .int j :: .ref k :: r => (match am_arr k with | some (0, n) => some (some (vp_in j n), .int (x.2.2.1 k j.toNatClampNeg) :: r, x) | _ => none)
    | _ => none
  | .baload => match st with
    | .int j :: .ref k :: r => (match am_arr k with | some (2, n) => some (some (vp_in j n), .int (x.2.2.1 k j.toNatClampNeg) :: r, x) | some _ => none | none => bif Nat.ble 1100 k && Nat.blt k 1108 then some (some (vp_in j (am_len.getD (k - 1100) 0)), .int (am_bat k j) :: r, x) else none)
    | _ => none
  | .caload => match st with
    | .int j :: .ref k :: r => (match am_arr k with | some (3, n) => some (some (vp_in j n), .int (x.2.2.1 k j.toNatClampNeg) :: r, x) | _ => none)
    | _ => none
  | .laload => match st with
    | .int j :: .ref k :: r => (match am_arr k with | some (1, n) => some (some (vp_in j n), .long (x.2.2.2 k j.toNatClampNeg) :: r, x) | _ => none)
    | _ => none
  | .iastore => match st with
    | .int y :: .int j :: .ref k :: r => (match am_arr k with | some (0, n) => some (some (vp_in j n), r, am_sA x k (upd (x.2.2.1 k) j.toNatClampNeg y)) | _ => none)
    | _ => none
  | .bastore => match st with
    | .int y :: .int j :: .ref k :: r => (match am_arr k with | some (2, n) => some (some (vp_in j n), r, am_sA x k (upd (x.2.2.1 k) j.toNatClampNeg (vp_nar .boolean y))) | _ => none)
    | _ => none
  | .lastore => match st with
    | .long y :: .int j :: .ref k :: r => (match am_arr k with | some (1, n) => some (some (vp_in j n), r, am_sB x k (vp_updL (x.2.2.2 k) j.toNatClampNeg y)) | _ => none)
    | _ => none
  | .invokestatic _ => match a with
    | 999 => (match st with
      | .int n :: .int dp :: .ref q :: .int sp :: .ref p :: r => (match am_arr p, am_arr q with
        | some (0, n0), some (0, n1) => some (some ((¬ sp < 0 ∧ ¬ dp < 0 ∧ ¬ n < 0 ∧ sp.toNatClampNeg + n.toNatClampNeg ≤ n0 ∧ dp.toNatClampNeg + n.toNatClampNeg ≤ n1) ∧ r = []), r, am_sA x q (va_cpy (x.2.2.1 p) (x.2.2.1 q) sp.toNatClampNeg dp.toNatClampNeg n.toNatClampNeg))
        | some (1, n0), some (1, n1) => some (some ((¬ sp < 0 ∧ ¬ dp < 0 ∧ ¬ n < 0 ∧ sp.toNatClampNeg + n.toNatClampNeg ≤ n0 ∧ dp.toNatClampNeg + n.toNatClampNeg ≤ n1) ∧ r = []), r, am_sB x q (va_cpy (x.2.2.2 p) (x.2.2.2 q) sp.toNatClampNeg dp.toNatClampNeg n.toNatClampNeg))
        | _, _ => none)
      | _ => none)
    | 1000 => (match st with | .int y :: .int z :: r => bif Nat.ble (am_sum r) 8 then some (none, .int (if z < y then y else z) :: r, x) else none | _ => none)
    | 1001 => (match st with | .int y :: .int z :: r => bif Nat.ble (am_sum r) 8 then some (none, .int (if y < z then y else z) :: r, x) else none | _ => none)
    | 1002 => (match st with | .int z :: r => bif Nat.ble (am_sum r) 8 then some (none, .int (if 0 ≤ z then z else 0 - z) :: r, x) else none | _ => none)
    | _ => none
  | _ => none
def am_spl : Nat → List Value → List Value → Option (List Value × List Value)
  | 0, acc, st => some (acc, st)
  | n + 1, acc, v :: st => am_spl n (v :: acc) st
  | _ + 1, _, [] => none
def am_cls (b : Nat) : Nat := match am_at am_shp b with
  | some (.inl (c, _)) => c
  | some (.inr _) => 98
  | none => bif Nat.ble 1000 b && Nat.blt b 1008 then 20 else 97
/-- a call: the callee, its arguments, the stack that stays -/
def am_inv (i : Instr) (a : Nat) (v : Value) (st : List Value) : Option (Nat × List Value × List Value) := match i with
  | .invokestatic _ => match v with
    | .ref n => (match am_spl n [] st with
      | some (as, r) => bif Nat.ble (am_sum r) 8 then some (a, as, r) else none
      | none => none)
    | _ => none
  | .invokevirtual _ => match v with
    | .ref n => (match am_spl (n % 10) [] st with
      | some (as, .ref b :: r) => bif Nat.beq (am_cls b + 1) (n / 10) && Nat.ble (am_sum r) 8 then some (a, .ref b :: as, r) else none
      | _ => none)
    | _ => none
  | _ => none
/-- an end: the answer, and what must hold of it -/
def am_ret (i : Instr) (a : Nat) (st : List Value) : Option (Option Value × Prop) := match i with
  | .ireturn => match st with
    | [.int y] => (match a with | 0 => some (some (.int y), True) | 1 => some (some (.int y), y = 0 ∨ y = 1) | _ => some (some (.int y), narrow .char (.int y) = .int y))
    | _ => none
  | .lreturn => match st with | [.long y] => some (some (.long y), True) | _ => none
  | .areturn => match st with | [.ref y] => some (some (.ref y), True) | _ => none
  | .return_ => match st with | [] => some (none, True) | _ => none
  | _ => none
/-- which of them an instruction is -/
def am_grp (i : Instr) (a : Nat) : Nat := match i with
  | .idiv | .irem | .ldiv | .lrem => 1
  | .iload _ | .iload_n _ | .lload _ | .lload_n _ | .aload _ | .aload_n _ | .istore _ | .istore_n _ | .lstore _ | .lstore_n _ | .astore _ | .astore_n _ | .iinc _ _ => 2
  | .goto _ | .if_icmp _ _ | .ifCond _ _ | .tableswitch _ _ _ _ | .lookupswitch _ _ => 3
  | .getfield _ | .putfield _ | .arraylength | .iaload | .baload | .caload | .laload | .iastore | .bastore | .lastore => 4
  | .invokestatic _ => bif Nat.ble 999 a then 4 else 5
  | .invokevirtual _ => 5
  | .ireturn | .lreturn | .areturn | .return_ => 6
  | _ => 0
def am_exec (q : am_I) (ls : am_L) (st : List Value) (x : am_X) : Option am_R0 :=
  match am_grp q.1 q.2.1 with
  | 0 => (match am_pure q.1 q.2.2.1 st with | some st' => some (.inl (q.2.2.2.1, ls, st', x)) | none => none)
  | 1 => (match am_div q.1 st with | some (P, st') => some (.inr (.inl (P, (q.2.2.2.1, ls, st', x)))) | none => none)
  | 2 => (match am_loc q.1 q.2.1 q.2.2.1 ls st with | some (ls', st') => some (.inl (q.2.2.2.1, ls', st', x)) | none => none)
  | 3 => (match am_br q.1 q.2.1 q.2.2.2.1 q.2.2.2.2 st with | some (pc, st') => some (.inl (pc, ls, st', x)) | none => none)
  | 4 => (match am_cel q.1 q.2.1 q.2.2.1 st x with | some (none, st', x') => some (.inl (q.2.2.2.1, ls, st', x')) | some (some P, st', x') => some (.inr (.inl (P, (q.2.2.2.1, ls, st', x')))) | none => none)
  | 5 => (match am_inv q.1 q.2.1 q.2.2.1 st with | some (M, as, r) => some (.inr (.inr (.inr (M, as, (q.2.2.2.1, ls, r, x))))) | none => none)
  | _ => (match am_ret q.1 q.2.1 st with | some (v, P) => some (.inr (.inr (.inl (v, P, x)))) | none => none)
def am_step (cd : am_C) (σ : am_S) : Option am_R0 := match am_find cd σ.1 with
  | some q => am_exec q σ.2.1 σ.2.2.1 σ.2.2.2
  | none => none
abbrev am_Rel : Type := Nat → List Value → am_X → Option Value → am_X → Prop
def am_run (C : am_Rel) (cd : am_C) : Nat → am_S → Option Value → am_X → Prop
  | 0, _, _, _ => False
  | n + 1, σ, r, x' => ∃ ls0, am_le ls0 σ.2.1 ∧ (match am_step cd (σ.1, ls0, σ.2.2.1, σ.2.2.2) with
    | none => False
    | some (.inl σ') => am_run C cd n σ' r x'
    | some (.inr (.inl (P, σ'))) => P ∧ am_run C cd n σ' r x'
    | some (.inr (.inr (.inl (v, P, x)))) => P ∧ v = r ∧ x = x'
    | some (.inr (.inr (.inr (M, as, (pc, ls, st, x))))) => ∃ r1 x1, C M as x r1 x1 ∧ am_run C cd n (pc, ls, r1.toList ++ st, x1) r x')
def am_me (M : Nat) : am_Me := (am_at am_mt M).getD meX7_isSquare
def am_ent0 (M : Nat) (as : List Value) : am_L := am_entry as ++ am_pad ((am_me M).2.2.2.1 - (am_entry as).length) []
def am_Ev : Nat → am_Rel
  | 0 => fun _ _ _ _ _ => False
  | d + 1 => fun M as x r x' => 1 ≤ d ∧ Nat.ble (am_entry as).length (am_me M).2.2.2.1 = true ∧ ∃ n, am_run (am_Ev d) (am_code M) n (0, am_ent0 M as, [], x) r x'
end
section
/-! THE TABLES HOLD: each row of the abstract machine against the class files' words and bytes -/
def am_tb : List Cond := lw_tbl.filter goodWord
theorem am_tb_in {i : Nat} {w : Cond} (h : lw_tbl[i]? = some w) (g : goodWord w = true) : w ∈ am_tb := List.mem_filter.mpr ⟨List.mem_of_getElem? h, g⟩
def am_cc (ci : Nat) : vw_C := (am_at vwCl ci).getD (RX0, TX0, 2)
def am_flw (e : Nat × Nat × Nat × Nat × Nat × Nat) : Cond := match e.2.2.2.2.2 with
  | 1 => .fieldLinkNest (am_own e.1) e.2.1 (am_cc e.2.2.1).1 ((am_cc e.2.2.1).2.1 e.2.2.2.1).2.1 ((am_cc e.2.2.1).2.1 e.2.2.2.1).2.2.1 RX7
  | _ => .fieldLink (am_own e.1) e.2.1 (am_cc e.2.2.1).1 ((am_cc e.2.2.1).2.1 e.2.2.2.1).2.1 ((am_cc e.2.2.1).2.1 e.2.2.2.1).2.2.1
def am_fl1 (e : Nat × Nat × Nat × Nat × Nat × Nat) : Bool := decide (lw_tbl[e.2.2.2.2.1]? = some (am_flw e)) && (Nat.beq e.2.2.2.2.2 1 || goodWord (am_flw e)) && decide (e.2.2.1 < 9) && decide (e.2.2.2.1 < (am_cc e.2.2.1).2.2)
set_option maxRecDepth 100000 in
theorem am_fl_ok : am_fl.all am_fl1 = true := by decide +kernel
def am_mlw (e : Nat × Nat × Nat × Nat × Nat) : Cond := match e.2.2.2.2 with
  | 1 => .methodLinkNest (am_own e.1) e.2.1 (am_me e.2.2.1).2.1 RX7
  | _ => .methodLink (am_own e.1) e.2.1 (am_me e.2.2.1).2.1
def am_ml1 (e : Nat × Nat × Nat × Nat × Nat) : Bool := decide (lw_tbl[e.2.2.2.1]? = some (am_mlw e)) && (Nat.beq e.2.2.2.2 1 || goodWord (am_mlw e)) && decide (e.2.2.1 < 190)
set_option maxRecDepth 100000 in
theorem am_ml_ok : am_ml.all am_ml1 = true := by decide +kernel
set_option maxRecDepth 100000 in
theorem am_ci_ok : am_ci.all (fun e => decide (lw_tbl[e.2.2.2]? = some (.constant (am_own e.1) e.2.1 e.2.2.1)) && goodWord (.constant (am_own e.1) e.2.1 e.2.2.1)) = true := by decide +kernel
set_option maxRecDepth 100000 in
theorem am_cj_ok : am_cj.all (fun e => decide (lw_tbl[e.2.2.2]? = some (.constantLong (am_own e.1) e.2.1 e.2.2.1)) && goodWord (.constantLong (am_own e.1) e.2.1 e.2.2.1)) = true := by decide +kernel
/-- a method's words -/
def am_me1 (M : Nat) : Bool := match am_me M with
  | (oc, y, b, nL, ret, stc, n, p1, p2, p3, p4) => decide (lw_tbl[p2]? = some (if stc then .static y else .instanceMethod y)) && (stc || decide (lw_tbl[p3]? = some (.selects y.cls y y))) && decide (lw_tbl[p4]? = some (.initialized y.cls)) &&
    decide (y.cls = am_own oc) && decide (y.cls ≠ "java/lang/invoke/MethodHandle") && decide (y.cls ≠ "java/lang/invoke/VarHandle") && decide ((parseMethodDescriptor y.desc).map (fun d => d.parameters.length) = some n) && decide (nL ≤ 22) &&
    goodWord (.static y) && goodWord (.instanceMethod y) && goodWord (.selects y.cls y y) && goodWord (.initialized y.cls)
set_option maxRecDepth 100000 in
theorem am_cw_0 : lw_tbl[meX0_walk.2.2.2.2.2.2.2.1]? = some (.code meX0_walk.2.1 meX0_walk.2.2.1 meX0_walk.2.2.2.1 meX0_walk.2.2.2.2.1) := by rfl
set_option maxRecDepth 100000 in
theorem am_cw_1 : lw_tbl[meX0_comingOnto.2.2.2.2.2.2.2.1]? = some (.code meX0_comingOnto.2.1 meX0_comingOnto.2.2.1 meX0_comingOnto.2.2.2.1 meX0_comingOnto.2.2.2.2.1) := by rfl
set_option maxRecDepth 100000 in
theorem am_cw_2 : lw_tbl[meX0_endingOn.2.2.2.2.2.2.2.1]? = some (.code meX0_endingOn.2.1 meX0_endingOn.2.2.1 meX0_endingOn.2.2.2.1 meX0_endingOn.2.2.2.2.1) := by rfl
set_option maxRecDepth 100000 in
theorem am_cw_3 : lw_tbl[meX0_inAll.2.2.2.2.2.2.2.1]? = some (.code meX0_inAll.2.1 meX0_inAll.2.2.1 meX0_inAll.2.2.2.1 meX0_inAll.2.2.2.2.1) := by rfl
set_option maxRecDepth 100000 in
theorem am_cw_4 : lw_tbl[meX0_likeliestSquare.2.2.2.2.2.2.2.1]? = some (.code meX0_likeliestSquare.2.1 meX0_likeliestSquare.2.2.1 meX0_likeliestSquare.2.2.2.1 meX0_likeliestSquare.2.2.2.2.1) := by rfl
set_option maxRecDepth 100000 in
theorem am_cw_5 : lw_tbl[meX1_become.2.2.2.2.2.2.2.1]? = some (.code meX1_become.2.1 meX1_become.2.2.1 meX1_become.2.2.2.1 meX1_become.2.2.2.2.1) := by rfl
set_option maxRecDepth 100000 in
theorem am_cw_6 : lw_tbl[meX1_squaresOf.2.2.2.2.2.2.2.1]? = some (.code meX1_squaresOf.2.1 meX1_squaresOf.2.2.1 meX1_squaresOf.2.2.2.1 meX1_squaresOf.2.2.2.2.1) := by rfl
set_option maxRecDepth 100000 in
theorem am_cw_7 : lw_tbl[meX1_open.2.2.2.2.2.2.2.1]? = some (.code meX1_open.2.1 meX1_open.2.2.1 meX1_open.2.2.2.1 meX1_open.2.2.2.2.1) := by rfl
set_option maxRecDepth 100000 in
theorem am_cw_8 : lw_tbl[meX1_kindAt.2.2.2.2.2.2.2.1]? = some (.code meX1_kindAt.2.1 meX1_kindAt.2.2.1 meX1_kindAt.2.2.2.1 meX1_kindAt.2.2.2.2.1) := by rfl
set_option maxRecDepth 100000 in
theorem am_cw_9 : lw_tbl[meX1_stepsOff.2.2.2.2.2.2.2.1]? = some (.code meX1_stepsOff.2.1 meX1_stepsOff.2.2.1 meX1_stepsOff.2.2.2.1 meX1_stepsOff.2.2.2.2.1) := by rfl
set_option maxRecDepth 100000 in
theorem am_cw_10 : lw_tbl[meX1_stepsOffSun.2.2.2.2.2.2.2.1]? = some (.code meX1_stepsOffSun.2.1 meX1_stepsOffSun.2.2.1 meX1_stepsOffSun.2.2.2.1 meX1_stepsOffSun.2.2.2.2.1) := by rfl
set_option maxRecDepth 100000 in
theorem am_cw_11 : lw_tbl[meX1_lay.2.2.2.2.2.2.2.1]? = some (.code meX1_lay.2.1 meX1_lay.2.2.1 meX1_lay.2.2.2.1 meX1_lay.2.2.2.2.1) := by rfl
set_option maxRecDepth 100000 in
theorem am_cw_12 : lw_tbl[meX1_liveAt.2.2.2.2.2.2.2.1]? = some (.code meX1_liveAt.2.1 meX1_liveAt.2.2.1 meX1_liveAt.2.2.2.1 meX1_liveAt.2.2.2.2.1) := by rfl
set_option maxRecDepth 100000 in
theorem am_cw_13 : lw_tbl[meX1_takePace.2.2.2.2.2.2.2.1]? = some (.code meX1_takePace.2.1 meX1_takePace.2.2.1 meX1_takePace.2.2.2.1 meX1_takePace.2.2.2.2.1) := by rfl
set_option maxRecDepth 100000 in
theorem am_cw_14 : lw_tbl[meX1_takeWarm.2.2.2.2.2.2.2.1]? = some (.code meX1_takeWarm.2.1 meX1_takeWarm.2.2.1 meX1_takeWarm.2.2.2.1 meX1_takeWarm.2.2.2.2.1) := by rfl
set_option maxRecDepth 100000 in
theorem am_cw_15 : lw_tbl[meX1_addSeeker.2.2.2.2.2.2.2.1]? = some (.code meX1_addSeeker.2.1 meX1_addSeeker.2.2.1 meX1_addSeeker.2.2.2.1 meX1_addSeeker.2.2.2.2.1) := by rfl
set_option maxRecDepth 100000 in
theorem am_cw_16 : lw_tbl[meX1_hasSeeker.2.2.2.2.2.2.2.1]? = some (.code meX1_hasSeeker.2.1 meX1_hasSeeker.2.2.1 meX1_hasSeeker.2.2.2.1 meX1_hasSeeker.2.2.2.2.1) := by rfl
set_option maxRecDepth 100000 in
theorem am_cw_17 : lw_tbl[meX1_kindOfSeeker.2.2.2.2.2.2.2.1]? = some (.code meX1_kindOfSeeker.2.1 meX1_kindOfSeeker.2.2.1 meX1_kindOfSeeker.2.2.2.1 meX1_kindOfSeeker.2.2.2.2.1) := by rfl
set_option maxRecDepth 100000 in
theorem am_cw_18 : lw_tbl[meX1_squareOfSeeker.2.2.2.2.2.2.2.1]? = some (.code meX1_squareOfSeeker.2.1 meX1_squareOfSeeker.2.2.1 meX1_squareOfSeeker.2.2.2.1 meX1_squareOfSeeker.2.2.2.2.1) := by rfl
set_option maxRecDepth 100000 in
theorem am_cw_19 : lw_tbl[meX1_placeSeeker.2.2.2.2.2.2.2.1]? = some (.code meX1_placeSeeker.2.1 meX1_placeSeeker.2.2.1 meX1_placeSeeker.2.2.2.1 meX1_placeSeeker.2.2.2.2.1) := by rfl
set_option maxRecDepth 100000 in
theorem am_cw_20 : lw_tbl[meX2_begin.2.2.2.2.2.2.2.1]? = some (.code meX2_begin.2.1 meX2_begin.2.2.1 meX2_begin.2.2.2.1 meX2_begin.2.2.2.2.1) := by rfl
set_option maxRecDepth 100000 in
theorem am_cw_21 : lw_tbl[meX2_look.2.2.2.2.2.2.2.1]? = some (.code meX2_look.2.1 meX2_look.2.2.1 meX2_look.2.2.2.1 meX2_look.2.2.2.2.1) := by rfl
set_option maxRecDepth 100000 in
theorem am_cw_22 : lw_tbl[meX2_seek.2.2.2.2.2.2.2.1]? = some (.code meX2_seek.2.1 meX2_seek.2.2.1 meX2_seek.2.2.2.1 meX2_seek.2.2.2.2.1) := by rfl
set_option maxRecDepth 100000 in
theorem am_cw_23 : lw_tbl[meX2_choice.2.2.2.2.2.2.2.1]? = some (.code meX2_choice.2.1 meX2_choice.2.2.1 meX2_choice.2.2.2.1 meX2_choice.2.2.2.2.1) := by rfl
set_option maxRecDepth 100000 in
theorem am_cw_24 : lw_tbl[meX2_standOf.2.2.2.2.2.2.2.1]? = some (.code meX2_standOf.2.1 meX2_standOf.2.2.1 meX2_standOf.2.2.2.1 meX2_standOf.2.2.2.2.1) := by rfl
set_option maxRecDepth 100000 in
theorem am_cw_25 : lw_tbl[meX2_goalAhead.2.2.2.2.2.2.2.1]? = some (.code meX2_goalAhead.2.1 meX2_goalAhead.2.2.1 meX2_goalAhead.2.2.2.1 meX2_goalAhead.2.2.2.2.1) := by rfl
set_option maxRecDepth 100000 in
theorem am_cw_26 : lw_tbl[meX2_nearest.2.2.2.2.2.2.2.1]? = some (.code meX2_nearest.2.1 meX2_nearest.2.2.1 meX2_nearest.2.2.2.1 meX2_nearest.2.2.2.2.1) := by rfl
set_option maxRecDepth 100000 in
theorem am_cw_27 : lw_tbl[meX2_withMostBeside.2.2.2.2.2.2.2.1]? = some (.code meX2_withMostBeside.2.1 meX2_withMostBeside.2.2.1 meX2_withMostBeside.2.2.2.1 meX2_withMostBeside.2.2.2.2.1) := by rfl
set_option maxRecDepth 100000 in
theorem am_cw_28 : lw_tbl[meX2_withFewestBeside.2.2.2.2.2.2.2.1]? = some (.code meX2_withFewestBeside.2.1 meX2_withFewestBeside.2.2.1 meX2_withFewestBeside.2.2.2.1 meX2_withFewestBeside.2.2.2.2.1) := by rfl
set_option maxRecDepth 100000 in
theorem am_cw_29 : lw_tbl[meX3_seed.2.2.2.2.2.2.2.1]? = some (.code meX3_seed.2.1 meX3_seed.2.2.1 meX3_seed.2.2.2.1 meX3_seed.2.2.2.2.1) := by rfl
set_option maxRecDepth 100000 in
theorem am_cw_30 : lw_tbl[meX3_draw.2.2.2.2.2.2.2.1]? = some (.code meX3_draw.2.1 meX3_draw.2.2.1 meX3_draw.2.2.2.1 meX3_draw.2.2.2.2.1) := by rfl
set_option maxRecDepth 100000 in
theorem am_cw_31 : lw_tbl[meX4_isFull.2.2.2.2.2.2.2.1]? = some (.code meX4_isFull.2.1 meX4_isFull.2.2.1 meX4_isFull.2.2.2.1 meX4_isFull.2.2.2.2.1) := by rfl
set_option maxRecDepth 100000 in
theorem am_cw_32 : lw_tbl[meX4_add.2.2.2.2.2.2.2.1]? = some (.code meX4_add.2.1 meX4_add.2.2.1 meX4_add.2.2.2.1 meX4_add.2.2.2.2.1) := by rfl
set_option maxRecDepth 100000 in
theorem am_cw_33 : lw_tbl[meX4_clear.2.2.2.2.2.2.2.1]? = some (.code meX4_clear.2.1 meX4_clear.2.2.1 meX4_clear.2.2.2.1 meX4_clear.2.2.2.2.1) := by rfl
set_option maxRecDepth 100000 in
theorem am_cw_34 : lw_tbl[meX4_at.2.2.2.2.2.2.2.1]? = some (.code meX4_at.2.1 meX4_at.2.2.1 meX4_at.2.2.2.1 meX4_at.2.2.2.2.1) := by rfl
set_option maxRecDepth 100000 in
theorem am_cw_35 : lw_tbl[meX5_tellTo.2.2.2.2.2.2.2.1]? = some (.code meX5_tellTo.2.1 meX5_tellTo.2.2.1 meX5_tellTo.2.2.2.1 meX5_tellTo.2.2.2.2.1) := by rfl
set_option maxRecDepth 100000 in
theorem am_cw_36 : lw_tbl[meX5_firstMisfit.2.2.2.2.2.2.2.1]? = some (.code meX5_firstMisfit.2.1 meX5_firstMisfit.2.2.1 meX5_firstMisfit.2.2.2.1 meX5_firstMisfit.2.2.2.2.1) := by rfl
set_option maxRecDepth 100000 in
theorem am_cw_37 : lw_tbl[meX5_shapeBehind.2.2.2.2.2.2.2.1]? = some (.code meX5_shapeBehind.2.1 meX5_shapeBehind.2.2.1 meX5_shapeBehind.2.2.2.1 meX5_shapeBehind.2.2.2.2.1) := by rfl
set_option maxRecDepth 100000 in
theorem am_cw_38 : lw_tbl[meX5_fits.2.2.2.2.2.2.2.1]? = some (.code meX5_fits.2.1 meX5_fits.2.2.1 meX5_fits.2.2.2.1 meX5_fits.2.2.2.2.1) := by rfl
set_option maxRecDepth 100000 in
theorem am_cw_39 : lw_tbl[meX5_comes.2.2.2.2.2.2.2.1]? = some (.code meX5_comes.2.1 meX5_comes.2.2.1 meX5_comes.2.2.2.1 meX5_comes.2.2.2.2.1) := by rfl
set_option maxRecDepth 100000 in
theorem am_cw_40 : lw_tbl[meX5_digitAt.2.2.2.2.2.2.2.1]? = some (.code meX5_digitAt.2.1 meX5_digitAt.2.2.1 meX5_digitAt.2.2.2.1 meX5_digitAt.2.2.2.2.1) := by rfl
set_option maxRecDepth 100000 in
theorem am_cw_41 : lw_tbl[meX5_pairAt.2.2.2.2.2.2.2.1]? = some (.code meX5_pairAt.2.1 meX5_pairAt.2.2.1 meX5_pairAt.2.2.2.1 meX5_pairAt.2.2.2.2.1) := by rfl
set_option maxRecDepth 100000 in
theorem am_cw_42 : lw_tbl[meX6_spread.2.2.2.2.2.2.2.1]? = some (.code meX6_spread.2.1 meX6_spread.2.2.1 meX6_spread.2.2.2.1 meX6_spread.2.2.2.2.1) := by rfl
set_option maxRecDepth 100000 in
theorem am_cw_43 : lw_tbl[meX6_layer.2.2.2.2.2.2.2.1]? = some (.code meX6_layer.2.1 meX6_layer.2.2.1 meX6_layer.2.2.2.1 meX6_layer.2.2.2.2.1) := by rfl
set_option maxRecDepth 100000 in
theorem am_cw_44 : lw_tbl[meX6_within.2.2.2.2.2.2.2.1]? = some (.code meX6_within.2.1 meX6_within.2.2.1 meX6_within.2.2.2.1 meX6_within.2.2.2.2.1) := by rfl
set_option maxRecDepth 100000 in
theorem am_cw_45 : lw_tbl[meX6_stepsTo.2.2.2.2.2.2.2.1]? = some (.code meX6_stepsTo.2.1 meX6_stepsTo.2.2.1 meX6_stepsTo.2.2.2.1 meX6_stepsTo.2.2.2.2.1) := by rfl
set_option maxRecDepth 100000 in
theorem am_cw_46 : lw_tbl[meX7_letter.2.2.2.2.2.2.2.1]? = some (.code meX7_letter.2.1 meX7_letter.2.2.1 meX7_letter.2.2.2.1 meX7_letter.2.2.2.2.1) := by rfl
set_option maxRecDepth 100000 in
theorem am_cw_47 : lw_tbl[meX7_garden.2.2.2.2.2.2.2.1]? = some (.code meX7_garden.2.1 meX7_garden.2.2.1 meX7_garden.2.2.2.1 meX7_garden.2.2.2.2.1) := by rfl
set_option maxRecDepth 100000 in
theorem am_cw_48 : lw_tbl[meX7_square.2.2.2.2.2.2.2.1]? = some (.code meX7_square.2.1 meX7_square.2.2.1 meX7_square.2.2.2.1 meX7_square.2.2.2.2.1) := by rfl
set_option maxRecDepth 100000 in
theorem am_cw_49 : lw_tbl[meX7_turnTo.2.2.2.2.2.2.2.1]? = some (.code meX7_turnTo.2.1 meX7_turnTo.2.2.1 meX7_turnTo.2.2.2.1 meX7_turnTo.2.2.2.2.1) := by rfl
set_option maxRecDepth 100000 in
theorem am_cw_50 : lw_tbl[meX7_set.2.2.2.2.2.2.2.1]? = some (.code meX7_set.2.1 meX7_set.2.2.1 meX7_set.2.2.2.1 meX7_set.2.2.2.2.1) := by rfl
set_option maxRecDepth 100000 in
theorem am_cw_51 : lw_tbl[meX7_seeker.2.2.2.2.2.2.2.1]? = some (.code meX7_seeker.2.1 meX7_seeker.2.2.1 meX7_seeker.2.2.2.1 meX7_seeker.2.2.2.2.1) := by rfl
set_option maxRecDepth 100000 in
theorem am_cw_52 : lw_tbl[meX7_stand.2.2.2.2.2.2.2.1]? = some (.code meX7_stand.2.1 meX7_stand.2.2.1 meX7_stand.2.2.2.1 meX7_stand.2.2.2.2.1) := by rfl
set_option maxRecDepth 100000 in
theorem am_cw_53 : lw_tbl[meX7_steps.2.2.2.2.2.2.2.1]? = some (.code meX7_steps.2.1 meX7_steps.2.2.1 meX7_steps.2.2.2.1 meX7_steps.2.2.2.2.1) := by rfl
set_option maxRecDepth 100000 in
theorem am_cw_54 : lw_tbl[meX7_mayBe.2.2.2.2.2.2.2.1]? = some (.code meX7_mayBe.2.1 meX7_mayBe.2.2.1 meX7_mayBe.2.2.2.1 meX7_mayBe.2.2.2.2.1) := by rfl
set_option maxRecDepth 100000 in
theorem am_cw_55 : lw_tbl[meX7_out.2.2.2.2.2.2.2.1]? = some (.code meX7_out.2.1 meX7_out.2.2.1 meX7_out.2.2.2.1 meX7_out.2.2.2.2.1) := by rfl
set_option maxRecDepth 100000 in
theorem am_cw_56 : lw_tbl[meX7_shut.2.2.2.2.2.2.2.1]? = some (.code meX7_shut.2.1 meX7_shut.2.2.1 meX7_shut.2.2.2.1 meX7_shut.2.2.2.2.1) := by rfl
set_option maxRecDepth 100000 in
theorem am_cw_57 : lw_tbl[meX7_firstGap.2.2.2.2.2.2.2.1]? = some (.code meX7_firstGap.2.1 meX7_firstGap.2.2.1 meX7_firstGap.2.2.2.1 meX7_firstGap.2.2.2.2.1) := by rfl
set_option maxRecDepth 100000 in
theorem am_cw_58 : lw_tbl[meX7_search.2.2.2.2.2.2.2.1]? = some (.code meX7_search.2.1 meX7_search.2.2.1 meX7_search.2.2.2.1 meX7_search.2.2.2.2.1) := by rfl
set_option maxRecDepth 100000 in
theorem am_cw_59 : lw_tbl[meX7_left.2.2.2.2.2.2.2.1]? = some (.code meX7_left.2.1 meX7_left.2.2.1 meX7_left.2.2.2.1 meX7_left.2.2.2.2.1) := by rfl
set_option maxRecDepth 100000 in
theorem am_cw_60 : lw_tbl[meX7_looksAt.2.2.2.2.2.2.2.1]? = some (.code meX7_looksAt.2.1 meX7_looksAt.2.2.1 meX7_looksAt.2.2.2.1 meX7_looksAt.2.2.2.2.1) := by rfl
set_option maxRecDepth 100000 in
theorem am_cw_61 : lw_tbl[meX7_bestSeeker.2.2.2.2.2.2.2.1]? = some (.code meX7_bestSeeker.2.1 meX7_bestSeeker.2.2.1 meX7_bestSeeker.2.2.2.1 meX7_bestSeeker.2.2.2.2.1) := by rfl
set_option maxRecDepth 100000 in
theorem am_cw_62 : lw_tbl[meX7_together.2.2.2.2.2.2.2.1]? = some (.code meX7_together.2.1 meX7_together.2.2.1 meX7_together.2.2.2.1 meX7_together.2.2.2.2.1) := by rfl
set_option maxRecDepth 100000 in
theorem am_cw_63 : lw_tbl[meX7_hold.2.2.2.2.2.2.2.1]? = some (.code meX7_hold.2.1 meX7_hold.2.2.1 meX7_hold.2.2.2.1 meX7_hold.2.2.2.2.1) := by rfl
set_option maxRecDepth 100000 in
theorem am_cw_64 : lw_tbl[meX7_ways.2.2.2.2.2.2.2.1]? = some (.code meX7_ways.2.1 meX7_ways.2.2.1 meX7_ways.2.2.2.1 meX7_ways.2.2.2.2.1) := by rfl
set_option maxRecDepth 100000 in
theorem am_cw_65 : lw_tbl[meX7_likely.2.2.2.2.2.2.2.1]? = some (.code meX7_likely.2.1 meX7_likely.2.2.1 meX7_likely.2.2.2.1 meX7_likely.2.2.2.2.1) := by rfl
set_option maxRecDepth 100000 in
theorem am_cw_66 : lw_tbl[meX7_likeliest.2.2.2.2.2.2.2.1]? = some (.code meX7_likeliest.2.1 meX7_likeliest.2.2.1 meX7_likeliest.2.2.2.1 meX7_likeliest.2.2.2.2.1) := by rfl
set_option maxRecDepth 100000 in
theorem am_cw_67 : lw_tbl[meX7_turning.2.2.2.2.2.2.2.1]? = some (.code meX7_turning.2.1 meX7_turning.2.2.1 meX7_turning.2.2.2.1 meX7_turning.2.2.2.2.1) := by rfl
set_option maxRecDepth 100000 in
theorem am_cw_68 : lw_tbl[meX7_finds.2.2.2.2.2.2.2.1]? = some (.code meX7_finds.2.1 meX7_finds.2.2.1 meX7_finds.2.2.2.1 meX7_finds.2.2.2.2.1) := by rfl
set_option maxRecDepth 100000 in
theorem am_cw_69 : lw_tbl[meX7_row.2.2.2.2.2.2.2.1]? = some (.code meX7_row.2.1 meX7_row.2.2.1 meX7_row.2.2.2.1 meX7_row.2.2.2.2.1) := by rfl
set_option maxRecDepth 100000 in
theorem am_cw_70 : lw_tbl[meX7_judge.2.2.2.2.2.2.2.1]? = some (.code meX7_judge.2.1 meX7_judge.2.2.1 meX7_judge.2.2.2.1 meX7_judge.2.2.2.2.1) := by rfl
set_option maxRecDepth 100000 in
theorem am_cw_71 : lw_tbl[meX7_behind.2.2.2.2.2.2.2.1]? = some (.code meX7_behind.2.1 meX7_behind.2.2.1 meX7_behind.2.2.2.1 meX7_behind.2.2.2.2.1) := by rfl
set_option maxRecDepth 100000 in
theorem am_cw_72 : lw_tbl[meX7_lots.2.2.2.2.2.2.2.1]? = some (.code meX7_lots.2.1 meX7_lots.2.2.1 meX7_lots.2.2.2.1 meX7_lots.2.2.2.2.1) := by rfl
set_option maxRecDepth 100000 in
theorem am_cw_73 : lw_tbl[meX7_image.2.2.2.2.2.2.2.1]? = some (.code meX7_image.2.1 meX7_image.2.2.1 meX7_image.2.2.2.1 meX7_image.2.2.2.2.1) := by rfl
set_option maxRecDepth 100000 in
theorem am_cw_74 : lw_tbl[meX7_on.2.2.2.2.2.2.2.1]? = some (.code meX7_on.2.1 meX7_on.2.2.1 meX7_on.2.2.2.1 meX7_on.2.2.2.2.1) := by rfl
set_option maxRecDepth 100000 in
theorem am_cw_75 : lw_tbl[meX7_count.2.2.2.2.2.2.2.1]? = some (.code meX7_count.2.1 meX7_count.2.2.1 meX7_count.2.2.2.1 meX7_count.2.2.2.2.1) := by rfl
set_option maxRecDepth 100000 in
theorem am_cw_76 : lw_tbl[meX7_refused.2.2.2.2.2.2.2.1]? = some (.code meX7_refused.2.1 meX7_refused.2.2.1 meX7_refused.2.2.2.1 meX7_refused.2.2.2.2.1) := by rfl
set_option maxRecDepth 100000 in
theorem am_cw_77 : lw_tbl[meX7_refusedLong.2.2.2.2.2.2.2.1]? = some (.code meX7_refusedLong.2.1 meX7_refusedLong.2.2.1 meX7_refusedLong.2.2.2.1 meX7_refusedLong.2.2.2.2.1) := by rfl
set_option maxRecDepth 100000 in
theorem am_cw_78 : lw_tbl[meX7_refusalsOf.2.2.2.2.2.2.2.1]? = some (.code meX7_refusalsOf.2.1 meX7_refusalsOf.2.2.1 meX7_refusalsOf.2.2.2.1 meX7_refusalsOf.2.2.2.2.1) := by rfl
set_option maxRecDepth 100000 in
theorem am_cw_79 : lw_tbl[meX7_wrongMinute.2.2.2.2.2.2.2.1]? = some (.code meX7_wrongMinute.2.1 meX7_wrongMinute.2.2.1 meX7_wrongMinute.2.2.2.1 meX7_wrongMinute.2.2.2.2.1) := by rfl
set_option maxRecDepth 100000 in
theorem am_cw_80 : lw_tbl[meX7_wrongNumber.2.2.2.2.2.2.2.1]? = some (.code meX7_wrongNumber.2.1 meX7_wrongNumber.2.2.1 meX7_wrongNumber.2.2.2.1 meX7_wrongNumber.2.2.2.2.1) := by rfl
set_option maxRecDepth 100000 in
theorem am_cw_81 : lw_tbl[meX7_wrongSearch.2.2.2.2.2.2.2.1]? = some (.code meX7_wrongSearch.2.1 meX7_wrongSearch.2.2.1 meX7_wrongSearch.2.2.2.1 meX7_wrongSearch.2.2.2.2.1) := by rfl
set_option maxRecDepth 100000 in
theorem am_cw_82 : lw_tbl[meX7_wrongWays.2.2.2.2.2.2.2.1]? = some (.code meX7_wrongWays.2.1 meX7_wrongWays.2.2.1 meX7_wrongWays.2.2.2.1 meX7_wrongWays.2.2.2.2.1) := by rfl
set_option maxRecDepth 100000 in
theorem am_cw_83 : lw_tbl[meX7_setHome.2.2.2.2.2.2.2.1]? = some (.code meX7_setHome.2.1 meX7_setHome.2.2.1 meX7_setHome.2.2.2.1 meX7_setHome.2.2.2.2.1) := by rfl
set_option maxRecDepth 100000 in
theorem am_cw_84 : lw_tbl[meX7_setPace.2.2.2.2.2.2.2.1]? = some (.code meX7_setPace.2.1 meX7_setPace.2.2.1 meX7_setPace.2.2.2.1 meX7_setPace.2.2.2.2.1) := by rfl
set_option maxRecDepth 100000 in
theorem am_cw_85 : lw_tbl[meX7_setWarm.2.2.2.2.2.2.2.1]? = some (.code meX7_setWarm.2.1 meX7_setWarm.2.2.1 meX7_setWarm.2.2.2.1 meX7_setWarm.2.2.2.2.1) := by rfl
set_option maxRecDepth 100000 in
theorem am_cw_86 : lw_tbl[meX7_reachedBy.2.2.2.2.2.2.2.1]? = some (.code meX7_reachedBy.2.1 meX7_reachedBy.2.2.1 meX7_reachedBy.2.2.2.1 meX7_reachedBy.2.2.2.2.1) := by rfl
set_option maxRecDepth 100000 in
theorem am_cw_87 : lw_tbl[meX7_getsOut.2.2.2.2.2.2.2.1]? = some (.code meX7_getsOut.2.1 meX7_getsOut.2.2.1 meX7_getsOut.2.2.2.1 meX7_getsOut.2.2.2.2.1) := by rfl
set_option maxRecDepth 100000 in
theorem am_cw_88 : lw_tbl[meX7_flooded.2.2.2.2.2.2.2.1]? = some (.code meX7_flooded.2.1 meX7_flooded.2.2.1 meX7_flooded.2.2.2.1 meX7_flooded.2.2.2.2.1) := by rfl
set_option maxRecDepth 100000 in
theorem am_cw_89 : lw_tbl[meX7_gapsOfBits.2.2.2.2.2.2.2.1]? = some (.code meX7_gapsOfBits.2.1 meX7_gapsOfBits.2.2.1 meX7_gapsOfBits.2.2.2.1 meX7_gapsOfBits.2.2.2.2.1) := by rfl
set_option maxRecDepth 100000 in
theorem am_cw_90 : lw_tbl[meX7_reachedWhenHeld.2.2.2.2.2.2.2.1]? = some (.code meX7_reachedWhenHeld.2.1 meX7_reachedWhenHeld.2.2.1 meX7_reachedWhenHeld.2.2.2.1 meX7_reachedWhenHeld.2.2.2.2.1) := by rfl
set_option maxRecDepth 100000 in
theorem am_cw_91 : lw_tbl[meX7_oneMore.2.2.2.2.2.2.2.1]? = some (.code meX7_oneMore.2.1 meX7_oneMore.2.2.1 meX7_oneMore.2.2.2.1 meX7_oneMore.2.2.2.2.1) := by rfl
set_option maxRecDepth 100000 in
theorem am_cw_92 : lw_tbl[meX7_looksTillEmpty.2.2.2.2.2.2.2.1]? = some (.code meX7_looksTillEmpty.2.1 meX7_looksTillEmpty.2.2.1 meX7_looksTillEmpty.2.2.2.1 meX7_looksTillEmpty.2.2.2.2.1) := by rfl
set_option maxRecDepth 100000 in
theorem am_cw_93 : lw_tbl[meX7_lookOften.2.2.2.2.2.2.2.1]? = some (.code meX7_lookOften.2.1 meX7_lookOften.2.2.1 meX7_lookOften.2.2.2.1 meX7_lookOften.2.2.2.2.1) := by rfl
set_option maxRecDepth 100000 in
theorem am_cw_94 : lw_tbl[meX7_looksOfAll.2.2.2.2.2.2.2.1]? = some (.code meX7_looksOfAll.2.1 meX7_looksOfAll.2.2.1 meX7_looksOfAll.2.2.2.1 meX7_looksOfAll.2.2.2.2.1) := by rfl
set_option maxRecDepth 100000 in
theorem am_cw_95 : lw_tbl[meX7_rowTellsSquares.2.2.2.2.2.2.2.1]? = some (.code meX7_rowTellsSquares.2.1 meX7_rowTellsSquares.2.2.1 meX7_rowTellsSquares.2.2.2.1 meX7_rowTellsSquares.2.2.2.2.1) := by rfl
set_option maxRecDepth 100000 in
theorem am_cw_96 : lw_tbl[meX7_squaresOfRow.2.2.2.2.2.2.2.1]? = some (.code meX7_squaresOfRow.2.1 meX7_squaresOfRow.2.2.1 meX7_squaresOfRow.2.2.2.1 meX7_squaresOfRow.2.2.2.2.1) := by rfl
set_option maxRecDepth 100000 in
theorem am_cw_97 : lw_tbl[meX7_afterTurning.2.2.2.2.2.2.2.1]? = some (.code meX7_afterTurning.2.1 meX7_afterTurning.2.2.1 meX7_afterTurning.2.2.2.1 meX7_afterTurning.2.2.2.2.1) := by rfl
set_option maxRecDepth 100000 in
theorem am_cw_98 : lw_tbl[meX7_firstWrongPair.2.2.2.2.2.2.2.1]? = some (.code meX7_firstWrongPair.2.1 meX7_firstWrongPair.2.2.1 meX7_firstWrongPair.2.2.2.1 meX7_firstWrongPair.2.2.2.2.1) := by rfl
set_option maxRecDepth 100000 in
theorem am_cw_99 : lw_tbl[meX7_homesOfTraces.2.2.2.2.2.2.2.1]? = some (.code meX7_homesOfTraces.2.1 meX7_homesOfTraces.2.2.1 meX7_homesOfTraces.2.2.2.1 meX7_homesOfTraces.2.2.2.2.1) := by rfl
set_option maxRecDepth 100000 in
theorem am_cw_100 : lw_tbl[meX7_afterWalkByLot.2.2.2.2.2.2.2.1]? = some (.code meX7_afterWalkByLot.2.1 meX7_afterWalkByLot.2.2.1 meX7_afterWalkByLot.2.2.2.1 meX7_afterWalkByLot.2.2.2.2.1) := by rfl
set_option maxRecDepth 100000 in
theorem am_cw_101 : lw_tbl[meX7_drawnDirection.2.2.2.2.2.2.2.1]? = some (.code meX7_drawnDirection.2.1 meX7_drawnDirection.2.2.1 meX7_drawnDirection.2.2.2.1 meX7_drawnDirection.2.2.2.2.1) := by rfl
set_option maxRecDepth 100000 in
theorem am_cw_102 : lw_tbl[meX7_isSquare.2.2.2.2.2.2.2.1]? = some (.code meX7_isSquare.2.1 meX7_isSquare.2.2.1 meX7_isSquare.2.2.2.1 meX7_isSquare.2.2.2.2.1) := by rfl
set_option maxRecDepth 100000 in
theorem am_cw_103 : lw_tbl[meX7_bit.2.2.2.2.2.2.2.1]? = some (.code meX7_bit.2.1 meX7_bit.2.2.1 meX7_bit.2.2.2.1 meX7_bit.2.2.2.2.1) := by rfl
set_option maxRecDepth 100000 in
theorem am_cw_104 : lw_tbl[meX7_has.2.2.2.2.2.2.2.1]? = some (.code meX7_has.2.1 meX7_has.2.2.1 meX7_has.2.2.2.1 meX7_has.2.2.2.2.1) := by rfl
set_option maxRecDepth 100000 in
theorem am_cw_105 : lw_tbl[meX7_least.2.2.2.2.2.2.2.1]? = some (.code meX7_least.2.1 meX7_least.2.2.1 meX7_least.2.2.2.1 meX7_least.2.2.2.2.1) := by rfl
set_option maxRecDepth 100000 in
theorem am_cw_106 : lw_tbl[meX7_moved.2.2.2.2.2.2.2.1]? = some (.code meX7_moved.2.1 meX7_moved.2.2.1 meX7_moved.2.2.2.1 meX7_moved.2.2.2.2.1) := by rfl
set_option maxRecDepth 100000 in
theorem am_cw_107 : lw_tbl[meX7_beside.2.2.2.2.2.2.2.1]? = some (.code meX7_beside.2.1 meX7_beside.2.2.1 meX7_beside.2.2.2.1 meX7_beside.2.2.2.2.1) := by rfl
set_option maxRecDepth 100000 in
theorem am_cw_108 : lw_tbl[meX7_yesOrNo.2.2.2.2.2.2.2.1]? = some (.code meX7_yesOrNo.2.1 meX7_yesOrNo.2.2.1 meX7_yesOrNo.2.2.2.1 meX7_yesOrNo.2.2.2.2.1) := by rfl
set_option maxRecDepth 100000 in
theorem am_cw_109 : lw_tbl[meX7_greatestDivisor.2.2.2.2.2.2.2.1]? = some (.code meX7_greatestDivisor.2.1 meX7_greatestDivisor.2.2.1 meX7_greatestDivisor.2.2.2.1 meX7_greatestDivisor.2.2.2.2.1) := by rfl
set_option maxRecDepth 100000 in
theorem am_cw_110 : lw_tbl[meX8_no.2.2.2.2.2.2.2.1]? = some (.code meX8_no.2.1 meX8_no.2.2.1 meX8_no.2.2.2.1 meX8_no.2.2.2.2.1) := by rfl
set_option maxRecDepth 100000 in
theorem am_cw_111 : lw_tbl[meX8_noLong.2.2.2.2.2.2.2.1]? = some (.code meX8_noLong.2.1 meX8_noLong.2.2.1 meX8_noLong.2.2.2.1 meX8_noLong.2.2.2.2.1) := by rfl
set_option maxRecDepth 100000 in
theorem am_cw_112 : lw_tbl[meX8_move.2.2.2.2.2.2.2.1]? = some (.code meX8_move.2.1 meX8_move.2.2.1 meX8_move.2.2.2.1 meX8_move.2.2.2.2.1) := by rfl
set_option maxRecDepth 100000 in
theorem am_cw_113 : lw_tbl[meX8_image.2.2.2.2.2.2.2.1]? = some (.code meX8_image.2.1 meX8_image.2.2.1 meX8_image.2.2.2.1 meX8_image.2.2.2.2.1) := by rfl
set_option maxRecDepth 100000 in
theorem am_cw_114 : lw_tbl[meX8_on.2.2.2.2.2.2.2.1]? = some (.code meX8_on.2.1 meX8_on.2.2.1 meX8_on.2.2.2.1 meX8_on.2.2.2.2.1) := by rfl
set_option maxRecDepth 100000 in
theorem am_cw_115 : lw_tbl[meX8_isNoSquare.2.2.2.2.2.2.2.1]? = some (.code meX8_isNoSquare.2.1 meX8_isNoSquare.2.2.1 meX8_isNoSquare.2.2.2.1 meX8_isNoSquare.2.2.2.2.1) := by rfl
set_option maxRecDepth 100000 in
theorem am_cw_116 : lw_tbl[meX8_kindOf.2.2.2.2.2.2.2.1]? = some (.code meX8_kindOf.2.1 meX8_kindOf.2.2.1 meX8_kindOf.2.2.2.1 meX8_kindOf.2.2.2.2.1) := by rfl
set_option maxRecDepth 100000 in
theorem am_cw_117 : lw_tbl[meX8_letter.2.2.2.2.2.2.2.1]? = some (.code meX8_letter.2.1 meX8_letter.2.2.1 meX8_letter.2.2.2.1 meX8_letter.2.2.2.2.1) := by rfl
set_option maxRecDepth 100000 in
theorem am_cw_118 : lw_tbl[meX8_oneOf.2.2.2.2.2.2.2.1]? = some (.code meX8_oneOf.2.1 meX8_oneOf.2.2.1 meX8_oneOf.2.2.2.1 meX8_oneOf.2.2.2.2.1) := by rfl
set_option maxRecDepth 100000 in
theorem am_cw_119 : lw_tbl[meX8_figures.2.2.2.2.2.2.2.1]? = some (.code meX8_figures.2.1 meX8_figures.2.2.1 meX8_figures.2.2.2.1 meX8_figures.2.2.2.2.1) := by rfl
set_option maxRecDepth 100000 in
theorem am_cw_120 : lw_tbl[meX8_statement.2.2.2.2.2.2.2.1]? = some (.code meX8_statement.2.1 meX8_statement.2.2.1 meX8_statement.2.2.2.1 meX8_statement.2.2.2.2.1) := by rfl
set_option maxRecDepth 100000 in
theorem am_cw_121 : lw_tbl[meX8_takes.2.2.2.2.2.2.2.1]? = some (.code meX8_takes.2.1 meX8_takes.2.2.1 meX8_takes.2.2.2.1 meX8_takes.2.2.2.2.1) := by rfl
set_option maxRecDepth 100000 in
theorem am_cw_122 : lw_tbl[meX8_read.2.2.2.2.2.2.2.1]? = some (.code meX8_read.2.1 meX8_read.2.2.1 meX8_read.2.2.2.1 meX8_read.2.2.2.2.1) := by rfl
set_option maxRecDepth 100000 in
theorem am_cw_123 : lw_tbl[meX8_garden.2.2.2.2.2.2.2.1]? = some (.code meX8_garden.2.1 meX8_garden.2.2.1 meX8_garden.2.2.2.1 meX8_garden.2.2.2.2.1) := by rfl
set_option maxRecDepth 100000 in
theorem am_cw_124 : lw_tbl[meX8_canBe.2.2.2.2.2.2.2.1]? = some (.code meX8_canBe.2.1 meX8_canBe.2.2.1 meX8_canBe.2.2.2.1 meX8_canBe.2.2.2.2.1) := by rfl
set_option maxRecDepth 100000 in
theorem am_cw_125 : lw_tbl[meX8_off.2.2.2.2.2.2.2.1]? = some (.code meX8_off.2.1 meX8_off.2.2.1 meX8_off.2.2.2.1 meX8_off.2.2.2.2.1) := by rfl
set_option maxRecDepth 100000 in
theorem am_cw_126 : lw_tbl[meX8_square.2.2.2.2.2.2.2.1]? = some (.code meX8_square.2.1 meX8_square.2.2.1 meX8_square.2.2.2.1 meX8_square.2.2.2.2.1) := by rfl
set_option maxRecDepth 100000 in
theorem am_cw_127 : lw_tbl[meX8_turnTo.2.2.2.2.2.2.2.1]? = some (.code meX8_turnTo.2.1 meX8_turnTo.2.2.1 meX8_turnTo.2.2.2.1 meX8_turnTo.2.2.2.2.1) := by rfl
set_option maxRecDepth 100000 in
theorem am_cw_128 : lw_tbl[meX8_set.2.2.2.2.2.2.2.1]? = some (.code meX8_set.2.1 meX8_set.2.2.1 meX8_set.2.2.2.1 meX8_set.2.2.2.2.1) := by rfl
set_option maxRecDepth 100000 in
theorem am_cw_129 : lw_tbl[meX8_isNoSeeker.2.2.2.2.2.2.2.1]? = some (.code meX8_isNoSeeker.2.1 meX8_isNoSeeker.2.2.1 meX8_isNoSeeker.2.2.2.1 meX8_isNoSeeker.2.2.2.2.1) := by rfl
set_option maxRecDepth 100000 in
theorem am_cw_130 : lw_tbl[meX8_seeker.2.2.2.2.2.2.2.1]? = some (.code meX8_seeker.2.1 meX8_seeker.2.2.1 meX8_seeker.2.2.2.1 meX8_seeker.2.2.2.2.1) := by rfl
set_option maxRecDepth 100000 in
theorem am_cw_131 : lw_tbl[meX8_stand.2.2.2.2.2.2.2.1]? = some (.code meX8_stand.2.1 meX8_stand.2.2.1 meX8_stand.2.2.2.1 meX8_stand.2.2.2.2.1) := by rfl
set_option maxRecDepth 100000 in
theorem am_cw_132 : lw_tbl[meX8_beside.2.2.2.2.2.2.2.1]? = some (.code meX8_beside.2.1 meX8_beside.2.2.1 meX8_beside.2.2.2.1 meX8_beside.2.2.2.2.1) := by rfl
set_option maxRecDepth 100000 in
theorem am_cw_133 : lw_tbl[meX8_walkFrom.2.2.2.2.2.2.2.1]? = some (.code meX8_walkFrom.2.1 meX8_walkFrom.2.2.1 meX8_walkFrom.2.2.2.1 meX8_walkFrom.2.2.2.2.1) := by rfl
set_option maxRecDepth 100000 in
theorem am_cw_134 : lw_tbl[meX8_steps.2.2.2.2.2.2.2.1]? = some (.code meX8_steps.2.1 meX8_steps.2.2.1 meX8_steps.2.2.2.1 meX8_steps.2.2.2.2.1) := by rfl
set_option maxRecDepth 100000 in
theorem am_cw_135 : lw_tbl[meX8_mayBeAt.2.2.2.2.2.2.2.1]? = some (.code meX8_mayBeAt.2.1 meX8_mayBeAt.2.2.1 meX8_mayBeAt.2.2.2.1 meX8_mayBeAt.2.2.2.2.1) := by rfl
set_option maxRecDepth 100000 in
theorem am_cw_136 : lw_tbl[meX8_inSet.2.2.2.2.2.2.2.1]? = some (.code meX8_inSet.2.1 meX8_inSet.2.2.1 meX8_inSet.2.2.2.1 meX8_inSet.2.2.2.2.1) := by rfl
set_option maxRecDepth 100000 in
theorem am_cw_137 : lw_tbl[meX8_mayBe.2.2.2.2.2.2.2.1]? = some (.code meX8_mayBe.2.1 meX8_mayBe.2.2.1 meX8_mayBe.2.2.2.1 meX8_mayBe.2.2.2.2.1) := by rfl
set_option maxRecDepth 100000 in
theorem am_cw_138 : lw_tbl[meX8_minutesOut.2.2.2.2.2.2.2.1]? = some (.code meX8_minutesOut.2.1 meX8_minutesOut.2.2.1 meX8_minutesOut.2.2.2.1 meX8_minutesOut.2.2.2.2.1) := by rfl
set_option maxRecDepth 100000 in
theorem am_cw_139 : lw_tbl[meX8_out.2.2.2.2.2.2.2.1]? = some (.code meX8_out.2.1 meX8_out.2.2.1 meX8_out.2.2.2.1 meX8_out.2.2.2.2.1) := by rfl
set_option maxRecDepth 100000 in
theorem am_cw_140 : lw_tbl[meX8_holdNone.2.2.2.2.2.2.2.1]? = some (.code meX8_holdNone.2.1 meX8_holdNone.2.2.1 meX8_holdNone.2.2.2.1 meX8_holdNone.2.2.2.2.1) := by rfl
set_option maxRecDepth 100000 in
theorem am_cw_141 : lw_tbl[meX8_shut.2.2.2.2.2.2.2.1]? = some (.code meX8_shut.2.1 meX8_shut.2.2.1 meX8_shut.2.2.2.1 meX8_shut.2.2.2.2.1) := by rfl
set_option maxRecDepth 100000 in
theorem am_cw_142 : lw_tbl[meX8_firstGap.2.2.2.2.2.2.2.1]? = some (.code meX8_firstGap.2.1 meX8_firstGap.2.2.1 meX8_firstGap.2.2.2.1 meX8_firstGap.2.2.2.2.1) := by rfl
set_option maxRecDepth 100000 in
theorem am_cw_143 : lw_tbl[meX8_apart.2.2.2.2.2.2.2.1]? = some (.code meX8_apart.2.1 meX8_apart.2.2.1 meX8_apart.2.2.2.1 meX8_apart.2.2.2.2.1) := by rfl
set_option maxRecDepth 100000 in
theorem am_cw_144 : lw_tbl[meX8_toRoad.2.2.2.2.2.2.2.1]? = some (.code meX8_toRoad.2.1 meX8_toRoad.2.2.1 meX8_toRoad.2.2.2.1 meX8_toRoad.2.2.2.2.1) := by rfl
set_option maxRecDepth 100000 in
theorem am_cw_145 : lw_tbl[meX8_besideInSet.2.2.2.2.2.2.2.1]? = some (.code meX8_besideInSet.2.1 meX8_besideInSet.2.2.1 meX8_besideInSet.2.2.2.1 meX8_besideInSet.2.2.2.2.1) := by rfl
set_option maxRecDepth 100000 in
theorem am_cw_146 : lw_tbl[meX8_waits.2.2.2.2.2.2.2.1]? = some (.code meX8_waits.2.1 meX8_waits.2.2.1 meX8_waits.2.2.2.1 meX8_waits.2.2.2.2.1) := by rfl
set_option maxRecDepth 100000 in
theorem am_cw_147 : lw_tbl[meX8_looks.2.2.2.2.2.2.2.1]? = some (.code meX8_looks.2.1 meX8_looks.2.2.1 meX8_looks.2.2.2.1 meX8_looks.2.2.2.2.1) := by rfl
set_option maxRecDepth 100000 in
theorem am_cw_148 : lw_tbl[meX8_passes.2.2.2.2.2.2.2.1]? = some (.code meX8_passes.2.1 meX8_passes.2.2.1 meX8_passes.2.2.2.1 meX8_passes.2.2.2.2.1) := by rfl
set_option maxRecDepth 100000 in
theorem am_cw_149 : lw_tbl[meX8_begin.2.2.2.2.2.2.2.1]? = some (.code meX8_begin.2.1 meX8_begin.2.2.1 meX8_begin.2.2.2.1 meX8_begin.2.2.2.2.1) := by rfl
set_option maxRecDepth 100000 in
theorem am_cw_150 : lw_tbl[meX8_searchBy.2.2.2.2.2.2.2.1]? = some (.code meX8_searchBy.2.1 meX8_searchBy.2.2.1 meX8_searchBy.2.2.2.1 meX8_searchBy.2.2.2.2.1) := by rfl
set_option maxRecDepth 100000 in
theorem am_cw_151 : lw_tbl[meX8_kindOfSeeker.2.2.2.2.2.2.2.1]? = some (.code meX8_kindOfSeeker.2.1 meX8_kindOfSeeker.2.2.1 meX8_kindOfSeeker.2.2.2.1 meX8_kindOfSeeker.2.2.2.2.1) := by rfl
set_option maxRecDepth 100000 in
theorem am_cw_152 : lw_tbl[meX8_search.2.2.2.2.2.2.2.1]? = some (.code meX8_search.2.1 meX8_search.2.2.1 meX8_search.2.2.2.1 meX8_search.2.2.2.2.1) := by rfl
set_option maxRecDepth 100000 in
theorem am_cw_153 : lw_tbl[meX8_refusal.2.2.2.2.2.2.2.1]? = some (.code meX8_refusal.2.1 meX8_refusal.2.2.1 meX8_refusal.2.2.2.1 meX8_refusal.2.2.2.2.1) := by rfl
set_option maxRecDepth 100000 in
theorem am_cw_154 : lw_tbl[meX8_lookOn.2.2.2.2.2.2.2.1]? = some (.code meX8_lookOn.2.1 meX8_lookOn.2.2.1 meX8_lookOn.2.2.2.1 meX8_lookOn.2.2.2.2.1) := by rfl
set_option maxRecDepth 100000 in
theorem am_cw_155 : lw_tbl[meX8_left.2.2.2.2.2.2.2.1]? = some (.code meX8_left.2.1 meX8_left.2.2.1 meX8_left.2.2.2.1 meX8_left.2.2.2.2.1) := by rfl
set_option maxRecDepth 100000 in
theorem am_cw_156 : lw_tbl[meX8_looksAt.2.2.2.2.2.2.2.1]? = some (.code meX8_looksAt.2.1 meX8_looksAt.2.2.1 meX8_looksAt.2.2.2.1 meX8_looksAt.2.2.2.2.1) := by rfl
set_option maxRecDepth 100000 in
theorem am_cw_157 : lw_tbl[meX8_bestSeeker.2.2.2.2.2.2.2.1]? = some (.code meX8_bestSeeker.2.1 meX8_bestSeeker.2.2.1 meX8_bestSeeker.2.2.2.1 meX8_bestSeeker.2.2.2.2.1) := by rfl
set_option maxRecDepth 100000 in
theorem am_cw_158 : lw_tbl[meX8_together.2.2.2.2.2.2.2.1]? = some (.code meX8_together.2.1 meX8_together.2.2.1 meX8_together.2.2.2.1 meX8_together.2.2.2.2.1) := by rfl
set_option maxRecDepth 100000 in
theorem am_cw_159 : lw_tbl[meX8_reached.2.2.2.2.2.2.2.1]? = some (.code meX8_reached.2.1 meX8_reached.2.2.1 meX8_reached.2.2.2.1 meX8_reached.2.2.2.2.1) := by rfl
set_option maxRecDepth 100000 in
theorem am_cw_160 : lw_tbl[meX8_hold.2.2.2.2.2.2.2.1]? = some (.code meX8_hold.2.1 meX8_hold.2.2.1 meX8_hold.2.2.2.1 meX8_hold.2.2.2.2.1) := by rfl
set_option maxRecDepth 100000 in
theorem am_cw_161 : lw_tbl[meX8_oneMore.2.2.2.2.2.2.2.1]? = some (.code meX8_oneMore.2.1 meX8_oneMore.2.2.1 meX8_oneMore.2.2.2.1 meX8_oneMore.2.2.2.2.1) := by rfl
set_option maxRecDepth 100000 in
theorem am_cw_162 : lw_tbl[meX8_waysOf.2.2.2.2.2.2.2.1]? = some (.code meX8_waysOf.2.1 meX8_waysOf.2.2.1 meX8_waysOf.2.2.2.1 meX8_waysOf.2.2.2.2.1) := by rfl
set_option maxRecDepth 100000 in
theorem am_cw_163 : lw_tbl[meX8_ways.2.2.2.2.2.2.2.1]? = some (.code meX8_ways.2.1 meX8_ways.2.2.1 meX8_ways.2.2.2.1 meX8_ways.2.2.2.2.1) := by rfl
set_option maxRecDepth 100000 in
theorem am_cw_164 : lw_tbl[meX8_likely.2.2.2.2.2.2.2.1]? = some (.code meX8_likely.2.1 meX8_likely.2.2.1 meX8_likely.2.2.2.1 meX8_likely.2.2.2.2.1) := by rfl
set_option maxRecDepth 100000 in
theorem am_cw_165 : lw_tbl[meX8_likeliest.2.2.2.2.2.2.2.1]? = some (.code meX8_likeliest.2.1 meX8_likeliest.2.2.1 meX8_likeliest.2.2.2.1 meX8_likeliest.2.2.2.2.1) := by rfl
set_option maxRecDepth 100000 in
theorem am_cw_166 : lw_tbl[meX8_turning.2.2.2.2.2.2.2.1]? = some (.code meX8_turning.2.1 meX8_turning.2.2.1 meX8_turning.2.2.2.1 meX8_turning.2.2.2.2.1) := by rfl
set_option maxRecDepth 100000 in
theorem am_cw_167 : lw_tbl[meX8_firstWrong.2.2.2.2.2.2.2.1]? = some (.code meX8_firstWrong.2.1 meX8_firstWrong.2.2.1 meX8_firstWrong.2.2.2.1 meX8_firstWrong.2.2.2.2.1) := by rfl
set_option maxRecDepth 100000 in
theorem am_cw_168 : lw_tbl[meX8_finds.2.2.2.2.2.2.2.1]? = some (.code meX8_finds.2.1 meX8_finds.2.2.1 meX8_finds.2.2.2.1 meX8_finds.2.2.2.2.1) := by rfl
set_option maxRecDepth 100000 in
theorem am_cw_169 : lw_tbl[meX8_row.2.2.2.2.2.2.2.1]? = some (.code meX8_row.2.1 meX8_row.2.2.1 meX8_row.2.2.2.1 meX8_row.2.2.2.2.1) := by rfl
set_option maxRecDepth 100000 in
theorem am_cw_170 : lw_tbl[meX8_looksOfRow.2.2.2.2.2.2.2.1]? = some (.code meX8_looksOfRow.2.1 meX8_looksOfRow.2.2.1 meX8_looksOfRow.2.2.2.1 meX8_looksOfRow.2.2.2.2.1) := by rfl
set_option maxRecDepth 100000 in
theorem am_cw_171 : lw_tbl[meX8_judge.2.2.2.2.2.2.2.1]? = some (.code meX8_judge.2.1 meX8_judge.2.2.1 meX8_judge.2.2.2.1 meX8_judge.2.2.2.2.1) := by rfl
set_option maxRecDepth 100000 in
theorem am_cw_172 : lw_tbl[meX8_behind.2.2.2.2.2.2.2.1]? = some (.code meX8_behind.2.1 meX8_behind.2.2.1 meX8_behind.2.2.2.1 meX8_behind.2.2.2.2.1) := by rfl
set_option maxRecDepth 100000 in
theorem am_cw_173 : lw_tbl[meX8_lots.2.2.2.2.2.2.2.1]? = some (.code meX8_lots.2.1 meX8_lots.2.2.1 meX8_lots.2.2.2.1 meX8_lots.2.2.2.2.1) := by rfl
set_option maxRecDepth 100000 in
theorem am_cw_174 : lw_tbl[meX8_count.2.2.2.2.2.2.2.1]? = some (.code meX8_count.2.1 meX8_count.2.2.1 meX8_count.2.2.2.1 meX8_count.2.2.2.2.1) := by rfl
set_option maxRecDepth 100000 in
theorem am_cw_175 : lw_tbl[meJ13_bitCount_95d88.2.2.2.2.2.2.2.1]? = some (.code meJ13_bitCount_95d88.2.1 meJ13_bitCount_95d88.2.2.1 meJ13_bitCount_95d88.2.2.2.1 meJ13_bitCount_95d88.2.2.2.2.1) := by rfl
set_option maxRecDepth 100000 in
theorem am_cw_176 : lw_tbl[meJ6_bitCount_0f7a4.2.2.2.2.2.2.2.1]? = some (.code meJ6_bitCount_0f7a4.2.1 meJ6_bitCount_0f7a4.2.2.1 meJ6_bitCount_0f7a4.2.2.2.1 meJ6_bitCount_0f7a4.2.2.2.2.1) := by rfl
set_option maxRecDepth 100000 in
theorem am_cw_177 : lw_tbl[meJ0_length_8abf5.2.2.2.2.2.2.2.1]? = some (.code meJ0_length_8abf5.2.1 meJ0_length_8abf5.2.2.1 meJ0_length_8abf5.2.2.2.1 meJ0_length_8abf5.2.2.2.2.1) := by rfl
set_option maxRecDepth 100000 in
theorem am_cw_178 : lw_tbl[meJ0_isEmpty_aae02.2.2.2.2.2.2.2.1]? = some (.code meJ0_isEmpty_aae02.2.1 meJ0_isEmpty_aae02.2.2.1 meJ0_isEmpty_aae02.2.2.2.1 meJ0_isEmpty_aae02.2.2.2.2.1) := by rfl
set_option maxRecDepth 100000 in
theorem am_cw_179 : lw_tbl[meJ0_charAt_5068e.2.2.2.2.2.2.2.1]? = some (.code meJ0_charAt_5068e.2.1 meJ0_charAt_5068e.2.2.1 meJ0_charAt_5068e.2.2.2.1 meJ0_charAt_5068e.2.2.2.2.1) := by rfl
set_option maxRecDepth 100000 in
theorem am_cw_180 : lw_tbl[meJ0_indexOf_0f7a4.2.2.2.2.2.2.2.1]? = some (.code meJ0_indexOf_0f7a4.2.1 meJ0_indexOf_0f7a4.2.2.1 meJ0_indexOf_0f7a4.2.2.2.1 meJ0_indexOf_0f7a4.2.2.2.2.1) := by rfl
set_option maxRecDepth 100000 in
theorem am_cw_181 : lw_tbl[meJ0_indexOf_7cf53.2.2.2.2.2.2.2.1]? = some (.code meJ0_indexOf_7cf53.2.1 meJ0_indexOf_7cf53.2.2.1 meJ0_indexOf_7cf53.2.2.2.1 meJ0_indexOf_7cf53.2.2.2.2.1) := by rfl
set_option maxRecDepth 100000 in
theorem am_cw_182 : lw_tbl[meJ0_coder_7d493.2.2.2.2.2.2.2.1]? = some (.code meJ0_coder_7d493.2.1 meJ0_coder_7d493.2.2.1 meJ0_coder_7d493.2.2.2.1 meJ0_coder_7d493.2.2.2.2.1) := by rfl
set_option maxRecDepth 100000 in
theorem am_cw_183 : lw_tbl[meJ0_isLatin1_aae02.2.2.2.2.2.2.2.1]? = some (.code meJ0_isLatin1_aae02.2.1 meJ0_isLatin1_aae02.2.2.1 meJ0_isLatin1_aae02.2.2.2.1 meJ0_isLatin1_aae02.2.2.2.2.1) := by rfl
set_option maxRecDepth 100000 in
theorem am_cw_184 : lw_tbl[meJ0_checkIndex_df160.2.2.2.2.2.2.2.1]? = some (.code meJ0_checkIndex_df160.2.1 meJ0_checkIndex_df160.2.2.1 meJ0_checkIndex_df160.2.2.2.1 meJ0_checkIndex_df160.2.2.2.2.1) := by rfl
set_option maxRecDepth 100000 in
theorem am_cw_185 : lw_tbl[meJ1_charAt_3b067.2.2.2.2.2.2.2.1]? = some (.code meJ1_charAt_3b067.2.1 meJ1_charAt_3b067.2.2.1 meJ1_charAt_3b067.2.2.2.1 meJ1_charAt_3b067.2.2.2.2.1) := by rfl
set_option maxRecDepth 100000 in
theorem am_cw_186 : lw_tbl[meJ1_canEncode_9a6ad.2.2.2.2.2.2.2.1]? = some (.code meJ1_canEncode_9a6ad.2.1 meJ1_canEncode_9a6ad.2.2.1 meJ1_canEncode_9a6ad.2.2.2.1 meJ1_canEncode_9a6ad.2.2.2.2.1) := by rfl
set_option maxRecDepth 100000 in
theorem am_cw_187 : lw_tbl[meJ1_indexOf_4cfef.2.2.2.2.2.2.2.1]? = some (.code meJ1_indexOf_4cfef.2.1 meJ1_indexOf_4cfef.2.2.1 meJ1_indexOf_4cfef.2.2.2.1 meJ1_indexOf_4cfef.2.2.2.2.1) := by rfl
set_option maxRecDepth 100000 in
theorem am_cw_188 : lw_tbl[meJ1_indexOfChar_4cfef.2.2.2.2.2.2.2.1]? = some (.code meJ1_indexOfChar_4cfef.2.1 meJ1_indexOfChar_4cfef.2.2.1 meJ1_indexOfChar_4cfef.2.2.2.1 meJ1_indexOfChar_4cfef.2.2.2.2.1) := by rfl
set_option maxRecDepth 100000 in
theorem am_cw_189 : lw_tbl[meJ3_checkIndex_8e157.2.2.2.2.2.2.2.1]? = some (.code meJ3_checkIndex_8e157.2.1 meJ3_checkIndex_8e157.2.2.1 meJ3_checkIndex_8e157.2.2.2.1 meJ3_checkIndex_8e157.2.2.2.2.1) := by rfl
set_option maxRecDepth 100000 in
theorem am_cw : ∀ q ∈ am_mt, lw_tbl[q.2.2.2.2.2.2.2.1]? = some (.code q.2.1 q.2.2.1 q.2.2.2.1 q.2.2.2.2.1) := by
  unfold am_mt
  exact List.forall_mem_cons.mpr ⟨am_cw_0, List.forall_mem_cons.mpr ⟨am_cw_1, List.forall_mem_cons.mpr ⟨am_cw_2, List.forall_mem_cons.mpr ⟨am_cw_3, List.forall_mem_cons.mpr ⟨am_cw_4, List.forall_mem_cons.mpr ⟨am_cw_5, List.forall_mem_cons.mpr ⟨am_cw_6, List.forall_mem_cons.mpr ⟨am_cw_7, List.forall_mem_cons.mpr ⟨am_cw_8, List.forall_mem_cons.mpr ⟨am_cw_9, List.forall_mem_cons.mpr ⟨am_cw_10, List.forall_mem_cons.mpr ⟨am_cw_11, List.forall_mem_cons.mpr ⟨am_cw_12, List.forall_mem_cons.mpr ⟨am_cw_13, List.forall_mem_cons.mpr ⟨am_cw_14, List.forall_mem_cons.mpr ⟨am_cw_15, List.forall_mem_cons.mpr ⟨am_cw_16, List.forall_mem_cons.mpr ⟨am_cw_17, List.forall_mem_cons.mpr ⟨am_cw_18, List.forall_mem_cons.mpr ⟨am_cw_19, List.forall_mem_cons.mpr ⟨am_cw_20, List.forall_mem_cons.mpr ⟨am_cw_21, List.forall_mem_cons.mpr ⟨am_cw_22, List.forall_mem_cons.mpr ⟨am_cw_23, List.forall_mem_cons.mpr ⟨am_cw_24, List.forall_mem_cons.mpr ⟨am_cw_25, List.forall_mem_cons.mpr ⟨am_cw_26, List.forall_mem_cons.mpr ⟨am_cw_27, List.forall_mem_cons.mpr ⟨am_cw_28, List.forall_mem_cons.mpr ⟨am_cw_29, List.forall_mem_cons.mpr ⟨am_cw_30, List.forall_mem_cons.mpr ⟨am_cw_31, List.forall_mem_cons.mpr ⟨am_cw_32, List.forall_mem_cons.mpr ⟨am_cw_33, List.forall_mem_cons.mpr ⟨am_cw_34, List.forall_mem_cons.mpr ⟨am_cw_35, List.forall_mem_cons.mpr ⟨am_cw_36, List.forall_mem_cons.mpr ⟨am_cw_37, List.forall_mem_cons.mpr ⟨am_cw_38, List.forall_mem_cons.mpr ⟨am_cw_39, List.forall_mem_cons.mpr ⟨am_cw_40, List.forall_mem_cons.mpr ⟨am_cw_41, List.forall_mem_cons.mpr ⟨am_cw_42, List.forall_mem_cons.mpr ⟨am_cw_43, List.forall_mem_cons.mpr ⟨am_cw_44, List.forall_mem_cons.mpr ⟨am_cw_45, List.forall_mem_cons.mpr ⟨am_cw_46, List.forall_mem_cons.mpr ⟨am_cw_47, List.forall_mem_cons.mpr ⟨am_cw_48, List.forall_mem_cons.mpr ⟨am_cw_49, List.forall_mem_cons.mpr ⟨am_cw_50, List.forall_mem_cons.mpr ⟨am_cw_51, List.forall_mem_cons.mpr ⟨am_cw_52, List.forall_mem_cons.mpr ⟨am_cw_53, List.forall_mem_cons.mpr ⟨am_cw_54, List.forall_mem_cons.mpr ⟨am_cw_55, List.forall_mem_cons.mpr ⟨am_cw_56, List.forall_mem_cons.mpr ⟨am_cw_57, List.forall_mem_cons.mpr ⟨am_cw_58, List.forall_mem_cons.mpr ⟨am_cw_59, List.forall_mem_cons.mpr ⟨am_cw_60, List.forall_mem_cons.mpr ⟨am_cw_61, List.forall_mem_cons.mpr ⟨am_cw_62, List.forall_mem_cons.mpr ⟨am_cw_63, List.forall_mem_cons.mpr ⟨am_cw_64, List.forall_mem_cons.mpr ⟨am_cw_65, List.forall_mem_cons.mpr ⟨am_cw_66, List.forall_mem_cons.mpr ⟨am_cw_67, List.forall_mem_cons.mpr ⟨am_cw_68, List.forall_mem_cons.mpr ⟨am_cw_69, List.forall_mem_cons.mpr ⟨am_cw_70, List.forall_mem_cons.mpr ⟨am_cw_71, List.forall_mem_cons.mpr ⟨am_cw_72, List.forall_mem_cons.mpr ⟨am_cw_73, List.forall_mem_cons.mpr ⟨am_cw_74, List.forall_mem_cons.mpr ⟨am_cw_75, List.forall_mem_cons.mpr ⟨am_cw_76, List.forall_mem_cons.mpr ⟨am_cw_77, List.forall_mem_cons.mpr ⟨am_cw_78, List.forall_mem_cons.mpr ⟨am_cw_79, List.forall_mem_cons.mpr ⟨am_cw_80, List.forall_mem_cons.mpr ⟨am_cw_81, List.forall_mem_cons.mpr ⟨am_cw_82, List.forall_mem_cons.mpr ⟨am_cw_83, List.forall_mem_cons.mpr ⟨am_cw_84, List.forall_mem_cons.mpr ⟨am_cw_85, List.forall_mem_cons.mpr ⟨am_cw_86, List.forall_mem_cons.mpr ⟨am_cw_87, List.forall_mem_cons.mpr ⟨am_cw_88, List.forall_mem_cons.mpr ⟨am_cw_89, List.forall_mem_cons.mpr ⟨am_cw_90, List.forall_mem_cons.mpr ⟨am_cw_91, List.forall_mem_cons.mpr ⟨am_cw_92, List.forall_mem_cons.mpr ⟨am_cw_93, List.forall_mem_cons.mpr ⟨am_cw_94, List.forall_mem_cons.mpr ⟨am_cw_95, List.forall_mem_cons.mpr ⟨am_cw_96, List.forall_mem_cons.mpr ⟨am_cw_97, List.forall_mem_cons.mpr ⟨am_cw_98, List.forall_mem_cons.mpr ⟨am_cw_99, List.forall_mem_cons.mpr ⟨am_cw_100, List.forall_mem_cons.mpr ⟨am_cw_101, List.forall_mem_cons.mpr ⟨am_cw_102, List.forall_mem_cons.mpr ⟨am_cw_103, List.forall_mem_cons.mpr ⟨am_cw_104, List.forall_mem_cons.mpr ⟨am_cw_105, List.forall_mem_cons.mpr ⟨am_cw_106, List.forall_mem_cons.mpr ⟨am_cw_107, List.forall_mem_cons.mpr ⟨am_cw_108, List.forall_mem_cons.mpr ⟨am_cw_109, List.forall_mem_cons.mpr ⟨am_cw_110, List.forall_mem_cons.mpr ⟨am_cw_111, List.forall_mem_cons.mpr ⟨am_cw_112, List.forall_mem_cons.mpr ⟨am_cw_113, List.forall_mem_cons.mpr ⟨am_cw_114, List.forall_mem_cons.mpr ⟨am_cw_115, List.forall_mem_cons.mpr ⟨am_cw_116, List.forall_mem_cons.mpr ⟨am_cw_117, List.forall_mem_cons.mpr ⟨am_cw_118, List.forall_mem_cons.mpr ⟨am_cw_119, List.forall_mem_cons.mpr ⟨am_cw_120, List.forall_mem_cons.mpr ⟨am_cw_121, List.forall_mem_cons.mpr ⟨am_cw_122, List.forall_mem_cons.mpr ⟨am_cw_123, List.forall_mem_cons.mpr ⟨am_cw_124, List.forall_mem_cons.mpr ⟨am_cw_125, List.forall_mem_cons.mpr ⟨am_cw_126, List.forall_mem_cons.mpr ⟨am_cw_127, List.forall_mem_cons.mpr ⟨am_cw_128, List.forall_mem_cons.mpr ⟨am_cw_129, List.forall_mem_cons.mpr ⟨am_cw_130, List.forall_mem_cons.mpr ⟨am_cw_131, List.forall_mem_cons.mpr ⟨am_cw_132, List.forall_mem_cons.mpr ⟨am_cw_133, List.forall_mem_cons.mpr ⟨am_cw_134, List.forall_mem_cons.mpr ⟨am_cw_135, List.forall_mem_cons.mpr ⟨am_cw_136, List.forall_mem_cons.mpr ⟨am_cw_137, List.forall_mem_cons.mpr ⟨am_cw_138, List.forall_mem_cons.mpr ⟨am_cw_139, List.forall_mem_cons.mpr ⟨am_cw_140, List.forall_mem_cons.mpr ⟨am_cw_141, List.forall_mem_cons.mpr ⟨am_cw_142, List.forall_mem_cons.mpr ⟨am_cw_143, List.forall_mem_cons.mpr ⟨am_cw_144, List.forall_mem_cons.mpr ⟨am_cw_145, List.forall_mem_cons.mpr ⟨am_cw_146, List.forall_mem_cons.mpr ⟨am_cw_147, List.forall_mem_cons.mpr ⟨am_cw_148, List.forall_mem_cons.mpr ⟨am_cw_149, List.forall_mem_cons.mpr ⟨am_cw_150, List.forall_mem_cons.mpr ⟨am_cw_151, List.forall_mem_cons.mpr ⟨am_cw_152, List.forall_mem_cons.mpr ⟨am_cw_153, List.forall_mem_cons.mpr ⟨am_cw_154, List.forall_mem_cons.mpr ⟨am_cw_155, List.forall_mem_cons.mpr ⟨am_cw_156, List.forall_mem_cons.mpr ⟨am_cw_157, List.forall_mem_cons.mpr ⟨am_cw_158, List.forall_mem_cons.mpr ⟨am_cw_159, List.forall_mem_cons.mpr ⟨am_cw_160, List.forall_mem_cons.mpr ⟨am_cw_161, List.forall_mem_cons.mpr ⟨am_cw_162, List.forall_mem_cons.mpr ⟨am_cw_163, List.forall_mem_cons.mpr ⟨am_cw_164, List.forall_mem_cons.mpr ⟨am_cw_165, List.forall_mem_cons.mpr ⟨am_cw_166, List.forall_mem_cons.mpr ⟨am_cw_167, List.forall_mem_cons.mpr ⟨am_cw_168, List.forall_mem_cons.mpr ⟨am_cw_169, List.forall_mem_cons.mpr ⟨am_cw_170, List.forall_mem_cons.mpr ⟨am_cw_171, List.forall_mem_cons.mpr ⟨am_cw_172, List.forall_mem_cons.mpr ⟨am_cw_173, List.forall_mem_cons.mpr ⟨am_cw_174, List.forall_mem_cons.mpr ⟨am_cw_175, List.forall_mem_cons.mpr ⟨am_cw_176, List.forall_mem_cons.mpr ⟨am_cw_177, List.forall_mem_cons.mpr ⟨am_cw_178, List.forall_mem_cons.mpr ⟨am_cw_179, List.forall_mem_cons.mpr ⟨am_cw_180, List.forall_mem_cons.mpr ⟨am_cw_181, List.forall_mem_cons.mpr ⟨am_cw_182, List.forall_mem_cons.mpr ⟨am_cw_183, List.forall_mem_cons.mpr ⟨am_cw_184, List.forall_mem_cons.mpr ⟨am_cw_185, List.forall_mem_cons.mpr ⟨am_cw_186, List.forall_mem_cons.mpr ⟨am_cw_187, List.forall_mem_cons.mpr ⟨am_cw_188, List.forall_mem_cons.mpr ⟨am_cw_189, fun _ h => absurd h List.not_mem_nil⟩⟩⟩⟩⟩⟩⟩⟩⟩⟩⟩⟩⟩⟩⟩⟩⟩⟩⟩⟩⟩⟩⟩⟩⟩⟩⟩⟩⟩⟩⟩⟩⟩⟩⟩⟩⟩⟩⟩⟩⟩⟩⟩⟩⟩⟩⟩⟩⟩⟩⟩⟩⟩⟩⟩⟩⟩⟩⟩⟩⟩⟩⟩⟩⟩⟩⟩⟩⟩⟩⟩⟩⟩⟩⟩⟩⟩⟩⟩⟩⟩⟩⟩⟩⟩⟩⟩⟩⟩⟩⟩⟩⟩⟩⟩⟩⟩⟩⟩⟩⟩⟩⟩⟩⟩⟩⟩⟩⟩⟩⟩⟩⟩⟩⟩⟩⟩⟩⟩⟩⟩⟩⟩⟩⟩⟩⟩⟩⟩⟩⟩⟩⟩⟩⟩⟩⟩⟩⟩⟩⟩⟩⟩⟩⟩⟩⟩⟩⟩⟩⟩⟩⟩⟩⟩⟩⟩⟩⟩⟩⟩⟩⟩⟩⟩⟩⟩⟩⟩⟩⟩⟩⟩⟩⟩⟩⟩⟩⟩⟩⟩⟩⟩⟩⟩⟩⟩⟩⟩⟩
set_option maxRecDepth 100000 in
theorem am_me_ok0 : (List.range 60).all am_me1 = true := by decide +kernel
set_option maxRecDepth 100000 in
theorem am_me_ok1 : (List.range 62).all (fun k => am_me1 (60 + k)) = true := by decide +kernel
set_option maxRecDepth 100000 in
theorem am_me_ok2 : (List.range 68).all (fun k => am_me1 (122 + k)) = true := by decide +kernel
theorem am_me_ok {M : Nat} (h : M < 190) : am_me1 M = true := by
  have h0 := List.all_eq_true.mp am_me_ok0
  have h1 := List.all_eq_true.mp am_me_ok1
  have h2 := List.all_eq_true.mp am_me_ok2
  by_cases a : M < 60
  · exact h0 M (List.mem_range.mpr a)
  · by_cases b : M < 122
    · have := h1 (M - 60) (List.mem_range.mpr (by omega))
      rwa [show 60 + (M - 60) = M by omega] at this
    · have := h2 (M - 122) (List.mem_range.mpr (by omega))
      rwa [show 122 + (M - 122) = M by omega] at this
/-- the length of an instruction -/
def am_ln (i : Instr) (pc nx : Nat) : Nat := match i with
  | .tableswitch _ _ _ _ | .lookupswitch _ _ => nx - pc
  | .bipush _ | .ldc _ | .iload _ | .lload _ | .aload _ | .istore _ | .lstore _ | .astore _ => 2
  | .sipush _ | .ldc_w _ | .ldc2_w _ | .iinc _ _ | .goto _ | .if_icmp _ _ | .ifCond _ _ | .getfield _ | .putfield _ | .getstatic _ | .invokestatic _ | .invokevirtual _ => 3
  | _ => 1
def am_swT (pc : Nat) : Int → List Int → List (Int32 × Nat) → Bool
  | _, [], [] => true
  | lo, o :: os, (k, t) :: r => decide (k.toInt = lo) && decide ((pc : Int) + o = (t : Int)) && am_swT pc (lo + 1) os r
  | _, _, _ => false
def am_swL (pc : Nat) : List (Int × Int) → List (Int32 × Nat) → Bool
  | [], [] => true
  | (a, o) :: os, (k, t) :: r => decide (k.toInt = a) && decide ((pc : Int) + o = (t : Int)) && am_swL pc os r
  | _, _ => false
def am_tie2 (oc nL : Nat) (ret : Option FieldType) (pc : Nat) (i : Instr) (a : Nat) (v : Value) (tb : List (Int32 × Nat)) : Bool := match i with
  | .iconst n => decide (v = .int (Int32.ofInt n))
  | .bipush n => decide (v = .int (Int8.ofInt n).toInt32)
  | .sipush n => decide (v = .int (Int16.ofInt n).toInt32)
  | .lconst n => decide (v = .long (Int64.ofNat (n : Nat)))
  | .ldc ix => (match v with
    | .int c => am_ci.any (fun e => decide (e.1 = oc ∧ e.2.1 = ix ∧ e.2.2.1 = c))
    | .ref k => decide (oc = 5 ∧ 1000 ≤ k ∧ (am_at am_st (k - 1000)).map (fun e => e.1) = some ix)
    | _ => false)
  | .ldc_w ix => (match v with
    | .int c => am_ci.any (fun e => decide (e.1 = oc ∧ e.2.1 = ix ∧ e.2.2.1 = c))
    | _ => false)
  | .ldc2_w ix => (match v with
    | .long c => am_cj.any (fun e => decide (e.1 = oc ∧ e.2.1 = ix ∧ e.2.2.1 = c))
    | _ => false)
  | .iload k | .lload k | .aload k => decide (a = k)
  | .iload_n k | .lload_n k | .aload_n k => decide (a = (k : Nat))
  | .istore k | .astore k => decide (a = k ∧ a < nL)
  | .istore_n k | .astore_n k => decide (a = (k : Nat) ∧ a < nL)
  | .lstore k => decide (a = k ∧ a + 1 < nL)
  | .lstore_n k => decide (a = (k : Nat) ∧ a + 1 < nL)
  | .iinc k n => decide (a = k ∧ a < nL ∧ v = .int (Int32.ofInt n))
  | .goto off | .if_icmp _ off | .ifCond _ off => decide ((pc : Int) + off = (a : Int))
  | .tableswitch d lo hi offs => decide ((pc : Int) + d = (a : Int) ∧ hi = lo + (offs.size : Int) - 1 ∧ tb.length < 1000) && am_swT pc lo offs.toList tb
  | .lookupswitch d ps => decide ((pc : Int) + d = (a : Int) ∧ (ps.toList.zip (ps.toList.drop 1)).all (fun (a, next) => a.1 < next.1) = true) && am_swL pc ps.toList tb
  | .getstatic ix => decide ((oc = 20 ∧ ix = 38 ∧ v = .int 1) ∨ (oc = 20 ∧ ix = 1053 ∧ v = .ref 1200))
  | .getfield ix => (match v with
    | .ref ci => bif Nat.beq ci 20 then decide (oc = 20 ∧ ((ix = 9 ∧ a = 0) ∨ (ix = 15 ∧ a = 1))) else am_fl.any (fun e => decide (e.1 = oc ∧ e.2.1 = ix ∧ e.2.2.1 = ci ∧ e.2.2.2.1 = a))
    | _ => false)
  | .putfield ix => (match v with
    | .ref ci => am_fl.any (fun e => decide (e.1 = oc ∧ e.2.1 = ix ∧ e.2.2.1 = ci ∧ e.2.2.2.1 = a))
    | _ => false)
  | .invokestatic ix => bif Nat.ble 999 a then (match a with
      | 999 => decide ((oc = 1 ∧ ix = 34) ∨ (oc = 0 ∧ ix = 24))
      | 1000 => decide ((oc = 7 ∧ ix = 331) ∨ (oc = 8 ∧ ix = 151) ∨ (oc = 24 ∧ ix = 92))
      | 1001 => decide ((oc = 7 ∧ ix = 179) ∨ (oc = 8 ∧ ix = 140) ∨ (oc = 24 ∧ ix = 38))
      | 1002 => decide (oc = 8 ∧ ix = 154)
      | _ => false) else (match v with
      | .ref n => am_ml.any (fun e => decide (e.1 = oc ∧ e.2.1 = ix ∧ e.2.2.1 = a)) && decide ((am_me a).2.2.2.2.2.1 = true ∧ (am_me a).2.2.2.2.2.2.1 = n)
      | _ => false)
  | .invokevirtual ix => (match v with
      | .ref n => am_ml.any (fun e => decide (e.1 = oc ∧ e.2.1 = ix ∧ e.2.2.1 = a)) && decide ((am_me a).2.2.2.2.2.1 = false ∧ (am_me a).2.2.2.2.2.2.1 = n % 10 ∧ (am_me a).1 + 1 = n / 10)
      | _ => false)
  | .ireturn => (match a with | 0 => decide (ret = some .int) | 1 => decide (ret = some .boolean ∨ ret = some .byte) | _ => decide (ret = some .char))
  | .lreturn => decide (ret = some .long)
  | .areturn => decide (ret = some (.object "java/lang/String"))
  | .return_ => decide (ret = none)
  | _ => true
def am_tie (oc : Nat) (b : ByteArray) (nL : Nat) (ret : Option FieldType) (q : Nat × am_I) : Bool :=
  match q with
  | (pc, i, a, v, nx, tb) => decide (decode b pc = .ok (i, am_ln i pc nx)) && Nat.beq nx (pc + am_ln i pc nx) && am_tie2 oc nL ret pc i a v tb
def am_kOk (M : Nat) : Bool := (am_code M).all (am_tie (am_me M).1 (am_me M).2.2.1 (am_me M).2.2.2.1 (am_me M).2.2.2.2.1)
set_option maxRecDepth 100000 in
theorem am_k_0 : (List.range 8).all (fun k => am_kOk (0 + k)) = true := by decide +kernel
set_option maxRecDepth 100000 in
theorem am_k_8 : (List.range 8).all (fun k => am_kOk (8 + k)) = true := by decide +kernel
set_option maxRecDepth 100000 in
theorem am_k_16 : (List.range 8).all (fun k => am_kOk (16 + k)) = true := by decide +kernel
set_option maxRecDepth 100000 in
theorem am_k_24 : (List.range 8).all (fun k => am_kOk (24 + k)) = true := by decide +kernel
set_option maxRecDepth 100000 in
theorem am_k_32 : (List.range 8).all (fun k => am_kOk (32 + k)) = true := by decide +kernel
set_option maxRecDepth 100000 in
theorem am_k_40 : (List.range 8).all (fun k => am_kOk (40 + k)) = true := by decide +kernel
set_option maxRecDepth 100000 in
theorem am_k_48 : (List.range 8).all (fun k => am_kOk (48 + k)) = true := by decide +kernel
set_option maxRecDepth 100000 in
theorem am_k_56 : (List.range 8).all (fun k => am_kOk (56 + k)) = true := by decide +kernel
set_option maxRecDepth 100000 in
theorem am_k_64 : (List.range 8).all (fun k => am_kOk (64 + k)) = true := by decide +kernel
set_option maxRecDepth 100000 in
theorem am_k_72 : (List.range 8).all (fun k => am_kOk (72 + k)) = true := by decide +kernel
set_option maxRecDepth 100000 in
theorem am_k_80 : (List.range 8).all (fun k => am_kOk (80 + k)) = true := by decide +kernel
set_option maxRecDepth 100000 in
theorem am_k_88 : (List.range 8).all (fun k => am_kOk (88 + k)) = true := by decide +kernel
set_option maxRecDepth 100000 in
theorem am_k_96 : (List.range 8).all (fun k => am_kOk (96 + k)) = true := by decide +kernel
set_option maxRecDepth 100000 in
theorem am_k_104 : (List.range 8).all (fun k => am_kOk (104 + k)) = true := by decide +kernel
set_option maxRecDepth 100000 in
theorem am_k_112 : (List.range 8).all (fun k => am_kOk (112 + k)) = true := by decide +kernel
set_option maxRecDepth 100000 in
theorem am_k_120 : (List.range 8).all (fun k => am_kOk (120 + k)) = true := by decide +kernel
set_option maxRecDepth 100000 in
theorem am_k_128 : (List.range 8).all (fun k => am_kOk (128 + k)) = true := by decide +kernel
set_option maxRecDepth 100000 in
theorem am_k_136 : (List.range 8).all (fun k => am_kOk (136 + k)) = true := by decide +kernel
set_option maxRecDepth 100000 in
theorem am_k_144 : (List.range 8).all (fun k => am_kOk (144 + k)) = true := by decide +kernel
set_option maxRecDepth 100000 in
theorem am_k_152 : (List.range 8).all (fun k => am_kOk (152 + k)) = true := by decide +kernel
set_option maxRecDepth 100000 in
theorem am_k_160 : (List.range 8).all (fun k => am_kOk (160 + k)) = true := by decide +kernel
set_option maxRecDepth 100000 in
theorem am_k_168 : (List.range 8).all (fun k => am_kOk (168 + k)) = true := by decide +kernel
set_option maxRecDepth 100000 in
theorem am_k_176 : (List.range 8).all (fun k => am_kOk (176 + k)) = true := by decide +kernel
set_option maxRecDepth 100000 in
theorem am_k_184 : (List.range 6).all (fun k => am_kOk (184 + k)) = true := by decide +kernel
theorem am_k_ok {M : Nat} (h : M < 190) : am_kOk M = true := by
  by_cases h8 : M < 8
  · have := List.all_eq_true.mp am_k_0 (M - 0) (List.mem_range.mpr (by omega))
    rwa [show 0 + (M - 0) = M by omega] at this
  by_cases h16 : M < 16
  · have := List.all_eq_true.mp am_k_8 (M - 8) (List.mem_range.mpr (by omega))
    rwa [show 8 + (M - 8) = M by omega] at this
  by_cases h24 : M < 24
  · have := List.all_eq_true.mp am_k_16 (M - 16) (List.mem_range.mpr (by omega))
    rwa [show 16 + (M - 16) = M by omega] at this
  by_cases h32 : M < 32
  · have := List.all_eq_true.mp am_k_24 (M - 24) (List.mem_range.mpr (by omega))
    rwa [show 24 + (M - 24) = M by omega] at this
  by_cases h40 : M < 40
  · have := List.all_eq_true.mp am_k_32 (M - 32) (List.mem_range.mpr (by omega))
    rwa [show 32 + (M - 32) = M by omega] at this
  by_cases h48 : M < 48
  · have := List.all_eq_true.mp am_k_40 (M - 40) (List.mem_range.mpr (by omega))
    rwa [show 40 + (M - 40) = M by omega] at this
  by_cases h56 : M < 56
  · have := List.all_eq_true.mp am_k_48 (M - 48) (List.mem_range.mpr (by omega))
    rwa [show 48 + (M - 48) = M by omega] at this
  by_cases h64 : M < 64
  · have := List.all_eq_true.mp am_k_56 (M - 56) (List.mem_range.mpr (by omega))
    rwa [show 56 + (M - 56) = M by omega] at this
  by_cases h72 : M < 72
  · have := List.all_eq_true.mp am_k_64 (M - 64) (List.mem_range.mpr (by omega))
    rwa [show 64 + (M - 64) = M by omega] at this
  by_cases h80 : M < 80
  · have := List.all_eq_true.mp am_k_72 (M - 72) (List.mem_range.mpr (by omega))
    rwa [show 72 + (M - 72) = M by omega] at this
  by_cases h88 : M < 88
  · have := List.all_eq_true.mp am_k_80 (M - 80) (List.mem_range.mpr (by omega))
    rwa [show 80 + (M - 80) = M by omega] at this
  by_cases h96 : M < 96
  · have := List.all_eq_true.mp am_k_88 (M - 88) (List.mem_range.mpr (by omega))
    rwa [show 88 + (M - 88) = M by omega] at this
  by_cases h104 : M < 104
  · have := List.all_eq_true.mp am_k_96 (M - 96) (List.mem_range.mpr (by omega))
    rwa [show 96 + (M - 96) = M by omega] at this
  by_cases h112 : M < 112
  · have := List.all_eq_true.mp am_k_104 (M - 104) (List.mem_range.mpr (by omega))
    rwa [show 104 + (M - 104) = M by omega] at this
  by_cases h120 : M < 120
  · have := List.all_eq_true.mp am_k_112 (M - 112) (List.mem_range.mpr (by omega))
    rwa [show 112 + (M - 112) = M by omega] at this
  by_cases h128 : M < 128
  · have := List.all_eq_true.mp am_k_120 (M - 120) (List.mem_range.mpr (by omega))
    rwa [show 120 + (M - 120) = M by omega] at this
  by_cases h136 : M < 136
  · have := List.all_eq_true.mp am_k_128 (M - 128) (List.mem_range.mpr (by omega))
    rwa [show 128 + (M - 128) = M by omega] at this
  by_cases h144 : M < 144
  · have := List.all_eq_true.mp am_k_136 (M - 136) (List.mem_range.mpr (by omega))
    rwa [show 136 + (M - 136) = M by omega] at this
  by_cases h152 : M < 152
  · have := List.all_eq_true.mp am_k_144 (M - 144) (List.mem_range.mpr (by omega))
    rwa [show 144 + (M - 144) = M by omega] at this
  by_cases h160 : M < 160
  · have := List.all_eq_true.mp am_k_152 (M - 152) (List.mem_range.mpr (by omega))
    rwa [show 152 + (M - 152) = M by omega] at this
  by_cases h168 : M < 168
  · have := List.all_eq_true.mp am_k_160 (M - 160) (List.mem_range.mpr (by omega))
    rwa [show 160 + (M - 160) = M by omega] at this
  by_cases h176 : M < 176
  · have := List.all_eq_true.mp am_k_168 (M - 168) (List.mem_range.mpr (by omega))
    rwa [show 168 + (M - 168) = M by omega] at this
  by_cases h184 : M < 184
  · have := List.all_eq_true.mp am_k_176 (M - 176) (List.mem_range.mpr (by omega))
    rwa [show 176 + (M - 176) = M by omega] at this
  by_cases h190 : M < 190
  · have := List.all_eq_true.mp am_k_184 (M - 184) (List.mem_range.mpr (by omega))
    rwa [show 184 + (M - 184) = M by omega] at this
  omega
end
section
/-! THE ABSTRACT MACHINE IS SOUND: the world, the rows by groups -/
theorem am_tie_d {oc nL : Nat} {b : ByteArray} {ret : Option FieldType} {pc a nx : Nat} {i : Instr} {v : Value} {tb : List (Int32 × Nat)} (h : am_tie oc b nL ret (pc, i, a, v, nx, tb) = true) : decode b pc = .ok (i, am_ln i pc nx) ∧ nx = pc + am_ln i pc nx ∧ am_tie2 oc nL ret pc i a v tb = true := by
  simp only [am_tie, Bool.and_eq_true, decide_eq_true_eq] at h
  exact ⟨h.1.1, Nat.eq_of_beq_eq_true h.1.2, h.2⟩
theorem am_find_in {cd : am_C} {pc : Nat} {q : am_I} (h : am_find cd pc = some q) : (pc, q) ∈ cd := by
  induction cd with
  | nil => simp [am_find] at h
  | cons r t ih =>
    obtain ⟨p, q2⟩ := r
    simp only [am_find] at h
    cases hb : Nat.beq p pc with
    | true =>
      rw [hb] at h
      simp only [cond_true, Option.some.injEq] at h
      rw [Nat.eq_of_beq_eq_true hb, h]
      exact List.mem_cons_self
    | false =>
      rw [hb] at h
      exact List.mem_cons_of_mem _ (ih h)
/-- concrete values: a reference is a place in the world -/
def am_cv (ad : Nat → Nat) : Value → Value
  | .ref a => .ref (ad a)
  | v => v
theorem am_cv_cat (ad : Nat → Nat) (v : Value) : (am_cv ad v).category = v.category := by cases v <;> rfl
theorem am_cv_sum (ad : Nat → Nat) (r : List Value) : ((r.map (am_cv ad)).map fun v => v.category).sum = am_sum r := by
  unfold am_sum
  rw [List.map_map]
  congr 1
  exact List.map_congr_left (fun v _ => am_cv_cat ad v)
def am_cell (ad : Nat → Nat) (tc : Nat → ClassId) (x : am_X) (i : Nat) : am_Sh → va_E
  | .inl (ci, fs) => .inr (ci, fs.map (fun q => am_cv ad (am_fv x q)))
  | .inr (1, n) => .inl (tc 1, n, .inr (.inl (x.2.2.2 i)))
  | .inr (t, n) => .inl (tc t, n, .inl (x.2.2.1 i))
def am_W (ad : Nat → Nat) (tc : Nat → ClassId) (x : am_X) : va_W := am_shp.mapIdx (fun i s => (ad i, am_cell ad tc x i s))
def am_tys (tc : Nat → ClassId) : List (ClassId × FieldType) := [(tc 0, .int), (tc 1, .long), (tc 2, .boolean), (tc 3, .char)]
/-- fields that are no references: their number is 32 times the cell's, and their place -/
def am_shp1 (i : Nat) : am_Sh → Bool
  | .inl (ci, fs) => decide (ci < 9) && (List.range fs.length).all (fun k => match fs[k]? with | some (0, _) => true | some (_, id) => decide (id = 32 * i + k ∧ k < 32) | none => true) && decide (fs.length = (am_cc ci).2.2)
  | .inr (t, _) => decide (t < 4)
theorem am_shp_ok : (List.range 45).all (fun i => match am_shp[i]? with | some s => am_shp1 i s | none => true) = true := by decide +kernel
theorem am_shp_len : am_shp.length = 45 := by decide +kernel
theorem am_W_at (ad : Nat → Nat) (tc : Nat → ClassId) (x : am_X) (i : Nat) : (am_W ad tc x)[i]? = (am_shp[i]?).map (fun s => (ad i, am_cell ad tc x i s)) := by
  simp [am_W, List.getElem?_mapIdx]
theorem am_shp_at {i : Nat} {s : am_Sh} (h : am_shp[i]? = some s) : am_shp1 i s = true := by
  have hi : i < 45 := by rw [← am_shp_len]; exact (List.getElem?_eq_some_iff.mp h).1
  have := List.all_eq_true.mp am_shp_ok i (List.mem_range.mpr hi)
  rw [h] at this
  exact this
theorem am_shp_fld {i ci k : Nat} {fs : List (Nat × Nat)} {kd id : Nat} (h : am_shp[i]? = some (.inl (ci, fs))) (hk : fs[k]? = some (kd, id)) (h0 : kd ≠ 0) : id = 32 * i + k ∧ k < 32 := by
  have h1 := am_shp_at h
  simp only [am_shp1, Bool.and_eq_true, List.all_eq_true, List.mem_range, decide_eq_true_eq] at h1
  have h2 := h1.1.2 k (List.getElem?_eq_some_iff.mp hk).1
  rw [hk] at h2
  match kd, h0, h2 with
  | 0, h0, _ => exact absurd rfl h0
  | _ + 1, _, h2 => simpa using h2
theorem am_fld_eq {ci k i : Nat} {q : Nat × Nat} (h : am_fld ci k i = some q) : ∃ fs, am_shp[i]? = some (.inl (ci, fs)) ∧ fs[k]? = some q := by
  unfold am_fld at h
  rw [am_at_eq] at h
  split at h
  · rename_i c2 fs he
    cases hb : Nat.beq c2 ci with
    | false => rw [hb] at h; cases h
    | true =>
      rw [hb] at h
      obtain rfl := Nat.eq_of_beq_eq_true hb
      exact ⟨fs, he, by rw [← am_at_eq]; exact h⟩
  · cases h
theorem am_arr_eq {i : Nat} {q : Nat × Nat} (h : am_arr i = some q) : am_shp[i]? = some (.inr q) := by
  unfold am_arr at h
  rw [am_at_eq] at h
  split at h
  · rename_i q2 he
    cases h
    exact he
  · cases h
theorem am_W_obj {ad : Nat → Nat} {tc : Nat → ClassId} {x : am_X} {i ci : Nat} {fs : List (Nat × Nat)} (h : am_shp[i]? = some (.inl (ci, fs))) : (am_W ad tc x)[i]? = some (ad i, .inr (ci, fs.map (fun q => am_cv ad (am_fv x q)))) := by
  rw [am_W_at, h]; rfl
theorem am_W_arrI {ad : Nat → Nat} {tc : Nat → ClassId} {x : am_X} {i t n : Nat} (h : am_arr i = some (t, n)) (ht : t ≠ 1) : (am_W ad tc x)[i]? = some (ad i, .inl (tc t, n, .inl (x.2.2.1 i))) := by
  rw [am_W_at, am_arr_eq h]
  match t, ht with
  | 0, _ => rfl
  | 1, ht => exact absurd rfl ht
  | _ + 2, _ => rfl
theorem am_W_arrL {ad : Nat → Nat} {tc : Nat → ClassId} {x : am_X} {i n : Nat} (h : am_arr i = some (1, n)) : (am_W ad tc x)[i]? = some (ad i, .inl (tc 1, n, .inr (.inl (x.2.2.2 i)))) := by
  rw [am_W_at, am_arr_eq h]; rfl
/-- writes -/
theorem am_W_set {ad : Nat → Nat} {tc : Nat → ClassId} {x x' : am_X} {i : Nat} {s : am_Sh} {e : va_E} (h : am_shp[i]? = some s) (he : am_cell ad tc x' i s = e) (ho : ∀ j s2, am_shp[j]? = some s2 → j ≠ i → am_cell ad tc x' j s2 = am_cell ad tc x j s2) : (am_W ad tc x).set i (ad i, e) = am_W ad tc x' := by
  apply List.ext_getElem?
  intro j
  rw [am_W_at, List.getElem?_set]
  by_cases hj : i = j
  · subst hj
    rw [if_pos rfl, h]
    have hl : i < (am_W ad tc x).length := by
      have := (List.getElem?_eq_some_iff.mp h).1
      simpa [am_W] using this
    rw [if_pos hl]
    simp [he]
  · rw [if_neg hj, am_W_at]
    cases hs : am_shp[j]? with
    | none => rfl
    | some s2 => simp [ho j s2 hs (fun q => hj q.symm)]
theorem am_W_sA {ad : Nat → Nat} {tc : Nat → ClassId} {x : am_X} {i t n : Nat} {f : Nat → Int32} (h : am_arr i = some (t, n)) (ht : t ≠ 1) : (am_W ad tc x).set i (ad i, .inl (tc t, n, .inl f)) = am_W ad tc (am_sA x i f) := by
  refine am_W_set (am_arr_eq h) ?_ ?_
  · match t, ht with
    | 0, _ => simp [am_cell, am_sA, am_up]
    | 1, ht => exact absurd rfl ht
    | _ + 2, _ => simp [am_cell, am_sA, am_up]
  · intro j s2 _ hj
    match s2 with
    | .inl (ci, fs) => rfl
    | .inr (0, n) => simp [am_cell, am_sA, am_up, hj]
    | .inr (1, n) => simp [am_cell, am_sA, am_up]
    | .inr (_ + 2, n) => simp [am_cell, am_sA, am_up, hj]
theorem am_W_sB {ad : Nat → Nat} {tc : Nat → ClassId} {x : am_X} {i n : Nat} {f : Nat → Int64} (h : am_arr i = some (1, n)) : (am_W ad tc x).set i (ad i, .inl (tc 1, n, .inr (.inl f))) = am_W ad tc (am_sB x i f) := by
  refine am_W_set (am_arr_eq h) ?_ ?_
  · simp [am_cell, am_sB, am_up]
  · intro j s2 _ hj
    match s2 with
    | .inl (ci, fs) => rfl
    | .inr (0, n) => rfl
    | .inr (1, n) => simp [am_cell, am_sB, am_up, hj]
    | .inr (_ + 2, n) => rfl
theorem am_fs_set {ad : Nat → Nat} {x x' : am_X} {i ci k : Nat} {fs : List (Nat × Nat)} {kd id : Nat} {v : Value} (h : am_shp[i]? = some (.inl (ci, fs))) (hk : fs[k]? = some (kd, id)) (hv : am_cv ad (am_fv x' (kd, id)) = v) (ho : ∀ q : Nat × Nat, (q.1 = 0 ∨ q.2 ≠ id) → am_fv x' q = am_fv x q) (h0 : kd ≠ 0) : (fs.map (fun q => am_cv ad (am_fv x q))).set k v = fs.map (fun q => am_cv ad (am_fv x' q)) := by
  apply List.ext_getElem?
  intro j
  rw [List.getElem?_set, List.getElem?_map, List.getElem?_map]
  by_cases hj : k = j
  · subst hj
    have hl := (List.getElem?_eq_some_iff.mp hk).1
    rw [if_pos rfl, if_pos (by simpa using hl), hk]
    simp [hv]
  · rw [if_neg hj]
    cases hq : fs[j]? with
    | none => rfl
    | some q =>
      obtain ⟨kd2, id2⟩ := q
      simp only [Option.map_some]
      rw [ho]
      by_cases hz : kd2 = 0
      · exact Or.inl hz
      · right
        have h1 := am_shp_fld h hk h0
        have h2 := am_shp_fld h hq hz
        show id2 ≠ id
        omega
theorem am_W_fld {ad : Nat → Nat} {tc : Nat → ClassId} {x x' : am_X} {i ci k : Nat} {fs : List (Nat × Nat)} {kd id : Nat} {v : Value} (h : am_shp[i]? = some (.inl (ci, fs))) (hk : fs[k]? = some (kd, id)) (hv : am_cv ad (am_fv x' (kd, id)) = v) (ho : ∀ q : Nat × Nat, (q.1 = 0 ∨ q.2 ≠ id) → am_fv x' q = am_fv x q) (h0 : kd ≠ 0) (ha : x'.2.2 = x.2.2) : (am_W ad tc x).set i (ad i, .inr (ci, (fs.map (fun q => am_cv ad (am_fv x q))).set k v)) = am_W ad tc x' := by
  refine am_W_set h ?_ ?_
  · rw [am_fs_set h hk hv ho h0]; rfl
  · intro j s2 hs hj
    match s2, hs with
    | .inl (c2, fs2), hs =>
      show Sum.inr (c2, _) = Sum.inr (c2, _)
      refine congrArg (fun z => (Sum.inr (c2, z) : va_E)) (List.map_congr_left fun q hq => ?_)
      rw [ho]
      by_cases hz : q.1 = 0
      · exact Or.inl hz
      · right
        obtain ⟨k2, hk2⟩ := List.mem_iff_getElem?.mp hq
        have h1 := am_shp_fld h hk h0
        have h2 := am_shp_fld (kd := q.1) (id := q.2) hs hk2 hz
        omega
    | .inr (0, n), _ => simp [am_cell, ha]
    | .inr (1, n), _ => simp [am_cell, ha]
    | .inr (_ + 2, n), _ => simp [am_cell, ha]
theorem am_W_uI {ad : Nat → Nat} {tc : Nat → ClassId} {x : am_X} {i ci k : Nat} {fs : List (Nat × Nat)} {kd id : Nat} {y : Int32} (h : am_shp[i]? = some (.inl (ci, fs))) (hk : fs[k]? = some (kd, id)) (hd : kd = 1 ∨ kd = 3) : (am_W ad tc x).set i (ad i, .inr (ci, (fs.map (fun q => am_cv ad (am_fv x q))).set k (.int y))) = am_W ad tc (am_uI x id y) := by
  refine am_W_fld h hk ?_ ?_ (by rcases hd with rfl | rfl <;> decide) rfl
  · rcases hd with rfl | rfl <;> simp [am_fv, am_uI, am_up, am_cv]
  · intro q hq
    obtain ⟨k2, id2⟩ := q
    match k2, hq with
    | 0, _ => rfl
    | 1, hq => have : id2 ≠ id := by simpa using hq
               simp [am_fv, am_uI, am_up, this]
    | 2, _ => rfl
    | n + 3, hq => have : id2 ≠ id := by simpa using hq
                   simp [am_fv, am_uI, am_up, this]
theorem am_W_uL {ad : Nat → Nat} {tc : Nat → ClassId} {x : am_X} {i ci k : Nat} {fs : List (Nat × Nat)} {id : Nat} {y : Int64} (h : am_shp[i]? = some (.inl (ci, fs))) (hk : fs[k]? = some (2, id)) : (am_W ad tc x).set i (ad i, .inr (ci, (fs.map (fun q => am_cv ad (am_fv x q))).set k (.long y))) = am_W ad tc (am_uL x id y) := by
  refine am_W_fld h hk ?_ ?_ (by decide) rfl
  · simp [am_fv, am_uL, am_up, am_cv]
  · intro q hq
    obtain ⟨k2, id2⟩ := q
    match k2, hq with
    | 0, _ => rfl
    | 1, _ => rfl
    | 2, hq => have : id2 ≠ id := by simpa using hq
               simp [am_fv, am_uL, am_up, this]
    | n + 3, _ => rfl
theorem am_W_D {A : Nat → Prop} {ad : Nat → Nat} {tc : Nat → ClassId} {x x' : am_X} (h : va_D A (am_W ad tc x)) : va_D A (am_W ad tc x') := by
  have key : ∀ (i : Nat) (q : Nat × va_E), (am_W ad tc x')[i]? = some q → ∃ q2, (am_W ad tc x)[i]? = some q2 ∧ q2.1 = q.1 := by
    intro i q hq
    rw [am_W_at] at hq
    cases hs : am_shp[i]? with
    | none => rw [hs] at hq; cases hq
    | some s =>
      rw [hs] at hq
      cases hq
      exact ⟨(ad i, am_cell ad tc x i s), by rw [am_W_at, hs]; rfl, rfl⟩
  refine ⟨fun i j p q hp hq e => ?_, fun i q hq => ?_⟩
  · obtain ⟨p2, h1, e1⟩ := key i p hp
    obtain ⟨q2, h2, e2⟩ := key j q hq
    exact h.1 i j p2 q2 h1 h2 (by rw [e1, e2]; exact e)
  · obtain ⟨q2, h2, e2⟩ := key i q hq
    rw [← e2]
    exact h.2 i q2 h2
/-- locals -/
theorem am_ent_mem (l : am_L) (n i : Nat) (v : Value) : (i, v) ∈ am_ent n l ↔ ∃ k, i = n + k ∧ l[k]? = some (some v) := by
  induction l generalizing n with
  | nil => simp [am_ent]
  | cons o t ih =>
    cases o with
    | none =>
      rw [am_ent, ih]
      constructor
      · rintro ⟨k, e, h⟩; exact ⟨k + 1, by omega, by simpa using h⟩
      · rintro ⟨k, e, h⟩
        cases k with
        | zero => simp at h
        | succ k => exact ⟨k, by omega, by simpa using h⟩
    | some w =>
      rw [am_ent, List.mem_cons, ih]
      constructor
      · rintro (h | ⟨k, e, h⟩)
        · cases h; exact ⟨0, rfl, rfl⟩
        · exact ⟨k + 1, by omega, by simpa using h⟩
      · rintro ⟨k, e, h⟩
        cases k with
        | zero => left; simp at h; rw [e, h]; rfl
        | succ k => exact Or.inr ⟨k, by omega, by simpa using h⟩
def am_cl (ad : Nat → Nat) (ls : am_L) : am_L := ls.map (Option.map (am_cv ad))
/-- the slots hold the known locals -/
def am_has (ad : Nat → Nat) (sl : Array Slot) (nL : Nat) (ls : am_L) : Prop := lv_has sl nL (am_ent 0 (am_cl ad ls))
theorem am_has_at {ad : Nat → Nat} {sl : Array Slot} {nL : Nat} {ls : am_L} (h : am_has ad sl nL ls) {i : Nat} {v : Value} (hi : am_at ls i = some (some v)) : sl[i]? = some (.val (am_cv ad v)) := by
  refine h.2.2 (i, am_cv ad v) ((am_ent_mem _ _ _ _).mpr ⟨i, by omega, ?_⟩)
  rw [am_at_eq] at hi
  simp [am_cl, hi]
theorem am_has_sub {ad : Nat → Nat} {sl : Array Slot} {nL : Nat} {ls ls' : am_L} (h : am_has ad sl nL ls) (hs : ∀ (i : Nat) (v : Value), ls'[i]? = some (some v) → ls[i]? = some (some v)) : am_has ad sl nL ls' := by
  refine ⟨h.1, h.2.1, fun q hq => ?_⟩
  obtain ⟨i, v⟩ := q
  obtain ⟨k, e, hk⟩ := (am_ent_mem _ _ _ _).mp hq
  refine h.2.2 (i, v) ((am_ent_mem _ _ _ _).mpr ⟨k, e, ?_⟩)
  simp only [am_cl, List.getElem?_map] at hk ⊢
  cases hl : ls'[k]? with
  | none => rw [hl] at hk; cases hk
  | some o =>
    cases o with
    | none => rw [hl] at hk; cases hk
    | some w => rw [hs k w hl]; rw [hl] at hk; exact hk
theorem am_le_at : ∀ (a b : am_L), am_le a b → ∀ (i : Nat) (v : Value), a[i]? = some (some v) → b[i]? = some (some v)
  | [], _, _, i, v, h => by simp at h
  | none :: t, [], hl, i, v, h => by
    cases i with
    | zero => simp at h
    | succ i => exact absurd (am_le_at t [] hl i v (by simpa using h)) (by simp)
  | some _ :: _, [], hl, _, _, _ => by simp [am_le] at hl
  | none :: t, o :: u, hl, i, v, h => by
    cases i with
    | zero => simp at h
    | succ i => simpa using am_le_at t u (by simpa [am_le] using hl) i v (by simpa using h)
  | some w :: t, o :: u, hl, i, v, h => by
    simp only [am_le] at hl
    cases i with
    | zero => simp at h; rw [hl.1, h]; rfl
    | succ i => simpa using am_le_at t u hl.2 i v (by simpa using h)
theorem am_c2_some {o : Option Value} {w : Value} (h : am_c2 o = some w) : o = some w ∧ ¬ w.category = 2 := by
  match o with
  | none => simp [am_c2] at h
  | some (.int _) | some (.float _) | some .null | some (.ref _) | some (.retAddr _) => simp [am_c2] at h; subst h; simp [Value.category]
  | some (.long _) => simp [am_c2] at h
  | some (.double _) => simp [am_c2] at h
theorem am_set1_at : ∀ (l : am_L) (n : Nat) (v : Value) (i : Nat) (w : Value), (am_set1 l n v)[i]? = some (some w) → (i = n ∧ w = v) ∨ (l[i]? = some (some w) ∧ i ≠ n ∧ ¬ (i + 1 = n ∧ w.category = 2))
  | [], _, _, i, w, h => by simp [am_set1] at h
  | o :: t, 0, v, i, w, h => by
    cases i with
    | zero => left; simp [am_set1] at h; exact ⟨rfl, h.symm⟩
    | succ i => right; refine ⟨by simpa [am_set1] using h, by omega, by omega⟩
  | [o], 1, v, i, w, h => by simp [am_set1] at h
  | o :: o2 :: t, 1, v, i, w, h => by
    simp only [am_set1] at h
    match i, h with
    | 0, h =>
      right
      obtain ⟨h1, h2⟩ := am_c2_some (by simpa using h)
      exact ⟨by simp [h1], by omega, fun q => h2 q.2⟩
    | 1, h => left; simp at h; exact ⟨rfl, h.symm⟩
    | i + 2, h => right; exact ⟨by simpa using h, by omega, by omega⟩
  | o :: t, n + 2, v, i, w, h => by
    simp only [am_set1] at h
    cases i with
    | zero => right; exact ⟨by simpa using h, by omega, by omega⟩
    | succ i =>
      rcases am_set1_at t (n + 1) v i w (by simpa using h) with ⟨a, b⟩ | ⟨a, b, c⟩
      · left; exact ⟨by omega, b⟩
      · right; exact ⟨by simpa using a, by omega, fun q => c ⟨by omega, q.2⟩⟩
theorem am_set2_at : ∀ (l : am_L) (n : Nat) (v : Value) (i : Nat) (w : Value), (am_set2 l n v)[i]? = some (some w) → (i = n ∧ w = v) ∨ (l[i]? = some (some w) ∧ i ≠ n ∧ i ≠ n + 1 ∧ ¬ (i + 1 = n ∧ w.category = 2))
  | [], _, _, i, w, h => by simp [am_set2] at h
  | [_], _, _, i, w, h => by simp [am_set2] at h
  | _ :: _ :: t, 0, v, i, w, h => by
    simp only [am_set2] at h
    match i, h with
    | 0, h => left; simp at h; exact ⟨rfl, h.symm⟩
    | 1, h => simp at h
    | i + 2, h => right; exact ⟨by simpa using h, by omega, by omega, by omega⟩
  | [_, _], 1, v, i, w, h => by simp [am_set2] at h
  | o :: _ :: _ :: t, 1, v, i, w, h => by
    simp only [am_set2] at h
    match i, h with
    | 0, h =>
      right
      obtain ⟨h1, h2⟩ := am_c2_some (by simpa using h)
      exact ⟨by simp [h1], by omega, by omega, fun q => h2 q.2⟩
    | 1, h => left; simp at h; exact ⟨rfl, h.symm⟩
    | 2, h => simp at h
    | i + 3, h => right; exact ⟨by simpa using h, by omega, by omega, by omega⟩
  | o :: o2 :: t, n + 2, v, i, w, h => by
    simp only [am_set2] at h
    cases i with
    | zero => right; exact ⟨by simpa using h, by omega, by omega, by omega⟩
    | succ i =>
      rcases am_set2_at (o2 :: t) (n + 1) v i w (by simpa using h) with ⟨a, b⟩ | ⟨a, b, c, d⟩
      · left; exact ⟨by omega, b⟩
      · right; exact ⟨by simpa using a, by omega, by omega, fun q => d ⟨by omega, q.2⟩⟩
theorem am_has_set1 {ad : Nat → Nat} {sl : Array Slot} {nL : Nat} {ls : am_L} {n : Nat} {v : Value} (h : lv_has sl nL ((n, am_cv ad v) :: (am_ent 0 (am_cl ad ls)).filter (fun q => !(q.1 == n) && !(q.1 + 1 == n && q.2.category == 2)))) : am_has ad sl nL (am_set1 ls n v) := by
  refine ⟨h.1, h.2.1, fun q hq => h.2.2 q ?_⟩
  obtain ⟨i, w⟩ := q
  obtain ⟨k, e, hk⟩ := (am_ent_mem _ _ _ _).mp hq
  simp only [Nat.zero_add] at e
  subst e
  simp only [am_cl, List.getElem?_map, Option.map_eq_some_iff] at hk
  obtain ⟨o, h1, h2⟩ := hk
  obtain ⟨w0, rfl, rfl⟩ := h2
  rcases am_set1_at _ _ _ _ _ h1 with ⟨a, b⟩ | ⟨a, b, c⟩
  · rw [a, b]; exact List.mem_cons_self
  · refine List.mem_cons_of_mem _ (List.mem_filter.mpr ⟨(am_ent_mem _ _ _ _).mpr ⟨i, by omega, by simp [am_cl, a]⟩, ?_⟩)
    simp only [am_cv_cat, Bool.and_eq_true, Bool.not_eq_true', beq_eq_false_iff_ne, ne_eq, Bool.and_eq_false_iff]
    refine ⟨b, ?_⟩
    by_cases z : i + 1 = n
    · exact Or.inr fun q => c ⟨z, q⟩
    · exact Or.inl z
theorem am_has_set2 {ad : Nat → Nat} {sl : Array Slot} {nL : Nat} {ls : am_L} {n : Nat} {v : Value} (h : lv_has sl nL ((n, am_cv ad v) :: (am_ent 0 (am_cl ad ls)).filter (fun q => !(q.1 == n) && (!(q.1 == n + 1) && !(q.1 + 1 == n && q.2.category == 2))))) : am_has ad sl nL (am_set2 ls n v) := by
  refine ⟨h.1, h.2.1, fun q hq => h.2.2 q ?_⟩
  obtain ⟨i, w⟩ := q
  obtain ⟨k, e, hk⟩ := (am_ent_mem _ _ _ _).mp hq
  simp only [Nat.zero_add] at e
  subst e
  simp only [am_cl, List.getElem?_map, Option.map_eq_some_iff] at hk
  obtain ⟨o, h1, h2⟩ := hk
  obtain ⟨w0, rfl, rfl⟩ := h2
  rcases am_set2_at _ _ _ _ _ h1 with ⟨a, b⟩ | ⟨a, b, b2, c⟩
  · rw [a, b]; exact List.mem_cons_self
  · refine List.mem_cons_of_mem _ (List.mem_filter.mpr ⟨(am_ent_mem _ _ _ _).mpr ⟨i, by omega, by simp [am_cl, a]⟩, ?_⟩)
    simp only [am_cv_cat, Bool.and_eq_true, Bool.not_eq_true', beq_eq_false_iff_ne, ne_eq, Bool.and_eq_false_iff]
    refine ⟨b, b2, ?_⟩
    by_cases z : i + 1 = n
    · exact Or.inr fun q => c ⟨z, q⟩
    · exact Or.inl z
end
section
def am_A (ad : Nat → Nat) (sz : Nat) : Nat → Prop := fun q => (∃ i, i < 45 ∧ q = ad i) ∨ sz ≤ q
/-- the String constants' cells (their byte arrays at 1100 and on), and the statics that their methods read -/
def am_Zs (ad : Nat → Nat) (A : Nat → Prop) (U : State) : Prop := vk_S 8 am_len am_bI (fun i => ad (1000 + i)) (fun i => ad (1100 + i)) A U U.heap ∧ va_Z "java/lang/String" "COMPACT_STRINGS" "Z" (.int 1) A U U.heap ∧ va_Z "jdk/internal/util/Preconditions" "SIOOBE_FORMATTER" "Ljava/util/function/BiFunction;" (.ref (ad 1200)) A U U.heap
section AMR
variable {p : Program} {l : Launch} {e : Env} {R : Room} {s : State} {m : MethodId} {args : Array Value} {below : List Frame} {meth : Method} {c : Code} {H : Heap} {locs : List Loc} {Q : State → Prop}
variable {cc : ByteArray} {pc : Nat} {sl : Array Slot} {ad : Nat → Nat} {tc : Nat → ClassId} {D : va_G} {A : Nat → Prop}
variable {oc nL a nx : Nat} {ret : Option FieldType} {i : Instr} {v : Value} {tb : List (Int32 × Nat)} {st st' : List Value} {x x' : am_X} {P : Prop}
/-- group 1: divisions -/
theorem am_s1 (hx : p.tables.exec = Jvm.exec) (hb : c.code = cc) (ht : am_tie oc cc nL ret (pc, i, a, v, nx, tb) = true) (h : am_div i st = some (P, st')) (hP : P)
    (k : W p l e R s m args below meth c H locs 0 0 Q (F0 m nx sl (st'.map (am_cv ad)))) : W p l e R s m args below meth c H locs 0 0 Q (F0 m pc sl (st.map (am_cv ad))) := by
  obtain ⟨hd, hn, -⟩ := am_tie_d ht
  cases i with
  | idiv =>
    simp only [am_div] at h; split at h
    · cases h; rw [hn] at k; exact lv_idiv hx hb hd hP k
    · cases h
  | irem =>
    simp only [am_div] at h; split at h
    · cases h; rw [hn] at k; exact lv_irem hx hb hd hP k
    · cases h
  | ldiv =>
    simp only [am_div] at h; split at h
    · cases h; rw [hn] at k; exact lv_ldiv hx hb hd hP k
    · cases h
  | lrem =>
    simp only [am_div] at h; split at h
    · cases h; rw [hn] at k; exact lv_lrem hx hb hd hP k
    · cases h
  | _ => simp [am_div] at h
/-- the String constants -/
def am_Str (ad : Nat → Nat) (s : State) : Prop := ∀ (k : Nat) (q : Nat × String × Nat), am_st[k]? = some q → vk_R RX5 q.1 q.2.1 (ad (1000 + k)) s
theorem am_ciw {ix : Nat} {z : Int32} (hts : ∀ w ∈ am_tb, w.before args s = true) (h : am_ci.any (fun e => decide (e.1 = oc ∧ e.2.1 = ix ∧ e.2.2.1 = z)) = true) : (Cond.constant (am_own oc) ix z).before args s = true := by
  obtain ⟨q, hq, h1⟩ := List.any_eq_true.mp h
  obtain ⟨rfl, rfl, rfl⟩ := of_decide_eq_true h1
  have h2 := List.all_eq_true.mp am_ci_ok q hq
  simp only [Bool.and_eq_true, decide_eq_true_eq] at h2
  exact hts _ (am_tb_in h2.1 h2.2)
theorem am_cjw {ix : Nat} {z : Int64} (hts : ∀ w ∈ am_tb, w.before args s = true) (h : am_cj.any (fun e => decide (e.1 = oc ∧ e.2.1 = ix ∧ e.2.2.1 = z)) = true) : (Cond.constantLong (am_own oc) ix z).before args s = true := by
  obtain ⟨q, hq, h1⟩ := List.any_eq_true.mp h
  obtain ⟨rfl, rfl, rfl⟩ := of_decide_eq_true h1
  have h2 := List.all_eq_true.mp am_cj_ok q hq
  simp only [Bool.and_eq_true, decide_eq_true_eq] at h2
  exact hts _ (am_tb_in h2.1 h2.2)
theorem am_s0 {A : Nat → Prop} (hZ : am_Zs ad A s) (hS : va_S A s.heap H locs) (hx : p.tables.exec = Jvm.exec) (hb : c.code = cc) (hown : s.vm.findClass (am_own oc) = some m.cls) (hts : ∀ w ∈ am_tb, w.before args s = true) (hst : am_Str ad s) (ht : am_tie oc cc nL ret (pc, i, a, v, nx, tb) = true) (h : am_pure i v st = some st')
    (k : W p l e R s m args below meth c H locs 0 0 Q (F0 m nx sl (st'.map (am_cv ad)))) : W p l e R s m args below meth c H locs 0 0 Q (F0 m pc sl (st.map (am_cv ad))) := by
  obtain ⟨hd, hn, h2⟩ := am_tie_d ht
  cases i with
  | iconst n =>
    simp only [am_tie2, decide_eq_true_eq] at h2; subst h2
    simp only [am_pure, Option.some.injEq] at h; subst h
    rw [hn] at k; exact lv_iconst hx hb hd rfl k
  | bipush n =>
    simp only [am_tie2, decide_eq_true_eq] at h2; subst h2
    simp only [am_pure, Option.some.injEq] at h; subst h
    rw [hn] at k; exact lv_bipush hx hb hd rfl k
  | sipush n =>
    simp only [am_tie2, decide_eq_true_eq] at h2; subst h2
    simp only [am_pure, Option.some.injEq] at h; subst h
    rw [hn] at k; exact lv_sipush hx hb hd rfl k
  | lconst n =>
    simp only [am_tie2, decide_eq_true_eq] at h2; subst h2
    simp only [am_pure, Option.some.injEq] at h; subst h
    rw [hn] at k; exact lv_lconst hx hb hd rfl k
  | ldc ix =>
    simp only [am_pure, Option.some.injEq] at h; subst h
    cases v with
    | int z => rw [hn] at k; exact lv_ldc hx hb hown (am_ciw hts h2) hd k
    | ref z =>
      simp only [am_tie2, decide_eq_true_eq, am_at_eq] at h2
      obtain ⟨rfl, h3, h4⟩ := h2
      obtain ⟨q, hq, rfl⟩ := Option.map_eq_some_iff.mp h4
      have h5 := hst _ _ hq
      rw [show 1000 + (z - 1000) = z from Nat.add_sub_of_le h3] at h5
      rw [hn] at k; exact va_ldcS hx hb hown h5 hd k
    | _ => simp [am_tie2] at h2
  | ldc_w ix =>
    simp only [am_pure, Option.some.injEq] at h; subst h
    cases v with
    | int z => rw [hn] at k; exact lv_ldcw hx hb hown (am_ciw hts h2) hd k
    | _ => simp [am_tie2] at h2
  | ldc2_w ix =>
    simp only [am_pure, Option.some.injEq] at h; subst h
    cases v with
    | long z => rw [hn] at k; exact lv_ldc2 hx hb hown (am_cjw hts h2) hd k
    | _ => simp [am_tie2] at h2
  | iadd => simp only [am_pure] at h; split at h <;> cases h; rw [hn] at k; exact lv_iadd hx hb hd k
  | isub => simp only [am_pure] at h; split at h <;> cases h; rw [hn] at k; exact lv_isub hx hb hd k
  | imul => simp only [am_pure] at h; split at h <;> cases h; rw [hn] at k; exact lv_imul hx hb hd k
  | iand => simp only [am_pure] at h; split at h <;> cases h; rw [hn] at k; exact lv_iand hx hb hd k
  | ishl => simp only [am_pure] at h; split at h <;> cases h; rw [hn] at k; exact lv_ishl hx hb hd k
  | ishr => simp only [am_pure] at h; split at h <;> cases h; rw [hn] at k; exact lv_ishr hx hb hd k
  | iushr => simp only [am_pure] at h; split at h <;> cases h; rw [hn] at k; exact lv_iushr hx hb hd rfl k
  | ineg => simp only [am_pure] at h; split at h <;> cases h; rw [hn] at k; exact lv_ineg hx hb hd k
  | ladd => simp only [am_pure] at h; split at h <;> cases h; rw [hn] at k; exact lv_ladd hx hb hd k
  | lsub => simp only [am_pure] at h; split at h <;> cases h; rw [hn] at k; exact lv_lsub hx hb hd k
  | land => simp only [am_pure] at h; split at h <;> cases h; rw [hn] at k; exact lv_land hx hb hd k
  | lor => simp only [am_pure] at h; split at h <;> cases h; rw [hn] at k; exact lv_lor hx hb hd k
  | lxor => simp only [am_pure] at h; split at h <;> cases h; rw [hn] at k; exact lv_lxor hx hb hd k
  | lneg => simp only [am_pure] at h; split at h <;> cases h; rw [hn] at k; exact lv_lneg hx hb hd k
  | lshl => simp only [am_pure] at h; split at h <;> cases h; rw [hn] at k; exact lv_lshl hx hb hd rfl k
  | lushr => simp only [am_pure] at h; split at h <;> cases h; rw [hn] at k; exact lv_lushr hx hb hd rfl k
  | i2l => simp only [am_pure] at h; split at h <;> cases h; rw [hn] at k; exact lv_i2l hx hb hd rfl k
  | l2i => simp only [am_pure] at h; split at h <;> cases h; rw [hn] at k; exact lv_l2i hx hb hd rfl k
  | getstatic ix =>
    simp only [am_pure, Option.some.injEq] at h; subst h
    simp only [am_tie2, decide_eq_true_eq] at h2
    rw [hn] at k
    rcases h2 with ⟨rfl, rfl, rfl⟩ | ⟨rfl, rfl, rfl⟩
    · exact va_gets hx hb hZ.2.1 hS hown (hts _ (am_tb_in (i := 327) (by decide +kernel) rfl)) (fun _ h => h) hd k
    · exact va_gets hx hb hZ.2.2 hS hown (hts _ (am_tb_in (i := 343) (by decide +kernel) rfl)) (fun _ h => h) hd k
  | i2b => simp only [am_pure] at h; split at h <;> cases h; rw [hn] at k; exact lv_i2b hx hb hd rfl k
  | i2c => simp only [am_pure] at h; split at h <;> cases h; rw [hn] at k; exact lv_i2c hx hb hd rfl k
  | lcmp => simp only [am_pure] at h; split at h <;> cases h; rw [hn] at k; exact W.lcmp hx hb hd k
  | dup =>
    simp only [am_pure] at h; split at h
    · cases h; rw [hn] at k; exact lv_dup hx hb hd rfl k
    · cases h; rw [hn] at k; exact lv_dup hx hb hd rfl k
    · cases h
  | dup2 => simp only [am_pure] at h; split at h <;> cases h; rw [hn] at k; exact lv_dup2_11 hx hb hd rfl rfl k
  | pop =>
    simp only [am_pure] at h; split at h
    · cases h; rw [hn] at k; exact lv_pop hx hb hd rfl k
    · cases h; rw [hn] at k; exact lv_pop hx hb hd rfl k
    · cases h
  | pop2 => simp only [am_pure] at h; split at h <;> cases h; rw [hn] at k; exact lv_pop2_2 hx hb hd rfl k
  | _ => simp [am_pure] at h
/-- group 2: locals -/
theorem am_s2 {ls ls' : am_L} (hx : p.tables.exec = Jvm.exec) (hb : c.code = cc) (ht : am_tie oc cc nL ret (pc, i, a, v, nx, tb) = true) (h : am_loc i a v ls st = some (ls', st')) (hl : am_has ad sl nL ls)
    (k : ∀ sl', am_has ad sl' nL ls' → W p l e R s m args below meth c H locs 0 0 Q (F0 m nx sl' (st'.map (am_cv ad)))) : W p l e R s m args below meth c H locs 0 0 Q (F0 m pc sl (st.map (am_cv ad))) := by
  obtain ⟨hd, hn, h2⟩ := am_tie_d ht
  cases i with
  | iload n =>
    simp only [am_tie2, decide_eq_true_eq] at h2; subst h2
    simp only [am_loc] at h; split at h <;> cases h
    rw [hn] at k; exact lv_iload hx hb hd (am_has_at hl (by assumption)) (k _ hl)
  | iload_n n =>
    simp only [am_tie2, decide_eq_true_eq] at h2; subst h2
    simp only [am_loc] at h; split at h <;> cases h
    rw [hn] at k; exact lv_iload_n hx hb hd rfl (am_has_at hl (by assumption)) (k _ hl)
  | lload n =>
    simp only [am_tie2, decide_eq_true_eq] at h2; subst h2
    simp only [am_loc] at h; split at h <;> cases h
    rw [hn] at k; exact lv_lload hx hb hd (am_has_at hl (by assumption)) (k _ hl)
  | lload_n n =>
    simp only [am_tie2, decide_eq_true_eq] at h2; subst h2
    simp only [am_loc] at h; split at h <;> cases h
    rw [hn] at k; exact lv_lload_n hx hb hd rfl (am_has_at hl (by assumption)) (k _ hl)
  | aload n =>
    simp only [am_tie2, decide_eq_true_eq] at h2; subst h2
    simp only [am_loc] at h; split at h <;> cases h
    rw [hn] at k; exact lv_aload hx hb hd (am_has_at hl (by assumption)) (k _ hl)
  | aload_n n =>
    simp only [am_tie2, decide_eq_true_eq] at h2; subst h2
    simp only [am_loc] at h; split at h <;> cases h
    rw [hn] at k; exact lv_aload_n hx hb hd rfl (am_has_at hl (by assumption)) (k _ hl)
  | istore n =>
    simp only [am_tie2, decide_eq_true_eq] at h2; obtain ⟨rfl, h3⟩ := h2
    simp only [am_loc] at h; split at h <;> cases h
    rw [hn] at k; exact lv_istore hx hb hd hl h3 rfl (fun sl' h' => k sl' (am_has_set1 h'))
  | istore_n n =>
    simp only [am_tie2, decide_eq_true_eq] at h2; obtain ⟨rfl, h3⟩ := h2
    simp only [am_loc] at h; split at h <;> cases h
    rw [hn] at k; exact lv_istore_n hx hb hd rfl hl h3 rfl (fun sl' h' => k sl' (am_has_set1 h'))
  | astore n =>
    simp only [am_tie2, decide_eq_true_eq] at h2; obtain ⟨rfl, h3⟩ := h2
    simp only [am_loc] at h; split at h <;> cases h
    rw [hn] at k; exact lv_astore hx hb hd hl h3 rfl (fun sl' h' => k sl' (am_has_set1 (v := .ref _) h'))
  | astore_n n =>
    simp only [am_tie2, decide_eq_true_eq] at h2; obtain ⟨rfl, h3⟩ := h2
    simp only [am_loc] at h; split at h <;> cases h
    rw [hn] at k; exact lv_astore_n hx hb hd rfl hl h3 rfl (fun sl' h' => k sl' (am_has_set1 (v := .ref _) h'))
  | lstore n =>
    simp only [am_tie2, decide_eq_true_eq] at h2; obtain ⟨rfl, h3⟩ := h2
    simp only [am_loc] at h; split at h <;> cases h
    rw [hn] at k; exact lv_lstore hx hb hd hl h3 rfl (fun sl' h' => k sl' (am_has_set2 h'))
  | lstore_n n =>
    simp only [am_tie2, decide_eq_true_eq] at h2; obtain ⟨rfl, h3⟩ := h2
    simp only [am_loc] at h; split at h <;> cases h
    rw [hn] at k; exact lv_lstore_n hx hb hd rfl hl h3 rfl (fun sl' h' => k sl' (am_has_set2 h'))
  | iinc n z =>
    simp only [am_tie2, decide_eq_true_eq] at h2; obtain ⟨rfl, h3, rfl⟩ := h2
    simp only [am_loc] at h; split at h <;> cases h
    rename_i y hy
    have hm : (a, Value.int y) ∈ am_ent 0 (am_cl ad ls) := (am_ent_mem _ _ _ _).mpr ⟨a, by omega, by rw [am_at_eq] at hy; simp [am_cl, hy, am_cv]⟩
    obtain ⟨j, hj⟩ := List.mem_iff_getElem?.mp hm
    rw [hn] at k; exact lv_iinc hx hb hd hl hj rfl h3 rfl (fun sl' h' => k sl' (am_has_set1 h'))
  | _ => simp [am_loc] at h
end AMR
end
section
theorem am_sw_T {pc : Nat} {d : Int} {a : Nat} (hd : (pc : Int) + d = (a : Int)) : ∀ (lo : Int) (os : List Int) (tb : List (Int32 × Nat)) (z : Int32), am_swT pc lo os tb = true → ∃ tgt : Nat, am_sw a tb z = tgt ∧ ((z.toInt < lo ∨ lo + os.length ≤ z.toInt) → (pc : Int) + d = (tgt : Int)) ∧ (lo ≤ z.toInt → z.toInt < lo + os.length → ∃ off, os[(z.toInt - lo).toNat]? = some off ∧ (pc : Int) + off = (tgt : Int))
  | lo, [], [], z, _ => ⟨a, rfl, fun _ => hd, fun h1 h2 => by simp at h2; omega⟩
  | lo, o :: os, (k, t) :: r, z, h => by
    simp only [am_swT, Bool.and_eq_true, decide_eq_true_eq] at h
    obtain ⟨⟨h1, h2⟩, h3⟩ := h
    by_cases hz : z = k
    · subst hz
      refine ⟨t, by simp [am_sw], fun q => ?_, fun q1 q2 => ⟨o, ?_, h2⟩⟩
      · simp only [List.length_cons] at q
        omega
      · rw [show (z.toInt - lo).toNat = 0 by omega]; rfl
    · obtain ⟨tgt, e1, e2, e3⟩ := am_sw_T hd (lo + 1) os r z h3
      have hne : z.toInt ≠ lo := fun q => hz (Int32.toInt_inj.mp (by omega))
      refine ⟨tgt, by simp [am_sw, hz, e1], fun q => e2 ?_, fun q1 q2 => ?_⟩
      · simp only [List.length_cons] at q
        omega
      · simp only [List.length_cons] at q2
        obtain ⟨off, f1, f2⟩ := e3 (by omega) (by omega)
        refine ⟨off, ?_, f2⟩
        rw [show (z.toInt - lo).toNat = (z.toInt - (lo + 1)).toNat + 1 by omega]
        simpa using f1
  | _, [], _ :: _, _, h => by simp [am_swT] at h
  | _, _ :: _, [], _, h => by simp [am_swT] at h
theorem am_sw_L {pc : Nat} {d : Int} {a : Nat} (hd : (pc : Int) + d = (a : Int)) : ∀ (os : List (Int × Int)) (tb : List (Int32 × Nat)) (z : Int32), am_swL pc os tb = true → (pc : Int) + Op.lookupswitch.offset os d z.toInt = (am_sw a tb z : Int)
  | [], [], z, _ => hd
  | (k0, o) :: os, (k, t) :: r, z, h => by
    simp only [am_swL, Bool.and_eq_true, decide_eq_true_eq] at h
    obtain ⟨⟨h1, h2⟩, h3⟩ := h
    rw [Op.lookupswitch.offset_cons]
    by_cases hz : z = k
    · subst hz
      rw [if_pos h1.symm]
      simp [am_sw, h2]
    · rw [if_neg (fun q => hz (Int32.toInt_inj.mp (by omega)))]
      simp only [am_sw, hz, if_false]
      exact am_sw_L hd os r z h3
  | [], _ :: _, _, h => by simp [am_swL] at h
  | _ :: _, [], _, h => by simp [am_swL] at h
section AMR
variable {p : Program} {l : Launch} {e : Env} {R : Room} {s : State} {m : MethodId} {args : Array Value} {below : List Frame} {meth : Method} {c : Code} {H : Heap} {locs : List Loc} {Q : State → Prop}
variable {cc : ByteArray} {pc : Nat} {sl : Array Slot} {ad : Nat → Nat} {tc : Nat → ClassId} {D : va_G} {A : Nat → Prop}
variable {oc nL a nx pc' : Nat} {ret : Option FieldType} {i : Instr} {v : Value} {tb : List (Int32 × Nat)} {st st' : List Value} {x x' : am_X} {P : Prop}
theorem am_s3 (hx : p.tables.exec = Jvm.exec) (hb : c.code = cc) (ht : am_tie oc cc nL ret (pc, i, a, v, nx, tb) = true) (h : am_br i a nx tb st = some (pc', st'))
    (k : W p l e R s m args below meth c H locs 0 0 Q (F0 m pc' sl (st'.map (am_cv ad)))) : W p l e R s m args below meth c H locs 0 0 Q (F0 m pc sl (st.map (am_cv ad))) := by
  obtain ⟨hd, hn, h2⟩ := am_tie_d ht
  cases i with
  | goto off =>
    simp only [am_tie2, decide_eq_true_eq] at h2
    simp only [am_br, Option.some.injEq, Prod.mk.injEq] at h; obtain ⟨rfl, rfl⟩ := h
    exact lv_goto hx hb hd h2 k
  | if_icmp cnd off =>
    simp only [am_tie2, decide_eq_true_eq] at h2
    cases cnd with
    | eq => simp only [am_br] at h; split at h <;> cases h; rw [hn] at k; exact lv_icmp_eq hx hb hd h2 (fun z => by rw [if_pos z] at k; exact k) (fun z => by rw [if_neg z] at k; exact k)
    | ne => simp only [am_br] at h; split at h <;> cases h; rw [hn] at k; exact lv_icmp_ne hx hb hd h2 (fun z => by rw [if_neg z] at k; exact k) (fun z => by rw [if_pos z] at k; exact k)
    | lt => simp only [am_br] at h; split at h <;> cases h; rw [hn] at k; exact lv_icmp_lt hx hb hd h2 (fun z => by rw [if_pos z] at k; exact k) (fun z => by rw [if_neg z] at k; exact k)
    | ge => simp only [am_br] at h; split at h <;> cases h; rw [hn] at k; exact lv_icmp_ge hx hb hd h2 (fun z => by rw [if_pos z] at k; exact k) (fun z => by rw [if_neg z] at k; exact k)
    | gt => simp only [am_br] at h; split at h <;> cases h; rw [hn] at k; exact lv_icmp_gt hx hb hd h2 (fun z => by rw [if_pos z] at k; exact k) (fun z => by rw [if_neg z] at k; exact k)
    | le => simp only [am_br] at h; split at h <;> cases h; rw [hn] at k; exact lv_icmp_le hx hb hd h2 (fun z => by rw [if_pos z] at k; exact k) (fun z => by rw [if_neg z] at k; exact k)
  | ifCond cnd off =>
    simp only [am_tie2, decide_eq_true_eq] at h2
    cases cnd with
    | eq => simp only [am_br] at h; split at h <;> cases h; rw [hn] at k; exact lv_if_eq hx hb hd h2 (fun z => by rw [if_pos z] at k; exact k) (fun z => by rw [if_neg z] at k; exact k)
    | ne => simp only [am_br] at h; split at h <;> cases h; rw [hn] at k; exact lv_if_ne hx hb hd h2 (fun z => by rw [if_neg z] at k; exact k) (fun z => by rw [if_pos z] at k; exact k)
    | lt => simp only [am_br] at h; split at h <;> cases h; rw [hn] at k; exact lv_if_lt hx hb hd h2 (fun z => by rw [if_pos z] at k; exact k) (fun z => by rw [if_neg z] at k; exact k)
    | ge => simp only [am_br] at h; split at h <;> cases h; rw [hn] at k; exact lv_if_ge hx hb hd h2 (fun z => by rw [if_pos z] at k; exact k) (fun z => by rw [if_neg z] at k; exact k)
    | gt => simp only [am_br] at h; split at h <;> cases h; rw [hn] at k; exact lv_if_gt hx hb hd h2 (fun z => by rw [if_pos z] at k; exact k) (fun z => by rw [if_neg z] at k; exact k)
    | le => simp only [am_br] at h; split at h <;> cases h; rw [hn] at k; exact lv_if_le hx hb hd h2 (fun z => by rw [if_pos z] at k; exact k) (fun z => by rw [if_neg z] at k; exact k)
  | tableswitch d lo hi offs =>
    simp only [am_tie2, Bool.and_eq_true, decide_eq_true_eq] at h2
    obtain ⟨⟨h3, h4, -⟩, h5⟩ := h2
    cases st with
    | nil => simp [am_br] at h
    | cons w r =>
      cases w with
      | int z =>
        simp only [am_br, Option.some.injEq, Prod.mk.injEq] at h; obtain ⟨rfl, rfl⟩ := h
        obtain ⟨tgt, e1, e2, e3⟩ := am_sw_T h3 lo offs.toList tb z h5
        rw [e1] at k
        have hsz : (offs.toList.length : Int) = (offs.size : Int) := by simp
        by_cases q : z.toInt < lo ∨ hi < z.toInt
        · exact lv_tableOut hx hb hd q (e2 (by omega)) k
        · obtain ⟨off, f1, f2⟩ := e3 (by omega) (by omega)
          exact lv_tableIn hx hb hd (by omega) (by omega) (by simpa using f1) f2 k
      | _ => simp [am_br] at h
  | lookupswitch d ps =>
    simp only [am_tie2, Bool.and_eq_true, decide_eq_true_eq] at h2
    obtain ⟨⟨h3, h4⟩, h5⟩ := h2
    simp only [am_br] at h; split at h <;> cases h
    exact lv_lookup hx hb hd h4 rfl (am_sw_L h3 _ _ _ h5) k
  | _ => simp [am_br] at h
/-- words of nest mates -/
def am_Nst (s : State) : Prop := (∀ e ∈ am_fl, e.2.2.2.2.2 = 1 → va_Nw (am_flw e) s) ∧ ∀ e ∈ am_ml, e.2.2.2.2 = 1 → va_Nw (am_mlw e) s
theorem am_cc_at {ci : Nat} (h : ci < 9) : vwCl[ci]? = some ((am_cc ci).1, (am_cc ci).2.1, (am_cc ci).2.2) := by
  have : ∀ ci, ci < 9 → vwCl[ci]? = some ((am_cc ci).1, (am_cc ci).2.1, (am_cc ci).2.2) := by
    intro ci h
    match ci, h with
    | 0, _ | 1, _ | 2, _ | 3, _ | 4, _ | 5, _ | 6, _ | 7, _ | 8, _ => rfl
    | n + 9, h => omega
  exact this ci h
/-- the classes' own words -/
def am_lay (ci : Nat) : List Cond := u_ws (am_cc ci).1 (am_cc ci).2.1 (am_cc ci).2.2
def am_ty (ci : Nat) : Nat → FieldType := match ci with
  | 0 => tyX0 | 1 => tyX1 | 2 => tyX2 | 3 => tyX3 | 4 => tyX4 | 5 => tyX5 | 6 => tyX6 | 7 => tyX7 | _ => tyX8
theorem am_ty_ok {ci : Nat} (h : ci < 9) : (∀ k, k < (am_cc ci).2.2 → parseFieldDescriptor ((am_cc ci).2.1 k).2.2.1 = some (am_ty ci k)) ∧ ∀ a, a < (am_cc ci).2.2 → ∀ b, b < (am_cc ci).2.2 → a ≠ b → ((am_cc ci).2.1 a).2.1 ≠ ((am_cc ci).2.1 b).2.1 := by
  match ci, h with
  | 0, _ => exact ⟨tyX0_ok, nmX0⟩
  | 1, _ => exact ⟨tyX1_ok, nmX1⟩
  | 2, _ => exact ⟨tyX2_ok, nmX2⟩
  | 3, _ => exact ⟨tyX3_ok, nmX3⟩
  | 4, _ => exact ⟨tyX4_ok, nmX4⟩
  | 5, _ => exact ⟨tyX5_ok, nmX5⟩
  | 6, _ => exact ⟨tyX6_ok, nmX6⟩
  | 7, _ => exact ⟨tyX7_ok, nmX7⟩
  | 8, _ => exact ⟨tyX8_ok, nmX8⟩
  | n + 9, h => omega
set_option maxRecDepth 100000 in
theorem am_lay_in0 : (List.range 9).all (fun ci => (am_lay ci).all (fun w => decide (w ∈ am_tb))) = true := by decide +kernel
theorem am_lay_in {ci : Nat} (h : ci < 9) : ∀ w ∈ u_ws (am_cc ci).1 (am_cc ci).2.1 (am_cc ci).2.2, w ∈ am_tb := by
  intro w hw
  have := List.all_eq_true.mp (List.all_eq_true.mp am_lay_in0 ci (List.mem_range.mpr h)) w hw
  simpa using this
theorem am_fle {ix ci : Nat} (h : am_fl.any (fun e => decide (e.1 = oc ∧ e.2.1 = ix ∧ e.2.2.1 = ci ∧ e.2.2.2.1 = a)) = true) : ∃ e ∈ am_fl, e.1 = oc ∧ e.2.1 = ix ∧ e.2.2.1 = ci ∧ e.2.2.2.1 = a ∧ ci < 9 ∧ a < (am_cc ci).2.2 ∧ lw_tbl[e.2.2.2.2.1]? = some (am_flw e) ∧ (e.2.2.2.2.2 = 1 ∨ goodWord (am_flw e) = true) := by
  obtain ⟨e, he, h1⟩ := List.any_eq_true.mp h
  obtain ⟨r1, r2, r3, r4⟩ := of_decide_eq_true h1
  have h2 := List.all_eq_true.mp am_fl_ok e he
  simp only [am_fl1, Bool.and_eq_true, Bool.or_eq_true, decide_eq_true_eq] at h2
  obtain ⟨⟨⟨z1, z2⟩, z3⟩, z4⟩ := h2
  refine ⟨e, he, r1, r2, r3, r4, by rw [← r3]; exact z3, by rw [← r3, ← r4]; exact z4, z1, ?_⟩
  rcases z2 with z | z
  · exact Or.inl (Nat.eq_of_beq_eq_true z)
  · exact Or.inr z
theorem am_same {C n d : String} : ∀ y, s.fieldFound? C n d = some y → s.fieldFound? C n d = some y := fun _ h => h
/-- the declaring class of every field is the class itself -/
theorem am_decl0 : (List.range 9).all (fun ci => (List.range (am_cc ci).2.2).all (fun k => decide (((am_cc ci).2.1 k).1 = (am_cc ci).1))) = true := by decide +kernel
theorem am_decl {ci k : Nat} (h : ci < 9) (hk : k < (am_cc ci).2.2) : ((am_cc ci).2.1 k).1 = (am_cc ci).1 := by
  have := List.all_eq_true.mp (List.all_eq_true.mp am_decl0 ci (List.mem_range.mpr h)) k (List.mem_range.mpr hk)
  simpa using this
/-- the kinds of the fields in the world are their types -/
def am_kty (ci k : Nat) (q : Nat × Nat) : Bool := match q.1 with
  | 0 => true
  | 1 => decide (am_ty ci k = .int ∧ ((am_cc ci).2.1 k).2.2.2 = false)
  | 2 => decide (am_ty ci k = .long ∧ ((am_cc ci).2.1 k).2.2.2 = false)
  | 3 => decide (am_ty ci k = .boolean ∧ ((am_cc ci).2.1 k).2.2.2 = false)
  | _ => false
theorem am_kty0 : am_shp.all (fun s => match s with | .inl (ci, fs) => (List.range fs.length).all (fun k => match fs[k]? with | some q => am_kty ci k q | none => true) | _ => true) = true := by decide +kernel
theorem am_kty_ok {j ci k : Nat} {fs : List (Nat × Nat)} {q : Nat × Nat} (h : am_shp[j]? = some (.inl (ci, fs))) (hk : fs[k]? = some q) : am_kty ci k q = true := by
  have h1 := List.all_eq_true.mp am_kty0 _ (List.mem_of_getElem? h)
  have h2 := List.all_eq_true.mp h1 k (List.mem_range.mpr (List.getElem?_eq_some_iff.mp hk).1)
  rw [hk] at h2
  exact h2
theorem am_get {j ix ci : Nat} {r : List Value} {q : Nat × Nat} (hx : p.tables.exec = Jvm.exec) (hb : c.code = cc) (hown : s.vm.findClass (am_own oc) = some m.cls) (hts : ∀ w ∈ am_tb, w.before args s = true) (hN : am_Nst s)
    (hK : va_K D vwCl (am_tys tc) s) (hP : va_P D vwCl (am_W ad tc x) H) (h2 : am_fl.any (fun e => decide (e.1 = oc ∧ e.2.1 = ix ∧ e.2.2.1 = ci ∧ e.2.2.2.1 = a)) = true) (hf : am_fld ci a j = some q) (hd : decode cc pc = .ok (.getfield ix, 3))
    (k : W p l e R s m args below meth c H locs 0 0 Q (F0 m (pc + 3) sl (am_cv ad (am_fv x q) :: r))) : W p l e R s m args below meth c H locs 0 0 Q (F0 m pc sl (.ref (ad j) :: r)) := by
  obtain ⟨e, he, rfl, rfl, rfl, rfl, h3, h4, h5, h6⟩ := am_fle h2
  obtain ⟨fs, g1, g2⟩ := am_fld_eq hf
  have hsame := am_decl h3 h4
  by_cases hn : e.2.2.2.2.2 = 1
  · have hl := va_Nw.use (A := args) (by simp only [am_flw, hn]; rfl) (hN.1 e he hn)
    simp only [am_flw, hn] at hl
    exact va_getN hx hb hts (am_lay_in h3) hown hK hP j (am_W_obj g1) (am_cc_at h3) _ h4 hl (fun y hy => by rw [hsame] at hy; exact hy) (by rw [List.getElem?_map, g2]; rfl) hd k
  · have hw : am_flw e = .fieldLink (am_own e.1) e.2.1 (am_cc e.2.2.1).1 ((am_cc e.2.2.1).2.1 e.2.2.2.1).2.1 ((am_cc e.2.2.1).2.1 e.2.2.2.1).2.2.1 := by
      unfold am_flw; split
      · rename_i z; exact absurd z hn
      · rfl
    have hl := hts _ (am_tb_in h5 (h6.resolve_left hn))
    rw [hw] at hl
    exact va_get hx hb hts (am_lay_in h3) hown hK hP j (am_W_obj g1) (am_cc_at h3) _ h4 hl (fun y hy => by rw [hsame] at hy; exact hy) (by rw [List.getElem?_map, g2]; rfl) hd k
theorem am_put {j ix ci : Nat} {r : List Value} {kd id : Nat} {w : Value} {H0 : Heap} (hx : p.tables.exec = Jvm.exec) (hb : c.code = cc) (hown : s.vm.findClass (am_own oc) = some m.cls) (hts : ∀ w ∈ am_tb, w.before args s = true) (hN : am_Nst s)
    (hK : va_K D vwCl (am_tys tc) s) (hP : va_P D vwCl (am_W ad tc x) H) (hD : va_D A (am_W ad tc x)) (hS : va_S A H0 H locs) (h2 : am_fl.any (fun e => decide (e.1 = oc ∧ e.2.1 = ix ∧ e.2.2.1 = ci ∧ e.2.2.2.1 = a)) = true) (hf : am_fld ci a j = some (kd, id)) (h0 : kd ≠ 0) (hd : decode cc pc = .ok (.putfield ix, 3))
    (hn1 : narrow (am_ty ci a) w = w) (hn2 : fits (am_ty ci a) w = true)
    (hset : ∀ fs, am_shp[j]? = some (.inl (ci, fs)) → fs[a]? = some (kd, id) → (am_W ad tc x).set j (ad j, .inr (ci, (fs.map (fun q => am_cv ad (am_fv x q))).set a w)) = am_W ad tc x')
    (k : ∀ (H1 : Heap) (locs1 : List Loc), va_P D vwCl (am_W ad tc x') H1 → va_S A H0 H1 locs1 → W p l e R s m args below meth c H1 locs1 0 0 Q (F0 m (pc + 3) sl r)) : W p l e R s m args below meth c H locs 0 0 Q (F0 m pc sl (w :: .ref (ad j) :: r)) := by
  obtain ⟨e, he, rfl, rfl, rfl, rfl, h3, h4, h5, h6⟩ := am_fle h2
  obtain ⟨fs, g1, g2⟩ := am_fld_eq hf
  have hsame := am_decl h3 h4
  have hty := am_ty_ok h3
  have hkt := am_kty_ok g1 g2
  have hfin : ((am_cc e.2.2.1).2.1 e.2.2.2.1).2.2.2 = false := by
    match kd, h0, hkt with
    | 0, h0, _ => exact absurd rfl h0
    | 1, _, hkt => simp only [am_kty, decide_eq_true_eq] at hkt; exact hkt.2
    | 2, _, hkt => simp only [am_kty, decide_eq_true_eq] at hkt; exact hkt.2
    | 3, _, hkt => simp only [am_kty, decide_eq_true_eq] at hkt; exact hkt.2
    | n + 4, _, hkt => simp [am_kty] at hkt
  have hlen : e.2.2.2.1 < (fs.map (fun q => am_cv ad (am_fv x q))).length := by
    simpa using (List.getElem?_eq_some_iff.mp g2).1
  have hs := hset fs g1 g2
  by_cases hn : e.2.2.2.2.2 = 1
  · have hl := va_Nw.use (A := args) (by simp only [am_flw, hn]; rfl) (hN.1 e he hn)
    simp only [am_flw, hn] at hl
    exact va_putN hx hb hts (am_lay_in h3) (am_ty e.2.2.1) hty.1 hty.2 hown hK hP hD hS j (am_W_obj g1) (am_cc_at h3) _ h4 hl (fun y hy => by rw [hsame] at hy; exact hy) hfin (hty.1 _ h4) hn1 hn2 hlen hd (fun H1 locs1 a1 _ a3 => k H1 locs1 (by rw [← hs]; exact a1) a3)
  · have hw : am_flw e = .fieldLink (am_own e.1) e.2.1 (am_cc e.2.2.1).1 ((am_cc e.2.2.1).2.1 e.2.2.2.1).2.1 ((am_cc e.2.2.1).2.1 e.2.2.2.1).2.2.1 := by
      unfold am_flw; split
      · rename_i z; exact absurd z hn
      · rfl
    have hl := hts _ (am_tb_in h5 (h6.resolve_left hn))
    rw [hw] at hl
    exact va_put hx hb hts (am_lay_in h3) (am_ty e.2.2.1) hty.1 hty.2 hown hK hP hD hS j (am_W_obj g1) (am_cc_at h3) _ h4 hl (fun y hy => by rw [hsame] at hy; exact hy) hfin (hty.1 _ h4) hn1 hn2 hlen hd (fun H1 locs1 a1 _ a3 => k H1 locs1 (by rw [← hs]; exact a1) a3)
end AMR
end
section
def am_Cx (D : va_G) (ad adV : Nat → Nat) (tc : Nat → ClassId) (sz : Nat) (U : State) : Prop := va_K D vwCl (am_tys tc) U ∧ am_Nst U ∧ am_Str ad U ∧ am_Zs ad (am_A ad sz) U
theorem am_Nst_same {u U : State} (hv : u.vm = U.vm) (h : am_Nst u) : am_Nst U := by
  refine ⟨fun e he hn => va_Nw.same ?_ hv (h.1 e he hn), fun e he hn => va_Nw.same ?_ hv (h.2 e he hn)⟩
  · unfold am_flw; rw [hn]; rfl
  · unfold am_mlw; rw [hn]; rfl
theorem am_Nst_warm {s U : State} (hW : s.WarmedH U.vm) (h : am_Nst s) : am_Nst U := by
  refine ⟨fun e he hn => ?_, fun e he hn => ?_⟩
  · have := h.1 e he hn
    unfold am_flw at this ⊢
    rw [hn] at this ⊢
    exact va_Nw.warmF hW this
  · have := h.2 e he hn
    unfold am_mlw at this ⊢
    rw [hn] at this ⊢
    exact va_Nw.warmM hW this
theorem am_Cx_blind {D : va_G} {ad adV : Nat → Nat} {tc : Nat → ClassId} {sz : Nat} {U : State} {g : JFrame} {mk : MethodId} {a : Array Value} (h : am_Cx D ad adV tc sz U) : am_Cx D ad adV tc sz (U.calling g mk a) := by
  obtain ⟨h1, h2, h3, h4, h5, h6⟩ := h
  exact ⟨va_K.moved (u := U) (U := U.calling g mk a) (Vm.Alike.refl U.vm) h1, am_Nst_same (u := U) rfl h2, fun k q hq => vk_R.same (u := U) rfl (h3 k q hq),
    vk_S.moved (u := U) (U := U.calling g mk a) (Vm.Alike.refl U.vm) h4, va_Z.moved (u := U) (U := U.calling g mk a) (Vm.Alike.refl U.vm) h5, va_Z.moved (u := U) (U := U.calling g mk a) (Vm.Alike.refl U.vm) h6⟩
theorem am_Cx_call {D : va_G} {ad adV : Nat → Nat} {tc : Nat → ClassId} {s U : State} {H : Heap} {locs : List Loc} (h : am_Cx D ad adV tc s.heap.size s) (hS : va_S (am_A ad s.heap.size) s.heap H locs) (hU : U.heap = H) (hW : s.WarmedH U.vm) : am_Cx D ad adV tc H.size U := by
  obtain ⟨h1, h2, h3, h4, h5, h6⟩ := h
  have hAB : ∀ q, am_A ad H.size q → am_A ad s.heap.size q := fun q hq => hq.imp id (fun h => Nat.le_trans hS.1 h)
  subst hU
  refine ⟨va_K.moved hW.alike h1, am_Nst_warm hW h2, fun k q hq => vk_R.warm hW (h3 k q hq), ?_, ?_, ?_⟩
  · exact ((h4.moved hW.alike).kept hS.2.1).narrow hAB
  · exact ((h5.moved hW.alike).kept hS.2.1).narrow hAB
  · exact ((h6.moved hW.alike).kept hS.2.1).narrow hAB
def am_Pc (D : va_G) (ad adV : Nat → Nat) (tc : Nat → ClassId) (sz : Nat) (as : List Value) (x : am_X) : Array Value → State → Prop :=
  va_Pc (as.map (am_cv ad)) (fun U => U.heap.size = sz ∧ va_P D vwCl (am_W ad tc x) U.heap ∧ va_D (am_A ad sz) (am_W ad tc x) ∧ am_Cx D ad adV tc sz U)
def am_Qc (D : va_G) (ad : Nat → Nat) (tc : Nat → ClassId) (sz : Nat) (r : Option Value) (x' : am_X) : Array Value → State → Outcome → State → Prop :=
  fun _ st oc t => (oc = .returned (r.map (am_cv ad)) ∧ va_P D vwCl (am_W ad tc x') t.heap) ∧ va_F (am_A ad sz) st t
def am_ws (M : Nat) : List Cond := .code (am_me M).2.1 (am_me M).2.2.1 (am_me M).2.2.2.1 (am_me M).2.2.2.2.1 :: am_tb
def am_rm (d : Nat) : Room := { frames := d, cells := 0, slots := 0, locals := 41 * d }
theorem am_mt_len : am_mt.length = 190 := by decide +kernel
theorem am_me_in {M : Nat} (h : M < 190) : am_me M ∈ am_mt := by
  unfold am_me
  rw [am_at_eq]
  have hl : M < am_mt.length := by rw [am_mt_len]; exact h
  rw [List.getElem?_eq_getElem hl]
  exact List.getElem_mem hl
theorem am_oc0 : (List.range 190).all (fun M => decide ((am_me M).1 < 9 ∨ ((am_me M).1 ≥ 20 ∧ (am_me M).1 < 30))) = true := by decide +kernel
theorem am_oc {M : Nat} (h : M < 190) : (am_me M).1 < 9 ∨ ((am_me M).1 ≥ 20 ∧ (am_me M).1 < 30) := by
  have := List.all_eq_true.mp am_oc0 M (List.mem_range.mpr h)
  simpa using this
theorem am_good_in {M : Nat} (h : M < 190) : GoodIn am_tb (am_ws M) := by
  have hg : goodWord (.code (am_me M).2.1 (am_me M).2.2.1 (am_me M).2.2.2.1 (am_me M).2.2.2.2.1) = true := rfl
  have key : ∀ w ∈ am_tb, w ∈ am_tb ∧ ((w.onTables && w.keeps) = true ∨ ∃ ty, w = .arrayClass ty) := fun w hw => ⟨hw, good_of_word (List.mem_filter.mp hw).2⟩
  intro w hw
  rcases List.mem_cons.mp hw with rfl | hw
  · exact key _ (am_tb_in (am_cw _ (am_me_in h)) hg)
  · exact key w hw
section AMR
variable {p : Program} {l : Launch} {e : Env} {R : Room} {s : State} {m : MethodId} {args : Array Value} {below : List Frame} {meth : Method} {c : Code} {H : Heap} {locs : List Loc} {Q : State → Prop}
variable {cc : ByteArray} {pc : Nat} {sl : Array Slot} {ad : Nat → Nat} {tc : Nat → ClassId} {D : va_G} {A : Nat → Prop}
variable {oc nL a nx : Nat} {ret : Option FieldType} {i : Instr} {v : Value} {tb : List (Int32 × Nat)} {st st' : List Value} {x x' : am_X} {P : Prop}
theorem am_cat0 {r : List Value} (h : (List.map (am_cv ad) r) = []) : r = [] := by simpa using h
theorem am_j9 (i : Nat) : 1000 + i + 100 = 1100 + i := by omega
theorem am_j10 {j : Nat} (h : (Nat.ble 1000 j && Nat.blt j 1008) = true) : ∃ i, j = 1000 + i ∧ i < 8 := by
  simp only [Bool.and_eq_true] at h
  have h1 := Nat.le_of_ble_eq_true h.1
  have h2 := h.2
  simp [Nat.blt] at h2
  exact ⟨j - 1000, by omega, by omega⟩
theorem am_j11 {j : Nat} (h : (Nat.ble 1100 j && Nat.blt j 1108) = true) : ∃ i, j = 1100 + i ∧ i < 8 := by
  simp only [Bool.and_eq_true] at h
  have h1 := Nat.le_of_ble_eq_true h.1
  have h2 := h.2
  simp [Nat.blt] at h2
  exact ⟨j - 1100, by omega, by omega⟩
set_option maxHeartbeats 40000000 in
theorem am_s4 (hx : p.tables.exec = Jvm.exec) (hb : c.code = cc) (hml : c.maxLocals = sl.size) (hown : s.vm.findClass (am_own oc) = some m.cls) (hts : ∀ w ∈ am_tb, w.before args s = true) (hN : am_Nst s)
    (hK : va_K D vwCl (am_tys tc) s) (hP : va_P D vwCl (am_W ad tc x) H) (hD : va_D A (am_W ad tc x)) (hS : va_S A s.heap H locs) (hZ : am_Zs ad A s) (hR : 1 ≤ R.frames ∧ 41 ≤ R.locals) (ht : am_tie oc cc nL ret (pc, i, a, v, nx, tb) = true) {oP : Option Prop} (h : am_cel i a v st x = some (oP, st', x')) (hp : ∀ Q : Prop, oP = some Q → Q)
    (k : ∀ (H1 : Heap) (locs1 : List Loc), va_P D vwCl (am_W ad tc x') H1 → va_S A s.heap H1 locs1 → W p l e R s m args below meth c H1 locs1 0 0 Q (F0 m nx sl (st'.map (am_cv ad)))) : W p l e R s m args below meth c H locs 0 0 Q (F0 m pc sl (st.map (am_cv ad))) := by
  obtain ⟨hd, hn, h2⟩ := am_tie_d ht
  have t0 : (am_tys tc)[0]? = some (tc 0, .int) := rfl
  have t1 : (am_tys tc)[1]? = some (tc 1, .long) := rfl
  have t2 : (am_tys tc)[2]? = some (tc 2, .boolean) := rfl
  have t3 : (am_tys tc)[3]? = some (tc 3, .char) := rfl
  cases i with
  | getfield ix =>
    simp only [am_cel] at h
    split at h
    · rename_i j r ci
      cases h20 : Nat.beq ci 20 with
      | true =>
        obtain rfl := Nat.eq_of_beq_eq_true h20
        have h2 : decide (oc = 20 ∧ ((ix = 9 ∧ a = 0) ∨ (ix = 15 ∧ a = 1))) = true := h2
        simp only [decide_eq_true_eq] at h2
        simp only [h20, cond_true] at h
        cases hj : (Nat.ble 1000 j && Nat.blt j 1008) with
        | false => rw [hj] at h; cases h
        | true =>
          rw [hj] at h
          cases h
          rw [hn] at k
          obtain ⟨i0, e0, h0⟩ := am_j10 hj
          subst e0
          have hs := (hZ.1.1 i0 h0)
          dsimp only at hs
          obtain ⟨rfl, ⟨rfl, rfl⟩ | ⟨rfl, rfl⟩⟩ := h2
          · refine vk_getf hx hb (v := .ref (ad (1100 + i0))) hs.2.2.1 hS hown (hts _ (am_tb_in (i := 1235) (by decide +kernel) rfl)) (fun _ h => h) hd ?_
            have hk := k H locs hP hS
            rw [am_j9 i0] at hk
            exact hk
          · exact vk_getf hx hb (v := .int 0) hs.2.1 hS hown (hts _ (am_tb_in (i := 1236) (by decide +kernel) rfl)) (fun _ h => h) hd (k H locs hP hS)
      | false =>
        simp only [am_tie2, h20, cond_false] at h2
        simp only [h20, cond_false] at h
        split at h
        · rename_i q hq
          cases h
          rw [hn] at k
          exact am_get hx hb hown hts hN hK hP h2 hq hd (k H locs hP hS)
        · cases h
    · cases h
  | putfield ix =>
    simp only [am_cel] at h
    split at h
    · rename_i y j r ci
      split at h
      · rename_i id hq
        cases h
        have hkt := am_kty_ok (am_fld_eq hq).choose_spec.1 (am_fld_eq hq).choose_spec.2
        simp only [am_kty, decide_eq_true_eq] at hkt
        rw [hn] at k
        exact am_put (w := .int y) hx hb hown hts hN hK hP hD hS h2 hq (by decide) hd (by rw [hkt.1]; rfl) (by rw [hkt.1]; rfl) (fun fs g1 g2 => am_W_uI g1 g2 (Or.inl rfl)) k
      · rename_i id hq
        cases h
        have hkt := am_kty_ok (am_fld_eq hq).choose_spec.1 (am_fld_eq hq).choose_spec.2
        simp only [am_kty, decide_eq_true_eq] at hkt
        rw [hn] at k
        exact am_put (w := .int y) hx hb hown hts hN hK hP hD hS h2 hq (by decide) hd (by rw [hkt.1]; rcases hp _ rfl with rfl | rfl <;> rfl) (by rw [hkt.1]; rcases hp _ rfl with rfl | rfl <;> rfl) (fun fs g1 g2 => am_W_uI g1 g2 (Or.inr rfl)) k
      · cases h
    · rename_i y j r ci
      split at h
      · rename_i id hq
        cases h
        have hkt := am_kty_ok (am_fld_eq hq).choose_spec.1 (am_fld_eq hq).choose_spec.2
        simp only [am_kty, decide_eq_true_eq] at hkt
        rw [hn] at k
        exact am_put (w := .long y) hx hb hown hts hN hK hP hD hS h2 hq (by decide) hd (by rw [hkt.1]; rfl) (by rw [hkt.1]; rfl) (fun fs g1 g2 => am_W_uL g1 g2) k
      · cases h
    · cases h
  | arraylength =>
    simp only [am_cel] at h
    split at h
    · split at h
      · rename_i t n hq
        cases h
        rw [hn] at k
        have h4 := am_shp_at (am_arr_eq hq)
        simp only [am_shp1, decide_eq_true_eq] at h4
        match t, h4, hq with
        | 0, _, hq => exact va_alen hx hb hK hP _ 0 (am_W_arrI hq (by decide)) t0 rfl hd (k H locs hP hS)
        | 1, _, hq => exact va_alen hx hb hK hP _ 1 (am_W_arrL hq) t1 rfl hd (k H locs hP hS)
        | 2, _, hq => exact va_alen hx hb hK hP _ 2 (am_W_arrI hq (by decide)) t2 rfl hd (k H locs hP hS)
        | 3, _, hq => exact va_alen hx hb hK hP _ 3 (am_W_arrI hq (by decide)) t3 rfl hd (k H locs hP hS)
        | n + 4, h4, _ => omega
      · cases hj : (Nat.ble 1100 _ && Nat.blt _ 1108) with
        | false => rw [hj] at h; cases h
        | true =>
          rw [hj] at h
          cases h
          rw [hn] at k
          obtain ⟨i0, e0, h0⟩ := am_j11 hj
          have hs := (hZ.1.1 i0 h0).2.2.2
          dsimp only at hs
          rw [← e0] at hs
          exact va_tlen hx hb hs hS (by rw [e0, Nat.add_sub_cancel_left]) hd (k H locs hP hS)
    · cases h
  | iaload =>
    simp only [am_cel] at h
    split at h
    · split at h
      · rename_i hq
        cases h
        rw [hn] at k
        exact va_iald hx hb hK hP _ 0 (am_W_arrI hq (by decide)) t0 (hp _ rfl) hd (k H locs hP hS)
      · cases h
    · cases h
  | baload =>
    simp only [am_cel] at h
    split at h
    · split at h
      · rename_i hq
        cases h
        rw [hn] at k
        exact va_zald hx hb hK hP _ 2 (am_W_arrI hq (by decide)) t2 (hp _ rfl) hd (k H locs hP hS)
      · cases h
      · cases hj : (Nat.ble 1100 _ && Nat.blt _ 1108) with
        | false => rw [hj] at h; cases h
        | true =>
          rw [hj] at h
          cases h
          rw [hn] at k
          obtain ⟨i0, e0, h0⟩ := am_j11 hj
          have hs := (hZ.1.1 i0 h0).2.2.2
          dsimp only at hs
          rw [← e0] at hs
          have hv := hp _ rfl
          rw [e0, Nat.add_sub_cancel_left] at hv
          refine va_tb hx hb hs hS hv rfl hd ?_
          have := k H locs hP hS
          simp only [am_bat, e0, Nat.add_sub_cancel_left] at this
          exact this
    · cases h
  | caload =>
    simp only [am_cel] at h
    split at h
    · split at h
      · rename_i hq
        cases h
        rw [hn] at k
        exact va_cald hx hb hK hP _ 3 (am_W_arrI hq (by decide)) t3 (hp _ rfl) hd (k H locs hP hS)
      · cases h
    · cases h
  | laload =>
    simp only [am_cel] at h
    split at h
    · split at h
      · rename_i hq
        cases h
        rw [hn] at k
        exact va_lald hx hb hK hP _ 1 (am_W_arrL hq) t1 (hp _ rfl) hd (k H locs hP hS)
      · cases h
    · cases h
  | iastore =>
    simp only [am_cel] at h
    split at h
    · split at h
      · rename_i hq
        cases h
        rw [hn] at k
        exact va_iast hx hb hK hP hD hS _ 0 (am_W_arrI hq (by decide)) t0 (hp _ rfl) hd (fun H1 locs1 a1 _ a3 => k H1 locs1 (by rw [← am_W_sA hq (by decide)]; exact a1) a3)
      · cases h
    · cases h
  | bastore =>
    simp only [am_cel] at h
    split at h
    · split at h
      · rename_i hq
        cases h
        rw [hn] at k
        exact va_zast hx hb hK hP hD hS _ 2 (am_W_arrI hq (by decide)) t2 (hp _ rfl) hd (fun H1 locs1 a1 _ a3 => k H1 locs1 (by rw [← am_W_sA hq (by decide)]; exact a1) a3)
      · cases h
    · cases h
  | lastore =>
    simp only [am_cel] at h
    split at h
    · split at h
      · rename_i hq
        cases h
        rw [hn] at k
        exact va_last hx hb hK hP hD hS _ 1 (am_W_arrL hq) t1 (hp _ rfl) hd (fun H1 locs1 a1 _ a3 => k H1 locs1 (by rw [← am_W_sB hq]; exact a1) a3)
      · cases h
    · cases h
  | invokestatic ix =>
    simp only [am_cel] at h
    split at h
    · have h2 : decide ((oc = 1 ∧ ix = 34) ∨ (oc = 0 ∧ ix = 24)) = true := h2
      simp only [decide_eq_true_eq] at h2
      have hw : (Cond.methodLink (am_own oc) ix arraycopyName).before args s = true ∧ (Cond.native arraycopyName).before args s = true ∧ (Cond.static arraycopyName).before args s = true ∧ (Cond.initialized "java/lang/System").before args s = true := by
        refine ⟨?_, hts _ (am_tb_in (i := 305) (by decide +kernel) rfl), hts _ (am_tb_in (i := 304) (by decide +kernel) rfl), hts _ (am_tb_in (i := 108) (by decide +kernel) rfl)⟩
        rcases h2 with ⟨rfl, rfl⟩ | ⟨rfl, rfl⟩
        · exact hts _ (am_tb_in (i := 303) (by decide +kernel) rfl)
        · exact hts _ (am_tb_in (i := 780) (by decide +kernel) rfl)
      obtain ⟨w1, w2, w3, w4⟩ := hw
      split at h
      · split at h
        · rename_i hq0 hq1
          cases h
          obtain ⟨⟨q1, q2, q3, q4, q5⟩, rfl⟩ := hp _ rfl
          rw [hn] at k
          exact va_copyi hx hb hml hown w1 w2 w3 w4 hK hP hD hS _ _ 0 0 (am_W_arrI hq0 (by decide)) (am_W_arrI hq1 (by decide)) t0 t0 rfl q1 q2 q3 q4 q5 (fun _ _ => rfl) hR.1 (by show 0 + (7 + 11) ≤ R.locals; omega) hd (fun H1 locs1 a1 _ a3 => k H1 locs1 (by rw [← am_W_sA hq1 (by decide)]; exact a1) a3)
        · rename_i hq0 hq1
          cases h
          obtain ⟨⟨q1, q2, q3, q4, q5⟩, rfl⟩ := hp _ rfl
          rw [hn] at k
          exact va_copyl hx hb hml hown w1 w2 w3 w4 hK hP hD hS _ _ 1 1 (am_W_arrL hq0) (am_W_arrL hq1) t1 t1 rfl q1 q2 q3 q4 q5 (fun _ _ => rfl) hR.1 (by show 0 + (7 + 11) ≤ R.locals; omega) hd (fun H1 locs1 a1 _ a3 => k H1 locs1 (by rw [← am_W_sB hq1]; exact a1) a3)
        · cases h
      · cases h
    · have h2 : decide ((oc = 7 ∧ ix = 331) ∨ (oc = 8 ∧ ix = 151) ∨ (oc = 24 ∧ ix = 92)) = true := h2
      simp only [decide_eq_true_eq] at h2
      split at h
      · rename_i y z r
        cases hbb : Nat.ble (am_sum r) 8 with
        | false => rw [hbb] at h; cases h
        | true =>
          rw [hbb] at h
          cases h
          rw [hn] at k
          have hs := Nat.le_of_ble_eq_true hbb
          refine va_mmax hx hb hml hown ?_ (hts _ (am_tb_in (i := 174) (by decide +kernel) rfl)) (hts _ (am_tb_in (i := 102) (by decide +kernel) rfl)) (hts _ (am_tb_in (i := 175) (by decide +kernel) rfl)) hR.1 (by rw [am_cv_sum]; omega) (Nat.zero_le _) (Nat.zero_le _) hd (k H locs hP hS)
          rcases h2 with ⟨rfl, rfl⟩ | ⟨rfl, rfl⟩ | ⟨rfl, rfl⟩
          · exact hts _ (am_tb_in (i := 751) (by decide +kernel) rfl)
          · exact hts _ (am_tb_in (i := 1095) (by decide +kernel) rfl)
          · exact hts _ (am_tb_in (i := 386) (by decide +kernel) rfl)
      · cases h
    · have h2 : decide ((oc = 7 ∧ ix = 179) ∨ (oc = 8 ∧ ix = 140) ∨ (oc = 24 ∧ ix = 38)) = true := h2
      simp only [decide_eq_true_eq] at h2
      split at h
      · rename_i y z r
        cases hbb : Nat.ble (am_sum r) 8 with
        | false => rw [hbb] at h; cases h
        | true =>
          rw [hbb] at h
          cases h
          rw [hn] at k
          have hs := Nat.le_of_ble_eq_true hbb
          refine va_mmin hx hb hml hown ?_ (hts _ (am_tb_in (i := 388) (by decide +kernel) rfl)) (hts _ (am_tb_in (i := 102) (by decide +kernel) rfl)) (hts _ (am_tb_in (i := 389) (by decide +kernel) rfl)) hR.1 (by rw [am_cv_sum]; omega) (Nat.zero_le _) (Nat.zero_le _) hd (k H locs hP hS)
          rcases h2 with ⟨rfl, rfl⟩ | ⟨rfl, rfl⟩ | ⟨rfl, rfl⟩
          · exact hts _ (am_tb_in (i := 629) (by decide +kernel) rfl)
          · exact hts _ (am_tb_in (i := 1082) (by decide +kernel) rfl)
          · exact hts _ (am_tb_in (i := 387) (by decide +kernel) rfl)
      · cases h
    · have h2 : decide (oc = 8 ∧ ix = 154) = true := h2
      simp only [decide_eq_true_eq] at h2
      split at h
      · rename_i z r
        cases hbb : Nat.ble (am_sum r) 8 with
        | false => rw [hbb] at h; cases h
        | true =>
          rw [hbb] at h
          cases h
          rw [hn] at k
          have hs := Nat.le_of_ble_eq_true hbb
          obtain ⟨rfl, rfl⟩ := h2
          exact va_mabs hx hb hml hown (hts _ (am_tb_in (i := 1132) (by decide +kernel) rfl)) (hts _ (am_tb_in (i := 1133) (by decide +kernel) rfl)) (hts _ (am_tb_in (i := 102) (by decide +kernel) rfl)) (hts _ (am_tb_in (i := 1134) (by decide +kernel) rfl)) hR.1 (by rw [am_cv_sum]; omega) (Nat.zero_le _) (Nat.zero_le _) hd (k H locs hP hS)
      · cases h
    · cases h
  | _ => simp [am_cel] at h
end AMR
end
section
section AMC
variable {p : Program} {l : Launch} {e : Env} {R : Room} {s : State} {m : MethodId} {args : Array Value} {below : List Frame} {meth : Method} {c : Code} {H : Heap} {locs : List Loc} {Q : State → Prop}
variable {cc : ByteArray} {pc : Nat} {sl : Array Slot} {ad adV : Nat → Nat} {tc : Nat → ClassId} {D : va_G}
variable {oc nL a nx : Nat} {ret : Option FieldType} {i : Instr} {v : Value} {tb : List (Int32 × Nat)} {st st' : List Value} {x x' : am_X} {P : Prop}
theorem am_callg {st0 rest : List Value} {r : Option Value} {x1 : am_X} {aa : Array Value} (hr : va_Run p l e R s m args below meth c H locs 0 0 0 0 (F0 m pc sl st0) rest (am_Qc D ad tc H.size r x1 aa) (am_A ad H.size)) (hS : va_S (am_A ad s.heap.size) s.heap H locs)
    (kk : ∀ (H1 : Heap) (locs1 : List Loc), va_P D vwCl (am_W ad tc x1) H1 → va_S (am_A ad s.heap.size) s.heap H1 locs1 → W p l e R s m args below meth c H1 locs1 0 0 Q (F0 m (pc + 3) sl ((r.map (am_cv ad)).toList ++ rest))) : W p l e R s m args below meth c H locs 0 0 Q (F0 m pc sl st0) := by
  have hAB : ∀ q, am_A ad H.size q → am_A ad s.heap.size q := fun q hq => hq.imp id (fun h => Nat.le_trans hS.1 h)
  intro T hT X
  obtain ⟨v, st₀, t, T', L, h0, X', hL, e1, e2, ⟨⟨hv, hp⟩, hz, hk⟩, st⟩ := hr T hT X
  cases hv
  rw [h0] at hz hk
  obtain ⟨t2, a1, b1⟩ := kk T'.heap (locs ++ L) (by rw [e1]; exact hp)
    ⟨Nat.le_trans hS.1 (by rw [e1]; exact hz), fun q h1 h2 => by rw [e1, hk q (Nat.lt_of_lt_of_le h1 hS.1) (fun z => h2 (hAB q z))]; exact hS.2.1 q h1 h2, fun q hq => by
      rcases List.mem_append.mp hq with h | h
      · exact hS.2.2 q h
      · exact hAB _ (hL q h)⟩ T' rfl X'
  exact ⟨t2, st t2 a1, b1⟩
theorem am_spl_eq : ∀ (n : Nat) (acc st as r : List Value), am_spl n acc st = some (as, r) → ∃ b, st = b ++ r ∧ b.length = n ∧ as = b.reverse ++ acc
  | 0, acc, st, as, r, h => by simp [am_spl] at h; obtain ⟨rfl, rfl⟩ := h; exact ⟨[], rfl, rfl, rfl⟩
  | n + 1, acc, [], as, r, h => by simp [am_spl] at h
  | n + 1, acc, v :: st, as, r, h => by
    obtain ⟨b, h1, h2, h3⟩ := am_spl_eq n (v :: acc) st as r h
    exact ⟨v :: b, by rw [h1]; rfl, by simp [h2], by simp [h3]⟩
theorem am_spl_st {n : Nat} {st as r : List Value} (h : am_spl n [] st = some (as, r)) : st = as.reverse ++ r ∧ as.length = n := by
  obtain ⟨b, h1, h2, h3⟩ := am_spl_eq n [] st as r h
  simp only [List.append_nil] at h3
  subst h3
  exact ⟨by simp [h1], by simp [h2]⟩
/-- what stands in the tables of a method -/
theorem am_me_w {M : Nat} (h : M < 190) : lw_tbl[(am_me M).2.2.2.2.2.2.2.2.1]? = some (if (am_me M).2.2.2.2.2.1 then .static (am_me M).2.1 else .instanceMethod (am_me M).2.1) ∧ ((am_me M).2.2.2.2.2.1 = true ∨ lw_tbl[(am_me M).2.2.2.2.2.2.2.2.2.1]? = some (.selects (am_me M).2.1.cls (am_me M).2.1 (am_me M).2.1)) ∧ lw_tbl[(am_me M).2.2.2.2.2.2.2.2.2.2]? = some (.initialized (am_me M).2.1.cls) ∧
    (am_me M).2.1.cls = am_own (am_me M).1 ∧ (am_me M).2.1.cls ≠ "java/lang/invoke/MethodHandle" ∧ (am_me M).2.1.cls ≠ "java/lang/invoke/VarHandle" ∧ (parseMethodDescriptor (am_me M).2.1.desc).map (fun d => d.parameters.length) = some (am_me M).2.2.2.2.2.2.1 ∧ (am_me M).2.2.2.1 ≤ 22 ∧
    goodWord (.static (am_me M).2.1) = true ∧ goodWord (.instanceMethod (am_me M).2.1) = true ∧ goodWord (.selects (am_me M).2.1.cls (am_me M).2.1 (am_me M).2.1) = true ∧ goodWord (.initialized (am_me M).2.1.cls) = true := by
  have h1 := am_me_ok h
  unfold am_me1 at h1
  split at h1
  rename_i oc y b nL ret stc n p1 p2 p3 p4 he
  rw [he]
  simp only [Bool.and_eq_true, Bool.or_eq_true, decide_eq_true_eq] at h1
  obtain ⟨⟨⟨⟨⟨⟨⟨⟨⟨⟨⟨q2, q3⟩, q4⟩, q5⟩, q6⟩, q7⟩, q8⟩, q9⟩, g2⟩, g3⟩, g4⟩, g5⟩ := h1
  exact ⟨q2, q3, q4, q5, q6, q7, q8, q9, g2, g3, g4, g5⟩
theorem am_mle {ix : Nat} (h : am_ml.any (fun e => decide (e.1 = oc ∧ e.2.1 = ix ∧ e.2.2.1 = a)) = true) : ∃ e ∈ am_ml, e.1 = oc ∧ e.2.1 = ix ∧ e.2.2.1 = a ∧ a < 190 ∧ lw_tbl[e.2.2.2.1]? = some (am_mlw e) ∧ (e.2.2.2.2 = 1 ∨ goodWord (am_mlw e) = true) := by
  obtain ⟨e, he, h1⟩ := List.any_eq_true.mp h
  obtain ⟨r1, r2, r3⟩ := of_decide_eq_true h1
  have h2 := List.all_eq_true.mp am_ml_ok e he
  simp only [am_ml1, Bool.and_eq_true, Bool.or_eq_true, decide_eq_true_eq] at h2
  obtain ⟨⟨z1, z2⟩, z3⟩ := h2
  refine ⟨e, he, r1, r2, r3, by rw [← r3]; exact z3, z1, ?_⟩
  rcases z2 with z | z
  · exact Or.inl (Nat.eq_of_beq_eq_true z)
  · exact Or.inr z
theorem am_blind {sz : Nat} {as : List Value} {x : am_X} : FrameBlind (am_Pc D ad adV tc sz as x) := fun _ _ _ _ h => ⟨h.1, h.2.1, h.2.2.1, h.2.2.2.1, am_Cx_blind h.2.2.2.2⟩
theorem am_pre {as : List Value} (hP : va_P D vwCl (am_W ad tc x) H) (hD : va_D (am_A ad s.heap.size) (am_W ad tc x)) (hC : am_Cx D ad adV tc s.heap.size s) (hS : va_S (am_A ad s.heap.size) s.heap H locs) (U : State) (hU : U.heap = H) (hW : s.WarmedH U.vm) : am_Pc D ad adV tc H.size as x (as.map (am_cv ad)).toArray U := by
  refine ⟨rfl, by rw [hU], by rw [hU]; exact hP, ⟨hD.1, fun k q hk => ?_⟩, am_Cx_call hC hS hU hW⟩
  rw [am_W_at] at hk
  cases hs : am_shp[k]? with
  | none => rw [hs] at hk; cases hk
  | some z =>
    rw [hs] at hk
    cases hk
    exact Or.inl ⟨k, by rw [← am_shp_len]; exact (List.getElem?_eq_some_iff.mp hs).1, rfl⟩
theorem am_own_cc {ci : Nat} (h : ci < 9) : (am_cc ci).1 = am_own ci := by
  match ci, h with
  | 0, _ | 1, _ | 2, _ | 3, _ | 4, _ | 5, _ | 6, _ | 7, _ | 8, _ => rfl
  | n + 9, h => omega
theorem am_recv {b : Nat} (hP : va_P D vwCl (am_W ad tc x) H) (hC : am_Cx D ad adV tc s.heap.size s) (hS : va_S (am_A ad s.heap.size) s.heap H locs) (hoc : am_cls b < 9 ∨ (20 ≤ am_cls b ∧ am_cls b < 30)) : ∃ cellB : Cell, H[ad b]? = some cellB ∧ cellB.vm.isStatics = false ∧ s.vm.findClass (am_own (am_cls b)) = some cellB.cls := by
  unfold am_cls at hoc ⊢
  rw [am_at_eq] at hoc ⊢
  split at hoc
  · rename_i ci fs he
    have h9 : ci < 9 := by
      have := am_shp_at he
      simp only [am_shp1, Bool.and_eq_true, decide_eq_true_eq] at this
      exact this.1.1
    have := va_recv hC.1 hP (am_cc_at h9) (am_W_obj he)
    rw [am_own_cc h9] at this
    exact this
  · omega
  · cases hb : (Nat.ble 1000 b && Nat.blt b 1008) with
    | false => rw [hb] at hoc; simp at hoc
    | true =>
      have h1 : 1000 ≤ b ∧ b < 1008 := by
        simp only [Bool.and_eq_true] at hb
        exact ⟨Nat.le_of_ble_eq_true hb.1, by have := hb.2; simp [Nat.blt] at this; omega⟩
      have := vk_recv hC.2.2.2.1 (i := b - 1000) (by omega) hS
      rw [show 1000 + (b - 1000) = b by omega] at this
      exact this
/-- a call, out of the callee's contract -/
theorem am_s5 {d M : Nat} {as r : List Value} {r1 : Option Value} {x1 : am_X} (hx : p.tables.exec = Jvm.exec) (hb : c.code = cc) (hml : c.maxLocals = nL) (hsl : sl.size = nL) (hown : s.vm.findClass (am_own oc) = some m.cls) (hts : ∀ w ∈ am_tb, w.before args s = true)
    (hP : va_P D vwCl (am_W ad tc x) H) (hD : va_D (am_A ad s.heap.size) (am_W ad tc x)) (hC : am_Cx D ad adV tc s.heap.size s) (hS : va_S (am_A ad s.heap.size) s.heap H locs) (hR : R = am_rm d) (hd1 : 1 ≤ d)
    (ht : am_tie oc cc nL ret (pc, i, a, v, nx, tb) = true) (h9 : ∀ ix, i = .invokestatic ix → Nat.ble 999 a = false) (h : am_inv i a v st = some (M, as, r))
    (hM : M < 190 → Met l (am_me M).2.1 (am_ws M) (am_rm (d - 1)) (am_Pc D ad adV tc H.size as x) (am_Qc D ad tc H.size r1 x1) 0 0 (am_A ad H.size))
    (k : ∀ (H1 : Heap) (locs1 : List Loc), va_P D vwCl (am_W ad tc x1) H1 → va_S (am_A ad s.heap.size) s.heap H1 locs1 → W p l e R s m args below meth c H1 locs1 0 0 Q (F0 m nx sl ((r1.toList ++ r).map (am_cv ad)))) : W p l e R s m args below meth c H locs 0 0 Q (F0 m pc sl (st.map (am_cv ad))) := by
  obtain ⟨hd, hn, h2⟩ := am_tie_d ht
  have hroom : ∀ {M}, M < 190 → (am_rm (d - 1)).frames + 1 ≤ R.frames ∧ 8 + ((am_me M).2.2.2.1 + 11) + (am_rm (d - 1)).locals ≤ R.locals := by
    intro M hM
    have := (am_me_w hM).2.2.2.2.2.2.2.1
    subst hR
    simp only [am_rm]
    omega
  have hcells : 0 + 0 ≤ R.cells ∧ 0 + 0 ≤ R.slots := ⟨Nat.zero_le _, Nat.zero_le _⟩
  have hcat : ∀ {r : List Value}, am_sum r ≤ 8 → 2 * (F0 m pc sl (st.map (am_cv ad))).monitorRoom + (((r.map (am_cv ad))).map fun v => v.category).sum ≤ 8 := fun h => lv_room (by rw [am_cv_sum]; exact h)
  have hin : ∀ {M}, M < 190 → (Cond.initialized (am_me M).2.1.cls).before args s = true := fun hM => hts _ (am_tb_in (am_me_w hM).2.2.1 (am_me_w hM).2.2.2.2.2.2.2.2.2.2.2)
  have happ : ∀ (q : List Value), (q ++ r).map (am_cv ad) = q.map (am_cv ad) ++ r.map (am_cv ad) := fun q => by simp
  have hkr : ∀ (H1 : Heap) (locs1 : List Loc), va_P D vwCl (am_W ad tc x1) H1 → va_S (am_A ad s.heap.size) s.heap H1 locs1 → W p l e R s m args below meth c H1 locs1 0 0 Q (F0 m nx sl ((r1.map (am_cv ad)).toList ++ r.map (am_cv ad))) := by
    intro H1 locs1 a1 a2
    have := k H1 locs1 a1 a2
    rw [happ] at this
    rw [show (r1.map (am_cv ad)).toList = r1.toList.map (am_cv ad) by cases r1 <;> rfl]
    exact this
  cases i with
  | invokestatic ix =>
    simp only [am_inv] at h
    split at h
    · rename_i n
      split at h
      · rename_i as' r' hs
        cases hbb : Nat.ble (am_sum r') 8 with
        | false => rw [hbb] at h; cases h
        | true =>
          rw [hbb] at h
          cases h
          obtain ⟨rfl, hlen⟩ := am_spl_st hs
          have hf9 := h9 ix rfl
          simp only [am_tie2, hf9, cond_false, Bool.and_eq_true, decide_eq_true_eq] at h2
          obtain ⟨h3, h4, h5⟩ := h2
          obtain ⟨e0, he, rfl, rfl, rfl, hM0, g1, g2⟩ := am_mle h3
          obtain ⟨q2, -, -, q5, q6, q7, q8, -, w2, -, -, -⟩ := am_me_w hM0
          rw [h4] at q2
          have hstt := hts _ (am_tb_in q2 w2)
          rw [hn] at hkr
          have hst : List.map (am_cv ad) (as.reverse ++ r) = (as.map (am_cv ad)).reverse ++ r.map (am_cv ad) := by simp
          by_cases hne : e0.2.2.2.2 = 1
          · have hl := hC.2.1.2 e0 he hne
            have hw : am_mlw e0 = .methodLinkNest (am_own e0.1) e0.2.1 (am_me e0.2.2.1).2.1 RX7 := by simp only [am_mlw, hne]
            rw [hw] at hl
            exact am_callg (va_runSN (As := as.map (am_cv ad)) (rest := r.map (am_cv ad)) ⟨hx, hb, hml, hown, hts⟩ (hM hM0) ⟨va_cnB n hts (am_good_in hM0) rfl rfl rfl hl (hin hM0) ⟨q6, q7, by rw [q8, h5]⟩ (hroom hM0), hstt, trivial⟩ ⟨am_blind, am_pre hP hD hC hS⟩ rfl (by simpa using hlen) hsl hst (hcat (Nat.le_of_ble_eq_true hbb)) hd hcells) hS hkr
          · have hl := hts _ (am_tb_in g1 (g2.resolve_left hne))
            have hw : am_mlw e0 = .methodLink (am_own e0.1) e0.2.1 (am_me e0.2.2.1).2.1 := by
              unfold am_mlw; split
              · rename_i z; exact absurd z hne
              · rfl
            rw [hw] at hl
            exact am_callg (va_runS (As := as.map (am_cv ad)) (rest := r.map (am_cv ad)) ⟨hx, hb, hml, hown, hts⟩ (hM hM0) ⟨callB_of n hts (am_good_in hM0) rfl rfl rfl (hin hM0) hl ⟨q6, q7, by rw [q8, h5]⟩ (hroom hM0), hstt⟩ ⟨am_blind, am_pre hP hD hC hS⟩ rfl (by simpa using hlen) hsl hst (hcat (Nat.le_of_ble_eq_true hbb)) hd hcells) hS hkr
      · cases h
    · cases h
  | invokevirtual ix =>
    simp only [am_inv] at h
    split at h
    · rename_i n
      split at h
      · rename_i as' b r' hs
        cases hbb : (Nat.beq (am_cls b + 1) (n / 10) && Nat.ble (am_sum r') 8) with
        | false => rw [hbb] at h; cases h
        | true =>
          rw [hbb] at h
          cases h
          simp only [Bool.and_eq_true] at hbb
          obtain ⟨hb1, hb2⟩ := hbb
          have hb1 := Nat.eq_of_beq_eq_true hb1
          obtain ⟨rfl, hlen⟩ := am_spl_st hs
          simp only [am_tie2, Bool.and_eq_true, decide_eq_true_eq] at h2
          obtain ⟨h3, h4, h5, h6⟩ := h2
          obtain ⟨e0, he, rfl, rfl, rfl, hM0, g1, g2⟩ := am_mle h3
          obtain ⟨q2, q3, -, q5, q6, q7, q8, -, -, w3, w4, -⟩ := am_me_w hM0
          have hoc : am_cls b = (am_me e0.2.2.1).1 := by omega
          rw [h4] at q2
          have hins := hts _ (am_tb_in q2 w3)
          have hsel := hts _ (am_tb_in (q3.resolve_left (by rw [h4]; decide)) w4)
          have hrecv := am_recv hP hC hS (b := b) (by rw [hoc]; exact am_oc hM0)
          rw [hoc, ← q5] at hrecv
          rw [hn] at hkr
          have hst : List.map (am_cv ad) (as'.reverse ++ .ref b :: r) = (as'.map (am_cv ad)).reverse ++ .ref (ad b) :: r.map (am_cv ad) := by simp [am_cv]
          by_cases hne : e0.2.2.2.2 = 1
          · have hl := hC.2.1.2 e0 he hne
            have hw : am_mlw e0 = .methodLinkNest (am_own e0.1) e0.2.1 (am_me e0.2.2.1).2.1 RX7 := by simp only [am_mlw, hne]
            rw [hw] at hl
            exact am_callg (va_runVN (As := as'.map (am_cv ad)) (rest := r.map (am_cv ad)) (b := ad b) ⟨hx, hb, hml, hown, hts⟩ (hM hM0) ⟨va_cnB (n % 10) hts (am_good_in hM0) rfl rfl rfl hl (hin hM0) ⟨q6, q7, by rw [q8, h5]⟩ (hroom hM0), hins, hsel⟩ ⟨am_blind, hrecv, am_pre (as := .ref b :: as') hP hD hC hS⟩ rfl (by simpa using hlen) hsl hst (hcat (Nat.le_of_ble_eq_true hb2)) hd hcells) hS hkr
          · have hl := hts _ (am_tb_in g1 (g2.resolve_left hne))
            have hw : am_mlw e0 = .methodLink (am_own e0.1) e0.2.1 (am_me e0.2.2.1).2.1 := by
              unfold am_mlw; split
              · rename_i z; exact absurd z hne
              · rfl
            rw [hw] at hl
            exact am_callg (va_runV (As := as'.map (am_cv ad)) (rest := r.map (am_cv ad)) (b := ad b) ⟨hx, hb, hml, hown, hts⟩ (hM hM0) ⟨callB_of (n % 10) hts (am_good_in hM0) rfl rfl rfl (hin hM0) hl ⟨q6, q7, by rw [q8, h5]⟩ (hroom hM0), hins, hsel⟩ ⟨am_blind, hrecv, am_pre (as := .ref b :: as') hP hD hC hS⟩ rfl (by simpa using hlen) hsl hst (hcat (Nat.le_of_ble_eq_true hb2)) hd hcells) hS hkr
      · cases h
    · cases h
  | _ => simp [am_inv] at h
/-- an end -/
theorem am_s6 {d : Nat} {r : Option Value} (hx : p.tables.exec = Jvm.exec) (hb : c.code = cc) (hr : meth.sig.returnType = ret) (hlocks : meth.locks = false) (hP : va_P D vwCl (am_W ad tc x) H) (hS : va_S (am_A ad s.heap.size) s.heap H locs)
    (ht : am_tie oc cc nL ret (pc, i, a, v, nx, tb) = true) (h : am_ret i a st = some (r, P)) (hp : P) : W p l e R s m args below meth c H locs 0 0 (MQ below (am_Qc D ad tc s.heap.size r x) args s 0 0 (am_A ad s.heap.size)) (F0 m pc sl (st.map (am_cv ad))) := by
  obtain ⟨hd, hn, h2⟩ := am_tie_d ht
  cases i with
  | ireturn =>
    simp only [am_ret] at h
    cases a with
    | zero =>
      split at h
      · cases h
        simp only [am_tie2, decide_eq_true_eq] at h2
        exact W.iret hx hb (hr.trans h2) (fun t e1 _ => ⟨⟨rfl, by rw [e1]; exact hP⟩, hS.F e1⟩) hS.2.2 hd
      · cases h
    | succ a =>
      cases a with
      | zero =>
        split at h
        · cases h
          simp only [am_tie2, decide_eq_true_eq] at h2
          rcases h2 with h2 | h2
          · exact W.zret hx hb (hr.trans h2) (by rcases hp with rfl | rfl <;> rfl) (fun t e1 _ => ⟨⟨rfl, by rw [e1]; exact hP⟩, hS.F e1⟩) hS.2.2 hd
          · exact W.zret hx hb (hr.trans h2) (by rcases hp with rfl | rfl <;> rfl) (fun t e1 _ => ⟨⟨rfl, by rw [e1]; exact hP⟩, hS.F e1⟩) hS.2.2 hd
        · cases h
      | succ a =>
        split at h
        · cases h
          have h2 : decide (ret = some .char) = true := h2
          simp only [decide_eq_true_eq] at h2
          exact W.zret hx hb (hr.trans h2) hp (fun t e1 _ => ⟨⟨rfl, by rw [e1]; exact hP⟩, hS.F e1⟩) hS.2.2 hd
        · cases h
  | lreturn =>
    simp only [am_ret] at h
    split at h <;> cases h
    simp only [am_tie2, decide_eq_true_eq] at h2
    exact W.lret hx hb (hr.trans h2) (fun t e1 _ => ⟨⟨rfl, by rw [e1]; exact hP⟩, hS.F e1⟩) hS.2.2 hd
  | areturn =>
    simp only [am_ret] at h
    split at h <;> cases h
    simp only [am_tie2, decide_eq_true_eq] at h2
    exact W.aret hx hb (hr.trans h2) (Or.inl ⟨_, rfl⟩) (Or.inr ⟨_, rfl⟩) (fun t e1 _ => ⟨⟨rfl, by rw [e1]; exact hP⟩, hS.F e1⟩) hS.2.2 hd
  | return_ =>
    simp only [am_ret] at h
    split at h <;> cases h
    simp only [am_tie2, decide_eq_true_eq] at h2
    exact W.vret hx hb (hr.trans h2) (fun t e1 _ => ⟨⟨rfl, by rw [e1]; exact hP⟩, hS.F e1⟩) hS.2.2 hd
  | _ => simp [am_ret] at h
/-- THE WALK: what the abstract machine does, the machine does -/
theorem am_walk {M d : Nat} (hM : M < 190) (hx : p.tables.exec = Jvm.exec) (hb : c.code = (am_me M).2.2.1) (hr : meth.sig.returnType = (am_me M).2.2.2.2.1) (hlocks : meth.locks = false) (hml : c.maxLocals = (am_me M).2.2.2.1) (hown : s.vm.findClass (am_own (am_me M).1) = some m.cls) (hts : ∀ w ∈ am_tb, w.before args s = true)
    (hC : am_Cx D ad adV tc s.heap.size s) (hR : R = am_rm d) (hd1 : 1 ≤ d)
    (IH : ∀ (M : Nat) (as : List Value) (x : am_X) (r : Option Value) (x' : am_X), am_Ev d M as x r x' → M < 190 → ∀ sz, Met l (am_me M).2.1 (am_ws M) (am_rm (d - 1)) (am_Pc D ad adV tc sz as x) (am_Qc D ad tc sz r x') 0 0 (am_A ad sz)) :
    ∀ (n : Nat) (σ : am_S) (r : Option Value) (x' : am_X), am_run (am_Ev d) (am_code M) n σ r x' → ∀ (H : Heap) (locs : List Loc) (sl : Array Slot), va_P D vwCl (am_W ad tc σ.2.2.2) H → va_D (am_A ad s.heap.size) (am_W ad tc σ.2.2.2) → va_S (am_A ad s.heap.size) s.heap H locs → am_has ad sl (am_me M).2.2.2.1 σ.2.1 →
      W p l e R s m args below meth c H locs 0 0 (MQ below (am_Qc D ad tc s.heap.size r x') args s 0 0 (am_A ad s.heap.size)) (F0 m σ.1 sl (σ.2.2.1.map (am_cv ad))) := by
  intro n
  induction n with
  | zero => intro σ r x' h; exact h.elim
  | succ n ih =>
    intro σ r x' h H locs sl hP hD hS hl
    obtain ⟨pc, ls, st, x⟩ := σ
    obtain ⟨ls0, hle, h⟩ := h
    have hl0 : am_has ad sl (am_me M).2.2.2.1 ls0 := am_has_sub hl (am_le_at _ _ hle)
    dsimp only at h hP hD hl ⊢
    cases hf : am_find (am_code M) pc with
    | none => simp [am_step, hf] at h
    | some q =>
      obtain ⟨i, a, v, nx, tb⟩ := q
      have ht : am_tie (am_me M).1 (am_me M).2.2.1 (am_me M).2.2.2.1 (am_me M).2.2.2.2.1 (pc, i, a, v, nx, tb) = true := List.all_eq_true.mp (am_k_ok hM) _ (am_find_in hf)
      simp only [am_step, hf] at h
      generalize hE : am_exec (i, a, v, nx, tb) ls0 st x = o at h
      match o, hE, h with
      | none, _, h => exact h.elim
      | some (.inl σ'), hE, h =>
        unfold am_exec at hE
        dsimp only at hE
        split at hE
        · split at hE
          · rename_i hq; cases hE; exact am_s0 hC.2.2.2 hS hx hb hown hts hC.2.2.1 ht hq (ih _ _ _ h _ _ _ hP hD hS hl0)
          · cases hE
        · split at hE <;> cases hE
        · split at hE
          · rename_i hq; cases hE; exact am_s2 hx hb ht hq hl0 (fun sl' hl' => ih _ _ _ h _ _ _ hP hD hS hl')
          · cases hE
        · split at hE
          · rename_i hq; cases hE; exact am_s3 hx hb ht hq (ih _ _ _ h _ _ _ hP hD hS hl0)
          · cases hE
        · split at hE
          · rename_i hq; cases hE; exact am_s4 hx hb (hml.trans hl0.1.symm) hown hts hC.2.1 hC.1 hP hD hS hC.2.2.2 (by subst hR; exact ⟨hd1, by simp only [am_rm]; omega⟩) ht hq (fun Q hQ => by cases hQ) (fun H1 locs1 a1 a2 => ih _ _ _ h _ _ _ a1 (am_W_D hD) a2 hl0)
          · cases hE
          · cases hE
        · split at hE <;> cases hE
        · split at hE <;> cases hE
      | some (.inr (.inl (P, σ'))), hE, h =>
        unfold am_exec at hE
        dsimp only at hE
        split at hE
        · split at hE <;> cases hE
        · split at hE
          · rename_i hq; cases hE; exact am_s1 hx hb ht hq h.1 (ih _ _ _ h.2 _ _ _ hP hD hS hl0)
          · cases hE
        · split at hE <;> cases hE
        · split at hE <;> cases hE
        · split at hE
          · cases hE
          · rename_i hq; cases hE; exact am_s4 hx hb (hml.trans hl0.1.symm) hown hts hC.2.1 hC.1 hP hD hS hC.2.2.2 (by subst hR; exact ⟨hd1, by simp only [am_rm]; omega⟩) ht hq (fun Q hQ => by cases hQ; exact h.1) (fun H1 locs1 a1 a2 => ih _ _ _ h.2 _ _ _ a1 (am_W_D hD) a2 hl0)
          · cases hE
        · split at hE <;> cases hE
        · split at hE <;> cases hE
      | some (.inr (.inr (.inl (w, P, y)))), hE, h =>
        unfold am_exec at hE
        dsimp only at hE
        split at hE
        · split at hE <;> cases hE
        · split at hE <;> cases hE
        · split at hE <;> cases hE
        · split at hE <;> cases hE
        · split at hE <;> cases hE
        · split at hE <;> cases hE
        · split at hE
          · rename_i hq; cases hE
            obtain ⟨h1, rfl, rfl⟩ := h
            exact am_s6 (d := d) hx hb hr hlocks hP hS ht hq h1
          · cases hE
      | some (.inr (.inr (.inr (M', as, (pc', ls', st', y))))), hE, h =>
        unfold am_exec at hE
        dsimp only at hE
        split at hE
        · split at hE <;> cases hE
        · split at hE <;> cases hE
        · split at hE <;> cases hE
        · split at hE <;> cases hE
        · split at hE <;> cases hE
        · rename_i hg
          split at hE
          · rename_i hq; cases hE
            obtain ⟨r1, x1, h1, h2⟩ := h
            have h9 : ∀ ix, i = .invokestatic ix → Nat.ble 999 a = false := by
              rintro ix rfl
              cases hz : Nat.ble 999 a with
              | false => rfl
              | true => simp [am_grp, hz] at hg
            exact am_s5 hx hb hml hl0.1 hown hts hP hD hC hS hR hd1 ht h9 hq (fun hM' => IH _ _ _ _ _ h1 hM' _) (fun H1 locs1 a1 a2 => ih _ _ _ h2 _ _ _ a1 (am_W_D hD) a2 hl0)
          · cases hE
        · split at hE <;> cases hE
end AMC
end
section
theorem am_pl0 (oc : Nat) (h : oc ≠ 23) : plainName (am_own oc) = true := by
  unfold am_own
  split <;> first | (exact absurd rfl h) | decide
theorem am_oc1 : (List.range 190).all (fun M => decide ((am_me M).1 ≠ 23)) = true := by decide +kernel
theorem am_oc23 {M : Nat} (h : M < 190) : (am_me M).1 ≠ 23 := by
  have := List.all_eq_true.mp am_oc1 M (List.mem_range.mpr h)
  simpa using this
theorem am_ent_entry (ad : Nat → Nat) : ∀ (vs : List Value) (k : Nat), am_ent k (am_cl ad (am_entry vs)) = lv_args k (vs.map (am_cv ad)) := by
  intro vs
  induction vs with
  | nil => intro k; rfl
  | cons v vs ih =>
    intro k
    have := ih
    unfold am_cl at this ⊢
    cases v <;> simp [am_entry, am_ent, lv_args, Value.category, am_cv, this]
theorem am_sl_cons (w : Value) (ws : List Value) : (lg_sl (w :: ws)).length = (if w.category = 2 then 2 else 1) + (lg_sl ws).length := by
  unfold lg_sl
  rw [List.flatMap_cons, List.length_append]
  split <;> rfl
theorem am_entry_len (ad : Nat → Nat) (vs : List Value) : (lg_sl (vs.map (am_cv ad))).length = (am_entry vs).length := by
  induction vs with
  | nil => rfl
  | cons v vs ih =>
    rw [List.map_cons, am_sl_cons, ih, am_cv_cat]
    cases v <;> simp [am_entry, Value.category] <;> omega
theorem am_pad_none (n i : Nat) (v : Value) : (am_pad n [])[i]? = some (some v) → False := by
  induction n generalizing i with
  | zero => intro h; simp [am_pad] at h
  | succ n ih =>
    intro h
    cases i with
    | zero => simp [am_pad] at h
    | succ i => exact ih i (by simpa [am_pad] using h)
theorem am_ent0_has {ad : Nat → Nat} {M : Nat} {as : List Value} {nL : Nat} (h : (am_entry as).length ≤ nL) : am_has ad ((lg_sl (as.map (am_cv ad)) ++ List.replicate (nL - (lg_sl (as.map (am_cv ad))).length) Slot.unset).toArray) nL (am_ent0 M as) := by
  have h1 := lv_entry (as.map (am_cv ad)) (n := nL) (by rw [am_entry_len]; exact h)
  have h2 : am_has ad ((lg_sl (as.map (am_cv ad)) ++ List.replicate (nL - (lg_sl (as.map (am_cv ad))).length) Slot.unset).toArray) nL (am_entry as) := by
    unfold am_has
    rw [am_ent_entry]
    exact h1
  refine am_has_sub h2 (fun i v hi => ?_)
  unfold am_ent0 at hi
  by_cases hl : i < (am_entry as).length
  · rwa [List.getElem?_append_left hl] at hi
  · rw [List.getElem?_append_right (by omega)] at hi
    exact (am_pad_none _ _ _ hi).elim
/-- every method of the tables meets what the abstract machine says of it -/
theorem am_met : ∀ (d M : Nat) (as : List Value) (x : am_X) (r : Option Value) (x' : am_X), am_Ev d M as x r x' → M < 190 → ∀ (l : Launch) (D : va_G) (ad adV : Nat → Nat) (tc : Nat → ClassId) (sz : Nat), Met l (am_me M).2.1 (am_ws M) (am_rm (d - 1)) (am_Pc D ad adV tc sz as x) (am_Qc D ad tc sz r x') 0 0 (am_A ad sz) := by
  intro d
  induction d with
  | zero => intro M as x r x' h; exact h.elim
  | succ d ih =>
    intro M as x r x' h hM l D ad adV tc sz
    obtain ⟨hd, hlen, n, hrun⟩ := h
    · have hpl : plainName (am_me M).2.1.cls = true := by rw [(am_me_w hM).2.2.2.1]; exact am_pl0 _ (by have := am_oc hM; have := am_oc23 hM; omega)
      refine Met.ofW (cc := (am_me M).2.2.1) (maxL := (am_me M).2.2.2.1) (ret := (am_me M).2.2.2.2.1) hpl rfl ?_
      intro p e s m args below meth c s₁ B hml hv
      obtain ⟨rfl, hsz, hP, hD, hC⟩ := hv
      subst hsz
      have hts : ∀ w ∈ am_ws M, w.before (as.map (am_cv ad)).toArray s = true := atoms_spec (ws := am_ws M) B.pre
      have hown : s.vm.findClass (am_me M).2.1.cls = some m.cls := findClass_of_methodNamed B.named
      rw [(am_me_w hM).2.2.2.1] at hown
      rw [lg_entry_eq]
      exact am_walk (d := d) hM B.exec B.bytes B.returns B.notSynchronized hml hown (fun w hw => hts w (List.mem_cons_of_mem _ hw)) hC rfl hd (fun M' as' x1 r1 x2 h1 hM' sz' => ih M' as' x1 r1 x2 h1 hM' l D ad adV tc sz') n _ r x' hrun s.heap [] _ hP hD va_S.rf (am_ent0_has (Nat.le_of_ble_eq_true hlen))
/-! reasoning about the abstract machine -/
def am_Rr (d : Nat) (cd : am_C) (σ : am_S) (post : Option Value → am_X → Prop) : Prop := ∃ n r x', am_run (am_Ev d) cd n σ r x' ∧ post r x'
def am_T (d M : Nat) (as : List Value) (x : am_X) (post : Option Value → am_X → Prop) : Prop := ∃ r x', am_Ev d M as x r x' ∧ post r x'
theorem am_le_rf : ∀ (a : am_L), am_le a a
  | [] => trivial
  | none :: t => am_le_rf t
  | some _ :: t => ⟨rfl, am_le_rf t⟩
theorem am_le_nil : ∀ (a b : am_L), am_le a [] → am_le a b
  | [], _, _ => trivial
  | none :: t, [], h => h
  | none :: t, _ :: u, h => am_le_nil t u h
  | some _ :: _, _, h => h.elim
theorem am_le_tr : ∀ (a b c : am_L), am_le a b → am_le b c → am_le a c
  | [], _, _, _, _ => trivial
  | none :: t, [], c, h, _ => am_le_nil (none :: t) c h
  | some _ :: _, [], _, h, _ => h.elim
  | none :: t, none :: u, [], h, g => am_le_tr t u [] h g
  | none :: t, none :: u, _ :: w, h, g => am_le_tr t u w h g
  | none :: t, some _ :: u, [], _, g => g.elim
  | none :: t, some _ :: u, _ :: w, h, g => am_le_tr t u w h g.2
  | some v :: t, o :: u, c, h, g => by
    obtain ⟨rfl, h⟩ := h
    match c, g with
    | [], g => exact g.elim
    | o2 :: w, g => exact ⟨g.1, am_le_tr t u w h g.2⟩
def am_go (cd : am_C) : Nat → am_S → Option am_S
  | 0, σ => some σ
  | n + 1, σ => match am_step cd σ with
    | some (.inl σ') => am_go cd n σ'
    | _ => none
section RR
variable {d : Nat} {cd : am_C} {σ σ' : am_S} {post : Option Value → am_X → Prop} {P : Prop}
theorem am_Rr.weak {pc : Nat} {ls ls0 : am_L} {st : List Value} {x : am_X} (h : am_le ls0 ls) (k : am_Rr d cd (pc, ls0, st, x) post) : am_Rr d cd (pc, ls, st, x) post := by
  obtain ⟨n, r, x', h1, h2⟩ := k
  cases n with
  | zero => exact h1.elim
  | succ n =>
    obtain ⟨l0, h3, h4⟩ := h1
    exact ⟨n + 1, r, x', ⟨l0, am_le_tr _ _ _ h3 h, h4⟩, h2⟩
theorem am_Rr.step1 (h : am_step cd σ = some (.inl σ')) (k : am_Rr d cd σ' post) : am_Rr d cd σ post := by
  obtain ⟨n, r, x', h1, h2⟩ := k
  exact ⟨n + 1, r, x', ⟨σ.2.1, am_le_rf _, by rw [show (σ.1, σ.2.1, σ.2.2.1, σ.2.2.2) = σ from rfl, h]; exact h1⟩, h2⟩
theorem am_Rr.go (n : Nat) (h : am_go cd n σ = some σ') (k : am_Rr d cd σ' post) : am_Rr d cd σ post := by
  induction n generalizing σ with
  | zero => simp only [am_go, Option.some.injEq] at h; rw [h]; exact k
  | succ n ih =>
    simp only [am_go] at h
    split at h
    · rename_i h1; exact am_Rr.step1 h1 (ih h)
    · cases h
theorem am_Rr.chk (h : am_step cd σ = some (.inr (.inl (P, σ')))) (p : P) (k : am_Rr d cd σ' post) : am_Rr d cd σ post := by
  obtain ⟨n, r, x', h1, h2⟩ := k
  exact ⟨n + 1, r, x', ⟨σ.2.1, am_le_rf _, by rw [show (σ.1, σ.2.1, σ.2.2.1, σ.2.2.2) = σ from rfl, h]; exact ⟨p, h1⟩⟩, h2⟩
theorem am_Rr.ret {v : Option Value} {x : am_X} (h : am_step cd σ = some (.inr (.inr (.inl (v, P, x))))) (p : P) (k : post v x) : am_Rr d cd σ post :=
  ⟨1, v, x, ⟨σ.2.1, am_le_rf _, by rw [show (σ.1, σ.2.1, σ.2.2.1, σ.2.2.2) = σ from rfl, h]; exact ⟨p, rfl, rfl⟩⟩, k⟩
theorem am_Rr.call {M pc : Nat} {as st : List Value} {ls : am_L} {x : am_X} {q : Option Value → am_X → Prop} (h : am_step cd σ = some (.inr (.inr (.inr (M, as, (pc, ls, st, x)))))) (hT : am_T d M as x q)
    (k : ∀ r1 x1, q r1 x1 → am_Rr d cd (pc, ls, r1.toList ++ st, x1) post) : am_Rr d cd σ post := by
  obtain ⟨r1, x1, h1, h2⟩ := hT
  obtain ⟨n, r, x', h3, h4⟩ := k r1 x1 h2
  exact ⟨n + 1, r, x', ⟨σ.2.1, am_le_rf _, by rw [show (σ.1, σ.2.1, σ.2.2.1, σ.2.2.2) = σ from rfl, h]; exact ⟨r1, x1, h1, h3⟩⟩, h4⟩
theorem am_Rr.ite {c : Prop} [Decidable c] {a b : Nat} {ls : am_L} {st : List Value} {x : am_X} (h1 : c → am_Rr d cd (a, ls, st, x) post) (h2 : ¬ c → am_Rr d cd (b, ls, st, x) post) : am_Rr d cd (if c then a else b, ls, st, x) post := by
  by_cases h : c
  · rw [if_pos h]; exact h1 h
  · rw [if_neg h]; exact h2 h
theorem am_Rr.cong {pc : Nat} {ls : am_L} {st : List Value} {x1 x2 : am_X} (h : x2 = x1) (k : am_Rr d cd (pc, ls, st, x1) post) : am_Rr d cd (pc, ls, st, x2) post := h ▸ k
theorem am_Rr.mono {q : Option Value → am_X → Prop} (h : am_Rr d cd σ q) (k : ∀ r x, q r x → post r x) : am_Rr d cd σ post := by
  obtain ⟨n, r, x', h1, h2⟩ := h
  exact ⟨n, r, x', h1, k _ _ h2⟩
theorem am_T.of {M : Nat} {as : List Value} {x : am_X} (hl : Nat.ble (am_entry as).length (am_me M).2.2.2.1 = true) (h : am_Rr (d + 1) (am_code M) (0, am_ent0 M as, [], x) post) : am_T (d + 2) M as x post := by
  obtain ⟨n, r, x', h1, h2⟩ := h
  exact ⟨r, x', ⟨by omega, hl, n, h1⟩, h2⟩
theorem am_T.mono {M : Nat} {as : List Value} {x : am_X} {q : Option Value → am_X → Prop} (h : am_T d M as x q) (k : ∀ r x, q r x → post r x) : am_T d M as x post := by
  obtain ⟨r, x', h1, h2⟩ := h
  exact ⟨r, x', h1, k _ _ h2⟩
end RR
theorem am_upp {α : Type} (f : Nat → α) (k : Nat) (v w : α) : am_up (am_up f k v) k w = am_up f k w := by
  funext j
  simp only [am_up]
  split <;> rfl
theorem am_up_self {α : Type} (f : Nat → α) (k : Nat) : am_up f k (f k) = f := by
  funext j
  simp only [am_up]
  split
  · rename_i h; rw [h]
  · rfl
theorem am_uII (x : am_X) (k : Nat) (v w : Int32) : am_uI (am_uI x k v) k w = am_uI x k w := by simp only [am_uI, am_upp]
theorem am_uLL (x : am_X) (k : Nat) (v w : Int64) : am_uL (am_uL x k v) k w = am_uL x k w := by simp only [am_uL, am_upp]
theorem am_sAA (x : am_X) (k : Nat) (v w : Nat → Int32) : am_sA (am_sA x k v) k w = am_sA x k w := by simp only [am_sA, am_upp]
theorem am_sBB (x : am_X) (k : Nat) (v w : Nat → Int64) : am_sB (am_sB x k v) k w = am_sB x k w := by simp only [am_sB, am_upp]
theorem am_uI_self (x : am_X) (k : Nat) : am_uI x k (x.1 k) = x := by simp only [am_uI, am_up_self]
theorem am_uL_self (x : am_X) (k : Nat) : am_uL x k (x.2.1 k) = x := by simp only [am_uL, am_up_self]
theorem am_sA_self (x : am_X) (k : Nat) : am_sA x k (x.2.2.1 k) = x := by simp only [am_sA, am_up_self]
theorem am_sB_self (x : am_X) (k : Nat) : am_sB x k (x.2.2.2 k) = x := by simp only [am_sB, am_up_self]
end
