section
-- ===== PART A: goes FIRST, ahead of the names: the tables' words, and 'selects' of the private methods out of them =====
/-- a private method of a class that the tables say can be made, by its rows of tables_1 -/
def lw_okq (q : MethodName × Nat) : Prop := (q.1.cls ≠ "java/lang/invoke/MethodHandle" ∧ q.1.cls ≠ "java/lang/invoke/VarHandle") ∧ Cond.instantiable q.1.cls q.2 ∈ tables_1 ∧ Cond.privateMethod q.1 ∈ tables_1 ∧ Cond.instanceMethod q.1 ∈ tables_1
theorem lw_p0 : lw_okq (⟨"FreightShare$Tape", "addByte", "(I)V"⟩, 2) := ⟨⟨by decide +kernel, by decide +kernel⟩, List.mem_of_getElem? (i := 29) (by decide +kernel), List.mem_of_getElem? (i := 444) (by decide +kernel), List.mem_of_getElem? (i := 445) (by decide +kernel)⟩
theorem lw_p1 : lw_okq (⟨"FreightShare$Scanner", "readRun", "()I"⟩, 6) := ⟨⟨by decide +kernel, by decide +kernel⟩, List.mem_of_getElem? (i := 51) (by decide +kernel), List.mem_of_getElem? (i := 482) (by decide +kernel), List.mem_of_getElem? (i := 483) (by decide +kernel)⟩
theorem lw_p2 : lw_okq (⟨"FreightShare$Scanner", "wordKind", "()I"⟩, 6) := ⟨⟨by decide +kernel, by decide +kernel⟩, List.mem_of_getElem? (i := 51) (by decide +kernel), List.mem_of_getElem? (i := 492) (by decide +kernel), List.mem_of_getElem? (i := 493) (by decide +kernel)⟩
theorem lw_p3 : lw_okq (⟨"FreightShare$Scanner", "spells", "(Ljava/lang/String;)Z"⟩, 6) := ⟨⟨by decide +kernel, by decide +kernel⟩, List.mem_of_getElem? (i := 51) (by decide +kernel), List.mem_of_getElem? (i := 497) (by decide +kernel), List.mem_of_getElem? (i := 498) (by decide +kernel)⟩
theorem lw_p4 : lw_okq (⟨"FreightShare$Reader", "takeToken", "()Z"⟩, 12) := ⟨⟨by decide +kernel, by decide +kernel⟩, List.mem_of_getElem? (i := 45) (by decide +kernel), List.mem_of_getElem? (i := 557) (by decide +kernel), List.mem_of_getElem? (i := 558) (by decide +kernel)⟩
theorem lw_p5 : lw_okq (⟨"FreightShare$Reader", "beginLine", "()Z"⟩, 12) := ⟨⟨by decide +kernel, by decide +kernel⟩, List.mem_of_getElem? (i := 45) (by decide +kernel), List.mem_of_getElem? (i := 561) (by decide +kernel), List.mem_of_getElem? (i := 562) (by decide +kernel)⟩
theorem lw_p6 : lw_okq (⟨"FreightShare$Reader", "refuse", "(I)Z"⟩, 12) := ⟨⟨by decide +kernel, by decide +kernel⟩, List.mem_of_getElem? (i := 45) (by decide +kernel), List.mem_of_getElem? (i := 565) (by decide +kernel), List.mem_of_getElem? (i := 566) (by decide +kernel)⟩
theorem lw_p7 : lw_okq (⟨"FreightShare$Reader", "beginLineOf", "(IIZ)Z"⟩, 12) := ⟨⟨by decide +kernel, by decide +kernel⟩, List.mem_of_getElem? (i := 45) (by decide +kernel), List.mem_of_getElem? (i := 569) (by decide +kernel), List.mem_of_getElem? (i := 570) (by decide +kernel)⟩
theorem lw_p8 : lw_okq (⟨"FreightShare$Reader", "takeField", "()Z"⟩, 12) := ⟨⟨by decide +kernel, by decide +kernel⟩, List.mem_of_getElem? (i := 45) (by decide +kernel), List.mem_of_getElem? (i := 573) (by decide +kernel), List.mem_of_getElem? (i := 574) (by decide +kernel)⟩
theorem lw_p9 : lw_okq (⟨"FreightShare$Reader", "takeNumber", "(II)Z"⟩, 12) := ⟨⟨by decide +kernel, by decide +kernel⟩, List.mem_of_getElem? (i := 45) (by decide +kernel), List.mem_of_getElem? (i := 577) (by decide +kernel), List.mem_of_getElem? (i := 578) (by decide +kernel)⟩
theorem lw_p10 : lw_okq (⟨"FreightShare$Reader", "keepField", "(I)Z"⟩, 12) := ⟨⟨by decide +kernel, by decide +kernel⟩, List.mem_of_getElem? (i := 45) (by decide +kernel), List.mem_of_getElem? (i := 581) (by decide +kernel), List.mem_of_getElem? (i := 582) (by decide +kernel)⟩
theorem lw_p11 : lw_okq (⟨"FreightShare$Reader", "takeFieldOfLoad", "()Z"⟩, 12) := ⟨⟨by decide +kernel, by decide +kernel⟩, List.mem_of_getElem? (i := 45) (by decide +kernel), List.mem_of_getElem? (i := 585) (by decide +kernel), List.mem_of_getElem? (i := 586) (by decide +kernel)⟩
theorem lw_p12 : lw_okq (⟨"FreightShare$Reader", "takeNumberTold", "(I)Z"⟩, 12) := ⟨⟨by decide +kernel, by decide +kernel⟩, List.mem_of_getElem? (i := 45) (by decide +kernel), List.mem_of_getElem? (i := 589) (by decide +kernel), List.mem_of_getElem? (i := 590) (by decide +kernel)⟩
theorem lw_p13 : lw_okq (⟨"FreightShare$Reader", "isNumberTold", "(I)Z"⟩, 12) := ⟨⟨by decide +kernel, by decide +kernel⟩, List.mem_of_getElem? (i := 45) (by decide +kernel), List.mem_of_getElem? (i := 593) (by decide +kernel), List.mem_of_getElem? (i := 594) (by decide +kernel)⟩
theorem lw_p14 : lw_okq (⟨"FreightShare$Reader", "takeFieldOfTrip", "()Z"⟩, 12) := ⟨⟨by decide +kernel, by decide +kernel⟩, List.mem_of_getElem? (i := 45) (by decide +kernel), List.mem_of_getElem? (i := 597) (by decide +kernel), List.mem_of_getElem? (i := 598) (by decide +kernel)⟩
theorem lw_p15 : lw_okq (⟨"FreightShare$Reader", "takeStep", "()Z"⟩, 12) := ⟨⟨by decide +kernel, by decide +kernel⟩, List.mem_of_getElem? (i := 45) (by decide +kernel), List.mem_of_getElem? (i := 605) (by decide +kernel), List.mem_of_getElem? (i := 606) (by decide +kernel)⟩
def lw_privs_1 : List (MethodName × Nat) := [(⟨"FreightShare$Tape", "addByte", "(I)V"⟩, 2), (⟨"FreightShare$Scanner", "readRun", "()I"⟩, 6), (⟨"FreightShare$Scanner", "wordKind", "()I"⟩, 6), (⟨"FreightShare$Scanner", "spells", "(Ljava/lang/String;)Z"⟩, 6), (⟨"FreightShare$Reader", "takeToken", "()Z"⟩, 12), (⟨"FreightShare$Reader", "beginLine", "()Z"⟩, 12), (⟨"FreightShare$Reader", "refuse", "(I)Z"⟩, 12), (⟨"FreightShare$Reader", "beginLineOf", "(IIZ)Z"⟩, 12), (⟨"FreightShare$Reader", "takeField", "()Z"⟩, 12), (⟨"FreightShare$Reader", "takeNumber", "(II)Z"⟩, 12), (⟨"FreightShare$Reader", "keepField", "(I)Z"⟩, 12), (⟨"FreightShare$Reader", "takeFieldOfLoad", "()Z"⟩, 12), (⟨"FreightShare$Reader", "takeNumberTold", "(I)Z"⟩, 12), (⟨"FreightShare$Reader", "isNumberTold", "(I)Z"⟩, 12), (⟨"FreightShare$Reader", "takeFieldOfTrip", "()Z"⟩, 12), (⟨"FreightShare$Reader", "takeStep", "()Z"⟩, 12)]
theorem lw_r1 : ∀ q ∈ lw_privs_1, lw_okq q := List.forall_mem_cons.mpr ⟨lw_p0, List.forall_mem_cons.mpr ⟨lw_p1, List.forall_mem_cons.mpr ⟨lw_p2, List.forall_mem_cons.mpr ⟨lw_p3, List.forall_mem_cons.mpr ⟨lw_p4, List.forall_mem_cons.mpr ⟨lw_p5, List.forall_mem_cons.mpr ⟨lw_p6, List.forall_mem_cons.mpr ⟨lw_p7, List.forall_mem_cons.mpr ⟨lw_p8, List.forall_mem_cons.mpr ⟨lw_p9, List.forall_mem_cons.mpr ⟨lw_p10, List.forall_mem_cons.mpr ⟨lw_p11, List.forall_mem_cons.mpr ⟨lw_p12, List.forall_mem_cons.mpr ⟨lw_p13, List.forall_mem_cons.mpr ⟨lw_p14, List.forall_mem_cons.mpr ⟨lw_p15, fun _ h => absurd h List.not_mem_nil⟩⟩⟩⟩⟩⟩⟩⟩⟩⟩⟩⟩⟩⟩⟩⟩
theorem lw_p16 : lw_okq (⟨"FreightShare$Reader", "takeNumberOfStep", "()Z"⟩, 12) := ⟨⟨by decide +kernel, by decide +kernel⟩, List.mem_of_getElem? (i := 45) (by decide +kernel), List.mem_of_getElem? (i := 609) (by decide +kernel), List.mem_of_getElem? (i := 610) (by decide +kernel)⟩
theorem lw_p17 : lw_okq (⟨"FreightShare$Reader", "endLine", "()Z"⟩, 12) := ⟨⟨by decide +kernel, by decide +kernel⟩, List.mem_of_getElem? (i := 45) (by decide +kernel), List.mem_of_getElem? (i := 617) (by decide +kernel), List.mem_of_getElem? (i := 618) (by decide +kernel)⟩
theorem lw_p18 : lw_okq (⟨"FreightShare$Routes", "clear", "()V"⟩, 16) := ⟨⟨by decide +kernel, by decide +kernel⟩, List.mem_of_getElem? (i := 120) (by decide +kernel), List.mem_of_getElem? (i := 641) (by decide +kernel), List.mem_of_getElem? (i := 642) (by decide +kernel)⟩
theorem lw_p19 : lw_okq (⟨"FreightShare$Routes", "drive", "(I)V"⟩, 16) := ⟨⟨by decide +kernel, by decide +kernel⟩, List.mem_of_getElem? (i := 120) (by decide +kernel), List.mem_of_getElem? (i := 645) (by decide +kernel), List.mem_of_getElem? (i := 646) (by decide +kernel)⟩
theorem lw_p20 : lw_okq (⟨"FreightShare$Routes", "driveLeg", "(IIII)V"⟩, 16) := ⟨⟨by decide +kernel, by decide +kernel⟩, List.mem_of_getElem? (i := 120) (by decide +kernel), List.mem_of_getElem? (i := 653) (by decide +kernel), List.mem_of_getElem? (i := 654) (by decide +kernel)⟩
theorem lw_p21 : lw_okq (⟨"FreightShare$Routes", "findGapsOfTruck", "(I)V"⟩, 16) := ⟨⟨by decide +kernel, by decide +kernel⟩, List.mem_of_getElem? (i := 120) (by decide +kernel), List.mem_of_getElem? (i := 664) (by decide +kernel), List.mem_of_getElem? (i := 665) (by decide +kernel)⟩
theorem lw_p22 : lw_okq (⟨"FreightShare$Routes", "addGap", "(III)V"⟩, 16) := ⟨⟨by decide +kernel, by decide +kernel⟩, List.mem_of_getElem? (i := 120) (by decide +kernel), List.mem_of_getElem? (i := 668) (by decide +kernel), List.mem_of_getElem? (i := 669) (by decide +kernel)⟩
theorem lw_p23 : lw_okq (⟨"FreightShare$Routes", "followLoad", "(I)V"⟩, 16) := ⟨⟨by decide +kernel, by decide +kernel⟩, List.mem_of_getElem? (i := 120) (by decide +kernel), List.mem_of_getElem? (i := 672) (by decide +kernel), List.mem_of_getElem? (i := 673) (by decide +kernel)⟩
theorem lw_p24 : lw_okq (⟨"FreightShare$Routes", "addGapOfLoad", "(III)V"⟩, 16) := ⟨⟨by decide +kernel, by decide +kernel⟩, List.mem_of_getElem? (i := 120) (by decide +kernel), List.mem_of_getElem? (i := 676) (by decide +kernel), List.mem_of_getElem? (i := 677) (by decide +kernel)⟩
theorem lw_p25 : lw_okq (⟨"FreightShare", "settle", "()V"⟩, 9) := ⟨⟨by decide +kernel, by decide +kernel⟩, List.mem_of_getElem? (i := 21) (by decide +kernel), List.mem_of_getElem? (i := 680) (by decide +kernel), List.mem_of_getElem? (i := 681) (by decide +kernel)⟩
theorem lw_p26 : lw_okq (⟨"FreightShare$Ledger", "estimateOf", "(I)I"⟩, 16) := ⟨⟨by decide +kernel, by decide +kernel⟩, List.mem_of_getElem? (i := 194) (by decide +kernel), List.mem_of_getElem? (i := 692) (by decide +kernel), List.mem_of_getElem? (i := 693) (by decide +kernel)⟩
theorem lw_p27 : lw_okq (⟨"FreightShare$Ledger", "measureParts", "(I)V"⟩, 16) := ⟨⟨by decide +kernel, by decide +kernel⟩, List.mem_of_getElem? (i := 194) (by decide +kernel), List.mem_of_getElem? (i := 696) (by decide +kernel), List.mem_of_getElem? (i := 697) (by decide +kernel)⟩
theorem lw_p28 : lw_okq (⟨"FreightShare$Ledger", "closeTruck", "(I)V"⟩, 16) := ⟨⟨by decide +kernel, by decide +kernel⟩, List.mem_of_getElem? (i := 194) (by decide +kernel), List.mem_of_getElem? (i := 701) (by decide +kernel), List.mem_of_getElem? (i := 702) (by decide +kernel)⟩
theorem lw_p29 : lw_okq (⟨"FreightShare$Ledger", "sumOfMissing", "(I)I"⟩, 16) := ⟨⟨by decide +kernel, by decide +kernel⟩, List.mem_of_getElem? (i := 194) (by decide +kernel), List.mem_of_getElem? (i := 709) (by decide +kernel), List.mem_of_getElem? (i := 710) (by decide +kernel)⟩
theorem lw_p30 : lw_okq (⟨"FreightShare$Ledger", "isParted", "(IIZ)Z"⟩, 16) := ⟨⟨by decide +kernel, by decide +kernel⟩, List.mem_of_getElem? (i := 194) (by decide +kernel), List.mem_of_getElem? (i := 717) (by decide +kernel), List.mem_of_getElem? (i := 718) (by decide +kernel)⟩
theorem lw_p31 : lw_okq (⟨"FreightShare$Parter", "giveOne", "()V"⟩, 4) := ⟨⟨by decide +kernel, by decide +kernel⟩, List.mem_of_getElem? (i := 200) (by decide +kernel), List.mem_of_getElem? (i := 729) (by decide +kernel), List.mem_of_getElem? (i := 730) (by decide +kernel)⟩
def lw_privs_2 : List (MethodName × Nat) := [(⟨"FreightShare$Reader", "takeNumberOfStep", "()Z"⟩, 12), (⟨"FreightShare$Reader", "endLine", "()Z"⟩, 12), (⟨"FreightShare$Routes", "clear", "()V"⟩, 16), (⟨"FreightShare$Routes", "drive", "(I)V"⟩, 16), (⟨"FreightShare$Routes", "driveLeg", "(IIII)V"⟩, 16), (⟨"FreightShare$Routes", "findGapsOfTruck", "(I)V"⟩, 16), (⟨"FreightShare$Routes", "addGap", "(III)V"⟩, 16), (⟨"FreightShare$Routes", "followLoad", "(I)V"⟩, 16), (⟨"FreightShare$Routes", "addGapOfLoad", "(III)V"⟩, 16), (⟨"FreightShare", "settle", "()V"⟩, 9), (⟨"FreightShare$Ledger", "estimateOf", "(I)I"⟩, 16), (⟨"FreightShare$Ledger", "measureParts", "(I)V"⟩, 16), (⟨"FreightShare$Ledger", "closeTruck", "(I)V"⟩, 16), (⟨"FreightShare$Ledger", "sumOfMissing", "(I)I"⟩, 16), (⟨"FreightShare$Ledger", "isParted", "(IIZ)Z"⟩, 16), (⟨"FreightShare$Parter", "giveOne", "()V"⟩, 4)]
theorem lw_r2 : ∀ q ∈ lw_privs_2, lw_okq q := List.forall_mem_cons.mpr ⟨lw_p16, List.forall_mem_cons.mpr ⟨lw_p17, List.forall_mem_cons.mpr ⟨lw_p18, List.forall_mem_cons.mpr ⟨lw_p19, List.forall_mem_cons.mpr ⟨lw_p20, List.forall_mem_cons.mpr ⟨lw_p21, List.forall_mem_cons.mpr ⟨lw_p22, List.forall_mem_cons.mpr ⟨lw_p23, List.forall_mem_cons.mpr ⟨lw_p24, List.forall_mem_cons.mpr ⟨lw_p25, List.forall_mem_cons.mpr ⟨lw_p26, List.forall_mem_cons.mpr ⟨lw_p27, List.forall_mem_cons.mpr ⟨lw_p28, List.forall_mem_cons.mpr ⟨lw_p29, List.forall_mem_cons.mpr ⟨lw_p30, List.forall_mem_cons.mpr ⟨lw_p31, fun _ h => absurd h List.not_mem_nil⟩⟩⟩⟩⟩⟩⟩⟩⟩⟩⟩⟩⟩⟩⟩⟩
theorem lw_p32 : lw_okq (⟨"FreightShare$Ledger", "gatherIdle", "()V"⟩, 16) := ⟨⟨by decide +kernel, by decide +kernel⟩, List.mem_of_getElem? (i := 194) (by decide +kernel), List.mem_of_getElem? (i := 734) (by decide +kernel), List.mem_of_getElem? (i := 735) (by decide +kernel)⟩
theorem lw_p33 : lw_okq (⟨"FreightShare$Ledger", "heirOf", "(I)I"⟩, 16) := ⟨⟨by decide +kernel, by decide +kernel⟩, List.mem_of_getElem? (i := 194) (by decide +kernel), List.mem_of_getElem? (i := 742) (by decide +kernel), List.mem_of_getElem? (i := 743) (by decide +kernel)⟩
theorem lw_p34 : lw_okq (⟨"FreightShare$Ledger", "partTrip", "(I)V"⟩, 16) := ⟨⟨by decide +kernel, by decide +kernel⟩, List.mem_of_getElem? (i := 194) (by decide +kernel), List.mem_of_getElem? (i := 746) (by decide +kernel), List.mem_of_getElem? (i := 747) (by decide +kernel)⟩
theorem lw_p35 : lw_okq (⟨"FreightShare$Ledger", "partOpen", "()V"⟩, 16) := ⟨⟨by decide +kernel, by decide +kernel⟩, List.mem_of_getElem? (i := 194) (by decide +kernel), List.mem_of_getElem? (i := 750) (by decide +kernel), List.mem_of_getElem? (i := 751) (by decide +kernel)⟩
theorem lw_p36 : lw_okq (⟨"FreightShare", "hubBits", "()I"⟩, 9) := ⟨⟨by decide +kernel, by decide +kernel⟩, List.mem_of_getElem? (i := 21) (by decide +kernel), List.mem_of_getElem? (i := 765) (by decide +kernel), List.mem_of_getElem? (i := 766) (by decide +kernel)⟩
theorem lw_p37 : lw_okq (⟨"FreightShare", "tripBits", "(I)I"⟩, 9) := ⟨⟨by decide +kernel, by decide +kernel⟩, List.mem_of_getElem? (i := 21) (by decide +kernel), List.mem_of_getElem? (i := 781) (by decide +kernel), List.mem_of_getElem? (i := 782) (by decide +kernel)⟩
theorem lw_p38 : lw_okq (⟨"FreightShare", "sumOverTrips", "(I[I)I"⟩, 9) := ⟨⟨by decide +kernel, by decide +kernel⟩, List.mem_of_getElem? (i := 21) (by decide +kernel), List.mem_of_getElem? (i := 785) (by decide +kernel), List.mem_of_getElem? (i := 786) (by decide +kernel)⟩
theorem lw_p39 : lw_okq (⟨"FreightShare", "lastPlace", "(I)I"⟩, 9) := ⟨⟨by decide +kernel, by decide +kernel⟩, List.mem_of_getElem? (i := 21) (by decide +kernel), List.mem_of_getElem? (i := 790) (by decide +kernel), List.mem_of_getElem? (i := 791) (by decide +kernel)⟩
theorem lw_p40 : lw_okq (⟨"FreightShare", "isDearer", "(II)Z"⟩, 9) := ⟨⟨by decide +kernel, by decide +kernel⟩, List.mem_of_getElem? (i := 21) (by decide +kernel), List.mem_of_getElem? (i := 819) (by decide +kernel), List.mem_of_getElem? (i := 820) (by decide +kernel)⟩
theorem lw_p41 : lw_okq (⟨"FreightShare", "change", "(I[III)I"⟩, 9) := ⟨⟨by decide +kernel, by decide +kernel⟩, List.mem_of_getElem? (i := 21) (by decide +kernel), List.mem_of_getElem? (i := 839) (by decide +kernel), List.mem_of_getElem? (i := 840) (by decide +kernel)⟩
theorem lw_p42 : lw_okq (⟨"FreightShare$History", "forgetOldest", "()V"⟩, 4) := ⟨⟨by decide +kernel, by decide +kernel⟩, List.mem_of_getElem? (i := 283) (by decide +kernel), List.mem_of_getElem? (i := 847) (by decide +kernel), List.mem_of_getElem? (i := 848) (by decide +kernel)⟩
theorem lw_p43 : lw_okq (⟨"FreightShare", "rowOf", "(I)[I"⟩, 9) := ⟨⟨by decide +kernel, by decide +kernel⟩, List.mem_of_getElem? (i := 21) (by decide +kernel), List.mem_of_getElem? (i := 863) (by decide +kernel), List.mem_of_getElem? (i := 864) (by decide +kernel)⟩
theorem lw_p44 : lw_okq (⟨"java/lang/Throwable", "fillInStackTrace", "(I)Ljava/lang/Throwable;"⟩, 6) := ⟨⟨by decide +kernel, by decide +kernel⟩, List.mem_of_getElem? (i := 911) (by decide +kernel), List.mem_of_getElem? (i := 909) (by decide +kernel), List.mem_of_getElem? (i := 910) (by decide +kernel)⟩
theorem lw_p45 : lw_okq (⟨"FreightShare", "tripBitsOfLoad", "(I)I"⟩, 9) := ⟨⟨by decide +kernel, by decide +kernel⟩, List.mem_of_getElem? (i := 21) (by decide +kernel), List.mem_of_getElem? (i := 940) (by decide +kernel), List.mem_of_getElem? (i := 941) (by decide +kernel)⟩
theorem lw_p46 : lw_okq (⟨"FreightShare", "partsOfLoad", "(I)I"⟩, 9) := ⟨⟨by decide +kernel, by decide +kernel⟩, List.mem_of_getElem? (i := 21) (by decide +kernel), List.mem_of_getElem? (i := 944) (by decide +kernel), List.mem_of_getElem? (i := 945) (by decide +kernel)⟩
theorem lw_p47 : lw_okq (⟨"FreightShare", "due", "(I)I"⟩, 9) := ⟨⟨by decide +kernel, by decide +kernel⟩, List.mem_of_getElem? (i := 21) (by decide +kernel), List.mem_of_getElem? (i := 948) (by decide +kernel), List.mem_of_getElem? (i := 949) (by decide +kernel)⟩
def lw_privs_3 : List (MethodName × Nat) := [(⟨"FreightShare$Ledger", "gatherIdle", "()V"⟩, 16), (⟨"FreightShare$Ledger", "heirOf", "(I)I"⟩, 16), (⟨"FreightShare$Ledger", "partTrip", "(I)V"⟩, 16), (⟨"FreightShare$Ledger", "partOpen", "()V"⟩, 16), (⟨"FreightShare", "hubBits", "()I"⟩, 9), (⟨"FreightShare", "tripBits", "(I)I"⟩, 9), (⟨"FreightShare", "sumOverTrips", "(I[I)I"⟩, 9), (⟨"FreightShare", "lastPlace", "(I)I"⟩, 9), (⟨"FreightShare", "isDearer", "(II)Z"⟩, 9), (⟨"FreightShare", "change", "(I[III)I"⟩, 9), (⟨"FreightShare$History", "forgetOldest", "()V"⟩, 4), (⟨"FreightShare", "rowOf", "(I)[I"⟩, 9), (⟨"java/lang/Throwable", "fillInStackTrace", "(I)Ljava/lang/Throwable;"⟩, 6), (⟨"FreightShare", "tripBitsOfLoad", "(I)I"⟩, 9), (⟨"FreightShare", "partsOfLoad", "(I)I"⟩, 9), (⟨"FreightShare", "due", "(I)I"⟩, 9)]
theorem lw_r3 : ∀ q ∈ lw_privs_3, lw_okq q := List.forall_mem_cons.mpr ⟨lw_p32, List.forall_mem_cons.mpr ⟨lw_p33, List.forall_mem_cons.mpr ⟨lw_p34, List.forall_mem_cons.mpr ⟨lw_p35, List.forall_mem_cons.mpr ⟨lw_p36, List.forall_mem_cons.mpr ⟨lw_p37, List.forall_mem_cons.mpr ⟨lw_p38, List.forall_mem_cons.mpr ⟨lw_p39, List.forall_mem_cons.mpr ⟨lw_p40, List.forall_mem_cons.mpr ⟨lw_p41, List.forall_mem_cons.mpr ⟨lw_p42, List.forall_mem_cons.mpr ⟨lw_p43, List.forall_mem_cons.mpr ⟨lw_p44, List.forall_mem_cons.mpr ⟨lw_p45, List.forall_mem_cons.mpr ⟨lw_p46, List.forall_mem_cons.mpr ⟨lw_p47, fun _ h => absurd h List.not_mem_nil⟩⟩⟩⟩⟩⟩⟩⟩⟩⟩⟩⟩⟩⟩⟩⟩
theorem lw_p48 : lw_okq (⟨"FreightShareModel", "lays", "(I)V"⟩, 31) := ⟨⟨by decide +kernel, by decide +kernel⟩, List.mem_of_getElem? (i := 974) (by decide +kernel), List.mem_of_getElem? (i := 972) (by decide +kernel), List.mem_of_getElem? (i := 973) (by decide +kernel)⟩
theorem lw_p49 : lw_okq (⟨"FreightShareModel", "go", "()V"⟩, 31) := ⟨⟨by decide +kernel, by decide +kernel⟩, List.mem_of_getElem? (i := 974) (by decide +kernel), List.mem_of_getElem? (i := 1084) (by decide +kernel), List.mem_of_getElem? (i := 1085) (by decide +kernel)⟩
theorem lw_p50 : lw_okq (⟨"FreightShareModel", "tapeAt", "(I)I"⟩, 31) := ⟨⟨by decide +kernel, by decide +kernel⟩, List.mem_of_getElem? (i := 974) (by decide +kernel), List.mem_of_getElem? (i := 1094) (by decide +kernel), List.mem_of_getElem? (i := 1095) (by decide +kernel)⟩
theorem lw_p51 : lw_okq (⟨"FreightShareModel", "readLine", "(Z)Z"⟩, 31) := ⟨⟨by decide +kernel, by decide +kernel⟩, List.mem_of_getElem? (i := 974) (by decide +kernel), List.mem_of_getElem? (i := 1100) (by decide +kernel), List.mem_of_getElem? (i := 1101) (by decide +kernel)⟩
theorem lw_p52 : lw_okq (⟨"FreightShareModel", "is", "(IIIII)Z"⟩, 31) := ⟨⟨by decide +kernel, by decide +kernel⟩, List.mem_of_getElem? (i := 974) (by decide +kernel), List.mem_of_getElem? (i := 1104) (by decide +kernel), List.mem_of_getElem? (i := 1105) (by decide +kernel)⟩
theorem lw_p53 : lw_okq (⟨"FreightShareModel", "readDesk", "()Z"⟩, 31) := ⟨⟨by decide +kernel, by decide +kernel⟩, List.mem_of_getElem? (i := 974) (by decide +kernel), List.mem_of_getElem? (i := 1108) (by decide +kernel), List.mem_of_getElem? (i := 1109) (by decide +kernel)⟩
theorem lw_p54 : lw_okq (⟨"FreightShareModel", "told", "(III)I"⟩, 31) := ⟨⟨by decide +kernel, by decide +kernel⟩, List.mem_of_getElem? (i := 974) (by decide +kernel), List.mem_of_getElem? (i := 1112) (by decide +kernel), List.mem_of_getElem? (i := 1113) (by decide +kernel)⟩
theorem lw_p55 : lw_okq (⟨"FreightShareModel", "bad", "(I)Z"⟩, 31) := ⟨⟨by decide +kernel, by decide +kernel⟩, List.mem_of_getElem? (i := 974) (by decide +kernel), List.mem_of_getElem? (i := 1116) (by decide +kernel), List.mem_of_getElem? (i := 1117) (by decide +kernel)⟩
theorem lw_p56 : lw_okq (⟨"FreightShareModel", "readPlace", "()Z"⟩, 31) := ⟨⟨by decide +kernel, by decide +kernel⟩, List.mem_of_getElem? (i := 974) (by decide +kernel), List.mem_of_getElem? (i := 1123) (by decide +kernel), List.mem_of_getElem? (i := 1124) (by decide +kernel)⟩
theorem lw_p57 : lw_okq (⟨"FreightShareModel", "readTruck", "()Z"⟩, 31) := ⟨⟨by decide +kernel, by decide +kernel⟩, List.mem_of_getElem? (i := 974) (by decide +kernel), List.mem_of_getElem? (i := 1127) (by decide +kernel), List.mem_of_getElem? (i := 1128) (by decide +kernel)⟩
theorem lw_p58 : lw_okq (⟨"FreightShareModel", "readLoad", "()Z"⟩, 31) := ⟨⟨by decide +kernel, by decide +kernel⟩, List.mem_of_getElem? (i := 974) (by decide +kernel), List.mem_of_getElem? (i := 1131) (by decide +kernel), List.mem_of_getElem? (i := 1132) (by decide +kernel)⟩
theorem lw_p59 : lw_okq (⟨"FreightShareModel", "toldPlace", "()I"⟩, 31) := ⟨⟨by decide +kernel, by decide +kernel⟩, List.mem_of_getElem? (i := 974) (by decide +kernel), List.mem_of_getElem? (i := 1135) (by decide +kernel), List.mem_of_getElem? (i := 1136) (by decide +kernel)⟩
theorem lw_p60 : lw_okq (⟨"FreightShareModel", "readTrip", "()Z"⟩, 31) := ⟨⟨by decide +kernel, by decide +kernel⟩, List.mem_of_getElem? (i := 974) (by decide +kernel), List.mem_of_getElem? (i := 1139) (by decide +kernel), List.mem_of_getElem? (i := 1140) (by decide +kernel)⟩
theorem lw_p61 : lw_okq (⟨"FreightShareModel", "goesTo", "(III)V"⟩, 31) := ⟨⟨by decide +kernel, by decide +kernel⟩, List.mem_of_getElem? (i := 974) (by decide +kernel), List.mem_of_getElem? (i := 1143) (by decide +kernel), List.mem_of_getElem? (i := 1144) (by decide +kernel)⟩
theorem lw_p62 : lw_okq (⟨"FreightShareModel", "readEnd", "()Z"⟩, 31) := ⟨⟨by decide +kernel, by decide +kernel⟩, List.mem_of_getElem? (i := 974) (by decide +kernel), List.mem_of_getElem? (i := 1153) (by decide +kernel), List.mem_of_getElem? (i := 1154) (by decide +kernel)⟩
theorem lw_p63 : lw_okq (⟨"FreightShareModel", "loads", "()I"⟩, 31) := ⟨⟨by decide +kernel, by decide +kernel⟩, List.mem_of_getElem? (i := 974) (by decide +kernel), List.mem_of_getElem? (i := 1165) (by decide +kernel), List.mem_of_getElem? (i := 1166) (by decide +kernel)⟩
def lw_privs_4 : List (MethodName × Nat) := [(⟨"FreightShareModel", "lays", "(I)V"⟩, 31), (⟨"FreightShareModel", "go", "()V"⟩, 31), (⟨"FreightShareModel", "tapeAt", "(I)I"⟩, 31), (⟨"FreightShareModel", "readLine", "(Z)Z"⟩, 31), (⟨"FreightShareModel", "is", "(IIIII)Z"⟩, 31), (⟨"FreightShareModel", "readDesk", "()Z"⟩, 31), (⟨"FreightShareModel", "told", "(III)I"⟩, 31), (⟨"FreightShareModel", "bad", "(I)Z"⟩, 31), (⟨"FreightShareModel", "readPlace", "()Z"⟩, 31), (⟨"FreightShareModel", "readTruck", "()Z"⟩, 31), (⟨"FreightShareModel", "readLoad", "()Z"⟩, 31), (⟨"FreightShareModel", "toldPlace", "()I"⟩, 31), (⟨"FreightShareModel", "readTrip", "()Z"⟩, 31), (⟨"FreightShareModel", "goesTo", "(III)V"⟩, 31), (⟨"FreightShareModel", "readEnd", "()Z"⟩, 31), (⟨"FreightShareModel", "loads", "()I"⟩, 31)]
theorem lw_r4 : ∀ q ∈ lw_privs_4, lw_okq q := List.forall_mem_cons.mpr ⟨lw_p48, List.forall_mem_cons.mpr ⟨lw_p49, List.forall_mem_cons.mpr ⟨lw_p50, List.forall_mem_cons.mpr ⟨lw_p51, List.forall_mem_cons.mpr ⟨lw_p52, List.forall_mem_cons.mpr ⟨lw_p53, List.forall_mem_cons.mpr ⟨lw_p54, List.forall_mem_cons.mpr ⟨lw_p55, List.forall_mem_cons.mpr ⟨lw_p56, List.forall_mem_cons.mpr ⟨lw_p57, List.forall_mem_cons.mpr ⟨lw_p58, List.forall_mem_cons.mpr ⟨lw_p59, List.forall_mem_cons.mpr ⟨lw_p60, List.forall_mem_cons.mpr ⟨lw_p61, List.forall_mem_cons.mpr ⟨lw_p62, List.forall_mem_cons.mpr ⟨lw_p63, fun _ h => absurd h List.not_mem_nil⟩⟩⟩⟩⟩⟩⟩⟩⟩⟩⟩⟩⟩⟩⟩⟩
theorem lw_p64 : lw_okq (⟨"FreightShareModel", "trips", "()I"⟩, 31) := ⟨⟨by decide +kernel, by decide +kernel⟩, List.mem_of_getElem? (i := 974) (by decide +kernel), List.mem_of_getElem? (i := 1169) (by decide +kernel), List.mem_of_getElem? (i := 1170) (by decide +kernel)⟩
theorem lw_p65 : lw_okq (⟨"FreightShareModel", "account", "()V"⟩, 31) := ⟨⟨by decide +kernel, by decide +kernel⟩, List.mem_of_getElem? (i := 974) (by decide +kernel), List.mem_of_getElem? (i := 1173) (by decide +kernel), List.mem_of_getElem? (i := 1174) (by decide +kernel)⟩
theorem lw_p66 : lw_okq (⟨"FreightShareModel", "laysWeights", "()V"⟩, 31) := ⟨⟨by decide +kernel, by decide +kernel⟩, List.mem_of_getElem? (i := 974) (by decide +kernel), List.mem_of_getElem? (i := 1177) (by decide +kernel), List.mem_of_getElem? (i := 1178) (by decide +kernel)⟩
theorem lw_p67 : lw_okq (⟨"FreightShareModel", "laysAccount", "()V"⟩, 31) := ⟨⟨by decide +kernel, by decide +kernel⟩, List.mem_of_getElem? (i := 974) (by decide +kernel), List.mem_of_getElem? (i := 1181) (by decide +kernel), List.mem_of_getElem? (i := 1182) (by decide +kernel)⟩
theorem lw_p68 : lw_okq (⟨"FreightShareModel", "closes", "(I)V"⟩, 31) := ⟨⟨by decide +kernel, by decide +kernel⟩, List.mem_of_getElem? (i := 974) (by decide +kernel), List.mem_of_getElem? (i := 1185) (by decide +kernel), List.mem_of_getElem? (i := 1186) (by decide +kernel)⟩
theorem lw_p69 : lw_okq (⟨"FreightShareModel", "its", "(II)I"⟩, 31) := ⟨⟨by decide +kernel, by decide +kernel⟩, List.mem_of_getElem? (i := 974) (by decide +kernel), List.mem_of_getElem? (i := 1189) (by decide +kernel), List.mem_of_getElem? (i := 1190) (by decide +kernel)⟩
theorem lw_p70 : lw_okq (⟨"FreightShareModel", "estimateOf", "(I)I"⟩, 31) := ⟨⟨by decide +kernel, by decide +kernel⟩, List.mem_of_getElem? (i := 974) (by decide +kernel), List.mem_of_getElem? (i := 1193) (by decide +kernel), List.mem_of_getElem? (i := 1194) (by decide +kernel)⟩
theorem lw_p71 : lw_okq (⟨"FreightShareModel", "parts", "(II)V"⟩, 31) := ⟨⟨by decide +kernel, by decide +kernel⟩, List.mem_of_getElem? (i := 974) (by decide +kernel), List.mem_of_getElem? (i := 1197) (by decide +kernel), List.mem_of_getElem? (i := 1198) (by decide +kernel)⟩
theorem lw_p72 : lw_okq (⟨"FreightShareModel", "isIdle", "(I)Z"⟩, 31) := ⟨⟨by decide +kernel, by decide +kernel⟩, List.mem_of_getElem? (i := 974) (by decide +kernel), List.mem_of_getElem? (i := 1202) (by decide +kernel), List.mem_of_getElem? (i := 1203) (by decide +kernel)⟩
theorem lw_p73 : lw_okq (⟨"FreightShareModel", "partsOf", "(I)J"⟩, 31) := ⟨⟨by decide +kernel, by decide +kernel⟩, List.mem_of_getElem? (i := 974) (by decide +kernel), List.mem_of_getElem? (i := 1206) (by decide +kernel), List.mem_of_getElem? (i := 1207) (by decide +kernel)⟩
theorem lw_p74 : lw_okq (⟨"FreightShareModel", "partOf", "(II)J"⟩, 31) := ⟨⟨by decide +kernel, by decide +kernel⟩, List.mem_of_getElem? (i := 974) (by decide +kernel), List.mem_of_getElem? (i := 1210) (by decide +kernel), List.mem_of_getElem? (i := 1211) (by decide +kernel)⟩
theorem lw_p75 : lw_okq (⟨"FreightShareModel", "nextOf", "(I)I"⟩, 31) := ⟨⟨by decide +kernel, by decide +kernel⟩, List.mem_of_getElem? (i := 974) (by decide +kernel), List.mem_of_getElem? (i := 1214) (by decide +kernel), List.mem_of_getElem? (i := 1215) (by decide +kernel)⟩
theorem lw_p76 : lw_okq (⟨"FreightShareModel", "laysTrip", "(I)V"⟩, 31) := ⟨⟨by decide +kernel, by decide +kernel⟩, List.mem_of_getElem? (i := 974) (by decide +kernel), List.mem_of_getElem? (i := 1218) (by decide +kernel), List.mem_of_getElem? (i := 1219) (by decide +kernel)⟩
theorem lw_p77 : lw_okq (⟨"FreightShareModel", "gives", "(III)V"⟩, 31) := ⟨⟨by decide +kernel, by decide +kernel⟩, List.mem_of_getElem? (i := 974) (by decide +kernel), List.mem_of_getElem? (i := 1222) (by decide +kernel), List.mem_of_getElem? (i := 1223) (by decide +kernel)⟩
theorem lw_p78 : lw_okq (⟨"FreightShareModel", "hubs", "()I"⟩, 31) := ⟨⟨by decide +kernel, by decide +kernel⟩, List.mem_of_getElem? (i := 974) (by decide +kernel), List.mem_of_getElem? (i := 1226) (by decide +kernel), List.mem_of_getElem? (i := 1227) (by decide +kernel)⟩
theorem lw_p79 : lw_okq (⟨"FreightShareModel", "changed", "(IZ)I"⟩, 31) := ⟨⟨by decide +kernel, by decide +kernel⟩, List.mem_of_getElem? (i := 974) (by decide +kernel), List.mem_of_getElem? (i := 1230) (by decide +kernel), List.mem_of_getElem? (i := 1231) (by decide +kernel)⟩
def lw_privs_5 : List (MethodName × Nat) := [(⟨"FreightShareModel", "trips", "()I"⟩, 31), (⟨"FreightShareModel", "account", "()V"⟩, 31), (⟨"FreightShareModel", "laysWeights", "()V"⟩, 31), (⟨"FreightShareModel", "laysAccount", "()V"⟩, 31), (⟨"FreightShareModel", "closes", "(I)V"⟩, 31), (⟨"FreightShareModel", "its", "(II)I"⟩, 31), (⟨"FreightShareModel", "estimateOf", "(I)I"⟩, 31), (⟨"FreightShareModel", "parts", "(II)V"⟩, 31), (⟨"FreightShareModel", "isIdle", "(I)Z"⟩, 31), (⟨"FreightShareModel", "partsOf", "(I)J"⟩, 31), (⟨"FreightShareModel", "partOf", "(II)J"⟩, 31), (⟨"FreightShareModel", "nextOf", "(I)I"⟩, 31), (⟨"FreightShareModel", "laysTrip", "(I)V"⟩, 31), (⟨"FreightShareModel", "gives", "(III)V"⟩, 31), (⟨"FreightShareModel", "hubs", "()I"⟩, 31), (⟨"FreightShareModel", "changed", "(IZ)I"⟩, 31)]
theorem lw_r5 : ∀ q ∈ lw_privs_5, lw_okq q := List.forall_mem_cons.mpr ⟨lw_p64, List.forall_mem_cons.mpr ⟨lw_p65, List.forall_mem_cons.mpr ⟨lw_p66, List.forall_mem_cons.mpr ⟨lw_p67, List.forall_mem_cons.mpr ⟨lw_p68, List.forall_mem_cons.mpr ⟨lw_p69, List.forall_mem_cons.mpr ⟨lw_p70, List.forall_mem_cons.mpr ⟨lw_p71, List.forall_mem_cons.mpr ⟨lw_p72, List.forall_mem_cons.mpr ⟨lw_p73, List.forall_mem_cons.mpr ⟨lw_p74, List.forall_mem_cons.mpr ⟨lw_p75, List.forall_mem_cons.mpr ⟨lw_p76, List.forall_mem_cons.mpr ⟨lw_p77, List.forall_mem_cons.mpr ⟨lw_p78, List.forall_mem_cons.mpr ⟨lw_p79, fun _ h => absurd h List.not_mem_nil⟩⟩⟩⟩⟩⟩⟩⟩⟩⟩⟩⟩⟩⟩⟩⟩
theorem lw_p80 : lw_okq (⟨"FreightShareModel", "laysGaps", "()V"⟩, 31) := ⟨⟨by decide +kernel, by decide +kernel⟩, List.mem_of_getElem? (i := 974) (by decide +kernel), List.mem_of_getElem? (i := 1234) (by decide +kernel), List.mem_of_getElem? (i := 1235) (by decide +kernel)⟩
theorem lw_p81 : lw_okq (⟨"FreightShareModel", "adds", "(III)V"⟩, 31) := ⟨⟨by decide +kernel, by decide +kernel⟩, List.mem_of_getElem? (i := 974) (by decide +kernel), List.mem_of_getElem? (i := 1238) (by decide +kernel), List.mem_of_getElem? (i := 1239) (by decide +kernel)⟩
theorem lw_p82 : lw_okq (⟨"FreightShareModel", "isPlace", "(I)Z"⟩, 31) := ⟨⟨by decide +kernel, by decide +kernel⟩, List.mem_of_getElem? (i := 974) (by decide +kernel), List.mem_of_getElem? (i := 1246) (by decide +kernel), List.mem_of_getElem? (i := 1247) (by decide +kernel)⟩
theorem lw_p83 : lw_okq (⟨"FreightShareModel", "isTruck", "(I)Z"⟩, 31) := ⟨⟨by decide +kernel, by decide +kernel⟩, List.mem_of_getElem? (i := 974) (by decide +kernel), List.mem_of_getElem? (i := 1254) (by decide +kernel), List.mem_of_getElem? (i := 1255) (by decide +kernel)⟩
theorem lw_p84 : lw_okq (⟨"FreightShareModel", "isLoad", "(I)Z"⟩, 31) := ⟨⟨by decide +kernel, by decide +kernel⟩, List.mem_of_getElem? (i := 974) (by decide +kernel), List.mem_of_getElem? (i := 1262) (by decide +kernel), List.mem_of_getElem? (i := 1263) (by decide +kernel)⟩
theorem lw_p85 : lw_okq (⟨"FreightShareModel", "refuse", "()I"⟩, 31) := ⟨⟨by decide +kernel, by decide +kernel⟩, List.mem_of_getElem? (i := 974) (by decide +kernel), List.mem_of_getElem? (i := 1266) (by decide +kernel), List.mem_of_getElem? (i := 1267) (by decide +kernel)⟩
theorem lw_p86 : lw_okq (⟨"FreightShareModel", "dueOf", "(I)I"⟩, 31) := ⟨⟨by decide +kernel, by decide +kernel⟩, List.mem_of_getElem? (i := 974) (by decide +kernel), List.mem_of_getElem? (i := 1270) (by decide +kernel), List.mem_of_getElem? (i := 1271) (by decide +kernel)⟩
theorem lw_p87 : lw_okq (⟨"FreightShareModel", "countsOf", "(II)I"⟩, 31) := ⟨⟨by decide +kernel, by decide +kernel⟩, List.mem_of_getElem? (i := 974) (by decide +kernel), List.mem_of_getElem? (i := 1276) (by decide +kernel), List.mem_of_getElem? (i := 1277) (by decide +kernel)⟩
theorem lw_p88 : lw_okq (⟨"FreightShareModel", "isTrip", "(I)Z"⟩, 31) := ⟨⟨by decide +kernel, by decide +kernel⟩, List.mem_of_getElem? (i := 974) (by decide +kernel), List.mem_of_getElem? (i := 1284) (by decide +kernel), List.mem_of_getElem? (i := 1285) (by decide +kernel)⟩
theorem lw_p89 : lw_okq (⟨"FreightShareModel", "tells", "(II)I"⟩, 31) := ⟨⟨by decide +kernel, by decide +kernel⟩, List.mem_of_getElem? (i := 974) (by decide +kernel), List.mem_of_getElem? (i := 1324) (by decide +kernel), List.mem_of_getElem? (i := 1325) (by decide +kernel)⟩
theorem lw_p90 : lw_okq (⟨"FreightShareModel", "snap", "()V"⟩, 31) := ⟨⟨by decide +kernel, by decide +kernel⟩, List.mem_of_getElem? (i := 974) (by decide +kernel), List.mem_of_getElem? (i := 1328) (by decide +kernel), List.mem_of_getElem? (i := 1329) (by decide +kernel)⟩
def lw_privs_6 : List (MethodName × Nat) := [(⟨"FreightShareModel", "laysGaps", "()V"⟩, 31), (⟨"FreightShareModel", "adds", "(III)V"⟩, 31), (⟨"FreightShareModel", "isPlace", "(I)Z"⟩, 31), (⟨"FreightShareModel", "isTruck", "(I)Z"⟩, 31), (⟨"FreightShareModel", "isLoad", "(I)Z"⟩, 31), (⟨"FreightShareModel", "refuse", "()I"⟩, 31), (⟨"FreightShareModel", "dueOf", "(I)I"⟩, 31), (⟨"FreightShareModel", "countsOf", "(II)I"⟩, 31), (⟨"FreightShareModel", "isTrip", "(I)Z"⟩, 31), (⟨"FreightShareModel", "tells", "(II)I"⟩, 31), (⟨"FreightShareModel", "snap", "()V"⟩, 31)]
theorem lw_r6 : ∀ q ∈ lw_privs_6, lw_okq q := List.forall_mem_cons.mpr ⟨lw_p80, List.forall_mem_cons.mpr ⟨lw_p81, List.forall_mem_cons.mpr ⟨lw_p82, List.forall_mem_cons.mpr ⟨lw_p83, List.forall_mem_cons.mpr ⟨lw_p84, List.forall_mem_cons.mpr ⟨lw_p85, List.forall_mem_cons.mpr ⟨lw_p86, List.forall_mem_cons.mpr ⟨lw_p87, List.forall_mem_cons.mpr ⟨lw_p88, List.forall_mem_cons.mpr ⟨lw_p89, List.forall_mem_cons.mpr ⟨lw_p90, fun _ h => absurd h List.not_mem_nil⟩⟩⟩⟩⟩⟩⟩⟩⟩⟩⟩
def lw_privs : List (MethodName × Nat) := lw_privs_1 ++ (lw_privs_2 ++ (lw_privs_3 ++ (lw_privs_4 ++ (lw_privs_5 ++ (lw_privs_6)))))
def lw_tbl : List Cond := k2_sels lw_privs ++ tables_1
theorem lw_privs_ok : ∀ q ∈ lw_privs, lw_okq q := by
  show ∀ q ∈ lw_privs_1 ++ (lw_privs_2 ++ (lw_privs_3 ++ (lw_privs_4 ++ (lw_privs_5 ++ (lw_privs_6))))), lw_okq q
  exact List.forall_mem_append.mpr ⟨lw_r1, List.forall_mem_append.mpr ⟨lw_r2, List.forall_mem_append.mpr ⟨lw_r3, List.forall_mem_append.mpr ⟨lw_r4, List.forall_mem_append.mpr ⟨lw_r5, lw_r6⟩⟩⟩⟩⟩
end
section
/-! ===== BEGIN words of one list among another's, by their places ===== -/
theorem goodIn_r {big : List Cond} (ws : List Cond) (ps : List Nat) (hp : ws = ps.filterMap (fun i => big[i]?)) (h : ws.all goodWord = true) : GoodIn big ws := by
  intro w hw
  have h1 := List.all_eq_true.mp h w hw
  rw [hp] at hw
  obtain ⟨i, -, hi⟩ := List.mem_filterMap.mp hw
  have hm : w ∈ big := by first | exact List.mem_of_getElem? hi | exact List.getElem?_mem hi
  exact ⟨hm, good_of_word h1⟩
theorem goodIn_app {big a b : List Cond} (ha : GoodIn big a) (hb : GoodIn big b) : GoodIn big (a ++ b) := fun w h => (List.mem_append.mp h).elim (ha w) (hb w)
theorem goodIn_ca {big a b : List Cond} {c : Cond} (ha : GoodIn big (c :: a)) (hb : GoodIn big b) : GoodIn big (c :: (a ++ b)) := fun w h => (List.mem_cons.mp h).elim (fun e => ha w (List.mem_cons.mpr (Or.inl e))) (fun h => (List.mem_append.mp h).elim (fun h => ha w (List.mem_cons.mpr (Or.inr h))) (hb w))
theorem goodIn_sub {big ws : List Cond} (hm : ∀ w ∈ ws, w ∈ big) (h : ws.all goodWord = true) : GoodIn big ws := fun w hw => ⟨hm w hw, good_of_word (List.all_eq_true.mp h w hw)⟩
/-! ===== END ===== -/

/-! ===== BEGIN exceptions that leave a method, and their catching by the caller (launches without stack traces) ===== -/
section VXA
/-! The laws vx_back, vx_callV, vx_callS, vx_callSW, vx_throw0, vx_throwS follow proofs of the library, with one case more: JvmDerived/Free/Laws.lean (Back.of_free), Shelf42/LK1.lean (callV, callS), Shelf/KitTraced.lean (throwNew0V, throwNewS). -/
/-- where a method has thrown q: the class by its name, the cell, what was written, the world -/
def vx_T (XC : String → State → State → Prop) (st : State) (q : Addr) (t : State) (mc ms : Nat) (free : Addr → Prop) : Prop :=
  ∃ (E : String) (ce : Cell) (L : List Loc), XC E st t ∧ t.heap[q]? = some ce ∧ ce.vm = .none ∧ st.vm.findClass E = some ce.cls ∧ st.WarmedH t.vm ∧ st.sameButNew ({ t with vm := st.vm } : State) L mc ms ∧ ∀ z ∈ L, free z.base
def vx_Q (Qc : Array Value → State → Outcome → State → Prop) (XC : String → State → State → Prop) (mc ms : Nat) (free : Addr → Prop) : Array Value → State → Outcome → State → Prop := fun a st o t =>
  (Qc a st o t ∧ ∃ L, FrameEnd st o t L mc ms ∧ ∀ q ∈ L, free q.base) ∨ ∃ q, o = .threw q ∧ vx_T XC st q t mc ms free
/-- a callee that returns or throws -/
def vx_Met (l : Launch) (y : MethodName) (ws : List Cond) (rm : Room) (Pc : Array Value → State → Prop) (Qc : Array Value → State → Outcome → State → Prop) (XC : String → State → State → Prop) (mc ms : Nat) (free : Addr → Prop) : Prop :=
  MetFree l y (headSpec ws rm) Pc (fun _ _ _ _ _ => True) (vx_Q Qc XC mc ms free)
def vx_Post (XC : String → State → State → Prop) (mc ms : Nat) (free : Addr → Prop) : Pt → Array Value → Addr → Pt → Prop := fun A a q B =>
  ∃ (g : JFrame) (mk : MethodId) (t : State) (L : List Loc) (E : String) (ce : Cell), B.U.heap = t.heap ∧ B.U.vm = t.vm ∧ XC E (A.U.calling g mk a) t ∧ t.heap[q]? = some ce ∧ ce.vm = .none ∧ A.U.vm.findClass E = some ce.cls ∧ B.locs = A.locs ++ L ∧ (∀ z ∈ L, free z.base) ∧ B.cells = A.cells + mc ∧ B.slots = A.slots + ms
def vx_Back (l : Launch) (R : Room) (p : Program) (e : Env) (below : List Frame) (s : State) (sargs : Array Value) (y : MethodName) (len W9 : Nat)
    (Pre : Pt → Array Value → Prop) (Post : Pt → Array Value → Option Value → Pt → Prop) (PostX : Pt → Array Value → Addr → Pt → Prop) : Prop :=
  ∀ (m : MethodId) (meth : Method) (c : Code) (A : Pt) (g : JFrame) (ig : Instr) (mk : MethodId) (a : Array Value),
    Stand p l e R s m sargs below meth c A.U A.locs A.cells A.slots → g.method = m → g.locals.size = c.maxLocals → decode c.code g.pc = .ok (ig, len) →
    2 * g.monitorRoom + (g.stack.map fun v => v.category).sum ≤ W9 → A.U.methodNamed? y = some mk → Pre A a →
    (∃ (v : Option Value) (B : Pt), Stand p l e R s m sargs below meth c B.U B.locs B.cells B.slots ∧ Post A a v B ∧
      Steps p.tables e below (doInvoke e (A.U.setTop g) [] mk a).1 (B.U.setTop { g with pc := g.pc + len, stack := v.toList ++ g.stack })) ∨
    (∃ (q : Addr) (B : Pt), Stand p l e R s m sargs below meth c B.U B.locs B.cells B.slots ∧ PostX A a q B ∧
      Steps p.tables e below (doInvoke e (A.U.setTop g) [] mk a).1 ((B.U.setTop g).pushFrame (.throwing q)))
section Payer
variable {l : Launch} {R : Room} {p : Program} {e : Env} {below : List Frame} {s : State} {sargs : Array Value} {y : MethodName} {len W9 : Nat}
theorem vx_back {ws : List Cond} {rm : Room} {Pc : Array Value → State → Prop} {Qc : Array Value → State → Outcome → State → Prop} {XC : String → State → State → Prop} {mc ms : Nat} {free : Addr → Prop} {bytes : ByteArray} {maxL : Nat} {ret : Option FieldType}
    (hM : vx_Met l y ws rm Pc Qc XC mc ms free) (hblind : FrameBlind Pc) (hrc : rm.cells = mc) (hrs : rm.slots = ms)
    (hframes : rm.frames + 1 ≤ R.frames) (hlocals : W9 + (maxL + 11) + rm.locals ≤ R.locals)
    (hws : ∀ w ∈ ws, ∀ a' U, s.WarmedH U.vm → w.before a' U = true) (hcode : Cond.code y bytes maxL ret ∈ ws) (hinit : ∀ a' U, s.WarmedH U.vm → (Cond.initialized y.cls).before a' U = true) :
    vx_Back l R p e below s sargs y len W9 (PreOf R mc ms Pc) (PostOf Qc mc ms free) (vx_Post XC mc ms free) := by
  intro m meth c A g ig mk a X hg hsize hdg hW hn hp
  have h1 : (headSpec ws rm).pre.before a A.U = true := atoms_intro fun w hw => hws w hw _ _ X.warmed
  have h2 : (Cond.code y bytes maxL ret).before a A.U = true := hws _ hcode _ _ X.warmed
  have h3 : (Cond.initialized y.cls).before a A.U = true := hinit _ _ X.warmed
  have h4 : A.cells + (headSpec ws rm).room.cells ≤ R.cells := by rw [show (headSpec ws rm).room.cells = mc from hrc]; exact hp.1
  have h5 : A.slots + (headSpec ws rm).room.slots ≤ R.slots := by rw [show (headSpec ws rm).room.slots = ms from hrs]; exact hp.2.1
  have hPc : Pc a (A.U.calling g mk a) := hblind _ _ _ _ hp.2.2
  obtain ⟨U, Ls, c0, s0⟩ := A
  dsimp only [Pt.U, Pt.locs, Pt.cells, Pt.slots] at h1 h2 h3 h4 h5 X hn hPc ⊢
  obtain ⟨methY, cY, hmY, hcY, -, hlY, -, -, -, -⟩ := Cond.code_spec hn h2
  obtain ⟨kY, hkY, -⟩ := className_of_methodNamed hn
  have hinitY : kY.init = .initialized := Cond.initialized_spec (findClass_of_methodNamed hn) hkY h3
  have h : At U g.method c below := by rw [hg]; exact X.here
  have hlocals9 : W9 + (maxL + 11) + (headSpec ws rm).room.locals ≤ R.locals := hlocals
  have happ : (headSpec ws rm).appliesLoose y e.platform (U.calling g mk a) = true :=
    Spec.appliesLoose_calling (g := g) h hdg hn hkY hinitY
      (X.room_calling (g := g) (R' := (headSpec ws rm).room) hsize hmY hcY hframes (by rw [hlY]; omega) h4 h5) h1
  obtain ⟨mid, hmid⟩ := h.above
  have hfr : (U.setTop g).frames = (.java g :: mid) ++ below := by rw [State.frames_setTop' g h.top, hmid]; rfl
  obtain ⟨o, s₂, hsteps, -, hend, hq⟩ := Steps.callFree hM p X.admits X.cas X.clock (acts := []) hfr happ hPc trivial
  have hq' : vx_Q Qc XC mc ms free a (U.calling g mk a) o s₂ := hq
  rw [State.frames_setTop' g h.top] at hend
  obtain ⟨g₀, hg0⟩ := Option.isSome_iff_exists.mp h.top
  obtain ⟨r, hr⟩ := State.topJava?_eq_some.mp hg0
  have hr' : (({ U with heap := s₂.heap, slotsUsed := s₂.slotsUsed } : State).setVm s₂.vm).frames = .java g₀ :: r := hr
  rcases hq' with ⟨hqc, L, hfe, hL⟩ | ⟨q, rfl, E, ce, L, hx, hce, hcv, hcl, hW₂, hsm, hL⟩
  · obtain ⟨⟨v, rfl⟩, hW₂, e2, q2, q3, q4, q5, q6⟩ := id hfe
    have e3 : s₂ = ({ (U.calling g mk a).setFrames s₂.frames with heap := s₂.heap, slotsUsed := s₂.slotsUsed } : State).setVm s₂.vm := by
      have : s₂ = ({ s₂ with vm := (U.calling g mk a).vm } : State).setVm s₂.vm := rfl
      rw [e2] at this
      exact this
    obtain ⟨c₂, i₂, len₂, hc₂, hd₂, hf₂⟩ := hend
    have hW' : U.WarmedH s₂.vm := hW₂
    have hcc : c₂ = c := by
      have h1 : s₂.code? g.method = U.code? g.method := by
        rw [State.code?_eq, State.code?_eq, hW'.alike.method?]
      exact Option.some.inj (hc₂.symm.trans (h1.trans h.code))
    subst hcc
    have hlen : len₂ = len := by rw [hdg] at hd₂; cases hd₂; rfl
    subst hlen
    have hs₂ : s₂ = (({ U with heap := s₂.heap, slotsUsed := s₂.slotsUsed } : State).setVm s₂.vm).setTop { g with pc := g.pc + len₂, stack := v.toList ++ g.stack } := by
      refine e3.trans ?_
      rw [hf₂, State.calling_eq h.top, State.setFrames_setFrames, State.setTop_of_frames _ hr', hr]
      rfl
    have hsame : U.sameButNew ({ U with heap := s₂.heap, slotsUsed := s₂.slotsUsed } : State) L mc ms := by
      refine ⟨?_, q2, q3, q4, q5, q6⟩
      obtain ⟨t, ht, -⟩ := State.frames_cons hr
      show ({ U with heap := s₂.heap, slotsUsed := s₂.slotsUsed } : State) = { U.setFrames U.frames with heap := s₂.heap, slotsUsed := s₂.slotsUsed }
      rw [State.setFrames_self ht]
    subst hg
    refine Or.inl ⟨v, ⟨(({ U with heap := s₂.heap, slotsUsed := s₂.slotsUsed } : State).setVm s₂.vm), Ls ++ L, c0 + mc, s0 + ms⟩,
      ⟨X.admits, X.cas, X.clock, X.frames, X.room, X.hears, X.method, X.code, (X.here.setHeapUsed s₂.heap s₂.slotsUsed).setVm hW'.alike, X.tail, State.WarmedH.trans X.warmed hW', X.limits, X.bytes, X.same.trans (hsame.setVm s.vm)⟩,
      ⟨g, mk, s₂, L, rfl, rfl, hqc, rfl, hL, rfl, rfl⟩, ?_⟩
    show Steps p.tables e below _ ((({ U with heap := s₂.heap, slotsUsed := s₂.slotsUsed } : State).setVm s₂.vm).setTop { g with pc := g.pc + len₂, stack := v.toList ++ g.stack })
    rw [← hs₂]
    exact hsteps
  · obtain ⟨e2, q2, q3, q4, q5, q6⟩ := id hsm
    have e3 : s₂ = ({ (U.calling g mk a).setFrames s₂.frames with heap := s₂.heap, slotsUsed := s₂.slotsUsed } : State).setVm s₂.vm := by
      have : s₂ = ({ s₂ with vm := (U.calling g mk a).vm } : State).setVm s₂.vm := rfl
      rw [e2] at this
      exact this
    have hf₂ : s₂.frames = .throwing q :: .java g :: U.frames.tail := hend
    have hW' : U.WarmedH s₂.vm := hW₂
    have hs₂ : s₂ = ((({ U with heap := s₂.heap, slotsUsed := s₂.slotsUsed } : State).setVm s₂.vm).setTop g).pushFrame (.throwing q) := by
      refine e3.trans ?_
      rw [hf₂, State.calling_eq h.top, State.setFrames_setFrames, State.pushFrame, State.frames_setTop _ hr', State.setTop_of_frames _ hr', State.setFrames_setFrames, hr]
      rfl
    have hsame : U.sameButNew ({ U with heap := s₂.heap, slotsUsed := s₂.slotsUsed } : State) L mc ms := by
      refine ⟨?_, q2, q3, q4, q5, q6⟩
      obtain ⟨t, ht, -⟩ := State.frames_cons hr
      show ({ U with heap := s₂.heap, slotsUsed := s₂.slotsUsed } : State) = { U.setFrames U.frames with heap := s₂.heap, slotsUsed := s₂.slotsUsed }
      rw [State.setFrames_self ht]
    subst hg
    refine Or.inr ⟨q, ⟨(({ U with heap := s₂.heap, slotsUsed := s₂.slotsUsed } : State).setVm s₂.vm), Ls ++ L, c0 + mc, s0 + ms⟩,
      ⟨X.admits, X.cas, X.clock, X.frames, X.room, X.hears, X.method, X.code, (X.here.setHeapUsed s₂.heap s₂.slotsUsed).setVm hW'.alike, X.tail, State.WarmedH.trans X.warmed hW', X.limits, X.bytes, X.same.trans (hsame.setVm s.vm)⟩,
      ⟨g, mk, s₂, L, E, ce, rfl, rfl, hx, hce, hcv, hcl, rfl, hL, rfl, rfl⟩, ?_⟩
    show Steps p.tables e below _ (((({ U with heap := s₂.heap, slotsUsed := s₂.slotsUsed } : State).setVm s₂.vm).setTop g).pushFrame (.throwing q))
    rw [← hs₂]
    exact hsteps
end Payer
section Calls
variable {p : Program} {l : Launch} {e : Env} {R : Room} {s : State} {m : MethodId} {args : Array Value} {below : List Frame} {meth : Method} {c : Code} {T : State} {locs : List Loc} {cells slots : Nat}
theorem vx_callV (X : Stand p l e R s m args below meth c T locs cells slots) (hexec : p.tables.exec = Jvm.exec) {own C : String} {index : Nat} {y : MethodName} {bytes : ByteArray} {maxL : Nat} {ret : Option FieldType}
    (hown : s.vm.findClass own = some m.cls) (hlink : (Cond.methodLink own index y).before args s = true) (hinst : (Cond.instanceMethod y).before args s = true) (hsel : (Cond.selects C y y).before args s = true)
    (hcode : (Cond.code y bytes maxL ret).before args s = true) (hy : y.cls ≠ "java/lang/invoke/MethodHandle" ∧ y.cls ≠ "java/lang/invoke/VarHandle")
    {W9 : Nat} {Pre : Pt → Array Value → Prop} {Post : Pt → Array Value → Option Value → Pt → Prop} {PostX : Pt → Array Value → Addr → Pt → Prop} (hK : vx_Back l R p e below s args y 3 W9 Pre Post PostX)
    {b : Addr} {cellB : Cell} (hcell : T.heap[b]? = some cellB) (hobj : cellB.vm.isStatics = false) (hcls : s.vm.findClass C = some cellB.cls)
    {g : JFrame} (hg : g.method = m) (hsize : g.locals.size = c.maxLocals) {argsL rest : List Value} (hlen : ∀ sig, parseMethodDescriptor y.desc = some sig → argsL.length = sig.parameters.length)
    (hstack : g.stack = argsL.reverse ++ .ref b :: rest) (hW : 2 * g.monitorRoom + (rest.map fun v => v.category).sum ≤ W9) (hdg : decode c.code g.pc = .ok (.invokevirtual index, 3))
    (hpre : ∀ vm₁, s.WarmedH vm₁ → Pre ⟨T.setVm vm₁, locs, cells, slots⟩ (Value.ref b :: argsL).toArray) :
    (∃ (v : Option Value) (vm₁ : Vm) (B : Pt), s.WarmedH vm₁ ∧ Stand p l e R s m args below meth c B.U B.locs B.cells B.slots ∧ Post ⟨T.setVm vm₁, locs, cells, slots⟩ (Value.ref b :: argsL).toArray v B ∧
      ∀ target, Steps p.tables e below (B.U.setTop { g with pc := g.pc + 3, stack := v.toList ++ rest }) target → Steps p.tables e below (T.setTop g) target) ∨
    (∃ (q : Addr) (vm₁ : Vm) (B : Pt), s.WarmedH vm₁ ∧ Stand p l e R s m args below meth c B.U B.locs B.cells B.slots ∧ PostX ⟨T.setVm vm₁, locs, cells, slots⟩ (Value.ref b :: argsL).toArray q B ∧
      Steps p.tables e below (T.setTop g) ((B.U.setTop { g with stack := rest }).pushFrame (.throwing q))) := by
  obtain ⟨mk, methM, hnamed, hmethM, hstM, habM⟩ := Cond.instanceMethod_spec hinst
  obtain ⟨methM', cM, hmethM', -, -, -, -, -, -, hsigM⟩ := Cond.code_spec hnamed hcode
  cases hmethM.symm.trans hmethM'
  obtain ⟨c2, r2, m2, q1, q2, q3, q4, kP, hkP, hkPi⟩ := Cond.selects_spec hsel
  cases hcls.symm.trans q1
  cases (State.methodFound?_of_named hnamed hy).symm.trans q2
  cases hnamed.symm.trans q3
  have hselP : selectMethod e.platform s.vm cellB.cls mk = .method mk := by rw [Launch.admits_selectMethod X.admits]; exact q4
  obtain ⟨vm₁, X₁, hstep₁⟩ := X.invokevirtual hexec hown hlink hnamed hmethM hstM hkP hkPi hy (a := b) (cell := cellB) hcell
    (fun z h => by rw [h] at hobj; cases hobj) hselP hmethM habM hkP hkPi (g := g) hg (argsL := argsL) (rest := rest) (hlen _ hsigM) hstack hdg
  rcases hK m meth c ⟨T.setVm vm₁, locs, cells, slots⟩ { g with stack := rest } (.invokevirtual index) mk (Value.ref b :: argsL).toArray X₁ hg hsize hdg hW (X₁.named hnamed) (hpre vm₁ X₁.warmed) with ⟨v, B, X', hpost, hsteps⟩ | ⟨q, B, X', hpost, hsteps⟩
  · exact Or.inl ⟨v, vm₁, B, X₁.warmed, X', hpost, fun target h => hstep₁ _ fun acts => by rw [doInvoke_state]; exact hsteps.trans h⟩
  · exact Or.inr ⟨q, vm₁, B, X₁.warmed, X', hpost, hstep₁ _ fun acts => by rw [doInvoke_state]; exact hsteps⟩
theorem vx_callS (X : Stand p l e R s m args below meth c T locs cells slots) (hexec : p.tables.exec = Jvm.exec) {own : String} {index : Nat} {y : MethodName} {bytes : ByteArray} {maxL : Nat} {ret : Option FieldType}
    (hown : s.vm.findClass own = some m.cls) (hlink : (Cond.methodLink own index y).before args s = true) (hstat : (Cond.static y).before args s = true) (hinit : (Cond.initialized y.cls).before args s = true)
    (hcode : (Cond.code y bytes maxL ret).before args s = true) (hy : y.cls ≠ "java/lang/invoke/MethodHandle" ∧ y.cls ≠ "java/lang/invoke/VarHandle")
    {W9 : Nat} {Pre : Pt → Array Value → Prop} {Post : Pt → Array Value → Option Value → Pt → Prop} {PostX : Pt → Array Value → Addr → Pt → Prop} (hK : vx_Back l R p e below s args y 3 W9 Pre Post PostX)
    {g : JFrame} (hg : g.method = m) (hsize : g.locals.size = c.maxLocals) {argsL rest : List Value} (hlen : ∀ sig, parseMethodDescriptor y.desc = some sig → argsL.length = sig.parameters.length)
    (hstack : g.stack = argsL.reverse ++ rest) (hW : 2 * g.monitorRoom + (rest.map fun v => v.category).sum ≤ W9) (hdg : decode c.code g.pc = .ok (.invokestatic index, 3))
    (hpre : ∀ vm₁, s.WarmedH vm₁ → Pre ⟨T.setVm vm₁, locs, cells, slots⟩ argsL.toArray) :
    (∃ (v : Option Value) (vm₁ : Vm) (B : Pt), s.WarmedH vm₁ ∧ Stand p l e R s m args below meth c B.U B.locs B.cells B.slots ∧ Post ⟨T.setVm vm₁, locs, cells, slots⟩ argsL.toArray v B ∧
      ∀ target, Steps p.tables e below (B.U.setTop { g with pc := g.pc + 3, stack := v.toList ++ rest }) target → Steps p.tables e below (T.setTop g) target) ∨
    (∃ (q : Addr) (vm₁ : Vm) (B : Pt), s.WarmedH vm₁ ∧ Stand p l e R s m args below meth c B.U B.locs B.cells B.slots ∧ PostX ⟨T.setVm vm₁, locs, cells, slots⟩ argsL.toArray q B ∧
      Steps p.tables e below (T.setTop g) ((B.U.setTop { g with stack := rest }).pushFrame (.throwing q))) := by
  obtain ⟨mk, hnamed⟩ := Cond.code_named hcode
  obtain ⟨methM, cM, hmethM, -, -, -, -, -, -, hsigM⟩ := Cond.code_spec hnamed hcode
  have hstatic : methM.isStatic = true := Cond.static_spec hnamed hmethM hstat
  obtain ⟨kP, hkP, -⟩ := className_of_methodNamed hnamed
  have hinitP : kP.init = .initialized := Cond.initialized_spec (findClass_of_methodNamed hnamed) hkP hinit
  obtain ⟨vm₁, X₁, hstep₁⟩ := X.invokestatic hexec hown hlink hnamed hmethM hstatic hkP hinitP hy (g := g) hg (argsL := argsL) (rest := rest) (hlen _ hsigM) hstack hdg
  rcases hK m meth c ⟨T.setVm vm₁, locs, cells, slots⟩ { g with stack := rest } (.invokestatic index) mk argsL.toArray X₁ hg hsize hdg hW (X₁.named hnamed) (hpre vm₁ X₁.warmed) with ⟨v, B, X', hpost, hsteps⟩ | ⟨q, B, X', hpost, hsteps⟩
  · exact Or.inl ⟨v, vm₁, B, X₁.warmed, X', hpost, fun target h => hstep₁ _ fun acts => by rw [doInvoke_state]; exact hsteps.trans h⟩
  · exact Or.inr ⟨q, vm₁, B, X₁.warmed, X', hpost, hstep₁ _ fun acts => by rw [doInvoke_state]; exact hsteps⟩
end Calls
theorem vx_cls {s : State} {T : State} {vm₁ : Vm} {E : String} {k : ClassId} (hW : s.WarmedH vm₁) (h : (T.setVm vm₁).vm.findClass E = some k) : s.vm.findClass E = some k := by
  have h1 : vm₁.findClass E = some k := h
  rw [hW.alike.findClass] at h1
  exact h1
/-- the method's frame g, with q thrown over it -/
def vx_W (p : Program) (l : Launch) (e : Env) (R : Room) (s : State) (m : MethodId) (args : Array Value) (below : List Frame) (meth : Method) (c : Code) (H : Heap) (locs : List Loc) (cells slots : Nat) (Q : State → Prop) (g : JFrame) (q : Addr) : Prop :=
  ∀ T : State, T.heap = H → Stand p l e R s m args below meth c T locs cells slots → ∃ t, Steps p.tables e below ((T.setTop g).pushFrame (.throwing q)) t ∧ Q t
def vx_Run (p : Program) (l : Launch) (e : Env) (R : Room) (s : State) (m : MethodId) (args : Array Value) (below : List Frame) (meth : Method) (c : Code) (H : Heap) (locs : List Loc) (cells slots mc ms : Nat) (g : JFrame) (rest : List Value) (Qa : State → Outcome → State → Prop) (XC : String → State → State → Prop) (free : Addr → Prop) : Prop :=
  ∀ T : State, T.heap = H → Stand p l e R s m args below meth c T locs cells slots →
    (∃ (v : Option Value) (st₀ t T' : State) (L : List Loc), st₀.heap = H ∧ Stand p l e R s m args below meth c T' (locs ++ L) (cells + mc) (slots + ms) ∧ (∀ q ∈ L, free q.base) ∧ T'.heap = t.heap ∧ T'.vm = t.vm ∧ Qa st₀ (.returned v) t ∧
      Goes p e below T g T' { g with pc := g.pc + 3, stack := v.toList ++ rest }) ∨
    (∃ (q : Addr) (st₀ t T' : State) (L : List Loc) (E : String) (ce : Cell), st₀.heap = H ∧ Stand p l e R s m args below meth c T' (locs ++ L) (cells + mc) (slots + ms) ∧ (∀ z ∈ L, free z.base) ∧ T'.heap = t.heap ∧ T'.vm = t.vm ∧ XC E st₀ t ∧ t.heap[q]? = some ce ∧ ce.vm = .none ∧ s.vm.findClass E = some ce.cls ∧
      Steps p.tables e below (T.setTop g) ((T'.setTop { g with stack := rest }).pushFrame (.throwing q)))
def vx_X {S : Type} (px : S → Prop) (B : String → S → State → Prop) (A : Nat → Prop) : String → State → State → Prop := fun E st t => ∃ u : S, px u ∧ B E u t ∧ va_F A st t
section Runs
variable {p : Program} {l : Launch} {e : Env} {R : Room} {s : State} {m : MethodId} {args : Array Value} {below : List Frame} {meth : Method} {c : Code} {H : Heap} {locs : List Loc} {cells slots : Nat}
variable {y : MethodName} {bytes cc : ByteArray} {maxL nL mc ms n index : Nat} {ret : Option FieldType} {ws : List Cond} {rm : Room} {Pc : Array Value → State → Prop} {Qc : Array Value → State → Outcome → State → Prop} {XC : String → State → State → Prop} {free : Addr → Prop} {Ts : List Cond} {own C : String} {b : Addr} {As rest : List Value} {g : JFrame}
theorem vx_callBack (cb : CallB R s args own index y bytes maxL ret ws rm mc ms n) (hM : vx_Met l y ws rm Pc Qc XC mc ms free) (hbl : FrameBlind Pc) : vx_Back l R p e below s args y 3 8 (PreOf R mc ms Pc) (PostOf Qc mc ms free) (vx_Post XC mc ms free) := by
  obtain ⟨hrc, hrs, hfr, hlo, hws, hcw, -, hini, -⟩ := cb
  exact vx_back (bytes := bytes) (maxL := maxL) (ret := ret) hM hbl hrc hrs hfr hlo hws hcw (fun a' U hW => word_at hW (Or.inl (by first | rfl | simp [Cond.onTables, Cond.keeps, Cond.steady])) hini)
theorem vx_runV (S : CallFix p m c cc nL s args Ts own) (hM : vx_Met l y ws rm Pc Qc XC mc ms free) (cw : CallW R s args own C index y bytes maxL ret ws rm mc ms n) (hp : PreV s H C b Pc As)
    (hg : g.method = m) (hn : As.length = n) (hsize : g.locals.size = nL) (hstack : g.stack = As.reverse ++ .ref b :: rest) (hW : 2 * g.monitorRoom + (rest.map fun v => v.category).sum ≤ 8) (hdg : decode cc g.pc = .ok (.invokevirtual index, 3)) (hf : cells + mc ≤ R.cells ∧ slots + ms ≤ R.slots) :
    vx_Run p l e R s m args below meth c H locs cells slots mc ms g rest (Qc (Value.ref b :: As).toArray) XC free := by
  have hK : vx_Back l R p e below s args y 3 8 (PreOf R mc ms Pc) (PostOf Qc mc ms free) (vx_Post XC mc ms free) := vx_callBack cw.1 hM hp.1
  obtain ⟨⟨-, -, -, -, -, -, hcode, -, hy, hlen, hl⟩, hin, hse⟩ := cw
  obtain ⟨hx, hb, hml, ho, -⟩ := S
  obtain ⟨-, ⟨cellB, hcB, hoB, hclB⟩, hPc⟩ := hp
  intro T hT X
  rcases vx_callV X hx (C := C) (bytes := bytes) (maxL := maxL) (ret := ret) ho hl hin hse hcode hy hK (by rw [hT]; exact hcB) hoB hclB hg (hsize.trans hml.symm) (argsL := As) (rest := rest) (fun sig h => hn.trans (hlen sig h)) hstack hW (by rw [hb]; exact hdg)
    (fun vm₁ hW₁ => ⟨hf.1, hf.2, hPc (T.setVm vm₁) hT hW₁⟩) with ⟨v, vm₁, ⟨U', l2, c2, s2⟩, hW₁, X', ⟨g', mk, t, L, e1, e2, hq, h1, hL, h2, h3⟩, st⟩ | ⟨q, vm₁, ⟨U', l2, c2, s2⟩, hW₁, X', ⟨g', mk, t, L, E, ce, e1, e2, hq, hce, hcv, hcl, h1, hL, h2, h3⟩, st⟩
  · dsimp only [Pt.U, Pt.locs, Pt.cells, Pt.slots] at X' e1 e2 h1 h2 h3 st
    subst h1; subst h2; subst h3
    exact Or.inl ⟨v, (T.setVm vm₁).calling g' mk (Value.ref b :: As).toArray, t, U', L, hT, X', hL, e1, e2, hq, st⟩
  · dsimp only [Pt.U, Pt.locs, Pt.cells, Pt.slots] at X' e1 e2 h1 h2 h3 st hcl
    subst h1; subst h2; subst h3
    exact Or.inr ⟨q, (T.setVm vm₁).calling g' mk (Value.ref b :: As).toArray, t, U', L, E, ce, hT, X', hL, e1, e2, hq, hce, hcv, vx_cls hW₁ hcl, st⟩
theorem vx_runS (S : CallFix p m c cc nL s args Ts own) (hM : vx_Met l y ws rm Pc Qc XC mc ms free) (cw : CallB R s args own index y bytes maxL ret ws rm mc ms n ∧ (Cond.static y).before args s = true) (hp : PreS s H Pc As)
    (hg : g.method = m) (hn : As.length = n) (hsize : g.locals.size = nL) (hstack : g.stack = As.reverse ++ rest) (hW : 2 * g.monitorRoom + (rest.map fun v => v.category).sum ≤ 8) (hdg : decode cc g.pc = .ok (.invokestatic index, 3)) (hf : cells + mc ≤ R.cells ∧ slots + ms ≤ R.slots) :
    vx_Run p l e R s m args below meth c H locs cells slots mc ms g rest (Qc As.toArray) XC free := by
  have hK : vx_Back l R p e below s args y 3 8 (PreOf R mc ms Pc) (PostOf Qc mc ms free) (vx_Post XC mc ms free) := vx_callBack cw.1 hM hp.1
  obtain ⟨⟨-, -, -, -, -, -, hcode, hini, hy, hlen, hl⟩, hstt⟩ := cw
  obtain ⟨hx, hb, hml, ho, -⟩ := S
  intro T hT X
  rcases vx_callS X hx (bytes := bytes) (maxL := maxL) (ret := ret) ho hl hstt hini hcode hy hK hg (hsize.trans hml.symm) (argsL := As) (rest := rest) (fun sig h => hn.trans (hlen sig h)) hstack hW (by rw [hb]; exact hdg)
    (fun vm₁ hW₁ => ⟨hf.1, hf.2, hp.2 (T.setVm vm₁) hT hW₁⟩) with ⟨v, vm₁, ⟨U', l2, c2, s2⟩, hW₁, X', ⟨g', mk, t, L, e1, e2, hq, h1, hL, h2, h3⟩, st⟩ | ⟨q, vm₁, ⟨U', l2, c2, s2⟩, hW₁, X', ⟨g', mk, t, L, E, ce, e1, e2, hq, hce, hcv, hcl, h1, hL, h2, h3⟩, st⟩
  · dsimp only [Pt.U, Pt.locs, Pt.cells, Pt.slots] at X' e1 e2 h1 h2 h3 st
    subst h1; subst h2; subst h3
    exact Or.inl ⟨v, (T.setVm vm₁).calling g' mk As.toArray, t, U', L, hT, X', hL, e1, e2, hq, st⟩
  · dsimp only [Pt.U, Pt.locs, Pt.cells, Pt.slots] at X' e1 e2 h1 h2 h3 st hcl
    subst h1; subst h2; subst h3
    exact Or.inr ⟨q, (T.setVm vm₁).calling g' mk As.toArray, t, U', L, E, ce, hT, X', hL, e1, e2, hq, hce, hcv, vx_cls hW₁ hcl, st⟩
end Runs
section Rows
variable {p : Program} {l : Launch} {e : Env} {R : Room} {s : State} {m : MethodId} {args : Array Value} {below : List Frame} {meth : Method} {c : Code} {H : Heap} {locs : List Loc} {cells slots : Nat} {Q : State → Prop}
variable {mc ms : Nat} {free : Addr → Prop} {A0 A1 : Nat → Prop} {H0 : Heap} {a : Array Value} {pc : Nat} {ls : Array Slot} {st0 rest : List Value}
theorem vx_keep {st₀ t T' : State} {L : List Loc} (h0 : st₀.heap = H) (e1 : T'.heap = t.heap) (hS : va_S A0 H0 H locs) (hA : ∀ q, q < H.size → A1 q → A0 q) (hf : ∀ q, free q → A0 q) (hL : ∀ q ∈ L, free q.base) (hF : va_F A1 st₀ t) :
    H.size ≤ T'.heap.size ∧ (∀ q : Nat, q < H.size → ¬ A1 q → T'.heap[q]? = H[q]?) ∧ va_S A0 H0 T'.heap (locs ++ L) := by
  obtain ⟨hz, hk⟩ := hF
  rw [h0] at hz hk
  exact ⟨by rw [e1]; exact hz, fun q h1 h2 => by rw [e1]; exact hk q h1 h2,
    ⟨Nat.le_trans hS.1 (by rw [e1]; exact hz), fun q h1 h2 => by rw [e1, hk q (Nat.lt_of_lt_of_le h1 hS.1) (fun z => h2 (hA q (Nat.lt_of_lt_of_le h1 hS.1) z))]; exact hS.2.1 q h1 h2, fun q hq => by
      rcases List.mem_append.mp hq with h | h
      · exact hS.2.2 q h
      · exact hf _ (hL q h)⟩⟩
theorem vx_calli {S SX : Type} {post : Int32 → S → Prop} {px : SX → Prop} {B : S → State → Prop} {BX : String → SX → State → Prop} {AX : Nat → Prop} (hr : vx_Run p l e R s m args below meth c H locs cells slots mc ms (F0 m pc ls st0) rest (va_Qi post B A1 a) (vx_X px BX AX) free) (hS : va_S A0 H0 H locs) (hA : ∀ q, q < H.size → A1 q → A0 q) (hf : ∀ q, free q → A0 q) (hAX : ∀ q, q < H.size → AX q → A0 q)
    (kx : ∀ (E : String) (ce : Cell) (q9 : Addr) (u : SX) (t : State) (H1 : Heap) (locs1 : List Loc), t.heap = H1 → s.vm.Alike t.vm → px u → BX E u t → H.size ≤ H1.size → (∀ q : Nat, q < H.size → ¬ AX q → H1[q]? = H[q]?) → va_S A0 H0 H1 locs1 → H1[q9]? = some ce → ce.vm = .none → s.vm.findClass E = some ce.cls → vx_W p l e R s m args below meth c H1 locs1 (cells + mc) (slots + ms) Q (F0 m pc ls rest) q9)
    (kk : ∀ (r : Int32) (u : S) (t : State) (H1 : Heap) (locs1 : List Loc), t.heap = H1 → s.vm.Alike t.vm → post r u → B u t → H.size ≤ H1.size → (∀ q : Nat, q < H.size → ¬ A1 q → H1[q]? = H[q]?) → va_S A0 H0 H1 locs1 → W p l e R s m args below meth c H1 locs1 (cells + mc) (slots + ms) Q (F0 m (pc + 3) ls (.int r :: rest))) : W p l e R s m args below meth c H locs cells slots Q (F0 m pc ls st0) := by
  intro T hT X
  rcases hr T hT X with ⟨v, st₀, t, T', L, h0, X', hL, e1, e2, ⟨⟨r, u, hv, hp, hb⟩, hF⟩, st⟩ | ⟨q, st₀, t, T', L, E, ce, h0, X', hL, e1, e2, ⟨u, hp, hb, hF⟩, hce, hcv, hcl, st⟩
  · cases hv
    obtain ⟨k1, k2, k3⟩ := vx_keep h0 e1 hS hA hf hL hF
    obtain ⟨t2, a1, b1⟩ := kk r u t T'.heap (locs ++ L) e1.symm (by rw [← e2]; exact X'.warmed.alike) hp hb k1 k2 k3 T' rfl X'
    exact ⟨t2, st t2 a1, b1⟩
  · obtain ⟨k1, k2, k3⟩ := vx_keep h0 e1 hS hAX hf hL hF
    obtain ⟨t2, a1, b1⟩ := kx E ce q u t T'.heap (locs ++ L) e1.symm (by rw [← e2]; exact X'.warmed.alike) hp hb k1 k2 k3 (by rw [e1]; exact hce) hcv hcl T' rfl X'
    exact ⟨t2, st.trans a1, b1⟩
theorem vx_calll {S SX : Type} {post : Int64 → S → Prop} {px : SX → Prop} {B : S → State → Prop} {BX : String → SX → State → Prop} {AX : Nat → Prop} (hr : vx_Run p l e R s m args below meth c H locs cells slots mc ms (F0 m pc ls st0) rest (va_Ql post B A1 a) (vx_X px BX AX) free) (hS : va_S A0 H0 H locs) (hA : ∀ q, q < H.size → A1 q → A0 q) (hf : ∀ q, free q → A0 q) (hAX : ∀ q, q < H.size → AX q → A0 q)
    (kx : ∀ (E : String) (ce : Cell) (q9 : Addr) (u : SX) (t : State) (H1 : Heap) (locs1 : List Loc), t.heap = H1 → s.vm.Alike t.vm → px u → BX E u t → H.size ≤ H1.size → (∀ q : Nat, q < H.size → ¬ AX q → H1[q]? = H[q]?) → va_S A0 H0 H1 locs1 → H1[q9]? = some ce → ce.vm = .none → s.vm.findClass E = some ce.cls → vx_W p l e R s m args below meth c H1 locs1 (cells + mc) (slots + ms) Q (F0 m pc ls rest) q9)
    (kk : ∀ (r : Int64) (u : S) (t : State) (H1 : Heap) (locs1 : List Loc), t.heap = H1 → s.vm.Alike t.vm → post r u → B u t → H.size ≤ H1.size → (∀ q : Nat, q < H.size → ¬ A1 q → H1[q]? = H[q]?) → va_S A0 H0 H1 locs1 → W p l e R s m args below meth c H1 locs1 (cells + mc) (slots + ms) Q (F0 m (pc + 3) ls (.long r :: rest))) : W p l e R s m args below meth c H locs cells slots Q (F0 m pc ls st0) := by
  intro T hT X
  rcases hr T hT X with ⟨v, st₀, t, T', L, h0, X', hL, e1, e2, ⟨⟨r, u, hv, hp, hb⟩, hF⟩, st⟩ | ⟨q, st₀, t, T', L, E, ce, h0, X', hL, e1, e2, ⟨u, hp, hb, hF⟩, hce, hcv, hcl, st⟩
  · cases hv
    obtain ⟨k1, k2, k3⟩ := vx_keep h0 e1 hS hA hf hL hF
    obtain ⟨t2, a1, b1⟩ := kk r u t T'.heap (locs ++ L) e1.symm (by rw [← e2]; exact X'.warmed.alike) hp hb k1 k2 k3 T' rfl X'
    exact ⟨t2, st t2 a1, b1⟩
  · obtain ⟨k1, k2, k3⟩ := vx_keep h0 e1 hS hAX hf hL hF
    obtain ⟨t2, a1, b1⟩ := kx E ce q u t T'.heap (locs ++ L) e1.symm (by rw [← e2]; exact X'.warmed.alike) hp hb k1 k2 k3 (by rw [e1]; exact hce) hcv hcl T' rfl X'
    exact ⟨t2, st.trans a1, b1⟩
theorem vx_callf {S SX : Type} {post : UInt32 → S → Prop} {px : SX → Prop} {B : S → State → Prop} {BX : String → SX → State → Prop} {AX : Nat → Prop} (hr : vx_Run p l e R s m args below meth c H locs cells slots mc ms (F0 m pc ls st0) rest (va_Qf post B A1 a) (vx_X px BX AX) free) (hS : va_S A0 H0 H locs) (hA : ∀ q, q < H.size → A1 q → A0 q) (hf : ∀ q, free q → A0 q) (hAX : ∀ q, q < H.size → AX q → A0 q)
    (kx : ∀ (E : String) (ce : Cell) (q9 : Addr) (u : SX) (t : State) (H1 : Heap) (locs1 : List Loc), t.heap = H1 → s.vm.Alike t.vm → px u → BX E u t → H.size ≤ H1.size → (∀ q : Nat, q < H.size → ¬ AX q → H1[q]? = H[q]?) → va_S A0 H0 H1 locs1 → H1[q9]? = some ce → ce.vm = .none → s.vm.findClass E = some ce.cls → vx_W p l e R s m args below meth c H1 locs1 (cells + mc) (slots + ms) Q (F0 m pc ls rest) q9)
    (kk : ∀ (r : UInt32) (u : S) (t : State) (H1 : Heap) (locs1 : List Loc), t.heap = H1 → s.vm.Alike t.vm → post r u → B u t → H.size ≤ H1.size → (∀ q : Nat, q < H.size → ¬ A1 q → H1[q]? = H[q]?) → va_S A0 H0 H1 locs1 → W p l e R s m args below meth c H1 locs1 (cells + mc) (slots + ms) Q (F0 m (pc + 3) ls (.float r :: rest))) : W p l e R s m args below meth c H locs cells slots Q (F0 m pc ls st0) := by
  intro T hT X
  rcases hr T hT X with ⟨v, st₀, t, T', L, h0, X', hL, e1, e2, ⟨⟨r, u, hv, hp, hb⟩, hF⟩, st⟩ | ⟨q, st₀, t, T', L, E, ce, h0, X', hL, e1, e2, ⟨u, hp, hb, hF⟩, hce, hcv, hcl, st⟩
  · cases hv
    obtain ⟨k1, k2, k3⟩ := vx_keep h0 e1 hS hA hf hL hF
    obtain ⟨t2, a1, b1⟩ := kk r u t T'.heap (locs ++ L) e1.symm (by rw [← e2]; exact X'.warmed.alike) hp hb k1 k2 k3 T' rfl X'
    exact ⟨t2, st t2 a1, b1⟩
  · obtain ⟨k1, k2, k3⟩ := vx_keep h0 e1 hS hAX hf hL hF
    obtain ⟨t2, a1, b1⟩ := kx E ce q u t T'.heap (locs ++ L) e1.symm (by rw [← e2]; exact X'.warmed.alike) hp hb k1 k2 k3 (by rw [e1]; exact hce) hcv hcl T' rfl X'
    exact ⟨t2, st.trans a1, b1⟩
theorem vx_calld {S SX : Type} {post : UInt64 → S → Prop} {px : SX → Prop} {B : S → State → Prop} {BX : String → SX → State → Prop} {AX : Nat → Prop} (hr : vx_Run p l e R s m args below meth c H locs cells slots mc ms (F0 m pc ls st0) rest (va_Qd post B A1 a) (vx_X px BX AX) free) (hS : va_S A0 H0 H locs) (hA : ∀ q, q < H.size → A1 q → A0 q) (hf : ∀ q, free q → A0 q) (hAX : ∀ q, q < H.size → AX q → A0 q)
    (kx : ∀ (E : String) (ce : Cell) (q9 : Addr) (u : SX) (t : State) (H1 : Heap) (locs1 : List Loc), t.heap = H1 → s.vm.Alike t.vm → px u → BX E u t → H.size ≤ H1.size → (∀ q : Nat, q < H.size → ¬ AX q → H1[q]? = H[q]?) → va_S A0 H0 H1 locs1 → H1[q9]? = some ce → ce.vm = .none → s.vm.findClass E = some ce.cls → vx_W p l e R s m args below meth c H1 locs1 (cells + mc) (slots + ms) Q (F0 m pc ls rest) q9)
    (kk : ∀ (r : UInt64) (u : S) (t : State) (H1 : Heap) (locs1 : List Loc), t.heap = H1 → s.vm.Alike t.vm → post r u → B u t → H.size ≤ H1.size → (∀ q : Nat, q < H.size → ¬ A1 q → H1[q]? = H[q]?) → va_S A0 H0 H1 locs1 → W p l e R s m args below meth c H1 locs1 (cells + mc) (slots + ms) Q (F0 m (pc + 3) ls (.double r :: rest))) : W p l e R s m args below meth c H locs cells slots Q (F0 m pc ls st0) := by
  intro T hT X
  rcases hr T hT X with ⟨v, st₀, t, T', L, h0, X', hL, e1, e2, ⟨⟨r, u, hv, hp, hb⟩, hF⟩, st⟩ | ⟨q, st₀, t, T', L, E, ce, h0, X', hL, e1, e2, ⟨u, hp, hb, hF⟩, hce, hcv, hcl, st⟩
  · cases hv
    obtain ⟨k1, k2, k3⟩ := vx_keep h0 e1 hS hA hf hL hF
    obtain ⟨t2, a1, b1⟩ := kk r u t T'.heap (locs ++ L) e1.symm (by rw [← e2]; exact X'.warmed.alike) hp hb k1 k2 k3 T' rfl X'
    exact ⟨t2, st t2 a1, b1⟩
  · obtain ⟨k1, k2, k3⟩ := vx_keep h0 e1 hS hAX hf hL hF
    obtain ⟨t2, a1, b1⟩ := kx E ce q u t T'.heap (locs ++ L) e1.symm (by rw [← e2]; exact X'.warmed.alike) hp hb k1 k2 k3 (by rw [e1]; exact hce) hcv hcl T' rfl X'
    exact ⟨t2, st.trans a1, b1⟩
theorem vx_callv {S SX : Type} {post : S → Prop} {px : SX → Prop} {B : S → State → Prop} {BX : String → SX → State → Prop} {AX : Nat → Prop} (hr : vx_Run p l e R s m args below meth c H locs cells slots mc ms (F0 m pc ls st0) rest (va_Qv post B A1 a) (vx_X px BX AX) free) (hS : va_S A0 H0 H locs) (hA : ∀ q, q < H.size → A1 q → A0 q) (hf : ∀ q, free q → A0 q) (hAX : ∀ q, q < H.size → AX q → A0 q)
    (kx : ∀ (E : String) (ce : Cell) (q9 : Addr) (u : SX) (t : State) (H1 : Heap) (locs1 : List Loc), t.heap = H1 → s.vm.Alike t.vm → px u → BX E u t → H.size ≤ H1.size → (∀ q : Nat, q < H.size → ¬ AX q → H1[q]? = H[q]?) → va_S A0 H0 H1 locs1 → H1[q9]? = some ce → ce.vm = .none → s.vm.findClass E = some ce.cls → vx_W p l e R s m args below meth c H1 locs1 (cells + mc) (slots + ms) Q (F0 m pc ls rest) q9)
    (kk : ∀ (u : S) (t : State) (H1 : Heap) (locs1 : List Loc), t.heap = H1 → s.vm.Alike t.vm → post u → B u t → H.size ≤ H1.size → (∀ q : Nat, q < H.size → ¬ A1 q → H1[q]? = H[q]?) → va_S A0 H0 H1 locs1 → W p l e R s m args below meth c H1 locs1 (cells + mc) (slots + ms) Q (F0 m (pc + 3) ls (rest))) : W p l e R s m args below meth c H locs cells slots Q (F0 m pc ls st0) := by
  intro T hT X
  rcases hr T hT X with ⟨v, st₀, t, T', L, h0, X', hL, e1, e2, ⟨⟨u, hv, hp, hb⟩, hF⟩, st⟩ | ⟨q, st₀, t, T', L, E, ce, h0, X', hL, e1, e2, ⟨u, hp, hb, hF⟩, hce, hcv, hcl, st⟩
  · cases hv
    obtain ⟨k1, k2, k3⟩ := vx_keep h0 e1 hS hA hf hL hF
    obtain ⟨t2, a1, b1⟩ := kk u t T'.heap (locs ++ L) e1.symm (by rw [← e2]; exact X'.warmed.alike) hp hb k1 k2 k3 T' rfl X'
    exact ⟨t2, st t2 a1, b1⟩
  · obtain ⟨k1, k2, k3⟩ := vx_keep h0 e1 hS hAX hf hL hF
    obtain ⟨t2, a1, b1⟩ := kx E ce q u t T'.heap (locs ++ L) e1.symm (by rw [← e2]; exact X'.warmed.alike) hp hb k1 k2 k3 (by rw [e1]; exact hce) hcv hcl T' rfl X'
    exact ⟨t2, st.trans a1, b1⟩
/-- caught by the row x of this method's table; the rows ahead don't take it -/
theorem vx_catch {own name : String} {E : String} {ce : Cell} {q : Addr} (hown : s.vm.findClass own = some m.cls) (pre : List ExceptionTableEntry) (x : ExceptionTableEntry) (suf : List ExceptionTableEntry) (hsplit : c.exceptionTable.toList = pre ++ x :: suf)
    (hpass : ∀ z ∈ pre, covers z pc = false ∨ (z.catchType ≠ 0 ∧ ∃ nm : String, (Cond.classLink own z.catchType nm).before args s = true ∧ va_Nc E nm s)) (hx : covers x pc = true) (h0 : x.catchType ≠ 0)
    (hlink : (Cond.classLink own x.catchType name).before args s = true) (hcast : (Cond.castable E name).before args s = true) (hcell : H[q]? = some ce) (hv : ce.vm = .none) (hcl : s.vm.findClass E = some ce.cls)
    (kk : W p l e R s m args below meth c H locs cells slots Q (F0 m x.handlerPc ls [.ref q])) : vx_W p l e R s m args below meth c H locs cells slots Q (F0 m pc ls rest) q := by
  intro T hT X
  have hpl : e.platform.magicAccessors = ({} : Platform).magicAccessors := by rw [X.admits.platform]
  obtain ⟨c3, c4, hc3, hc4, hasg⟩ := Cond.castable_spec hcast
  cases Option.some.inj (hc3.symm.trans hcl)
  obtain ⟨c5, hc5, hcl5⟩ := Cond.classLink_spec hown hlink e.platform hpl
  cases Option.some.inj (hc4.symm.trans hc5)
  obtain ⟨vm', X', st⟩ := X.thenCaughtThrough q (g := F0 m pc ls rest) rfl (Steps.refl _) (by rw [hT]; exact hcell) (by rw [hv]; rfl) (by obtain ⟨k9, h9, -⟩ := Vm.findClass_spec hcl; exact ⟨k9, h9⟩) pre x suf hsplit
    (fun z hz => by
      rcases hpass z hz with h | ⟨hz0, nm, hl1, hn1⟩
      · exact Or.inl h
      · obtain ⟨c6, hc6, hcl6⟩ := Cond.classLink_spec hown hl1 e.platform hpl
        obtain ⟨a8, b8, h1, h2, h3⟩ := hn1
        cases Option.some.inj (h1.symm.trans hcl)
        cases Option.some.inj (h2.symm.trans hc6)
        exact Or.inr ⟨hz0, _, hcl6, h3⟩) hx (Or.inr ⟨h0, c4, hcl5, hasg⟩)
  obtain ⟨t, a1, b1⟩ := kk (T.setVm vm') hT X'
  exact ⟨t, st.trans a1, b1⟩
end Rows
section Ends
variable {p : Program} {l : Launch} {e : Env} {R : Room} {s : State} {m : MethodId} {args : Array Value} {below : List Frame} {meth : Method} {c : Code} {H : Heap} {locs : List Loc} {cells slots : Nat} {Q : State → Prop}
variable {mc ms : Nat} {free : Addr → Prop} {A0 A1 : Nat → Prop} {H0 : Heap} {a : Array Value} {ls : Array Slot} {st0 rest : List Value}
variable {Qc : Array Value → State → Outcome → State → Prop} {XC : String → State → State → Prop}
/-- what a body that may throw owes at its end -/
def vx_MQ (below : List Frame) (Qc : Array Value → State → Outcome → State → Prop) (XC : String → State → State → Prop) (a : Array Value) (s : State) (mc ms : Nat) (free : Addr → Prop) : State → Prop := fun t =>
  ∃ o, t.status = .running ∧ Ended t below o ∧ vx_Q Qc XC mc ms free a s o t
theorem vx_ret {g : JFrame} {mc ms : Nat} (k : W p l e R s m args below meth c H locs cells slots (MQ below Qc args s mc ms free) g) : W p l e R s m args below meth c H locs cells slots (vx_MQ below Qc XC args s mc ms free) g := by
  intro T hT X
  obtain ⟨t, a1, o, b1, b2, b3, b4⟩ := k T hT X
  exact ⟨t, a1, o, b1, b2, Or.inl ⟨b3, b4⟩⟩
/-- not caught here: it goes on to the caller -/
theorem vx_widen {g : JFrame} {q : Addr} {k n : Nat} (h1 : cells ≤ k) (h2 : slots ≤ n) (kk : vx_W p l e R s m args below meth c H locs k n Q g q) : vx_W p l e R s m args below meth c H locs cells slots Q g q := fun T hT X => kk T hT (stand_widen X h1 h2)
theorem vx_out {pc : Nat} {E : String} {ce : Cell} {q : Addr} {mc ms : Nat} (hout : ∀ x ∈ c.exceptionTable.toList, covers x pc = false) (hlocks : meth.locks = false) (hcell : H[q]? = some ce) (hv : ce.vm = .none) (hcl : s.vm.findClass E = some ce.cls)
    (hx : ∀ t : State, t.heap = H → s.vm.Alike t.vm → XC E s t) (hf : ∀ z ∈ locs, free z.base) (hc : cells ≤ mc) (hs : slots ≤ ms) :
    vx_W p l e R s m args below meth c H locs cells slots (vx_MQ below Qc XC args s mc ms free) (F0 m pc ls rest) q := by
  intro T hT X
  obtain ⟨st1, hrun, hend, hW, hsm⟩ := X.leaveThrown q (g := F0 m pc ls rest) rfl rfl rfl hout hlocks
  have hcell9 : (T.setFrames (.throwing q :: below)).heap[q]? = some ce := by
    show T.heap[q]? = some ce
    rw [hT]; exact hcell
  exact ⟨_, st1, .threw q, hrun, hend, Or.inr ⟨q, rfl, E, ce, locs, hx _ hT hW.alike, hcell9, hv, hcl, hW, hsm.mono hc hs, hf⟩⟩
theorem vx_frame {U : State} {k n : Nat} (h : s.sameButNew ({ U with vm := s.vm } : State) locs k n) : s.heap.size ≤ U.heap.size ∧ ∀ q : Nat, q < s.heap.size → (∀ z ∈ locs, z.base ≠ q) → U.heap[q]? = s.heap[q]? := by
  obtain ⟨-, h2, -, -, -, h6⟩ := h
  refine ⟨h2, fun q hq hz => ?_⟩
  obtain ⟨c9, e1, e2, e3, e4⟩ := h6 q _ (Array.getElem?_eq_getElem hq)
  have hs : c9.slots = (s.heap[q]).slots := Array.ext_getElem? fun i => e4 i fun hm => hz _ hm rfl
  have h9 : c9 = s.heap[q] := by
    rw [hs] at e2
    exact e2
  have e5 : U.heap[q]? = some c9 := e1
  rw [e5, h9, Array.getElem?_eq_getElem hq]
/-- the words of a throw but the four that speak of the heap -/
def vx_no (w : Cond) : Bool := decide (w ≠ .isRef (.static Bundle.tN "UNASSIGNED_STACK" Bundle.steD)) && decide (w ≠ .isRef (.static Bundle.tN "SUPPRESSED_SENTINEL" Bundle.listD)) && decide (w ≠ .laysStatic Bundle.tN "UNASSIGNED_STACK" Bundle.steD) && decide (w ≠ .laysStatic Bundle.tN "SUPPRESSED_SENTINEL" Bundle.listD)
def vx_at0 (own : String) (ic : Nat) (X : String) (names : List String) : List Cond := (Bundle.ownAtoms0 own ic X names).filter vx_no
def vx_atS (own : String) (ic : Nat) (X : String) (names : List String) : List Cond := (Bundle.ownAtoms own ic X names).filter vx_no
/-- a word that the tables alone decide, or a good one -/
def vx_ot (w : Cond) : Bool := w.onTables || goodWord w
theorem vx_ot_at {args a' : Array Value} {s U : State} {w : Cond} (hW : s.WarmedH U.vm) (hvm : s.vm = U.vm) (hg : vx_ot w = true) (h : w.before args s = true) : w.before a' U = true := by
  simp only [vx_ot, Bool.or_eq_true] at hg
  rcases hg with hg | hg
  · exact va_tabs hg hvm h
  · exact word_at hW (good_of_word hg) h
/-- a list's words: the good ones out of the method's own list, the others by premises of their own -/
theorem vx_hat {args : Array Value} {s : State} {L B : List Cond} (h1 : ∀ w ∈ L.filter goodWord, w.before args s = true) (h2 : ∀ w ∈ L.filter (fun w => !goodWord w), w ∈ B) (h3 : ∀ w ∈ B, w.before args s = true) : ∀ w ∈ L, w.before args s = true := by
  intro w hw
  by_cases g : goodWord w = true
  · exact h1 w (List.mem_filter.mpr ⟨hw, g⟩)
  · refine h3 w (h2 w (List.mem_filter.mpr ⟨hw, ?_⟩))
    show (!goodWord w) = true
    cases hgw : goodWord w
    · rfl
    · exact absurd hgw g
theorem vx_c {args : Array Value} {s : State} {w : Cond} {B : List Cond} (h : w.before args s = true) (t : ∀ w ∈ B, w.before args s = true) : ∀ w' ∈ w :: B, w'.before args s = true := fun w' h' => (List.mem_cons.mp h').elim (fun e => by rw [e]; exact h) (t w')
theorem vx_n {args : Array Value} {s : State} : ∀ w ∈ ([] : List Cond), w.before args s = true := fun _ h => nomatch h
theorem vx_own {args : Array Value} {s : State} {L : List Cond} (h1 : ∀ w ∈ L.filter vx_no, w.before args s = true)
    (hU : (Cond.isRef (.static Bundle.tN "UNASSIGNED_STACK" Bundle.steD)).before args s = true) (hN : (Cond.isRef (.static Bundle.tN "SUPPRESSED_SENTINEL" Bundle.listD)).before args s = true)
    (lU : (Cond.laysStatic Bundle.tN "UNASSIGNED_STACK" Bundle.steD).before args s = true) (lN : (Cond.laysStatic Bundle.tN "SUPPRESSED_SENTINEL" Bundle.listD).before args s = true) : ∀ w ∈ L, w.before args s = true := by
  intro w hw
  by_cases e1 : w = .isRef (.static Bundle.tN "UNASSIGNED_STACK" Bundle.steD)
  · rw [e1]; exact hU
  · by_cases e2 : w = .isRef (.static Bundle.tN "SUPPRESSED_SENTINEL" Bundle.listD)
    · rw [e2]; exact hN
    · by_cases e3 : w = .laysStatic Bundle.tN "UNASSIGNED_STACK" Bundle.steD
      · rw [e3]; exact lU
      · by_cases e4 : w = .laysStatic Bundle.tN "SUPPRESSED_SENTINEL" Bundle.listD
        · rw [e4]; exact lN
        · exact h1 w (List.mem_filter.mpr ⟨hw, by unfold vx_no; rw [decide_eq_true e1, decide_eq_true e2, decide_eq_true e3, decide_eq_true e4]; rfl⟩)
/-- where a static field lies, its class's statics cell in H -/
def vx_L (C n d : String) (A : Nat → Prop) (U : State) (H : Heap) : Prop := ∃ (c : ClassId) (k : Class) (i : Nat) (f : Field) (a : Nat) (cell : Cell), U.vm.findClass C = some c ∧ U.fieldFound? C n d = some (c, k, i, f) ∧ f.isStatic = true ∧ k.statics = some a ∧ H[a]? = some cell ∧ cell.vm.isStatics = true ∧ cell.cls = c ∧ f.slot < cell.slots.size ∧ k.staticTypes[f.slot]? = some f.type ∧ ¬ A a
theorem vx_L.moved {C n d : String} {A : Nat → Prop} {u U : State} {H : Heap} (hvm : u.vm.Alike U.vm) (h : vx_L C n d A u H) : vx_L C n d A U H := by
  obtain ⟨c, k, i, f, a, cell, h1, h2, h3, h4, h5, h6, h7, h8, h9, h10⟩ := h
  obtain ⟨k', hi', he⟩ := State.fieldFound?_setVm hvm h2
  exact ⟨c, k', i, f, a, cell, by rw [hvm.findClass]; exact h1, hi', h3, by rw [he]; exact h4, h5, h6, h7, h8, by rw [he]; exact h9, h10⟩
theorem vx_L.kept {C n d : String} {A : Nat → Prop} {U : State} {H H1 : Heap} (h : vx_L C n d A U H) (hq : ∀ a : Nat, a < H.size → ¬ A a → H1[a]? = H[a]?) : vx_L C n d A U H1 := by
  obtain ⟨c, k, i, f, a, cell, h1, h2, h3, h4, h5, h6, h7, h8, h9, h10⟩ := h
  exact ⟨c, k, i, f, a, cell, h1, h2, h3, h4, by rw [hq a (Array.getElem?_eq_some_iff.mp h5).1 h10]; exact h5, h6, h7, h8, h9, h10⟩
theorem vx_L.narrow {C n d : String} {A B : Nat → Prop} {U : State} {H : Heap} (h : vx_L C n d A U H) (hAB : ∀ q, B q → A q) : vx_L C n d B U H := by
  obtain ⟨c, k, i, f, a, cell, h1, h2, h3, h4, h5, h6, h7, h8, h9, h10⟩ := h
  exact ⟨c, k, i, f, a, cell, h1, h2, h3, h4, h5, h6, h7, h8, h9, fun z => h10 (hAB _ z)⟩
theorem vx_L.word {C n d : String} {A : Nat → Prop} {s : State} {args : Array Value} (h : vx_L C n d A s s.heap) : (Cond.laysStatic C n d).before args s = true := by
  obtain ⟨c, k, i, f, a, cell, h1, h2, h3, h4, h5, h6, h7, h8, h9, -⟩ := h
  show (Cond.laysStatic C n d).holds args s none s [] = true
  exact Cond.laysStatic_of h1 h2 h3 h4 h5 h6 h7 h8 h9
/-- .. and what it holds: null or some reference -/
def vx_Zq (C n d : String) (A : Nat → Prop) (U : State) (H : Heap) : Prop := va_Zq C n d A U H ∧ vx_L C n d A U H
theorem vx_Zq.moved {C n d : String} {A : Nat → Prop} {u U : State} {H : Heap} (hvm : u.vm.Alike U.vm) (h : vx_Zq C n d A u H) : vx_Zq C n d A U H := ⟨va_Zq.moved hvm h.1, vx_L.moved hvm h.2⟩
theorem vx_Zq.kept {C n d : String} {A : Nat → Prop} {U : State} {H H1 : Heap} (h : vx_Zq C n d A U H) (hq : ∀ a : Nat, a < H.size → ¬ A a → H1[a]? = H[a]?) : vx_Zq C n d A U H1 := ⟨va_Zq.kept h.1 hq, vx_L.kept h.2 hq⟩
theorem vx_Zq.narrow {C n d : String} {A B : Nat → Prop} {U : State} {H : Heap} (h : vx_Zq C n d A U H) (hAB : ∀ q, B q → A q) : vx_Zq C n d B U H := ⟨va_Zq.narrow h.1 hAB, vx_L.narrow h.2 hAB⟩
theorem vx_Zqof {args : Array Value} {s : State} {C n d : String} {A : Nat → Prop} (hl : (Cond.laysStatic C n d).before args s = true) (hini : (Cond.initialized C).before args s = true) (h : (Cond.isRef (.static C n d)).before args s = true) (hA : ∀ a : Nat, a < s.heap.size → ¬ A a) : vx_Zq C n d A s s.heap := by
  refine ⟨va_Zqof hl hini h hA, ?_⟩
  obtain ⟨c, k, i, f, a, cell, h1, h2, h3, h4, h5, h6, h7, h8, h9⟩ := Cond.laysStatic_spec hl
  exact ⟨c, k, i, f, a, cell, h1, h2, h3, h4, h5, h6, h7, h8, h9, hA a (Array.getElem?_eq_some_iff.mp h5).1⟩
theorem vx_isRef {C n d : String} {v : Value} {A : Nat → Prop} {s : State} {args : Array Value} (h : va_Z C n d v A s s.heap) (hv : v.isRef = true) : (Cond.isRef (.static C n d)).before args s = true := by
  obtain ⟨cf, kf, fi, f, a, cell, h1, h2, h3, h4, h5, h6, h7, -⟩ := h
  have he : (Term.static C n d).eval args s none [] s = some v := by
    simp [Term.eval, State.fieldNamed?, h1, h2, h4, h5, h6, h7]
  simp only [Cond.before, Cond.holds, Cond.value, he]
  cases v <;> simp_all [Value.isRef]
theorem vx_isRefq {C n d : String} {A : Nat → Prop} {s : State} {args : Array Value} (h : va_Zq C n d A s s.heap) : (Cond.isRef (.static C n d)).before args s = true := by
  rcases h with h | ⟨t, h⟩
  · exact vx_isRef h rfl
  · exact vx_isRef h rfl
/-- the same frame, seen from here: as if the method were called anew in this heap -/
theorem vx_rebase {T : State} (X : Stand p l e R s m args below meth c T locs cells slots) {R' : Room} (hf : R'.frames ≤ R.frames) (hl : R'.locals ≤ R.locals) (hc : cells + R'.cells ≤ R.cells) (hs : slots + R'.slots ≤ R.slots) :
    Stand p l e R' ((T.setVm s.vm).setFrames (.invoking m args :: below)) m args below meth c T [] 0 0 := by
  have htop : (T.setVm s.vm).topJava?.isSome := X.here.top
  have hF : ((T.setVm s.vm).setFrames (.invoking m args :: below)).frames = .invoking m args :: below := State.frames_setFrames _ (State.cur_lt_of_top htop)
  obtain ⟨g₀, hg0⟩ := Option.isSome_iff_exists.mp htop
  obtain ⟨r, hr⟩ := State.topJava?_eq_some.mp hg0
  have hl9 : e.platform.stackLimits (T.setVm s.vm).me = e.platform.stackLimits s.me := X.limits
  have hb9 : (T.setVm s.vm).me.stackBytes = s.me.stackBytes := X.bytes
  refine ⟨X.admits, X.cas, X.clock, hF, ?_, X.hears, X.method, X.code, X.here, X.tail, X.warmed, ?_, ?_, ?_⟩
  · have h := X.room
    have hU : ((T.setVm s.vm).setFrames (.invoking m args :: below)).localsInUse = s.localsInUse := by
      rw [State.localsInUse_invoking hF (meth := meth) (c := c) X.method X.code, State.localsInUse_invoking X.frames X.method X.code]
    simp only [State.hasRoom, Bool.and_eq_true, decide_eq_true_eq] at h ⊢
    obtain ⟨⟨⟨⟨h1, h2, h3, h4, h5, h6⟩, h7⟩, h8⟩, h9⟩ := h
    rw [X.frames, List.length_cons] at h2 h3
    have q1 := X.heapSize
    have q2 := X.used
    simp only [hF, hU, List.length_cons, State.stackLimits_setFrames, State.stackBytes_setFrames, hl9, hb9]
    refine ⟨⟨⟨⟨by omega, by omega, by omega, by omega, by omega, h6⟩, ?_⟩, ?_⟩, X.book⟩
    · show T.heap.size + R'.cells ≤ e.platform.maxCells
      omega
    · show T.slotsUsed + R'.slots ≤ e.platform.maxSlots
      omega
  · rw [State.stackLimits_setFrames]; rfl
  · rw [State.stackBytes_setFrames]; rfl
  · refine ⟨?_, Nat.le_refl _, Nat.le_refl _, ?_, ?_, fun a c9 h9 => ⟨c9, h9, rfl, rfl, fun _ _ => rfl⟩⟩
    · obtain ⟨t, ht, -⟩ := State.frames_cons hr
      show T.setVm s.vm = { ((T.setVm s.vm).setFrames (.invoking m args :: below)).setFrames (T.setVm s.vm).frames with heap := T.heap, slotsUsed := T.slotsUsed }
      rw [State.setFrames_setFrames, State.setFrames_self ht]
      rfl
    · show T.slotsUsed = T.slotsUsed + ((T.heap.toList.drop T.heap.size).map (·.slots.size)).sum
      rw [List.drop_eq_nil_of_le (Nat.le_of_eq Array.length_toList)]
      rfl
    · show ((T.heap.toList.drop T.heap.size).map (·.slots.size)).sum ≤ 0
      rw [List.drop_eq_nil_of_le (Nat.le_of_eq Array.length_toList)]
      exact Nat.le_refl _
/-- 'throw new E()': new; dup; invokespecial; athrow -/
theorem vx_throw0 {cc : ByteArray} {pc : Nat} (hexec : p.tables.exec = Jvm.exec) (hb : c.code = cc) (hl : l.stackTraces = false) {own cls : String} {names : List String} {ik ic mc ms : Nat} {A : Nat → Prop}
    (hown : s.vm.findClass own = some m.cls) (hcls : Bundle.fit cls = true) (hnames : ∀ n ∈ names, Bundle.fit n = true)
    (hk : (Cond.classLink own ik cls).before args s = true) (hini : (Cond.initialized cls).before args s = true) (hat : ∀ w ∈ vx_at0 own ic cls names, w.before args s = true)
    (hgood : ∀ w ∈ Cond.classLink own ik cls :: Cond.initialized cls :: vx_at0 own ic cls names, vx_ot w = true)
    (hU : vx_Zq Bundle.tN "UNASSIGNED_STACK" Bundle.steD A s s.heap) (hN : vx_Zq Bundle.tN "SUPPRESSED_SENTINEL" Bundle.listD A s s.heap) (hS : va_S A s.heap H locs) (hsize : ls.size = c.maxLocals)
    (d0 : decode cc pc = .ok (.new ik, 3)) (d3 : decode cc (pc + 3) = .ok (.dup, 1)) (d4 : decode cc (pc + 4) = .ok (.invokespecial ic, 3)) (d7 : decode cc (pc + 7) = .ok (.athrow, 1))
    (hout : ∀ x ∈ c.exceptionTable.toList, covers x (pc + 7) = false)
    (hRframes : names.length + 3 < R.frames) (hRlocals : (rest.map fun v => v.category).sum + (13 * (names.length + 1) + 42) ≤ R.locals) (hRcells : cells + 1 ≤ R.cells) (hRslots : slots + 6 ≤ R.slots) (hlocks : meth.locks = false)
    (hx : ∀ t : State, s.vm.Alike t.vm → H.size ≤ t.heap.size → (∀ q : Nat, q < H.size → t.heap[q]? = H[q]?) → XC cls s t)
    (hf : ∀ z ∈ locs, free z.base) (hc : cells + 1 ≤ mc) (hs : slots + 6 ≤ ms) :
    W p l e R s m args below meth c H locs cells slots (vx_MQ below Qc XC args s mc ms free) (F0 m pc ls rest) := by
  intro T hT X
  have htr : e.platform.stackTraces = false := (show e.platform.stackTraces = l.stackTraces by rw [X.admits.platform]).trans hl
  have Y := vx_rebase X (R' := { frames := R.frames, locals := R.locals, cells := 1, slots := 6 }) (Nat.le_refl _) (Nat.le_refl _) hRcells hRslots
  obtain ⟨s', hA⟩ : ∃ z, z = (T.setVm s.vm).setFrames (.invoking m args :: below) := ⟨_, rfl⟩
  rw [← hA] at Y
  have hvm : s'.vm = s.vm := by rw [hA]; rfl
  have hhp : s'.heap = H := by rw [hA]; exact hT
  have hW0 : s.WarmedH s'.vm := by rw [hvm]; exact State.WarmedH.refl s
  have hat' : ∀ w ∈ vx_at0 own ic cls names, w.before args s' = true := fun w hw => vx_ot_at hW0 hvm.symm (hgood w (List.mem_cons_of_mem _ (List.mem_cons_of_mem _ hw))) (hat w hw)
  have hk' : (Cond.classLink own ik cls).before args s' = true := vx_ot_at hW0 hvm.symm (hgood _ List.mem_cons_self) hk
  have hini' : (Cond.initialized cls).before args s' = true := vx_ot_at hW0 hvm.symm (hgood _ (List.mem_cons_of_mem _ List.mem_cons_self)) hini
  have hU' : vx_Zq Bundle.tN "UNASSIGNED_STACK" Bundle.steD A s' s'.heap := by rw [hhp]; exact vx_Zq.moved hW0.alike (hU.kept hS.2.1)
  have hN' : vx_Zq Bundle.tN "SUPPRESSED_SENTINEL" Bundle.listD A s' s'.heap := by rw [hhp]; exact vx_Zq.moved hW0.alike (hN.kept hS.2.1)
  have h : ∀ w ∈ Bundle.ownAtoms0 own ic cls names, w.before args s' = true := vx_own hat' (vx_isRefq hU'.1) (vx_isRefq hN'.1) hU'.2.word hN'.2.word
  have hown' : s'.vm.findClass own = some m.cls := by rw [hvm]; exact hown
  have hins : (Cond.instantiable cls 6).before args s' = true := h _ (by simp [Bundle.ownAtoms0])
  obtain ⟨vm₁, cX, kX, hfX, hkX, -, -, X₁, st1⟩ := Y.newCold hexec (own := own) (C := cls) (index := ik) (n := 6) hown' hk' hins hini'
    (g := F0 m pc ls rest) rfl (by rw [hb]; exact d0) (Nat.le_refl _) (Nat.le_refl _)
  generalize hT1 : (T.setVm vm₁).pushCell { cls := cX, slots := kX.instanceTypes.map defaultValue, vm := .none } = T1 at X₁ st1
  have hcat : (Value.ref T.heap.size).category = 1 := rfl
  have hcellA : T1.heap[T.heap.size]? = some (freshCell cX kX) := by rw [← hT1]; exact State.heap_pushCell_size _ _
  have d3' : decode c.code (pc + 3) = .ok (.dup, 1) := by rw [hb]; exact d3
  obtain ⟨U, hsteps, hrun, hend, hW, hsame, ce, hce, hO⟩ := X₁.ctorThrow0 hexec htr (own := own) (cls := cls) (names := names) (ic := ic) hown' hcls hnames h (fun x hx => nomatch hx) hfX hkX hcellA (by rw [hhp, hT]; exact Nat.le_refl _)
    (g := { method := m, pc := pc + 4, locals := ls, stack := .ref T.heap.size :: .ref T.heap.size :: rest, locked := none }) rfl hsize rfl rfl (rest := rest) rfl
    (by rw [hb]; exact d4) (by rw [hb]; exact d7) hout hRframes (by simp only [List.map_cons, List.sum_cons, hcat]; omega) hlocks
  obtain ⟨f1, f2⟩ := vx_frame hsame
  rw [hhp] at f1 f2
  have hWs : s.WarmedH U.vm := State.WarmedH.trans hW0 hW
  have hcl : s.vm.findClass cls = some ce.cls := by
    have h9 := hO.cls
    rw [hvm] at h9
    exact h9
  have hall : s.sameButNew ({ U with vm := s.vm } : State) locs mc ms := by
    subst hA
    obtain ⟨e1, e2⟩ := hsame
    rw [State.setFrames_setFrames] at e1
    have h2 : (T.setVm s.vm).sameButNew ({ U with vm := s.vm } : State) [] (0 + 1) (0 + 6) := ⟨e1, e2⟩
    have h3 := X.same.trans h2
    rw [List.append_nil] at h3
    exact h3.mono hc hs
  refine ⟨U, ?_, .threw T.heap.size, hrun, hend, Or.inr ⟨T.heap.size, rfl, cls, ce, locs, hx U hWs.alike f1 (fun q hq => f2 q hq (fun z hz => nomatch hz)), hce, hO.vm, hcl, hWs, hall, hf⟩⟩
  refine st1 _ ?_
  show Steps p.tables e below (T1.setTop { method := m, pc := pc + 3, locals := ls, stack := .ref T.heap.size :: rest, locked := none }) _
  jvm_step X₁.here [X₁.here.top, hexec, d3', Value.category]
  exact hsteps
/-- 'throw new E("text")': new; dup; ldc; invokespecial; athrow -/
theorem vx_throwS {cc : ByteArray} {pc : Nat} (hexec : p.tables.exec = Jvm.exec) (hb : c.code = cc) (hl : l.stackTraces = false) {own cls text : String} {names : List String} {ik is ic mc ms sa : Nat} {A : Nat → Prop}
    (hown : s.vm.findClass own = some m.cls) (hcls : Bundle.fit cls = true) (hnames : ∀ n ∈ names, Bundle.fit n = true)
    (hk : (Cond.classLink own ik cls).before args s = true) (hini : (Cond.initialized cls).before args s = true) (hstr : vk_R own is text sa s) (hat : ∀ w ∈ vx_atS own ic cls names, w.before args s = true)
    (hgood : ∀ w ∈ Cond.classLink own ik cls :: Cond.initialized cls :: vx_atS own ic cls names, vx_ot w = true)
    (hU : vx_Zq Bundle.tN "UNASSIGNED_STACK" Bundle.steD A s s.heap) (hN : vx_Zq Bundle.tN "SUPPRESSED_SENTINEL" Bundle.listD A s s.heap) (hS : va_S A s.heap H locs) (hsize : ls.size = c.maxLocals)
    (d0 : decode cc pc = .ok (.new ik, 3)) (d3 : decode cc (pc + 3) = .ok (.dup, 1)) (d4 : decode cc (pc + 4) = .ok (.ldc is, 2)) (d6 : decode cc (pc + 6) = .ok (.invokespecial ic, 3)) (d9 : decode cc (pc + 9) = .ok (.athrow, 1))
    (hout : ∀ x ∈ c.exceptionTable.toList, covers x (pc + 9) = false)
    (hRframes : names.length + 3 < R.frames) (hRlocals : (rest.map fun v => v.category).sum + (13 * (names.length + 1) + 43) ≤ R.locals) (hRcells : cells + 1 ≤ R.cells) (hRslots : slots + 6 ≤ R.slots) (hlocks : meth.locks = false)
    (hx : ∀ t : State, s.vm.Alike t.vm → H.size ≤ t.heap.size → (∀ q : Nat, q < H.size → t.heap[q]? = H[q]?) → XC cls s t)
    (hf : ∀ z ∈ locs, free z.base) (hc : cells + 1 ≤ mc) (hs : slots + 6 ≤ ms) :
    W p l e R s m args below meth c H locs cells slots (vx_MQ below Qc XC args s mc ms free) (F0 m pc ls rest) := by
  intro T hT X
  have htr : e.platform.stackTraces = false := (show e.platform.stackTraces = l.stackTraces by rw [X.admits.platform]).trans hl
  have Y := vx_rebase X (R' := { frames := R.frames, locals := R.locals, cells := 1, slots := 6 }) (Nat.le_refl _) (Nat.le_refl _) hRcells hRslots
  obtain ⟨s', hA⟩ : ∃ z, z = (T.setVm s.vm).setFrames (.invoking m args :: below) := ⟨_, rfl⟩
  rw [← hA] at Y
  have hvm : s'.vm = s.vm := by rw [hA]; rfl
  have hhp : s'.heap = H := by rw [hA]; exact hT
  have hW0 : s.WarmedH s'.vm := by rw [hvm]; exact State.WarmedH.refl s
  have hat' : ∀ w ∈ vx_atS own ic cls names, w.before args s' = true := fun w hw => vx_ot_at hW0 hvm.symm (hgood w (List.mem_cons_of_mem _ (List.mem_cons_of_mem _ hw))) (hat w hw)
  have hk' : (Cond.classLink own ik cls).before args s' = true := vx_ot_at hW0 hvm.symm (hgood _ List.mem_cons_self) hk
  have hini' : (Cond.initialized cls).before args s' = true := vx_ot_at hW0 hvm.symm (hgood _ (List.mem_cons_of_mem _ List.mem_cons_self)) hini
  have hU' : vx_Zq Bundle.tN "UNASSIGNED_STACK" Bundle.steD A s' s'.heap := by rw [hhp]; exact vx_Zq.moved hW0.alike (hU.kept hS.2.1)
  have hN' : vx_Zq Bundle.tN "SUPPRESSED_SENTINEL" Bundle.listD A s' s'.heap := by rw [hhp]; exact vx_Zq.moved hW0.alike (hN.kept hS.2.1)
  have h : ∀ w ∈ Bundle.ownAtoms own ic cls names, w.before args s' = true := vx_own hat' (vx_isRefq hU'.1) (vx_isRefq hN'.1) hU'.2.word hN'.2.word
  have hown' : s'.vm.findClass own = some m.cls := by rw [hvm]; exact hown
  have hins : (Cond.instantiable cls 6).before args s' = true := h _ (by simp [Bundle.ownAtoms])
  obtain ⟨vm₁, cX, kX, hfX, hkX, -, -, X₁, st1⟩ := Y.newCold hexec (own := own) (C := cls) (index := ik) (n := 6) hown' hk' hins hini'
    (g := F0 m pc ls rest) rfl (by rw [hb]; exact d0) (Nat.le_refl _) (Nat.le_refl _)
  generalize hT1 : (T.setVm vm₁).pushCell { cls := cX, slots := kX.instanceTypes.map defaultValue, vm := .none } = T1 at X₁ st1
  have hcat : (Value.ref T.heap.size).category = 1 := rfl
  have hcellA : T1.heap[T.heap.size]? = some (freshCell cX kX) := by rw [← hT1]; exact State.heap_pushCell_size _ _
  have d3' : decode c.code (pc + 3) = .ok (.dup, 1) := by rw [hb]; exact d3
  have d4' : decode c.code (pc + 4) = .ok (.ldc is, 2) := by rw [hb]; exact d4
  have hstr' : vk_R own is text sa s' := vk_R.warm hW0 hstr
  obtain ⟨U, hsteps, hrun, hend, hW, hsame, ce, hce, hO⟩ := X₁.ctorThrowS hexec htr (own := own) (cls := cls) (names := names) (ic := ic) hown' hcls hnames h (fun x hx => nomatch hx) hfX hkX hcellA (by rw [hhp, hT]; exact Nat.le_refl _) (msg := .ref sa) rfl
    (g := { method := m, pc := pc + 6, locals := ls, stack := .ref sa :: .ref T.heap.size :: .ref T.heap.size :: rest, locked := none }) rfl hsize rfl rfl (rest := rest) rfl
    (by rw [hb]; exact d6) (by rw [hb]; exact d9) hout hRframes (by simp only [List.map_cons, List.sum_cons, hcat]; omega) hlocks
  obtain ⟨f1, f2⟩ := vx_frame hsame
  rw [hhp] at f1 f2
  have hWs : s.WarmedH U.vm := State.WarmedH.trans hW0 hW
  have hcl : s.vm.findClass cls = some ce.cls := by
    have h9 := hO.cls
    rw [hvm] at h9
    exact h9
  have hall : s.sameButNew ({ U with vm := s.vm } : State) locs mc ms := by
    subst hA
    obtain ⟨e1, e2⟩ := hsame
    rw [State.setFrames_setFrames] at e1
    have h2 : (T.setVm s.vm).sameButNew ({ U with vm := s.vm } : State) [] (0 + 1) (0 + 6) := ⟨e1, e2⟩
    have h3 := X.same.trans h2
    rw [List.append_nil] at h3
    exact h3.mono hc hs
  refine ⟨U, ?_, .threw T.heap.size, hrun, hend, Or.inr ⟨T.heap.size, rfl, cls, ce, locs, hx U hWs.alike f1 (fun q hq => f2 q hq (fun z hz => nomatch hz)), hce, hO.vm, hcl, hWs, hall, hf⟩⟩
  refine st1 _ ?_
  show Steps p.tables e below (T1.setTop { method := m, pc := pc + 3, locals := ls, stack := .ref T.heap.size :: rest, locked := none }) _
  jvm_step X₁.here [X₁.here.top, hexec, d3', Value.category]
  exact X₁.ldcString hexec (own := own) (text := text) (index := is) (a := sa) hown' hstr'.1 hstr'.2
    (g := { method := m, pc := pc + 4, locals := ls, stack := .ref T.heap.size :: .ref T.heap.size :: rest, locked := none }) rfl d4' _ hsteps
/-- 'throw new E("text")', the text by a wide index -/
theorem vx_throwSW {cc : ByteArray} {pc : Nat} (hexec : p.tables.exec = Jvm.exec) (hb : c.code = cc) (hl : l.stackTraces = false) {own cls text : String} {names : List String} {ik is ic mc ms sa : Nat} {A : Nat → Prop}
    (hown : s.vm.findClass own = some m.cls) (hcls : Bundle.fit cls = true) (hnames : ∀ n ∈ names, Bundle.fit n = true)
    (hk : (Cond.classLink own ik cls).before args s = true) (hini : (Cond.initialized cls).before args s = true) (hstr : vk_R own is text sa s) (hat : ∀ w ∈ vx_atS own ic cls names, w.before args s = true)
    (hgood : ∀ w ∈ Cond.classLink own ik cls :: Cond.initialized cls :: vx_atS own ic cls names, vx_ot w = true)
    (hU : vx_Zq Bundle.tN "UNASSIGNED_STACK" Bundle.steD A s s.heap) (hN : vx_Zq Bundle.tN "SUPPRESSED_SENTINEL" Bundle.listD A s s.heap) (hS : va_S A s.heap H locs) (hsize : ls.size = c.maxLocals)
    (d0 : decode cc pc = .ok (.new ik, 3)) (d3 : decode cc (pc + 3) = .ok (.dup, 1)) (d4 : decode cc (pc + 4) = .ok (.ldc_w is, 3)) (d7 : decode cc (pc + 7) = .ok (.invokespecial ic, 3)) (d10 : decode cc (pc + 10) = .ok (.athrow, 1))
    (hout : ∀ x ∈ c.exceptionTable.toList, covers x (pc + 10) = false)
    (hRframes : names.length + 3 < R.frames) (hRlocals : (rest.map fun v => v.category).sum + (13 * (names.length + 1) + 43) ≤ R.locals) (hRcells : cells + 1 ≤ R.cells) (hRslots : slots + 6 ≤ R.slots) (hlocks : meth.locks = false)
    (hx : ∀ t : State, s.vm.Alike t.vm → H.size ≤ t.heap.size → (∀ q : Nat, q < H.size → t.heap[q]? = H[q]?) → XC cls s t)
    (hf : ∀ z ∈ locs, free z.base) (hc : cells + 1 ≤ mc) (hs : slots + 6 ≤ ms) :
    W p l e R s m args below meth c H locs cells slots (vx_MQ below Qc XC args s mc ms free) (F0 m pc ls rest) := by
  intro T hT X
  have htr : e.platform.stackTraces = false := (show e.platform.stackTraces = l.stackTraces by rw [X.admits.platform]).trans hl
  have Y := vx_rebase X (R' := { frames := R.frames, locals := R.locals, cells := 1, slots := 6 }) (Nat.le_refl _) (Nat.le_refl _) hRcells hRslots
  obtain ⟨s', hA⟩ : ∃ z, z = (T.setVm s.vm).setFrames (.invoking m args :: below) := ⟨_, rfl⟩
  rw [← hA] at Y
  have hvm : s'.vm = s.vm := by rw [hA]; rfl
  have hhp : s'.heap = H := by rw [hA]; exact hT
  have hW0 : s.WarmedH s'.vm := by rw [hvm]; exact State.WarmedH.refl s
  have hat' : ∀ w ∈ vx_atS own ic cls names, w.before args s' = true := fun w hw => vx_ot_at hW0 hvm.symm (hgood w (List.mem_cons_of_mem _ (List.mem_cons_of_mem _ hw))) (hat w hw)
  have hk' : (Cond.classLink own ik cls).before args s' = true := vx_ot_at hW0 hvm.symm (hgood _ List.mem_cons_self) hk
  have hini' : (Cond.initialized cls).before args s' = true := vx_ot_at hW0 hvm.symm (hgood _ (List.mem_cons_of_mem _ List.mem_cons_self)) hini
  have hU' : vx_Zq Bundle.tN "UNASSIGNED_STACK" Bundle.steD A s' s'.heap := by rw [hhp]; exact vx_Zq.moved hW0.alike (hU.kept hS.2.1)
  have hN' : vx_Zq Bundle.tN "SUPPRESSED_SENTINEL" Bundle.listD A s' s'.heap := by rw [hhp]; exact vx_Zq.moved hW0.alike (hN.kept hS.2.1)
  have h : ∀ w ∈ Bundle.ownAtoms own ic cls names, w.before args s' = true := vx_own hat' (vx_isRefq hU'.1) (vx_isRefq hN'.1) hU'.2.word hN'.2.word
  have hown' : s'.vm.findClass own = some m.cls := by rw [hvm]; exact hown
  have hins : (Cond.instantiable cls 6).before args s' = true := h _ (by simp [Bundle.ownAtoms])
  obtain ⟨vm₁, cX, kX, hfX, hkX, -, -, X₁, st1⟩ := Y.newCold hexec (own := own) (C := cls) (index := ik) (n := 6) hown' hk' hins hini'
    (g := F0 m pc ls rest) rfl (by rw [hb]; exact d0) (Nat.le_refl _) (Nat.le_refl _)
  generalize hT1 : (T.setVm vm₁).pushCell { cls := cX, slots := kX.instanceTypes.map defaultValue, vm := .none } = T1 at X₁ st1
  have hcat : (Value.ref T.heap.size).category = 1 := rfl
  have hcellA : T1.heap[T.heap.size]? = some (freshCell cX kX) := by rw [← hT1]; exact State.heap_pushCell_size _ _
  have d3' : decode c.code (pc + 3) = .ok (.dup, 1) := by rw [hb]; exact d3
  have d4' : decode c.code (pc + 4) = .ok (.ldc_w is, 3) := by rw [hb]; exact d4
  have hstr' : vk_R own is text sa s' := vk_R.warm hW0 hstr
  obtain ⟨U, hsteps, hrun, hend, hW, hsame, ce, hce, hO⟩ := X₁.ctorThrowS hexec htr (own := own) (cls := cls) (names := names) (ic := ic) hown' hcls hnames h (fun x hx => nomatch hx) hfX hkX hcellA (by rw [hhp, hT]; exact Nat.le_refl _) (msg := .ref sa) rfl
    (g := { method := m, pc := pc + 7, locals := ls, stack := .ref sa :: .ref T.heap.size :: .ref T.heap.size :: rest, locked := none }) rfl hsize rfl rfl (rest := rest) rfl
    (by rw [hb]; exact d7) (by rw [hb]; exact d10) hout hRframes (by simp only [List.map_cons, List.sum_cons, hcat]; omega) hlocks
  obtain ⟨f1, f2⟩ := vx_frame hsame
  rw [hhp] at f1 f2
  have hWs : s.WarmedH U.vm := State.WarmedH.trans hW0 hW
  have hcl : s.vm.findClass cls = some ce.cls := by
    have h9 := hO.cls
    rw [hvm] at h9
    exact h9
  have hall : s.sameButNew ({ U with vm := s.vm } : State) locs mc ms := by
    subst hA
    obtain ⟨e1, e2⟩ := hsame
    rw [State.setFrames_setFrames] at e1
    have h2 : (T.setVm s.vm).sameButNew ({ U with vm := s.vm } : State) [] (0 + 1) (0 + 6) := ⟨e1, e2⟩
    have h3 := X.same.trans h2
    rw [List.append_nil] at h3
    exact h3.mono hc hs
  refine ⟨U, ?_, .threw T.heap.size, hrun, hend, Or.inr ⟨T.heap.size, rfl, cls, ce, locs, hx U hWs.alike f1 (fun q hq => f2 q hq (fun z hz => nomatch hz)), hce, hO.vm, hcl, hWs, hall, hf⟩⟩
  refine st1 _ ?_
  show Steps p.tables e below (T1.setTop { method := m, pc := pc + 3, locals := ls, stack := .ref T.heap.size :: rest, locked := none }) _
  jvm_step X₁.here [X₁.here.top, hexec, d3', Value.category]
  exact X₁.ldcStringW hexec (own := own) (text := text) (index := is) (a := sa) hown' hstr'.1 hstr'.2
    (g := { method := m, pc := pc + 4, locals := ls, stack := .ref T.heap.size :: .ref T.heap.size :: rest, locked := none }) rfl d4' _ hsteps
end Ends
section Bodies
variable {l : Launch}
theorem vx_ofW {y : MethodName} {ws ws' : List Cond} {rm : Room} {Pc : Array Value → State → Prop} {Qc : Array Value → State → Outcome → State → Prop} {XC : String → State → State → Prop} {mc ms : Nat} {free : Addr → Prop} {cc : ByteArray} {maxL : Nat} {ret : Option FieldType}
    (hy : plainName y.cls = true) (hw : ws = Cond.code y cc maxL ret :: ws')
    (body : ∀ p e s m args below meth c s₁, BodyLoose p l y (headSpec ws rm) cc maxL ret e s m args below meth c s₁ → c.maxLocals = maxL → (∀ x ∈ c.exceptionTable.toList, False) → Pc args s →
      W p l e (headSpec ws rm).room s m args below meth c s.heap [] 0 0 (vx_MQ below Qc XC args s mc ms free) (entryFrame m args maxL)) : vx_Met l y ws rm Pc Qc XC mc ms free := by
  refine MetFree.of_bodyS (code := cc) (maxLocals := maxL) (ret := ret) hy ?_ ?_
  · intro args s m h hn
    obtain ⟨meth, c, h1, h2, h3, h4, h5, h6, -, -⟩ := Cond.code_spec hn (atoms_spec (ws := ws) h _ (by rw [hw]; exact List.mem_cons_self))
    exact ⟨meth, c, h1, h2, h3, h4, h5, h6⟩
  · intro p e s m args below meth c s₁ B hml hP _
    have hh0 : s₁.heap = s.heap := by rw [B.state]; rfl
    have ht : ∀ x ∈ c.exceptionTable.toList, False := by
      obtain ⟨meth9, c9, h1, h2, -, -, -, -, h7, -⟩ := Cond.code_spec B.named (atoms_spec (ws := ws) B.pre _ (by rw [hw]; exact List.mem_cons_self))
      cases Option.some.inj (h1.symm.trans B.method)
      cases Option.some.inj (h2.symm.trans (Stand.of_body B).code)
      intro x hx
      rw [Array.isEmpty_iff.mp h7] at hx
      cases hx
    obtain ⟨t, a1, o, b1, b2, b3⟩ := body p e s m args below meth c s₁ B hml ht hP s₁ hh0 (Stand.of_body B)
    exact ⟨t, o, a1, b1, b2, b3⟩
/-- the table of a body with handlers -/
theorem vx_table {p : Program} {x y : MethodName} {S : Spec} {cc bytes : ByteArray} {maxL maxL' : Nat} {ret ret' : Option FieldType} {e : Env} {s s₁ : State} {m : MethodId} {args : Array Value} {below : List Frame} {meth : Method} {c : Code} {hh : List (Nat × Nat × Nat × Nat)}
    (B : BodyLoose p l y S cc maxL ret e s m args below meth c s₁) (h : (Cond.codeWith y bytes maxL' ret' hh).before args s = true) : c.exceptionTable.toList = tableOf hh := by
  obtain ⟨m9, meth9, c9, hn9, h1, h2, -, -, h6, -⟩ := Cond.codeWith_spec h
  cases Option.some.inj (hn9.symm.trans B.named)
  cases Option.some.inj (h1.symm.trans B.method)
  cases Option.some.inj (h2.symm.trans (Stand.of_body B).code)
  rw [← h6, table_eq]
end Bodies
end VXA
/-! ===== END ===== -/
/-! ===== BEGIN a static call of a method with an exception table ===== -/
section VXS
variable {p : Program} {l : Launch} {e : Env} {R : Room} {s : State} {m : MethodId} {args : Array Value} {below : List Frame} {meth : Method} {c : Code} {T : State} {H : Heap} {locs : List Loc} {cells slots : Nat}
abbrev vx_CSW (R : Room) (s : State) (args : Array Value) (own : String) (index : Nat) (y : MethodName) (bytes : ByteArray) (maxL : Nat) (ret : Option FieldType) (hh : List (Nat × Nat × Nat × Nat)) (ws : List Cond) (rm : Room) (mc ms n : Nat) : Prop :=
  (rm.cells = mc ∧ rm.slots = ms ∧ rm.frames + 1 ≤ R.frames ∧ 8 + (maxL + 11) + rm.locals ≤ R.locals ∧ (∀ w ∈ ws, ∀ (a' : Array Value) (U : State), s.WarmedH U.vm → w.before a' U = true) ∧ Cond.codeWith y bytes maxL ret hh ∈ ws) ∧
  (Cond.codeWith y bytes maxL ret hh).before args s = true ∧ (Cond.initialized y.cls).before args s = true ∧ (y.cls ≠ "java/lang/invoke/MethodHandle" ∧ y.cls ≠ "java/lang/invoke/VarHandle") ∧
  (∀ sig, parseMethodDescriptor y.desc = some sig → n = sig.parameters.length) ∧ (Cond.methodLink own index y).before args s = true ∧ (Cond.static y).before args s = true
theorem vx_cwSW {own : String} {index maxL mc ms : Nat} {y : MethodName} {bytes : ByteArray} {ret : Option FieldType} {hh : List (Nat × Nat × Nat × Nat)} {Ts ws ws' : List Cond} {rm : Room} (n : Nat) (ht : ∀ w ∈ Ts, w.before args s = true) (hT : GoodIn Ts (va_wsS own index y ws)) (hw : ws = Cond.codeWith y bytes maxL ret hh :: ws') (hrc : rm.cells = mc) (hrs : rm.slots = ms)
    (hd : y.cls ≠ "java/lang/invoke/MethodHandle" ∧ y.cls ≠ "java/lang/invoke/VarHandle" ∧ (parseMethodDescriptor y.desc).map (fun d => d.parameters.length) = some n) (hR : rm.frames + 1 ≤ R.frames ∧ 8 + (maxL + 11) + rm.locals ≤ R.locals) :
    vx_CSW R s args own index y bytes maxL ret hh ws rm mc ms n := by
  have ok : ∀ w ∈ va_wsS own index y ws, w.before args s = true := fun w h => ht w (hT w h).1
  have hG : GoodIn Ts ws := fun w h => hT w (by unfold va_wsS; exact List.mem_append_right _ h)
  have hc : Cond.codeWith y bytes maxL ret hh ∈ ws := by rw [hw]; exact List.mem_cons_self
  refine ⟨⟨hrc, hrs, hR.1, hR.2, pay_in ht hG, hc⟩, ht _ (hG _ hc).1, ok _ (by simp [va_wsS]), ⟨hd.1, hd.2.1⟩, fun sig h => ?_, ok _ (by simp [va_wsS]), ok _ (by simp [va_wsS])⟩
  have h2 := hd.2.2
  rw [h] at h2
  exact (Option.some.inj h2).symm
theorem vx_callSW (X : Stand p l e R s m args below meth c T locs cells slots) (hexec : p.tables.exec = Jvm.exec) {own : String} {index : Nat} {y : MethodName} {bytes : ByteArray} {maxL : Nat} {ret : Option FieldType} {hh : List (Nat × Nat × Nat × Nat)}
    (hown : s.vm.findClass own = some m.cls) (hlink : (Cond.methodLink own index y).before args s = true) (hstat : (Cond.static y).before args s = true) (hinit : (Cond.initialized y.cls).before args s = true)
    (hcode : (Cond.codeWith y bytes maxL ret hh).before args s = true) (hy : y.cls ≠ "java/lang/invoke/MethodHandle" ∧ y.cls ≠ "java/lang/invoke/VarHandle")
    {W9 : Nat} {Pre : Pt → Array Value → Prop} {Post : Pt → Array Value → Option Value → Pt → Prop} (hK : Back l R p e below s args y 3 W9 Pre Post)
    {g : JFrame} (hg : g.method = m) (hsize : g.locals.size = c.maxLocals) {argsL rest : List Value} (hlen : ∀ sig, parseMethodDescriptor y.desc = some sig → argsL.length = sig.parameters.length)
    (hstack : g.stack = argsL.reverse ++ rest) (hW : 2 * g.monitorRoom + (rest.map fun v => v.category).sum ≤ W9) (hdg : decode c.code g.pc = .ok (.invokestatic index, 3))
    (hpre : ∀ vm₁, s.WarmedH vm₁ → Pre ⟨T.setVm vm₁, locs, cells, slots⟩ argsL.toArray) :
    ∃ (v : Option Value) (vm₁ : Vm) (B : Pt), s.WarmedH vm₁ ∧ Stand p l e R s m args below meth c B.U B.locs B.cells B.slots ∧ Post ⟨T.setVm vm₁, locs, cells, slots⟩ argsL.toArray v B ∧
      ∀ target, Steps p.tables e below (B.U.setTop { g with pc := g.pc + 3, stack := v.toList ++ rest }) target → Steps p.tables e below (T.setTop g) target := by
  obtain ⟨mk, methM, cM, hnamed, hmethM, -, -, -, -, -, -, hsigM⟩ := Cond.codeWith_spec hcode
  have hstatic : methM.isStatic = true := Cond.static_spec hnamed hmethM hstat
  obtain ⟨kP, hkP, -⟩ := className_of_methodNamed hnamed
  have hinitP : kP.init = .initialized := Cond.initialized_spec (findClass_of_methodNamed hnamed) hkP hinit
  obtain ⟨vm₁, X₁, hstep₁⟩ := X.invokestatic hexec hown hlink hnamed hmethM hstatic hkP hinitP hy (g := g) hg (argsL := argsL) (rest := rest) (hlen _ hsigM) hstack hdg
  obtain ⟨v, B, X', hpost, hsteps⟩ := hK m meth c ⟨T.setVm vm₁, locs, cells, slots⟩ { g with stack := rest } (.invokestatic index) mk argsL.toArray X₁ hg hsize hdg hW (X₁.named hnamed) (hpre vm₁ X₁.warmed)
  exact ⟨v, vm₁, B, X₁.warmed, X', hpost, fun target h => hstep₁ _ fun acts => by rw [doInvoke_state]; exact hsteps.trans h⟩
theorem vx_runSW {y : MethodName} {bytes cc : ByteArray} {maxL nL mc ms n index : Nat} {ret : Option FieldType} {hh : List (Nat × Nat × Nat × Nat)} {ws : List Cond} {rm : Room} {Pc : Array Value → State → Prop} {Qc : Array Value → State → Outcome → State → Prop} {free : Addr → Prop} {Ts : List Cond} {own : String} {As rest : List Value} {g : JFrame}
    (S : CallFix p m c cc nL s args Ts own) (hM : Met l y ws rm Pc Qc mc ms free) (cw : vx_CSW R s args own index y bytes maxL ret hh ws rm mc ms n) (hp : PreS s H Pc As)
    (hg : g.method = m) (hn : As.length = n) (hsize : g.locals.size = nL) (hstack : g.stack = As.reverse ++ rest) (hW : 2 * g.monitorRoom + (rest.map fun v => v.category).sum ≤ 8) (hdg : decode cc g.pc = .ok (.invokestatic index, 3)) (hf : cells + mc ≤ R.cells ∧ slots + ms ≤ R.slots) :
    va_Run p l e R s m args below meth c H locs cells slots mc ms g rest (Qc As.toArray) (free) := by
  obtain ⟨⟨hrc, hrs, hfr, hlo, hws, hcw⟩, hcode, hini, hy, hlen, hl, hstt⟩ := cw
  have hK : Back l R p e below s args y 3 8 (PreOf R mc ms Pc) (PostOf Qc mc ms free) := va_backW (hh := hh) (bytes := bytes) (maxL := maxL) (ret := ret) hM hp.1 hrc hrs hfr hlo hws hcw (fun a' U hW => word_at hW (Or.inl (by first | rfl | simp [Cond.onTables, Cond.keeps, Cond.steady])) hini)
  obtain ⟨hx, hb, hml, ho, -⟩ := S
  intro T hT X
  obtain ⟨v, vm₁, ⟨U', l2, c2, s2⟩, hW₁, X', ⟨g', mk, t, L, e1, e2, hq, h1, hL, h2, h3⟩, st⟩ := vx_callSW X hx (hh := hh) (bytes := bytes) (maxL := maxL) (ret := ret) ho hl hstt hini hcode hy hK hg (hsize.trans hml.symm) (argsL := As) (rest := rest) (fun sig h => hn.trans (hlen sig h)) hstack hW (by rw [hb]; exact hdg)
    (fun vm₁ hW₁ => ⟨hf.1, hf.2, hp.2 (T.setVm vm₁) hT hW₁⟩)
  dsimp only [Pt.U, Pt.locs, Pt.cells, Pt.slots] at X' e1 e2 h1 h2 h3 st
  subst h1; subst h2; subst h3
  exact ⟨v, (T.setVm vm₁).calling g' mk As.toArray, t, U', L, hT, X', hL, e1, e2, hq, st⟩
/-- not caught here, past rows that name other classes: it goes on to the caller -/
theorem vx_outP {p : Program} {l : Launch} {e : Env} {R : Room} {s : State} {m : MethodId} {args : Array Value} {below : List Frame} {meth : Method} {c : Code} {H : Heap} {locs : List Loc} {cells slots : Nat} {free : Addr → Prop} {ls : Array Slot} {rest : List Value} {Qc : Array Value → State → Outcome → State → Prop} {XC : String → State → State → Prop}
    {pc : Nat} {own E : String} {ce : Cell} {q : Addr} {mc ms : Nat} (hown : s.vm.findClass own = some m.cls) (hlocks : meth.locks = false)
    (hpass : ∀ z ∈ c.exceptionTable.toList, covers z pc = false ∨ (z.catchType ≠ 0 ∧ ∃ nm : String, (Cond.classLink own z.catchType nm).before args s = true ∧ va_Nc E nm s)) (hcell : H[q]? = some ce) (hv : ce.vm = .none) (hcl : s.vm.findClass E = some ce.cls)
    (hx : ∀ t : State, t.heap = H → s.vm.Alike t.vm → XC E s t) (hf : ∀ z ∈ locs, free z.base) (hc : cells ≤ mc) (hs : slots ≤ ms) :
    vx_W p l e R s m args below meth c H locs cells slots (vx_MQ below Qc XC args s mc ms free) (F0 m pc ls rest) q := by
  intro T hT X
  have hpl : e.platform.magicAccessors = ({} : Platform).magicAccessors := by rw [X.admits.platform]
  obtain ⟨vm', hW', X', st⟩ := X.outThrough hlocks q (g := F0 m pc ls rest) rfl rfl rfl (cell := ce) (by rw [hT]; exact hcell) (by rw [hv]; rfl)
    (by obtain ⟨k9, h9, -⟩ := Vm.findClass_spec hcl; exact ⟨k9, h9⟩) (fun z hz => by
      rcases hpass z hz with h | ⟨hz0, nm, hl1, hn1⟩
      · exact Or.inl h
      · obtain ⟨c6, hc6, hcl6⟩ := Cond.classLink_spec hown hl1 e.platform hpl
        obtain ⟨a8, b8, h1, h2, h3⟩ := hn1
        cases Option.some.inj (h1.symm.trans hcl)
        cases Option.some.inj (h2.symm.trans hc6)
        exact Or.inr ⟨hz0, _, hcl6, h3⟩)
  obtain ⟨g₀, hfr⟩ := X'.frames_eq
  have hcell9 : ((T.setVm vm').setFrames (.throwing q :: below)).heap[q]? = some ce := by
    show T.heap[q]? = some ce
    rw [hT]; exact hcell
  have hend : Ended ((T.setVm vm').setFrames (.throwing q :: below)) below (.threw q) := State.frames_setFrames _ (State.cur_lt_of_frames hfr)
  refine ⟨(T.setVm vm').setFrames (.throwing q :: below), ?_, .threw q, X'.here.running, hend, Or.inr ⟨q, rfl, E, ce, locs, hx _ hT (X'.ends _).1.alike, hcell9, hv, hcl, (X'.ends _).1, (X'.ends _).2.mono hc hs, hf⟩⟩
  rw [X.pushThrowing_eq]
  exact st
/-- a thing of a world lies in the heap -/
theorem vx_lt {D : va_G} {cl : List vw_C} {ws : va_W} {H1 : Heap} (h : va_P D cl ws H1) {k : Nat} {q : Nat × va_E} (hk : ws[k]? = some q) : q.1 < H1.size := (h k q hk).lt
end VXS
/-! ===== END ===== -/
/-! ===== BEGIN methods with a table of their own: called by a name, returning or throwing ===== -/
section VXH
/-! vx_backW, vx_callVX, vx_callSX, vx_callVW, vx_runVW, vx_runVX, vx_runSX, vx_ofWH follow the same proofs as their sisters above (Free/Laws.lean, Shelf42/LK1.lean); vx_outP calls Shelf42/NT130.lean (outThrough). -/
section
variable {l : Launch} {R : Room} {p : Program} {e : Env} {below : List Frame} {s : State} {sargs : Array Value} {y : MethodName} {len W9 : Nat}
theorem vx_backW {ws : List Cond} {rm : Room} {Pc : Array Value → State → Prop} {Qc : Array Value → State → Outcome → State → Prop} {XC : String → State → State → Prop} {mc ms : Nat} {free : Addr → Prop} {bytes : ByteArray} {maxL : Nat} {ret : Option FieldType} {hh : List (Nat × Nat × Nat × Nat)}
    (hM : vx_Met l y ws rm Pc Qc XC mc ms free) (hblind : FrameBlind Pc) (hrc : rm.cells = mc) (hrs : rm.slots = ms)
    (hframes : rm.frames + 1 ≤ R.frames) (hlocals : W9 + (maxL + 11) + rm.locals ≤ R.locals)
    (hws : ∀ w ∈ ws, ∀ a' U, s.WarmedH U.vm → w.before a' U = true) (hcode : Cond.codeWith y bytes maxL ret hh ∈ ws) (hinit : ∀ a' U, s.WarmedH U.vm → (Cond.initialized y.cls).before a' U = true) :
    vx_Back l R p e below s sargs y len W9 (PreOf R mc ms Pc) (PostOf Qc mc ms free) (vx_Post XC mc ms free) := by
  intro m meth c A g ig mk a X hg hsize hdg hW hn hp
  have h1 : (headSpec ws rm).pre.before a A.U = true := atoms_intro fun w hw => hws w hw _ _ X.warmed
  have h2 : (Cond.codeWith y bytes maxL ret hh).before a A.U = true := hws _ hcode _ _ X.warmed
  have h3 : (Cond.initialized y.cls).before a A.U = true := hinit _ _ X.warmed
  have h4 : A.cells + (headSpec ws rm).room.cells ≤ R.cells := by rw [show (headSpec ws rm).room.cells = mc from hrc]; exact hp.1
  have h5 : A.slots + (headSpec ws rm).room.slots ≤ R.slots := by rw [show (headSpec ws rm).room.slots = ms from hrs]; exact hp.2.1
  have hPc : Pc a (A.U.calling g mk a) := hblind _ _ _ _ hp.2.2
  obtain ⟨U, Ls, c0, s0⟩ := A
  dsimp only [Pt.U, Pt.locs, Pt.cells, Pt.slots] at h1 h2 h3 h4 h5 X hn hPc ⊢
  obtain ⟨m9, methY, cY, hn9, hmY, hcY, -, hlY, -⟩ := Cond.codeWith_spec h2
  cases Option.some.inj (hn9.symm.trans hn)
  obtain ⟨kY, hkY, -⟩ := className_of_methodNamed hn
  have hinitY : kY.init = .initialized := Cond.initialized_spec (findClass_of_methodNamed hn) hkY h3
  have h : At U g.method c below := by rw [hg]; exact X.here
  have hlocals9 : W9 + (maxL + 11) + (headSpec ws rm).room.locals ≤ R.locals := hlocals
  have happ : (headSpec ws rm).appliesLoose y e.platform (U.calling g mk a) = true :=
    Spec.appliesLoose_calling (g := g) h hdg hn hkY hinitY
      (X.room_calling (g := g) (R' := (headSpec ws rm).room) hsize hmY hcY hframes (by rw [hlY]; omega) h4 h5) h1
  obtain ⟨mid, hmid⟩ := h.above
  have hfr : (U.setTop g).frames = (.java g :: mid) ++ below := by rw [State.frames_setTop' g h.top, hmid]; rfl
  obtain ⟨o, s₂, hsteps, -, hend, hq⟩ := Steps.callFree hM p X.admits X.cas X.clock (acts := []) hfr happ hPc trivial
  have hq' : vx_Q Qc XC mc ms free a (U.calling g mk a) o s₂ := hq
  rw [State.frames_setTop' g h.top] at hend
  obtain ⟨g₀, hg0⟩ := Option.isSome_iff_exists.mp h.top
  obtain ⟨r, hr⟩ := State.topJava?_eq_some.mp hg0
  have hr' : (({ U with heap := s₂.heap, slotsUsed := s₂.slotsUsed } : State).setVm s₂.vm).frames = .java g₀ :: r := hr
  rcases hq' with ⟨hqc, L, hfe, hL⟩ | ⟨q, rfl, E, ce, L, hx, hce, hcv, hcl, hW₂, hsm, hL⟩
  · obtain ⟨⟨v, rfl⟩, hW₂, e2, q2, q3, q4, q5, q6⟩ := id hfe
    have e3 : s₂ = ({ (U.calling g mk a).setFrames s₂.frames with heap := s₂.heap, slotsUsed := s₂.slotsUsed } : State).setVm s₂.vm := by
      have : s₂ = ({ s₂ with vm := (U.calling g mk a).vm } : State).setVm s₂.vm := rfl
      rw [e2] at this
      exact this
    obtain ⟨c₂, i₂, len₂, hc₂, hd₂, hf₂⟩ := hend
    have hW' : U.WarmedH s₂.vm := hW₂
    have hcc : c₂ = c := by
      have h1 : s₂.code? g.method = U.code? g.method := by
        rw [State.code?_eq, State.code?_eq, hW'.alike.method?]
      exact Option.some.inj (hc₂.symm.trans (h1.trans h.code))
    subst hcc
    have hlen : len₂ = len := by rw [hdg] at hd₂; cases hd₂; rfl
    subst hlen
    have hs₂ : s₂ = (({ U with heap := s₂.heap, slotsUsed := s₂.slotsUsed } : State).setVm s₂.vm).setTop { g with pc := g.pc + len₂, stack := v.toList ++ g.stack } := by
      refine e3.trans ?_
      rw [hf₂, State.calling_eq h.top, State.setFrames_setFrames, State.setTop_of_frames _ hr', hr]
      rfl
    have hsame : U.sameButNew ({ U with heap := s₂.heap, slotsUsed := s₂.slotsUsed } : State) L mc ms := by
      refine ⟨?_, q2, q3, q4, q5, q6⟩
      obtain ⟨t, ht, -⟩ := State.frames_cons hr
      show ({ U with heap := s₂.heap, slotsUsed := s₂.slotsUsed } : State) = { U.setFrames U.frames with heap := s₂.heap, slotsUsed := s₂.slotsUsed }
      rw [State.setFrames_self ht]
    subst hg
    refine Or.inl ⟨v, ⟨(({ U with heap := s₂.heap, slotsUsed := s₂.slotsUsed } : State).setVm s₂.vm), Ls ++ L, c0 + mc, s0 + ms⟩,
      ⟨X.admits, X.cas, X.clock, X.frames, X.room, X.hears, X.method, X.code, (X.here.setHeapUsed s₂.heap s₂.slotsUsed).setVm hW'.alike, X.tail, State.WarmedH.trans X.warmed hW', X.limits, X.bytes, X.same.trans (hsame.setVm s.vm)⟩,
      ⟨g, mk, s₂, L, rfl, rfl, hqc, rfl, hL, rfl, rfl⟩, ?_⟩
    show Steps p.tables e below _ ((({ U with heap := s₂.heap, slotsUsed := s₂.slotsUsed } : State).setVm s₂.vm).setTop { g with pc := g.pc + len₂, stack := v.toList ++ g.stack })
    rw [← hs₂]
    exact hsteps
  · obtain ⟨e2, q2, q3, q4, q5, q6⟩ := id hsm
    have e3 : s₂ = ({ (U.calling g mk a).setFrames s₂.frames with heap := s₂.heap, slotsUsed := s₂.slotsUsed } : State).setVm s₂.vm := by
      have : s₂ = ({ s₂ with vm := (U.calling g mk a).vm } : State).setVm s₂.vm := rfl
      rw [e2] at this
      exact this
    have hf₂ : s₂.frames = .throwing q :: .java g :: U.frames.tail := hend
    have hW' : U.WarmedH s₂.vm := hW₂
    have hs₂ : s₂ = ((({ U with heap := s₂.heap, slotsUsed := s₂.slotsUsed } : State).setVm s₂.vm).setTop g).pushFrame (.throwing q) := by
      refine e3.trans ?_
      rw [hf₂, State.calling_eq h.top, State.setFrames_setFrames, State.pushFrame, State.frames_setTop _ hr', State.setTop_of_frames _ hr', State.setFrames_setFrames, hr]
      rfl
    have hsame : U.sameButNew ({ U with heap := s₂.heap, slotsUsed := s₂.slotsUsed } : State) L mc ms := by
      refine ⟨?_, q2, q3, q4, q5, q6⟩
      obtain ⟨t, ht, -⟩ := State.frames_cons hr
      show ({ U with heap := s₂.heap, slotsUsed := s₂.slotsUsed } : State) = { U.setFrames U.frames with heap := s₂.heap, slotsUsed := s₂.slotsUsed }
      rw [State.setFrames_self ht]
    subst hg
    refine Or.inr ⟨q, ⟨(({ U with heap := s₂.heap, slotsUsed := s₂.slotsUsed } : State).setVm s₂.vm), Ls ++ L, c0 + mc, s0 + ms⟩,
      ⟨X.admits, X.cas, X.clock, X.frames, X.room, X.hears, X.method, X.code, (X.here.setHeapUsed s₂.heap s₂.slotsUsed).setVm hW'.alike, X.tail, State.WarmedH.trans X.warmed hW', X.limits, X.bytes, X.same.trans (hsame.setVm s.vm)⟩,
      ⟨g, mk, s₂, L, E, ce, rfl, rfl, hx, hce, hcv, hcl, rfl, hL, rfl, rfl⟩, ?_⟩
    show Steps p.tables e below _ (((({ U with heap := s₂.heap, slotsUsed := s₂.slotsUsed } : State).setVm s₂.vm).setTop g).pushFrame (.throwing q))
    rw [← hs₂]
    exact hsteps
end
variable {p : Program} {l : Launch} {e : Env} {R : Room} {s : State} {m : MethodId} {args : Array Value} {below : List Frame} {meth : Method} {c : Code} {T : State} {H : Heap} {locs : List Loc} {cells slots : Nat}
theorem vx_callVX (X : Stand p l e R s m args below meth c T locs cells slots) (hexec : p.tables.exec = Jvm.exec) {own C : String} {index : Nat} {y : MethodName} {bytes : ByteArray} {maxL : Nat} {ret : Option FieldType} {hh : List (Nat × Nat × Nat × Nat)}
    (hown : s.vm.findClass own = some m.cls) (hlink : (Cond.methodLink own index y).before args s = true) (hinst : (Cond.instanceMethod y).before args s = true) (hsel : (Cond.selects C y y).before args s = true)
    (hcode : (Cond.codeWith y bytes maxL ret hh).before args s = true) (hy : y.cls ≠ "java/lang/invoke/MethodHandle" ∧ y.cls ≠ "java/lang/invoke/VarHandle")
    {W9 : Nat} {Pre : Pt → Array Value → Prop} {Post : Pt → Array Value → Option Value → Pt → Prop} {PostX : Pt → Array Value → Addr → Pt → Prop} (hK : vx_Back l R p e below s args y 3 W9 Pre Post PostX)
    {b : Addr} {cellB : Cell} (hcell : T.heap[b]? = some cellB) (hobj : cellB.vm.isStatics = false) (hcls : s.vm.findClass C = some cellB.cls)
    {g : JFrame} (hg : g.method = m) (hsize : g.locals.size = c.maxLocals) {argsL rest : List Value} (hlen : ∀ sig, parseMethodDescriptor y.desc = some sig → argsL.length = sig.parameters.length)
    (hstack : g.stack = argsL.reverse ++ .ref b :: rest) (hW : 2 * g.monitorRoom + (rest.map fun v => v.category).sum ≤ W9) (hdg : decode c.code g.pc = .ok (.invokevirtual index, 3))
    (hpre : ∀ vm₁, s.WarmedH vm₁ → Pre ⟨T.setVm vm₁, locs, cells, slots⟩ (Value.ref b :: argsL).toArray) :
    (∃ (v : Option Value) (vm₁ : Vm) (B : Pt), s.WarmedH vm₁ ∧ Stand p l e R s m args below meth c B.U B.locs B.cells B.slots ∧ Post ⟨T.setVm vm₁, locs, cells, slots⟩ (Value.ref b :: argsL).toArray v B ∧
      ∀ target, Steps p.tables e below (B.U.setTop { g with pc := g.pc + 3, stack := v.toList ++ rest }) target → Steps p.tables e below (T.setTop g) target) ∨
    (∃ (q : Addr) (vm₁ : Vm) (B : Pt), s.WarmedH vm₁ ∧ Stand p l e R s m args below meth c B.U B.locs B.cells B.slots ∧ PostX ⟨T.setVm vm₁, locs, cells, slots⟩ (Value.ref b :: argsL).toArray q B ∧
      Steps p.tables e below (T.setTop g) ((B.U.setTop { g with stack := rest }).pushFrame (.throwing q))) := by
  obtain ⟨mk, methM, hnamed, hmethM, hstM, habM⟩ := Cond.instanceMethod_spec hinst
  obtain ⟨m8, methM', cM, hn8, hmethM', -, -, -, -, -, -, hsigM⟩ := Cond.codeWith_spec hcode
  cases Option.some.inj (hn8.symm.trans hnamed)
  cases hmethM.symm.trans hmethM'
  obtain ⟨c2, r2, m2, q1, q2, q3, q4, kP, hkP, hkPi⟩ := Cond.selects_spec hsel
  cases hcls.symm.trans q1
  cases (State.methodFound?_of_named hnamed hy).symm.trans q2
  cases hnamed.symm.trans q3
  have hselP : selectMethod e.platform s.vm cellB.cls mk = .method mk := by rw [Launch.admits_selectMethod X.admits]; exact q4
  obtain ⟨vm₁, X₁, hstep₁⟩ := X.invokevirtual hexec hown hlink hnamed hmethM hstM hkP hkPi hy (a := b) (cell := cellB) hcell
    (fun z h => by rw [h] at hobj; cases hobj) hselP hmethM habM hkP hkPi (g := g) hg (argsL := argsL) (rest := rest) (hlen _ hsigM) hstack hdg
  rcases hK m meth c ⟨T.setVm vm₁, locs, cells, slots⟩ { g with stack := rest } (.invokevirtual index) mk (Value.ref b :: argsL).toArray X₁ hg hsize hdg hW (X₁.named hnamed) (hpre vm₁ X₁.warmed) with ⟨v, B, X', hpost, hsteps⟩ | ⟨q, B, X', hpost, hsteps⟩
  · exact Or.inl ⟨v, vm₁, B, X₁.warmed, X', hpost, fun target h => hstep₁ _ fun acts => by rw [doInvoke_state]; exact hsteps.trans h⟩
  · exact Or.inr ⟨q, vm₁, B, X₁.warmed, X', hpost, hstep₁ _ fun acts => by rw [doInvoke_state]; exact hsteps⟩
theorem vx_callSX (X : Stand p l e R s m args below meth c T locs cells slots) (hexec : p.tables.exec = Jvm.exec) {own : String} {index : Nat} {y : MethodName} {bytes : ByteArray} {maxL : Nat} {ret : Option FieldType} {hh : List (Nat × Nat × Nat × Nat)}
    (hown : s.vm.findClass own = some m.cls) (hlink : (Cond.methodLink own index y).before args s = true) (hstat : (Cond.static y).before args s = true) (hinit : (Cond.initialized y.cls).before args s = true)
    (hcode : (Cond.codeWith y bytes maxL ret hh).before args s = true) (hy : y.cls ≠ "java/lang/invoke/MethodHandle" ∧ y.cls ≠ "java/lang/invoke/VarHandle")
    {W9 : Nat} {Pre : Pt → Array Value → Prop} {Post : Pt → Array Value → Option Value → Pt → Prop} {PostX : Pt → Array Value → Addr → Pt → Prop} (hK : vx_Back l R p e below s args y 3 W9 Pre Post PostX)
    {g : JFrame} (hg : g.method = m) (hsize : g.locals.size = c.maxLocals) {argsL rest : List Value} (hlen : ∀ sig, parseMethodDescriptor y.desc = some sig → argsL.length = sig.parameters.length)
    (hstack : g.stack = argsL.reverse ++ rest) (hW : 2 * g.monitorRoom + (rest.map fun v => v.category).sum ≤ W9) (hdg : decode c.code g.pc = .ok (.invokestatic index, 3))
    (hpre : ∀ vm₁, s.WarmedH vm₁ → Pre ⟨T.setVm vm₁, locs, cells, slots⟩ argsL.toArray) :
    (∃ (v : Option Value) (vm₁ : Vm) (B : Pt), s.WarmedH vm₁ ∧ Stand p l e R s m args below meth c B.U B.locs B.cells B.slots ∧ Post ⟨T.setVm vm₁, locs, cells, slots⟩ argsL.toArray v B ∧
      ∀ target, Steps p.tables e below (B.U.setTop { g with pc := g.pc + 3, stack := v.toList ++ rest }) target → Steps p.tables e below (T.setTop g) target) ∨
    (∃ (q : Addr) (vm₁ : Vm) (B : Pt), s.WarmedH vm₁ ∧ Stand p l e R s m args below meth c B.U B.locs B.cells B.slots ∧ PostX ⟨T.setVm vm₁, locs, cells, slots⟩ argsL.toArray q B ∧
      Steps p.tables e below (T.setTop g) ((B.U.setTop { g with stack := rest }).pushFrame (.throwing q))) := by
  obtain ⟨mk, methM, cM, hnamed, hmethM, -, -, -, -, -, -, hsigM⟩ := Cond.codeWith_spec hcode
  have hstatic : methM.isStatic = true := Cond.static_spec hnamed hmethM hstat
  obtain ⟨kP, hkP, -⟩ := className_of_methodNamed hnamed
  have hinitP : kP.init = .initialized := Cond.initialized_spec (findClass_of_methodNamed hnamed) hkP hinit
  obtain ⟨vm₁, X₁, hstep₁⟩ := X.invokestatic hexec hown hlink hnamed hmethM hstatic hkP hinitP hy (g := g) hg (argsL := argsL) (rest := rest) (hlen _ hsigM) hstack hdg
  rcases hK m meth c ⟨T.setVm vm₁, locs, cells, slots⟩ { g with stack := rest } (.invokestatic index) mk argsL.toArray X₁ hg hsize hdg hW (X₁.named hnamed) (hpre vm₁ X₁.warmed) with ⟨v, B, X', hpost, hsteps⟩ | ⟨q, B, X', hpost, hsteps⟩
  · exact Or.inl ⟨v, vm₁, B, X₁.warmed, X', hpost, fun target h => hstep₁ _ fun acts => by rw [doInvoke_state]; exact hsteps.trans h⟩
  · exact Or.inr ⟨q, vm₁, B, X₁.warmed, X', hpost, hstep₁ _ fun acts => by rw [doInvoke_state]; exact hsteps⟩
theorem vx_callVW (X : Stand p l e R s m args below meth c T locs cells slots) (hexec : p.tables.exec = Jvm.exec) {own C : String} {index : Nat} {y : MethodName} {bytes : ByteArray} {maxL : Nat} {ret : Option FieldType} {hh : List (Nat × Nat × Nat × Nat)}
    (hown : s.vm.findClass own = some m.cls) (hlink : (Cond.methodLink own index y).before args s = true) (hinst : (Cond.instanceMethod y).before args s = true) (hsel : (Cond.selects C y y).before args s = true)
    (hcode : (Cond.codeWith y bytes maxL ret hh).before args s = true) (hy : y.cls ≠ "java/lang/invoke/MethodHandle" ∧ y.cls ≠ "java/lang/invoke/VarHandle")
    {W9 : Nat} {Pre : Pt → Array Value → Prop} {Post : Pt → Array Value → Option Value → Pt → Prop} (hK : Back l R p e below s args y 3 W9 Pre Post)
    {b : Addr} {cellB : Cell} (hcell : T.heap[b]? = some cellB) (hobj : cellB.vm.isStatics = false) (hcls : s.vm.findClass C = some cellB.cls)
    {g : JFrame} (hg : g.method = m) (hsize : g.locals.size = c.maxLocals) {argsL rest : List Value} (hlen : ∀ sig, parseMethodDescriptor y.desc = some sig → argsL.length = sig.parameters.length)
    (hstack : g.stack = argsL.reverse ++ .ref b :: rest) (hW : 2 * g.monitorRoom + (rest.map fun v => v.category).sum ≤ W9) (hdg : decode c.code g.pc = .ok (.invokevirtual index, 3))
    (hpre : ∀ vm₁, s.WarmedH vm₁ → Pre ⟨T.setVm vm₁, locs, cells, slots⟩ (Value.ref b :: argsL).toArray) :
    ∃ (v : Option Value) (vm₁ : Vm) (B : Pt), s.WarmedH vm₁ ∧ Stand p l e R s m args below meth c B.U B.locs B.cells B.slots ∧ Post ⟨T.setVm vm₁, locs, cells, slots⟩ (Value.ref b :: argsL).toArray v B ∧
      ∀ target, Steps p.tables e below (B.U.setTop { g with pc := g.pc + 3, stack := v.toList ++ rest }) target → Steps p.tables e below (T.setTop g) target := by
  obtain ⟨mk, methM, hnamed, hmethM, hstM, habM⟩ := Cond.instanceMethod_spec hinst
  obtain ⟨m8, methM', cM, hn8, hmethM', -, -, -, -, -, -, hsigM⟩ := Cond.codeWith_spec hcode
  cases Option.some.inj (hn8.symm.trans hnamed)
  cases hmethM.symm.trans hmethM'
  obtain ⟨c2, r2, m2, q1, q2, q3, q4, kP, hkP, hkPi⟩ := Cond.selects_spec hsel
  cases hcls.symm.trans q1
  cases (State.methodFound?_of_named hnamed hy).symm.trans q2
  cases hnamed.symm.trans q3
  have hselP : selectMethod e.platform s.vm cellB.cls mk = .method mk := by rw [Launch.admits_selectMethod X.admits]; exact q4
  obtain ⟨vm₁, X₁, hstep₁⟩ := X.invokevirtual hexec hown hlink hnamed hmethM hstM hkP hkPi hy (a := b) (cell := cellB) hcell
    (fun z h => by rw [h] at hobj; cases hobj) hselP hmethM habM hkP hkPi (g := g) hg (argsL := argsL) (rest := rest) (hlen _ hsigM) hstack hdg
  obtain ⟨v, B, X', hpost, hsteps⟩ := hK m meth c ⟨T.setVm vm₁, locs, cells, slots⟩ { g with stack := rest } (.invokevirtual index) mk (Value.ref b :: argsL).toArray X₁ hg hsize hdg hW (X₁.named hnamed) (hpre vm₁ X₁.warmed)
  exact ⟨v, vm₁, B, X₁.warmed, X', hpost, fun target h => hstep₁ _ fun acts => by rw [doInvoke_state]; exact hsteps.trans h⟩
abbrev vx_CVW (R : Room) (s : State) (args : Array Value) (own C : String) (index : Nat) (y : MethodName) (bytes : ByteArray) (maxL : Nat) (ret : Option FieldType) (hh : List (Nat × Nat × Nat × Nat)) (ws : List Cond) (rm : Room) (mc ms n : Nat) : Prop :=
  (rm.cells = mc ∧ rm.slots = ms ∧ rm.frames + 1 ≤ R.frames ∧ 8 + (maxL + 11) + rm.locals ≤ R.locals ∧ (∀ w ∈ ws, ∀ (a' : Array Value) (U : State), s.WarmedH U.vm → w.before a' U = true) ∧ Cond.codeWith y bytes maxL ret hh ∈ ws) ∧
  (Cond.codeWith y bytes maxL ret hh).before args s = true ∧ (Cond.initialized y.cls).before args s = true ∧ (y.cls ≠ "java/lang/invoke/MethodHandle" ∧ y.cls ≠ "java/lang/invoke/VarHandle") ∧
  (∀ sig, parseMethodDescriptor y.desc = some sig → n = sig.parameters.length) ∧ (Cond.methodLink own index y).before args s = true ∧ (Cond.instanceMethod y).before args s = true ∧ (Cond.selects C y y).before args s = true
theorem vx_cwVW {own C : String} {index maxL mc ms : Nat} {y : MethodName} {bytes : ByteArray} {ret : Option FieldType} {hh : List (Nat × Nat × Nat × Nat)} {Ts ws ws' : List Cond} {rm : Room} (n : Nat) (ht : ∀ w ∈ Ts, w.before args s = true) (hT : GoodIn Ts (wsV own index C y ws)) (hw : ws = Cond.codeWith y bytes maxL ret hh :: ws') (hrc : rm.cells = mc) (hrs : rm.slots = ms)
    (hd : y.cls = C ∧ y.cls ≠ "java/lang/invoke/MethodHandle" ∧ y.cls ≠ "java/lang/invoke/VarHandle" ∧ (parseMethodDescriptor y.desc).map (fun d => d.parameters.length) = some n) (hR : rm.frames + 1 ≤ R.frames ∧ 8 + (maxL + 11) + rm.locals ≤ R.locals) :
    vx_CVW R s args own C index y bytes maxL ret hh ws rm mc ms n := by
  obtain ⟨hC, hd⟩ := hd
  subst hC
  have ok : ∀ w ∈ wsV own index y.cls y ws, w.before args s = true := fun w h => ht w (hT w h).1
  have hG : GoodIn Ts ws := fun w h => hT w (by unfold wsV; exact List.mem_append_right _ h)
  have hc : Cond.codeWith y bytes maxL ret hh ∈ ws := by rw [hw]; exact List.mem_cons_self
  refine ⟨⟨hrc, hrs, hR.1, hR.2, pay_in ht hG, hc⟩, ht _ (hG _ hc).1, ok _ (by simp [wsV]), ⟨hd.1, hd.2.1⟩, fun sig h => ?_, ok _ (by simp [wsV]), ok _ (by simp [wsV]), ok _ (by simp [wsV])⟩
  have h2 := hd.2.2
  rw [h] at h2
  exact (Option.some.inj h2).symm
theorem vx_runVW {y : MethodName} {bytes cc : ByteArray} {maxL nL mc ms n index : Nat} {ret : Option FieldType} {hh : List (Nat × Nat × Nat × Nat)} {ws : List Cond} {rm : Room} {Pc : Array Value → State → Prop} {Qc : Array Value → State → Outcome → State → Prop} {free : Addr → Prop} {Ts : List Cond} {own C : String} {b : Addr} {As rest : List Value} {g : JFrame}
    (S : CallFix p m c cc nL s args Ts own) (hM : Met l y ws rm Pc Qc mc ms free) (cw : vx_CVW R s args own C index y bytes maxL ret hh ws rm mc ms n) (hp : PreV s H C b Pc As)
    (hg : g.method = m) (hn : As.length = n) (hsize : g.locals.size = nL) (hstack : g.stack = As.reverse ++ .ref b :: rest) (hW : 2 * g.monitorRoom + (rest.map fun v => v.category).sum ≤ 8) (hdg : decode cc g.pc = .ok (.invokevirtual index, 3)) (hf : cells + mc ≤ R.cells ∧ slots + ms ≤ R.slots) :
    va_Run p l e R s m args below meth c H locs cells slots mc ms g rest (Qc (Value.ref b :: As).toArray) free := by
  obtain ⟨⟨hrc, hrs, hfr, hlo, hws, hcw⟩, hcode, hini, hy, hlen, hl, hin, hse⟩ := cw
  have hK : Back l R p e below s args y 3 8 (PreOf R mc ms Pc) (PostOf Qc mc ms free) := va_backW (hh := hh) (bytes := bytes) (maxL := maxL) (ret := ret) hM hp.1 hrc hrs hfr hlo hws hcw (fun a' U hW => word_at hW (Or.inl (by first | rfl | simp [Cond.onTables, Cond.keeps, Cond.steady])) hini)
  obtain ⟨hx, hb, hml, ho, -⟩ := S
  obtain ⟨-, ⟨cellB, hcB, hoB, hclB⟩, hPc⟩ := hp
  intro T hT X
  obtain ⟨v, vm₁, ⟨U', l2, c2, s2⟩, hW₁, X', ⟨g', mk, t, L, e1, e2, hq, h1, hL, h2, h3⟩, st⟩ := vx_callVW X hx (C := C) (hh := hh) (bytes := bytes) (maxL := maxL) (ret := ret) ho hl hin hse hcode hy hK (by rw [hT]; exact hcB) hoB hclB hg (hsize.trans hml.symm) (argsL := As) (rest := rest) (fun sig h => hn.trans (hlen sig h)) hstack hW (by rw [hb]; exact hdg)
    (fun vm₁ hW₁ => ⟨hf.1, hf.2, hPc (T.setVm vm₁) hT hW₁⟩)
  dsimp only [Pt.U, Pt.locs, Pt.cells, Pt.slots] at X' e1 e2 h1 h2 h3 st
  subst h1; subst h2; subst h3
  exact ⟨v, (T.setVm vm₁).calling g' mk (Value.ref b :: As).toArray, t, U', L, hT, X', hL, e1, e2, hq, st⟩
section
variable {y : MethodName} {bytes cc : ByteArray} {maxL nL mc ms n index : Nat} {ret : Option FieldType} {ws : List Cond} {rm : Room} {Pc : Array Value → State → Prop} {Qc : Array Value → State → Outcome → State → Prop} {XC : String → State → State → Prop} {free : Addr → Prop} {Ts : List Cond} {own C : String} {b : Addr} {As rest : List Value} {g : JFrame}
theorem vx_runVX {hh : List (Nat × Nat × Nat × Nat)} (S : CallFix p m c cc nL s args Ts own) (hM : vx_Met l y ws rm Pc Qc XC mc ms free) (cw : vx_CVW R s args own C index y bytes maxL ret hh ws rm mc ms n) (hp : PreV s H C b Pc As)
    (hg : g.method = m) (hn : As.length = n) (hsize : g.locals.size = nL) (hstack : g.stack = As.reverse ++ .ref b :: rest) (hW : 2 * g.monitorRoom + (rest.map fun v => v.category).sum ≤ 8) (hdg : decode cc g.pc = .ok (.invokevirtual index, 3)) (hf : cells + mc ≤ R.cells ∧ slots + ms ≤ R.slots) :
    vx_Run p l e R s m args below meth c H locs cells slots mc ms g rest (Qc (Value.ref b :: As).toArray) XC free := by
  obtain ⟨⟨hrc, hrs, hfr, hlo, hws, hcw⟩, hcode, hini, hy, hlen, hl, hin, hse⟩ := cw
  have hK : vx_Back l R p e below s args y 3 8 (PreOf R mc ms Pc) (PostOf Qc mc ms free) (vx_Post XC mc ms free) := vx_backW (hh := hh) (bytes := bytes) (maxL := maxL) (ret := ret) hM hp.1 hrc hrs hfr hlo hws hcw (fun a' U hW => word_at hW (Or.inl (by first | rfl | simp [Cond.onTables, Cond.keeps, Cond.steady])) hini)
  obtain ⟨hx, hb, hml, ho, -⟩ := S
  obtain ⟨-, ⟨cellB, hcB, hoB, hclB⟩, hPc⟩ := hp
  intro T hT X
  rcases vx_callVX X hx (C := C) (hh := hh) (bytes := bytes) (maxL := maxL) (ret := ret) ho hl hin hse hcode hy hK (by rw [hT]; exact hcB) hoB hclB hg (hsize.trans hml.symm) (argsL := As) (rest := rest) (fun sig h => hn.trans (hlen sig h)) hstack hW (by rw [hb]; exact hdg)
    (fun vm₁ hW₁ => ⟨hf.1, hf.2, hPc (T.setVm vm₁) hT hW₁⟩) with ⟨v, vm₁, ⟨U', l2, c2, s2⟩, hW₁, X', ⟨g', mk, t, L, e1, e2, hq, h1, hL, h2, h3⟩, st⟩ | ⟨q, vm₁, ⟨U', l2, c2, s2⟩, hW₁, X', ⟨g', mk, t, L, E, ce, e1, e2, hq, hce, hcv, hcl, h1, hL, h2, h3⟩, st⟩
  · dsimp only [Pt.U, Pt.locs, Pt.cells, Pt.slots] at X' e1 e2 h1 h2 h3 st
    subst h1; subst h2; subst h3
    exact Or.inl ⟨v, (T.setVm vm₁).calling g' mk (Value.ref b :: As).toArray, t, U', L, hT, X', hL, e1, e2, hq, st⟩
  · dsimp only [Pt.U, Pt.locs, Pt.cells, Pt.slots] at X' e1 e2 h1 h2 h3 st hcl
    subst h1; subst h2; subst h3
    exact Or.inr ⟨q, (T.setVm vm₁).calling g' mk (Value.ref b :: As).toArray, t, U', L, E, ce, hT, X', hL, e1, e2, hq, hce, hcv, vx_cls hW₁ hcl, st⟩
theorem vx_runSX {hh : List (Nat × Nat × Nat × Nat)} (S : CallFix p m c cc nL s args Ts own) (hM : vx_Met l y ws rm Pc Qc XC mc ms free) (cw : vx_CSW R s args own index y bytes maxL ret hh ws rm mc ms n) (hp : PreS s H Pc As)
    (hg : g.method = m) (hn : As.length = n) (hsize : g.locals.size = nL) (hstack : g.stack = As.reverse ++ rest) (hW : 2 * g.monitorRoom + (rest.map fun v => v.category).sum ≤ 8) (hdg : decode cc g.pc = .ok (.invokestatic index, 3)) (hf : cells + mc ≤ R.cells ∧ slots + ms ≤ R.slots) :
    vx_Run p l e R s m args below meth c H locs cells slots mc ms g rest (Qc As.toArray) XC free := by
  obtain ⟨⟨hrc, hrs, hfr, hlo, hws, hcw⟩, hcode, hini, hy, hlen, hl, hstt⟩ := cw
  have hK : vx_Back l R p e below s args y 3 8 (PreOf R mc ms Pc) (PostOf Qc mc ms free) (vx_Post XC mc ms free) := vx_backW (hh := hh) (bytes := bytes) (maxL := maxL) (ret := ret) hM hp.1 hrc hrs hfr hlo hws hcw (fun a' U hW => word_at hW (Or.inl (by first | rfl | simp [Cond.onTables, Cond.keeps, Cond.steady])) hini)
  obtain ⟨hx, hb, hml, ho, -⟩ := S
  intro T hT X
  rcases vx_callSX X hx (hh := hh) (bytes := bytes) (maxL := maxL) (ret := ret) ho hl hstt hini hcode hy hK hg (hsize.trans hml.symm) (argsL := As) (rest := rest) (fun sig h => hn.trans (hlen sig h)) hstack hW (by rw [hb]; exact hdg)
    (fun vm₁ hW₁ => ⟨hf.1, hf.2, hp.2 (T.setVm vm₁) hT hW₁⟩) with ⟨v, vm₁, ⟨U', l2, c2, s2⟩, hW₁, X', ⟨g', mk, t, L, e1, e2, hq, h1, hL, h2, h3⟩, st⟩ | ⟨q, vm₁, ⟨U', l2, c2, s2⟩, hW₁, X', ⟨g', mk, t, L, E, ce, e1, e2, hq, hce, hcv, hcl, h1, hL, h2, h3⟩, st⟩
  · dsimp only [Pt.U, Pt.locs, Pt.cells, Pt.slots] at X' e1 e2 h1 h2 h3 st
    subst h1; subst h2; subst h3
    exact Or.inl ⟨v, (T.setVm vm₁).calling g' mk As.toArray, t, U', L, hT, X', hL, e1, e2, hq, st⟩
  · dsimp only [Pt.U, Pt.locs, Pt.cells, Pt.slots] at X' e1 e2 h1 h2 h3 st hcl
    subst h1; subst h2; subst h3
    exact Or.inr ⟨q, (T.setVm vm₁).calling g' mk As.toArray, t, U', L, E, ce, hT, X', hL, e1, e2, hq, hce, hcv, vx_cls hW₁ hcl, st⟩
end
end VXH
theorem vx_ofWH {l : Launch} {y : MethodName} {ws ws' : List Cond} {rm : Room} {Pc : Array Value → State → Prop} {Qc : Array Value → State → Outcome → State → Prop} {XC : String → State → State → Prop} {mc ms : Nat} {free : Addr → Prop} {cc : ByteArray} {maxL : Nat} {ret : Option FieldType} {hh : List (Nat × Nat × Nat × Nat)}
    (hy : plainName y.cls = true) (hw : ws = Cond.codeWith y cc maxL ret hh :: ws')
    (body : ∀ p e s m args below meth c s₁, BodyLoose p l y (headSpec ws rm) cc maxL ret e s m args below meth c s₁ → c.maxLocals = maxL → Pc args s →
      W p l e (headSpec ws rm).room s m args below meth c s.heap [] 0 0 (vx_MQ below Qc XC args s mc ms free) (entryFrame m args maxL)) : vx_Met l y ws rm Pc Qc XC mc ms free := by
  refine MetFree.of_bodyS (code := cc) (maxLocals := maxL) (ret := ret) hy ?_ ?_
  · intro args s m h hn
    obtain ⟨m9, meth, c, hn9, h1, h2, h3, h4, -, h5, h6, -⟩ := Cond.codeWith_spec (atoms_spec (ws := ws) h _ (by rw [hw]; exact List.mem_cons_self))
    cases hn.symm.trans hn9
    exact ⟨meth, c, h1, h2, h3, h4, h5, h6⟩
  · intro p e s m args below meth c s₁ B hml hP _
    have hh0 : s₁.heap = s.heap := by rw [B.state]; rfl
    obtain ⟨t, a1, o, b1, b2, b3⟩ := body p e s m args below meth c s₁ B hml hP s₁ hh0 (Stand.of_body B)
    exact ⟨t, o, a1, b1, b2, b3⟩
/-! ===== END ===== -/
end
section
/-! ===== BEGIN printed: names, fields, word lists, decode rows ===== -/
def RX0 : String := "FreightShare$Desk"
def TX0 : u_T := fun k => match k with
  | 0 => ("FreightShare$Desk", "rate", "I", false)
  | 1 => ("FreightShare$Desk", "places", "I", false)
  | 2 => ("FreightShare$Desk", "trucks", "I", false)
  | 3 => ("FreightShare$Desk", "loads", "I", false)
  | 4 => ("FreightShare$Desk", "trips", "I", false)
  | 5 => ("FreightShare$Desk", "steps", "I", false)
  | 6 => ("FreightShare$Desk", "x", "[I", true)
  | 7 => ("FreightShare$Desk", "y", "[I", true)
  | 8 => ("FreightShare$Desk", "use", "[I", true)
  | 9 => ("FreightShare$Desk", "bought", "[I", true)
  | 10 => ("FreightShare$Desk", "weight", "[I", true)
  | 11 => ("FreightShare$Desk", "from", "[I", true)
  | 12 => ("FreightShare$Desk", "to", "[I", true)
  | 13 => ("FreightShare$Desk", "tripTruck", "[I", true)
  | 14 => ("FreightShare$Desk", "tripFuel", "[I", true)
  | 15 => ("FreightShare$Desk", "tripStart", "[I", true)
  | 16 => ("FreightShare$Desk", "tripStepsEnd", "[I", true)
  | 17 => ("FreightShare$Desk", "stepKind", "[I", true)
  | _ => ("FreightShare$Desk", "stepWhich", "[I", true)
def tyX0 : Nat → FieldType := fun k => match k with
  | 0 => .int
  | 1 => .int
  | 2 => .int
  | 3 => .int
  | 4 => .int
  | 5 => .int
  | 6 => .array .int
  | 7 => .array .int
  | 8 => .array .int
  | 9 => .array .int
  | 10 => .array .int
  | 11 => .array .int
  | 12 => .array .int
  | 13 => .array .int
  | 14 => .array .int
  | 15 => .array .int
  | 16 => .array .int
  | 17 => .array .int
  | _ => .array .int
abbrev wsX00 : List Cond := u_ws RX0 TX0 19
theorem nmX0 : ∀ a, a < 19 → ∀ b, b < 19 → a ≠ b → (TX0 a).2.1 ≠ (TX0 b).2.1 := by decide +kernel
theorem tyX0_ok : ∀ k, k < 19 → parseFieldDescriptor (TX0 k).2.2.1 = some (tyX0 k) := by decide +kernel
abbrev cX0_init : ByteArray := prog_2_method_1_code
def yX0_init : MethodName := ⟨RX0, "<init>", "()V"⟩
abbrev cX0_clear : ByteArray := prog_2_method_2_code
def yX0_clear : MethodName := ⟨RX0, "clear", "()V"⟩
abbrev cX0_addPlace : ByteArray := prog_2_method_3_code
def yX0_addPlace : MethodName := ⟨RX0, "addPlace", "(II)V"⟩
abbrev cX0_addTruck : ByteArray := prog_2_method_4_code
def yX0_addTruck : MethodName := ⟨RX0, "addTruck", "(II)V"⟩
abbrev cX0_addLoad : ByteArray := prog_2_method_5_code
def yX0_addLoad : MethodName := ⟨RX0, "addLoad", "(III)V"⟩
abbrev cX0_addTrip : ByteArray := prog_2_method_6_code
def yX0_addTrip : MethodName := ⟨RX0, "addTrip", "(III)V"⟩
abbrev cX0_addStep : ByteArray := prog_2_method_7_code
def yX0_addStep : MethodName := ⟨RX0, "addStep", "(II)V"⟩
abbrev cX0_firstStep : ByteArray := prog_2_method_8_code
def yX0_firstStep : MethodName := ⟨RX0, "firstStep", "(I)I"⟩
abbrev cX0_fuelTold : ByteArray := prog_2_method_9_code
def yX0_fuelTold : MethodName := ⟨RX0, "fuelTold", "(I)I"⟩
abbrev cX0_distance : ByteArray := prog_2_method_10_code
def yX0_distance : MethodName := ⟨RX0, "distance", "(II)I"⟩
def RX1 : String := "FreightShare$History"
def TX1 : u_T := fun k => match k with
  | 0 => ("FreightShare$History", "kind", "[I", true)
  | 1 => ("FreightShare$History", "index", "[I", true)
  | 2 => ("FreightShare$History", "before", "[I", true)
  | _ => ("FreightShare$History", "count", "I", false)
def tyX1 : Nat → FieldType := fun k => match k with
  | 0 => .array .int
  | 1 => .array .int
  | 2 => .array .int
  | _ => .int
abbrev wsX10 : List Cond := u_ws RX1 TX1 4
theorem nmX1 : ∀ a, a < 4 → ∀ b, b < 4 → a ≠ b → (TX1 a).2.1 ≠ (TX1 b).2.1 := by decide +kernel
theorem tyX1_ok : ∀ k, k < 4 → parseFieldDescriptor (TX1 k).2.2.1 = some (tyX1 k) := by decide +kernel
abbrev cX1_init : ByteArray := prog_3_method_1_code
def yX1_init : MethodName := ⟨RX1, "<init>", "()V"⟩
abbrev cX1_keep : ByteArray := prog_3_method_2_code
def yX1_keep : MethodName := ⟨RX1, "keep", "(III)V"⟩
abbrev cX1_forgetOldest : ByteArray := prog_3_method_3_code
def yX1_forgetOldest : MethodName := ⟨RX1, "forgetOldest", "()V"⟩
def RX2 : String := "FreightShare$Ledger"
def TX2 : u_T := fun k => match k with
  | 0 => ("FreightShare$Ledger", "parter", "LFreightShare$Parter;", true)
  | 1 => ("FreightShare$Ledger", "desk", "LFreightShare$Desk;", false)
  | 2 => ("FreightShare$Ledger", "routes", "LFreightShare$Routes;", false)
  | 3 => ("FreightShare$Ledger", "loads", "I", false)
  | 4 => ("FreightShare$Ledger", "weight", "[I", true)
  | 5 => ("FreightShare$Ledger", "goesAs", "[I", true)
  | 6 => ("FreightShare$Ledger", "estimate", "[I", true)
  | 7 => ("FreightShare$Ledger", "closed", "[I", true)
  | 8 => ("FreightShare$Ledger", "parts", "[[I", true)
  | 9 => ("FreightShare$Ledger", "partsOfTrip", "[I", true)
  | 10 => ("FreightShare$Ledger", "goesTo", "[I", true)
  | 11 => ("FreightShare$Ledger", "parted", "[I", true)
  | 12 => ("FreightShare$Ledger", "ofTrip", "[[I", true)
  | 13 => ("FreightShare$Ledger", "open", "I", false)
  | 14 => ("FreightShare$Ledger", "ofOpen", "[I", true)
  | _ => ("FreightShare$Ledger", "total", "[I", true)
def tyX2 : Nat → FieldType := fun k => match k with
  | 0 => .object "FreightShare$Parter"
  | 1 => .object "FreightShare$Desk"
  | 2 => .object "FreightShare$Routes"
  | 3 => .int
  | 4 => .array .int
  | 5 => .array .int
  | 6 => .array .int
  | 7 => .array .int
  | 8 => .array (.array .int)
  | 9 => .array .int
  | 10 => .array .int
  | 11 => .array .int
  | 12 => .array (.array .int)
  | 13 => .int
  | 14 => .array .int
  | _ => .array .int
abbrev wsX20 : List Cond := u_ws RX2 TX2 16
theorem nmX2 : ∀ a, a < 16 → ∀ b, b < 16 → a ≠ b → (TX2 a).2.1 ≠ (TX2 b).2.1 := by decide +kernel
theorem tyX2_ok : ∀ k, k < 16 → parseFieldDescriptor (TX2 k).2.2.1 = some (tyX2 k) := by decide +kernel
abbrev cX2_init : ByteArray := prog_4_method_1_code
def yX2_init : MethodName := ⟨RX2, "<init>", "()V"⟩
abbrev cX2_takeLoads : ByteArray := prog_4_method_2_code
def yX2_takeLoads : MethodName := ⟨RX2, "takeLoads", "(LFreightShare$Desk;)V"⟩
abbrev cX2_splitLoad : ByteArray := prog_4_method_3_code
def yX2_splitLoad : MethodName := ⟨RX2, "splitLoad", "(II)V"⟩
abbrev cX2_settle : ByteArray := prog_4_method_4_code
def yX2_settle : MethodName := ⟨RX2, "settle", "(LFreightShare$Desk;LFreightShare$Routes;)V"⟩
abbrev cX2_isIdle : ByteArray := prog_4_method_5_code
def yX2_isIdle : MethodName := ⟨RX2, "isIdle", "(I)Z"⟩
abbrev cX2_estimateOf : ByteArray := prog_4_method_6_code
def yX2_estimateOf : MethodName := ⟨RX2, "estimateOf", "(I)I"⟩
abbrev cX2_measureParts : ByteArray := prog_4_method_7_code
def yX2_measureParts : MethodName := ⟨RX2, "measureParts", "(I)V"⟩
abbrev cX2_closeTruck : ByteArray := prog_4_method_8_code
def yX2_closeTruck : MethodName := ⟨RX2, "closeTruck", "(I)V"⟩
abbrev cX2_isParted : ByteArray := prog_4_method_9_code
def yX2_isParted : MethodName := ⟨RX2, "isParted", "(IIZ)Z"⟩
abbrev cX2_sumOfMissing : ByteArray := prog_4_method_10_code
def yX2_sumOfMissing : MethodName := ⟨RX2, "sumOfMissing", "(I)I"⟩
abbrev cX2_gatherIdle : ByteArray := prog_4_method_11_code
def yX2_gatherIdle : MethodName := ⟨RX2, "gatherIdle", "()V"⟩
abbrev cX2_heirOf : ByteArray := prog_4_method_12_code
def yX2_heirOf : MethodName := ⟨RX2, "heirOf", "(I)I"⟩
abbrev cX2_partTrip : ByteArray := prog_4_method_13_code
def yX2_partTrip : MethodName := ⟨RX2, "partTrip", "(I)V"⟩
abbrev cX2_partOpen : ByteArray := prog_4_method_14_code
def yX2_partOpen : MethodName := ⟨RX2, "partOpen", "()V"⟩
def RX3 : String := "FreightShare$Parter"
def TX3 : u_T := fun k => match k with
  | 0 => ("FreightShare$Parter", "gets", "[I", true)
  | 1 => ("FreightShare$Parter", "measure", "[I", true)
  | 2 => ("FreightShare$Parter", "remainder", "[J", true)
  | _ => ("FreightShare$Parter", "count", "I", false)
def tyX3 : Nat → FieldType := fun k => match k with
  | 0 => .array .int
  | 1 => .array .int
  | 2 => .array .long
  | _ => .int
abbrev wsX30 : List Cond := u_ws RX3 TX3 4
theorem nmX3 : ∀ a, a < 4 → ∀ b, b < 4 → a ≠ b → (TX3 a).2.1 ≠ (TX3 b).2.1 := by decide +kernel
theorem tyX3_ok : ∀ k, k < 4 → parseFieldDescriptor (TX3 k).2.2.1 = some (tyX3 k) := by decide +kernel
abbrev cX3_init : ByteArray := prog_5_method_1_code
def yX3_init : MethodName := ⟨RX3, "<init>", "()V"⟩
abbrev cX3_begin : ByteArray := prog_5_method_2_code
def yX3_begin : MethodName := ⟨RX3, "begin", "()V"⟩
abbrev cX3_add : ByteArray := prog_5_method_3_code
def yX3_add : MethodName := ⟨RX3, "add", "(I)V"⟩
abbrev cX3_divide : ByteArray := prog_5_method_4_code
def yX3_divide : MethodName := ⟨RX3, "divide", "(I)V"⟩
abbrev cX3_giveOne : ByteArray := prog_5_method_5_code
def yX3_giveOne : MethodName := ⟨RX3, "giveOne", "()V"⟩
def RX4 : String := "FreightShare$Reader"
def TX4 : u_T := fun k => match k with
  | 0 => ("FreightShare$Reader", "tokens", "LFreightShare$Scanner;", true)
  | 1 => ("FreightShare$Reader", "target", "LFreightShare$Desk;", false)
  | 2 => ("FreightShare$Reader", "lines", "I", false)
  | 3 => ("FreightShare$Reader", "faultKind", "I", false)
  | 4 => ("FreightShare$Reader", "faultPlace", "I", false)
  | 5 => ("FreightShare$Reader", "lineWord", "I", false)
  | 6 => ("FreightShare$Reader", "told", "[I", true)
  | 7 => ("FreightShare$Reader", "toldCount", "I", false)
  | 8 => ("FreightShare$Reader", "wanted", "I", false)
  | 9 => ("FreightShare$Reader", "stepWord", "I", false)
  | 10 => ("FreightShare$Reader", "aboard", "I", false)
  | _ => ("FreightShare$Reader", "wasAboard", "I", false)
def tyX4 : Nat → FieldType := fun k => match k with
  | 0 => .object "FreightShare$Scanner"
  | 1 => .object "FreightShare$Desk"
  | 2 => .int
  | 3 => .int
  | 4 => .int
  | 5 => .int
  | 6 => .array .int
  | 7 => .int
  | 8 => .int
  | 9 => .int
  | 10 => .int
  | _ => .int
abbrev wsX40 : List Cond := u_ws RX4 TX4 12
theorem nmX4 : ∀ a, a < 12 → ∀ b, b < 12 → a ≠ b → (TX4 a).2.1 ≠ (TX4 b).2.1 := by decide +kernel
theorem tyX4_ok : ∀ k, k < 12 → parseFieldDescriptor (TX4 k).2.2.1 = some (tyX4 k) := by decide +kernel
abbrev cX4_init : ByteArray := prog_6_method_1_code
def yX4_init : MethodName := ⟨RX4, "<init>", "(LFreightShare$Tape;)V"⟩
abbrev cX4_read : ByteArray := prog_6_method_2_code
def yX4_read : MethodName := ⟨RX4, "read", "(LFreightShare$Desk;)Z"⟩
abbrev cX4_refuse : ByteArray := prog_6_method_3_code
def yX4_refuse : MethodName := ⟨RX4, "refuse", "(I)Z"⟩
abbrev cX4_takeToken : ByteArray := prog_6_method_4_code
def yX4_takeToken : MethodName := ⟨RX4, "takeToken", "()Z"⟩
abbrev cX4_beginLine : ByteArray := prog_6_method_5_code
def yX4_beginLine : MethodName := ⟨RX4, "beginLine", "()Z"⟩
abbrev cX4_beginLineOf : ByteArray := prog_6_method_6_code
def yX4_beginLineOf : MethodName := ⟨RX4, "beginLineOf", "(IIZ)Z"⟩
abbrev cX4_takeField : ByteArray := prog_6_method_7_code
def yX4_takeField : MethodName := ⟨RX4, "takeField", "()Z"⟩
abbrev cX4_takeFieldOfLoad : ByteArray := prog_6_method_8_code
def yX4_takeFieldOfLoad : MethodName := ⟨RX4, "takeFieldOfLoad", "()Z"⟩
abbrev cX4_takeFieldOfTrip : ByteArray := prog_6_method_9_code
def yX4_takeFieldOfTrip : MethodName := ⟨RX4, "takeFieldOfTrip", "()Z"⟩
abbrev cX4_takeNumber : ByteArray := prog_6_method_10_code
def yX4_takeNumber : MethodName := ⟨RX4, "takeNumber", "(II)Z"⟩
abbrev cX4_takeNumberTold : ByteArray := prog_6_method_11_code
def yX4_takeNumberTold : MethodName := ⟨RX4, "takeNumberTold", "(I)Z"⟩
abbrev cX4_isNumberTold : ByteArray := prog_6_method_12_code
def yX4_isNumberTold : MethodName := ⟨RX4, "isNumberTold", "(I)Z"⟩
abbrev cX4_keepField : ByteArray := prog_6_method_13_code
def yX4_keepField : MethodName := ⟨RX4, "keepField", "(I)Z"⟩
abbrev cX4_takeStep : ByteArray := prog_6_method_14_code
def yX4_takeStep : MethodName := ⟨RX4, "takeStep", "()Z"⟩
abbrev cX4_takeNumberOfStep : ByteArray := prog_6_method_15_code
def yX4_takeNumberOfStep : MethodName := ⟨RX4, "takeNumberOfStep", "()Z"⟩
abbrev cX4_endLine : ByteArray := prog_6_method_16_code
def yX4_endLine : MethodName := ⟨RX4, "endLine", "()Z"⟩
def RX5 : String := "FreightShare$Routes"
def TX5 : u_T := fun k => match k with
  | 0 => ("FreightShare$Routes", "desk", "LFreightShare$Desk;", false)
  | 1 => ("FreightShare$Routes", "tripLong", "[I", true)
  | 2 => ("FreightShare$Routes", "tripEmpty", "[I", true)
  | 3 => ("FreightShare$Routes", "tripLast", "[I", true)
  | 4 => ("FreightShare$Routes", "tripLoads", "[I", true)
  | 5 => ("FreightShare$Routes", "takenOn", "[[I", true)
  | 6 => ("FreightShare$Routes", "takenOff", "[[I", true)
  | 7 => ("FreightShare$Routes", "ways", "[[I", true)
  | 8 => ("FreightShare$Routes", "changes", "[[I", true)
  | 9 => ("FreightShare$Routes", "loadLong", "[I", true)
  | 10 => ("FreightShare$Routes", "loadGaps", "[I", true)
  | 11 => ("FreightShare$Routes", "loadGapLong", "[I", true)
  | 12 => ("FreightShare$Routes", "gaps", "I", false)
  | 13 => ("FreightShare$Routes", "gapOwner", "[I", true)
  | 14 => ("FreightShare$Routes", "gapFrom", "[I", true)
  | _ => ("FreightShare$Routes", "gapTo", "[I", true)
def tyX5 : Nat → FieldType := fun k => match k with
  | 0 => .object "FreightShare$Desk"
  | 1 => .array .int
  | 2 => .array .int
  | 3 => .array .int
  | 4 => .array .int
  | 5 => .array (.array .int)
  | 6 => .array (.array .int)
  | 7 => .array (.array .int)
  | 8 => .array (.array .int)
  | 9 => .array .int
  | 10 => .array .int
  | 11 => .array .int
  | 12 => .int
  | 13 => .array .int
  | 14 => .array .int
  | _ => .array .int
abbrev wsX50 : List Cond := u_ws RX5 TX5 16
theorem nmX5 : ∀ a, a < 16 → ∀ b, b < 16 → a ≠ b → (TX5 a).2.1 ≠ (TX5 b).2.1 := by decide +kernel
theorem tyX5_ok : ∀ k, k < 16 → parseFieldDescriptor (TX5 k).2.2.1 = some (tyX5 k) := by decide +kernel
abbrev cX5_init : ByteArray := prog_7_method_1_code
def yX5_init : MethodName := ⟨RX5, "<init>", "()V"⟩
abbrev cX5_survey : ByteArray := prog_7_method_2_code
def yX5_survey : MethodName := ⟨RX5, "survey", "(LFreightShare$Desk;)V"⟩
abbrev cX5_clear : ByteArray := prog_7_method_3_code
def yX5_clear : MethodName := ⟨RX5, "clear", "()V"⟩
abbrev cX5_drive : ByteArray := prog_7_method_4_code
def yX5_drive : MethodName := ⟨RX5, "drive", "(I)V"⟩
abbrev cX5_driveLeg : ByteArray := prog_7_method_5_code
def yX5_driveLeg : MethodName := ⟨RX5, "driveLeg", "(IIII)V"⟩
abbrev cX5_findGapsOfTruck : ByteArray := prog_7_method_6_code
def yX5_findGapsOfTruck : MethodName := ⟨RX5, "findGapsOfTruck", "(I)V"⟩
abbrev cX5_followLoad : ByteArray := prog_7_method_7_code
def yX5_followLoad : MethodName := ⟨RX5, "followLoad", "(I)V"⟩
abbrev cX5_addGapOfLoad : ByteArray := prog_7_method_8_code
def yX5_addGapOfLoad : MethodName := ⟨RX5, "addGapOfLoad", "(III)V"⟩
abbrev cX5_addGap : ByteArray := prog_7_method_9_code
def yX5_addGap : MethodName := ⟨RX5, "addGap", "(III)V"⟩
def RX6 : String := "FreightShare$Scanner"
def TX6 : u_T := fun k => match k with
  | 0 => ("FreightShare$Scanner", "tape", "LFreightShare$Tape;", true)
  | 1 => ("FreightShare$Scanner", "kind", "I", false)
  | 2 => ("FreightShare$Scanner", "start", "I", false)
  | 3 => ("FreightShare$Scanner", "value", "I", false)
  | 4 => ("FreightShare$Scanner", "at", "I", false)
  | _ => ("FreightShare$Scanner", "limit", "I", false)
def tyX6 : Nat → FieldType := fun k => match k with
  | 0 => .object "FreightShare$Tape"
  | 1 => .int
  | 2 => .int
  | 3 => .int
  | 4 => .int
  | _ => .int
abbrev wsX60 : List Cond := u_ws RX6 TX6 6
theorem nmX6 : ∀ a, a < 6 → ∀ b, b < 6 → a ≠ b → (TX6 a).2.1 ≠ (TX6 b).2.1 := by decide +kernel
theorem tyX6_ok : ∀ k, k < 6 → parseFieldDescriptor (TX6 k).2.2.1 = some (tyX6 k) := by decide +kernel
abbrev cX6_init : ByteArray := prog_8_method_1_code
def yX6_init : MethodName := ⟨RX6, "<init>", "(LFreightShare$Tape;)V"⟩
abbrev cX6_begin : ByteArray := prog_8_method_2_code
def yX6_begin : MethodName := ⟨RX6, "begin", "()V"⟩
abbrev cX6_hasTooMany : ByteArray := prog_8_method_3_code
def yX6_hasTooMany : MethodName := ⟨RX6, "hasTooMany", "()Z"⟩
abbrev cX6_next : ByteArray := prog_8_method_4_code
def yX6_next : MethodName := ⟨RX6, "next", "()V"⟩
abbrev cX6_readRun : ByteArray := prog_8_method_5_code
def yX6_readRun : MethodName := ⟨RX6, "readRun", "()I"⟩
abbrev cX6_wordKind : ByteArray := prog_8_method_6_code
def yX6_wordKind : MethodName := ⟨RX6, "wordKind", "()I"⟩
abbrev cX6_spells : ByteArray := prog_8_method_7_code
def yX6_spells : MethodName := ⟨RX6, "spells", "(Ljava/lang/String;)Z"⟩
abbrev cX6_isBlank : ByteArray := prog_8_method_8_code
def yX6_isBlank : MethodName := ⟨RX6, "isBlank", "(I)Z"⟩
abbrev cX6_isLetter : ByteArray := prog_8_method_9_code
def yX6_isLetter : MethodName := ⟨RX6, "isLetter", "(I)Z"⟩
abbrev cX6_isDigit : ByteArray := prog_8_method_10_code
def yX6_isDigit : MethodName := ⟨RX6, "isDigit", "(I)Z"⟩
def RX7 : String := "FreightShare$Tape"
def TX7 : u_T := fun k => match k with
  | 0 => ("FreightShare$Tape", "bytes", "[B", true)
  | _ => ("FreightShare$Tape", "size", "I", false)
def tyX7 : Nat → FieldType := fun k => match k with
  | 0 => .array .byte
  | _ => .int
abbrev wsX70 : List Cond := u_ws RX7 TX7 2
theorem nmX7 : ∀ a, a < 2 → ∀ b, b < 2 → a ≠ b → (TX7 a).2.1 ≠ (TX7 b).2.1 := by decide +kernel
theorem tyX7_ok : ∀ k, k < 2 → parseFieldDescriptor (TX7 k).2.2.1 = some (tyX7 k) := by decide +kernel
abbrev cX7_init : ByteArray := prog_9_method_1_code
def yX7_init : MethodName := ⟨RX7, "<init>", "()V"⟩
abbrev cX7_addNumber : ByteArray := prog_9_method_2_code
def yX7_addNumber : MethodName := ⟨RX7, "addNumber", "(I)V"⟩
abbrev cX7_addByte : ByteArray := prog_9_method_3_code
def yX7_addByte : MethodName := ⟨RX7, "addByte", "(I)V"⟩
abbrev cX7_byteAt : ByteArray := prog_9_method_4_code
def yX7_byteAt : MethodName := ⟨RX7, "byteAt", "(I)I"⟩
def RX8 : String := "FreightShare"
def TX8 : u_T := fun k => match k with
  | 0 => ("FreightShare", "tape", "LFreightShare$Tape;", true)
  | 1 => ("FreightShare", "reader", "LFreightShare$Reader;", true)
  | 2 => ("FreightShare", "routes", "LFreightShare$Routes;", true)
  | 3 => ("FreightShare", "ledger", "LFreightShare$Ledger;", true)
  | 4 => ("FreightShare", "paper", "LFreightShare$Ledger;", true)
  | 5 => ("FreightShare", "history", "LFreightShare$History;", true)
  | 6 => ("FreightShare", "desk", "LFreightShare$Desk;", false)
  | 7 => ("FreightShare", "spareDesk", "LFreightShare$Desk;", false)
  | _ => ("FreightShare", "latestFault", "I", false)
def tyX8 : Nat → FieldType := fun k => match k with
  | 0 => .object "FreightShare$Tape"
  | 1 => .object "FreightShare$Reader"
  | 2 => .object "FreightShare$Routes"
  | 3 => .object "FreightShare$Ledger"
  | 4 => .object "FreightShare$Ledger"
  | 5 => .object "FreightShare$History"
  | 6 => .object "FreightShare$Desk"
  | 7 => .object "FreightShare$Desk"
  | _ => .int
abbrev wsX80 : List Cond := u_ws RX8 TX8 9
theorem nmX8 : ∀ a, a < 9 → ∀ b, b < 9 → a ≠ b → (TX8 a).2.1 ≠ (TX8 b).2.1 := by decide +kernel
theorem tyX8_ok : ∀ k, k < 9 → parseFieldDescriptor (TX8 k).2.2.1 = some (tyX8 k) := by decide +kernel
abbrev cX8_init : ByteArray := prog_1_method_1_code
def yX8_init : MethodName := ⟨RX8, "<init>", "()V"⟩
abbrev cX8_feed : ByteArray := prog_1_method_2_code
def yX8_feed : MethodName := ⟨RX8, "feed", "(IIIII)I"⟩
abbrev cX8_end : ByteArray := prog_1_method_3_code
def yX8_end : MethodName := ⟨RX8, "end", "(I)Z"⟩
abbrev cX8_text : ByteArray := prog_1_method_4_code
def yX8_text : MethodName := ⟨RX8, "text", "()I"⟩
abbrev cX8_fault : ByteArray := prog_1_method_5_code
def yX8_fault : MethodName := ⟨RX8, "fault", "()I"⟩
abbrev cX8_now : ByteArray := prog_1_method_6_code
def yX8_now : MethodName := ⟨RX8, "now", "(I)I"⟩
abbrev cX8_direct : ByteArray := prog_1_method_7_code
def yX8_direct : MethodName := ⟨RX8, "direct", "(II)I"⟩
abbrev cX8_truck : ByteArray := prog_1_method_8_code
def yX8_truck : MethodName := ⟨RX8, "truck", "(II)I"⟩
abbrev cX8_load : ByteArray := prog_1_method_9_code
def yX8_load : MethodName := ⟨RX8, "load", "(II)I"⟩
abbrev cX8_trip : ByteArray := prog_1_method_10_code
def yX8_trip : MethodName := ⟨RX8, "trip", "(II)I"⟩
abbrev cX8_share : ByteArray := prog_1_method_11_code
def yX8_share : MethodName := ⟨RX8, "share", "(II)I"⟩
abbrev cX8_gap : ByteArray := prog_1_method_12_code
def yX8_gap : MethodName := ⟨RX8, "gap", "(II)I"⟩
abbrev cX8_way : ByteArray := prog_1_method_13_code
def yX8_way : MethodName := ⟨RX8, "way", "(II)I"⟩
abbrev cX8_busiest : ByteArray := prog_1_method_14_code
def yX8_busiest : MethodName := ⟨RX8, "busiest", "()I"⟩
abbrev cX8_hub : ByteArray := prog_1_method_15_code
def yX8_hub : MethodName := ⟨RX8, "hub", "(I)I"⟩
abbrev cX8_dearest : ByteArray := prog_1_method_16_code
def yX8_dearest : MethodName := ⟨RX8, "dearest", "()I"⟩
abbrev cX8_split : ByteArray := prog_1_method_17_code
def yX8_split : MethodName := ⟨RX8, "split", "(III)I"⟩
abbrev cX8_without : ByteArray := prog_1_method_18_code
def yX8_without : MethodName := ⟨RX8, "without", "(II)I"⟩
abbrev cX8_fuel : ByteArray := prog_1_method_19_code
def yX8_fuel : MethodName := ⟨RX8, "fuel", "(II)I"⟩
abbrev cX8_buy : ByteArray := prog_1_method_20_code
def yX8_buy : MethodName := ⟨RX8, "buy", "(II)I"⟩
abbrev cX8_weigh : ByteArray := prog_1_method_21_code
def yX8_weigh : MethodName := ⟨RX8, "weigh", "(II)I"⟩
abbrev cX8_undo : ByteArray := prog_1_method_22_code
def yX8_undo : MethodName := ⟨RX8, "undo", "()I"⟩
abbrev cX8_isIn : ByteArray := prog_1_method_23_code
def yX8_isIn : MethodName := ⟨RX8, "isIn", "(II)Z"⟩
abbrev cX8_sumOf : ByteArray := prog_1_method_24_code
def yX8_sumOf : MethodName := ⟨RX8, "sumOf", "([II)I"⟩
abbrev cX8_settle : ByteArray := prog_1_method_25_code
def yX8_settle : MethodName := ⟨RX8, "settle", "()V"⟩
abbrev cX8_change : ByteArray := prog_1_method_26_code
def yX8_change : MethodName := ⟨RX8, "change", "(I[III)I"⟩
abbrev cX8_rowOf : ByteArray := prog_1_method_27_code
def yX8_rowOf : MethodName := ⟨RX8, "rowOf", "(I)[I"⟩
abbrev cX8_hubBits : ByteArray := prog_1_method_28_code
def yX8_hubBits : MethodName := ⟨RX8, "hubBits", "()I"⟩
abbrev cX8_tripBits : ByteArray := prog_1_method_29_code
def yX8_tripBits : MethodName := ⟨RX8, "tripBits", "(I)I"⟩
abbrev cX8_sumOverTrips : ByteArray := prog_1_method_30_code
def yX8_sumOverTrips : MethodName := ⟨RX8, "sumOverTrips", "(I[I)I"⟩
abbrev cX8_lastPlace : ByteArray := prog_1_method_31_code
def yX8_lastPlace : MethodName := ⟨RX8, "lastPlace", "(I)I"⟩
abbrev cX8_tripBitsOfLoad : ByteArray := prog_1_method_32_code
def yX8_tripBitsOfLoad : MethodName := ⟨RX8, "tripBitsOfLoad", "(I)I"⟩
abbrev cX8_partsOfLoad : ByteArray := prog_1_method_33_code
def yX8_partsOfLoad : MethodName := ⟨RX8, "partsOfLoad", "(I)I"⟩
abbrev cX8_due : ByteArray := prog_1_method_34_code
def yX8_due : MethodName := ⟨RX8, "due", "(I)I"⟩
abbrev cX8_isDearer : ByteArray := prog_1_method_35_code
def yX8_isDearer : MethodName := ⟨RX8, "isDearer", "(II)Z"⟩
def RX9 : String := "FreightShareModel"
def TX9 : u_T := fun k => match k with
  | 0 => ("FreightShareModel", "thrown", "I", false)
  | 1 => ("FreightShareModel", "tape", "[I", true)
  | 2 => ("FreightShareModel", "taped", "I", false)
  | 3 => ("FreightShareModel", "size", "I", false)
  | 4 => ("FreightShareModel", "to", "I", false)
  | 5 => ("FreightShareModel", "from", "I", false)
  | 6 => ("FreightShareModel", "sort", "I", false)
  | 7 => ("FreightShareModel", "number", "I", false)
  | 8 => ("FreightShareModel", "fault", "I", false)
  | 9 => ("FreightShareModel", "place", "I", false)
  | 10 => ("FreightShareModel", "word", "J", false)
  | 11 => ("FreightShareModel", "now", "[I", true)
  | 12 => ("FreightShareModel", "read", "[I", true)
  | 13 => ("FreightShareModel", "snaps", "[I", true)
  | 14 => ("FreightShareModel", "snapMany", "I", false)
  | 15 => ("FreightShareModel", "weights", "[I", true)
  | 16 => ("FreightShareModel", "like", "[I", true)
  | 17 => ("FreightShareModel", "closed", "[I", true)
  | 18 => ("FreightShareModel", "given", "[I", true)
  | 19 => ("FreightShareModel", "goesWith", "[I", true)
  | 20 => ("FreightShareModel", "shares", "[I", true)
  | 21 => ("FreightShareModel", "ofTrips", "[I", true)
  | 22 => ("FreightShareModel", "parted", "[I", true)
  | 23 => ("FreightShareModel", "own", "[I", true)
  | 24 => ("FreightShareModel", "measures", "[J", true)
  | 25 => ("FreightShareModel", "rests", "[J", true)
  | 26 => ("FreightShareModel", "many", "I", false)
  | 27 => ("FreightShareModel", "out", "I", false)
  | 28 => ("FreightShareModel", "open", "I", false)
  | 29 => ("FreightShareModel", "gaps", "[I", true)
  | _ => ("FreightShareModel", "gapMany", "I", false)
def tyX9 : Nat → FieldType := fun k => match k with
  | 0 => .int
  | 1 => .array .int
  | 2 => .int
  | 3 => .int
  | 4 => .int
  | 5 => .int
  | 6 => .int
  | 7 => .int
  | 8 => .int
  | 9 => .int
  | 10 => .long
  | 11 => .array .int
  | 12 => .array .int
  | 13 => .array .int
  | 14 => .int
  | 15 => .array .int
  | 16 => .array .int
  | 17 => .array .int
  | 18 => .array .int
  | 19 => .array .int
  | 20 => .array .int
  | 21 => .array .int
  | 22 => .array .int
  | 23 => .array .int
  | 24 => .array .long
  | 25 => .array .long
  | 26 => .int
  | 27 => .int
  | 28 => .int
  | 29 => .array .int
  | _ => .int
abbrev wsX90 : List Cond := u_ws RX9 TX9 31
theorem nmX9 : ∀ a, a < 31 → ∀ b, b < 31 → a ≠ b → (TX9 a).2.1 ≠ (TX9 b).2.1 := by decide +kernel
theorem tyX9_ok : ∀ k, k < 31 → parseFieldDescriptor (TX9 k).2.2.1 = some (tyX9 k) := by decide +kernel
abbrev cX9_thrown : ByteArray := prog_11_method_1_code
def yX9_thrown : MethodName := ⟨RX9, "thrown", "()I"⟩
abbrev cX9_refuse : ByteArray := prog_11_method_2_code
def yX9_refuse : MethodName := ⟨RX9, "refuse", "()I"⟩
abbrev cX9_isIn : ByteArray := prog_11_method_3_code
def yX9_isIn : MethodName := ⟨RX9, "isIn", "(III)Z"⟩
abbrev cX9_has : ByteArray := prog_11_method_4_code
def yX9_has : MethodName := ⟨RX9, "has", "(II)Z"⟩
abbrev cX9_lays : ByteArray := prog_11_method_5_code
def yX9_lays : MethodName := ⟨RX9, "lays", "(I)V"⟩
abbrev cX9_feed : ByteArray := prog_11_method_6_code
def yX9_feed : MethodName := ⟨RX9, "feed", "(IIIII)I"⟩
abbrev cX9_end : ByteArray := prog_11_method_7_code
def yX9_end : MethodName := ⟨RX9, "end", "(I)Z"⟩
abbrev cX9_tapeAt : ByteArray := prog_11_method_8_code
def yX9_tapeAt : MethodName := ⟨RX9, "tapeAt", "(I)I"⟩
abbrev cX9_isDigit : ByteArray := prog_11_method_9_code
def yX9_isDigit : MethodName := ⟨RX9, "isDigit", "(I)Z"⟩
abbrev cX9_isLetter : ByteArray := prog_11_method_10_code
def yX9_isLetter : MethodName := ⟨RX9, "isLetter", "(I)Z"⟩
abbrev cX9_go : ByteArray := prog_11_method_11_code
def yX9_go : MethodName := ⟨RX9, "go", "()V"⟩
abbrev cX9_is : ByteArray := prog_11_method_12_code
def yX9_is : MethodName := ⟨RX9, "is", "(IIIII)Z"⟩
abbrev cX9_bad : ByteArray := prog_11_method_13_code
def yX9_bad : MethodName := ⟨RX9, "bad", "(I)Z"⟩
abbrev cX9_init : ByteArray := prog_11_method_14_code
def yX9_init : MethodName := ⟨RX9, "<init>", "()V"⟩
abbrev cX9_told : ByteArray := prog_11_method_15_code
def yX9_told : MethodName := ⟨RX9, "told", "(III)I"⟩
abbrev cX9_toldPlace : ByteArray := prog_11_method_16_code
def yX9_toldPlace : MethodName := ⟨RX9, "toldPlace", "()I"⟩
abbrev cX9_readDesk : ByteArray := prog_11_method_17_code
def yX9_readDesk : MethodName := ⟨RX9, "readDesk", "()Z"⟩
abbrev cX9_readPlace : ByteArray := prog_11_method_18_code
def yX9_readPlace : MethodName := ⟨RX9, "readPlace", "()Z"⟩
abbrev cX9_readTruck : ByteArray := prog_11_method_19_code
def yX9_readTruck : MethodName := ⟨RX9, "readTruck", "()Z"⟩
abbrev cX9_readLoad : ByteArray := prog_11_method_20_code
def yX9_readLoad : MethodName := ⟨RX9, "readLoad", "()Z"⟩
abbrev cX9_directOf : ByteArray := prog_11_method_21_code
def yX9_directOf : MethodName := ⟨RX9, "directOf", "([III)I"⟩
abbrev cX9_goesTo : ByteArray := prog_11_method_22_code
def yX9_goesTo : MethodName := ⟨RX9, "goesTo", "(III)V"⟩
abbrev cX9_readTrip : ByteArray := prog_11_method_23_code
def yX9_readTrip : MethodName := ⟨RX9, "readTrip", "()Z"⟩
abbrev cX9_readLine : ByteArray := prog_11_method_24_code
def yX9_readLine : MethodName := ⟨RX9, "readLine", "(Z)Z"⟩
abbrev cX9_readEnd : ByteArray := prog_11_method_25_code
def yX9_readEnd : MethodName := ⟨RX9, "readEnd", "()Z"⟩
abbrev cX9_text : ByteArray := prog_11_method_26_code
def yX9_text : MethodName := ⟨RX9, "text", "()I"⟩
abbrev cX9_fault : ByteArray := prog_11_method_27_code
def yX9_fault : MethodName := ⟨RX9, "fault", "()I"⟩
abbrev cX9_loads : ByteArray := prog_11_method_28_code
def yX9_loads : MethodName := ⟨RX9, "loads", "()I"⟩
abbrev cX9_trips : ByteArray := prog_11_method_29_code
def yX9_trips : MethodName := ⟨RX9, "trips", "()I"⟩
abbrev cX9_isPlace : ByteArray := prog_11_method_30_code
def yX9_isPlace : MethodName := ⟨RX9, "isPlace", "(I)Z"⟩
abbrev cX9_isTruck : ByteArray := prog_11_method_31_code
def yX9_isTruck : MethodName := ⟨RX9, "isTruck", "(I)Z"⟩
abbrev cX9_isLoad : ByteArray := prog_11_method_32_code
def yX9_isLoad : MethodName := ⟨RX9, "isLoad", "(I)Z"⟩
abbrev cX9_isTrip : ByteArray := prog_11_method_33_code
def yX9_isTrip : MethodName := ⟨RX9, "isTrip", "(I)Z"⟩
abbrev cX9_its : ByteArray := prog_11_method_34_code
def yX9_its : MethodName := ⟨RX9, "its", "(II)I"⟩
abbrev cX9_laysWeights : ByteArray := prog_11_method_35_code
def yX9_laysWeights : MethodName := ⟨RX9, "laysWeights", "()V"⟩
abbrev cX9_partOf : ByteArray := prog_11_method_36_code
def yX9_partOf : MethodName := ⟨RX9, "partOf", "(II)J"⟩
abbrev cX9_partsOf : ByteArray := prog_11_method_37_code
def yX9_partsOf : MethodName := ⟨RX9, "partsOf", "(I)J"⟩
abbrev cX9_parts : ByteArray := prog_11_method_38_code
def yX9_parts : MethodName := ⟨RX9, "parts", "(II)V"⟩
abbrev cX9_estimateOf : ByteArray := prog_11_method_39_code
def yX9_estimateOf : MethodName := ⟨RX9, "estimateOf", "(I)I"⟩
abbrev cX9_closes : ByteArray := prog_11_method_40_code
def yX9_closes : MethodName := ⟨RX9, "closes", "(I)V"⟩
abbrev cX9_isIdle : ByteArray := prog_11_method_41_code
def yX9_isIdle : MethodName := ⟨RX9, "isIdle", "(I)Z"⟩
abbrev cX9_nextOf : ByteArray := prog_11_method_42_code
def yX9_nextOf : MethodName := ⟨RX9, "nextOf", "(I)I"⟩
abbrev cX9_gives : ByteArray := prog_11_method_43_code
def yX9_gives : MethodName := ⟨RX9, "gives", "(III)V"⟩
abbrev cX9_laysAccount : ByteArray := prog_11_method_44_code
def yX9_laysAccount : MethodName := ⟨RX9, "laysAccount", "()V"⟩
abbrev cX9_laysTrip : ByteArray := prog_11_method_45_code
def yX9_laysTrip : MethodName := ⟨RX9, "laysTrip", "(I)V"⟩
abbrev cX9_account : ByteArray := prog_11_method_46_code
def yX9_account : MethodName := ⟨RX9, "account", "()V"⟩
abbrev cX9_adds : ByteArray := prog_11_method_47_code
def yX9_adds : MethodName := ⟨RX9, "adds", "(III)V"⟩
abbrev cX9_laysGaps : ByteArray := prog_11_method_48_code
def yX9_laysGaps : MethodName := ⟨RX9, "laysGaps", "()V"⟩
abbrev cX9_changed : ByteArray := prog_11_method_49_code
def yX9_changed : MethodName := ⟨RX9, "changed", "(IZ)I"⟩
abbrev cX9_hubs : ByteArray := prog_11_method_50_code
def yX9_hubs : MethodName := ⟨RX9, "hubs", "()I"⟩
abbrev cX9_now : ByteArray := prog_11_method_51_code
def yX9_now : MethodName := ⟨RX9, "now", "(I)I"⟩
abbrev cX9_direct : ByteArray := prog_11_method_52_code
def yX9_direct : MethodName := ⟨RX9, "direct", "(II)I"⟩
abbrev cX9_truck : ByteArray := prog_11_method_53_code
def yX9_truck : MethodName := ⟨RX9, "truck", "(II)I"⟩
abbrev cX9_dueOf : ByteArray := prog_11_method_54_code
def yX9_dueOf : MethodName := ⟨RX9, "dueOf", "(I)I"⟩
abbrev cX9_countsOf : ByteArray := prog_11_method_55_code
def yX9_countsOf : MethodName := ⟨RX9, "countsOf", "(II)I"⟩
abbrev cX9_load : ByteArray := prog_11_method_56_code
def yX9_load : MethodName := ⟨RX9, "load", "(II)I"⟩
abbrev cX9_trip : ByteArray := prog_11_method_57_code
def yX9_trip : MethodName := ⟨RX9, "trip", "(II)I"⟩
abbrev cX9_share : ByteArray := prog_11_method_58_code
def yX9_share : MethodName := ⟨RX9, "share", "(II)I"⟩
abbrev cX9_gap : ByteArray := prog_11_method_59_code
def yX9_gap : MethodName := ⟨RX9, "gap", "(II)I"⟩
abbrev cX9_way : ByteArray := prog_11_method_60_code
def yX9_way : MethodName := ⟨RX9, "way", "(II)I"⟩
abbrev cX9_busiest : ByteArray := prog_11_method_61_code
def yX9_busiest : MethodName := ⟨RX9, "busiest", "()I"⟩
abbrev cX9_hub : ByteArray := prog_11_method_62_code
def yX9_hub : MethodName := ⟨RX9, "hub", "(I)I"⟩
abbrev cX9_split : ByteArray := prog_11_method_63_code
def yX9_split : MethodName := ⟨RX9, "split", "(III)I"⟩
abbrev cX9_without : ByteArray := prog_11_method_64_code
def yX9_without : MethodName := ⟨RX9, "without", "(II)I"⟩
abbrev cX9_dearest : ByteArray := prog_11_method_65_code
def yX9_dearest : MethodName := ⟨RX9, "dearest", "()I"⟩
abbrev cX9_snap : ByteArray := prog_11_method_66_code
def yX9_snap : MethodName := ⟨RX9, "snap", "()V"⟩
abbrev cX9_tells : ByteArray := prog_11_method_67_code
def yX9_tells : MethodName := ⟨RX9, "tells", "(II)I"⟩
abbrev cX9_fuel : ByteArray := prog_11_method_68_code
def yX9_fuel : MethodName := ⟨RX9, "fuel", "(II)I"⟩
abbrev cX9_buy : ByteArray := prog_11_method_69_code
def yX9_buy : MethodName := ⟨RX9, "buy", "(II)I"⟩
abbrev cX9_weigh : ByteArray := prog_11_method_70_code
def yX9_weigh : MethodName := ⟨RX9, "weigh", "(II)I"⟩
abbrev cX9_undo : ByteArray := prog_11_method_71_code
def yX9_undo : MethodName := ⟨RX9, "undo", "()I"⟩
def RJx145de : String := "java/io/Serializable"
def TJx145de : u_T := fun k => match k with
  | _ => ("", "", "", false)
def tyJx145de : Nat → FieldType := fun k => match k with
  | _ => .int
theorem nmJx145de : ∀ a, a < 0 → ∀ b, b < 0 → a ≠ b → (TJx145de a).2.1 ≠ (TJx145de b).2.1 := by decide +kernel
theorem tyJx145de_ok : ∀ k, k < 0 → parseFieldDescriptor (TJx145de k).2.2.1 = some (tyJx145de k) := by decide +kernel
def RJx9f9b0 : String := "java/lang/CharSequence"
def TJx9f9b0 : u_T := fun k => match k with
  | _ => ("", "", "", false)
def tyJx9f9b0 : Nat → FieldType := fun k => match k with
  | _ => .int
theorem nmJx9f9b0 : ∀ a, a < 0 → ∀ b, b < 0 → a ≠ b → (TJx9f9b0 a).2.1 ≠ (TJx9f9b0 b).2.1 := by decide +kernel
theorem tyJx9f9b0_ok : ∀ k, k < 0 → parseFieldDescriptor (TJx9f9b0 k).2.2.1 = some (tyJx9f9b0 k) := by decide +kernel
def RJxb160c : String := "java/lang/Comparable"
def TJxb160c : u_T := fun k => match k with
  | _ => ("", "", "", false)
def tyJxb160c : Nat → FieldType := fun k => match k with
  | _ => .int
theorem nmJxb160c : ∀ a, a < 0 → ∀ b, b < 0 → a ≠ b → (TJxb160c a).2.1 ≠ (TJxb160c b).2.1 := by decide +kernel
theorem tyJxb160c_ok : ∀ k, k < 0 → parseFieldDescriptor (TJxb160c k).2.2.1 = some (tyJxb160c k) := by decide +kernel
def RJ9 : String := "java/lang/Math"
def TJ9 : u_T := fun k => match k with
  | _ => ("", "", "", false)
def tyJ9 : Nat → FieldType := fun k => match k with
  | _ => .int
theorem nmJ9 : ∀ a, a < 0 → ∀ b, b < 0 → a ≠ b → (TJ9 a).2.1 ≠ (TJ9 b).2.1 := by decide +kernel
theorem tyJ9_ok : ∀ k, k < 0 → parseFieldDescriptor (TJ9 k).2.2.1 = some (tyJ9 k) := by decide +kernel
abbrev cJ9_abs_0f7a4 : ByteArray := prog_16_method_59_code
def yJ9_abs_0f7a4 : MethodName := ⟨RJ9, "abs", "(I)I"⟩
abbrev cJ9_min_7cf53 : ByteArray := prog_16_method_69_code
def yJ9_min_7cf53 : MethodName := ⟨RJ9, "min", "(II)I"⟩
def RJ0 : String := "java/lang/String"
def TJ0 : u_T := fun k => match k with
  | _ => ("", "", "", false)
def tyJ0 : Nat → FieldType := fun k => match k with
  | _ => .int
theorem nmJ0 : ∀ a, a < 0 → ∀ b, b < 0 → a ≠ b → (TJ0 a).2.1 ≠ (TJ0 b).2.1 := by decide +kernel
theorem tyJ0_ok : ∀ k, k < 0 → parseFieldDescriptor (TJ0 k).2.2.1 = some (tyJ0 k) := by decide +kernel
abbrev cJ0_length_8abf5 : ByteArray := prog_18_method_54_code
def yJ0_length_8abf5 : MethodName := ⟨RJ0, "length", "()I"⟩
abbrev cJ0_charAt_5068e : ByteArray := prog_18_method_56_code
def yJ0_charAt_5068e : MethodName := ⟨RJ0, "charAt", "(I)C"⟩
abbrev cJ0_coder_7d493 : ByteArray := prog_18_method_152_code
def yJ0_coder_7d493 : MethodName := ⟨RJ0, "coder", "()B"⟩
abbrev cJ0_isLatin1_aae02 : ByteArray := prog_18_method_154_code
def yJ0_isLatin1_aae02 : MethodName := ⟨RJ0, "isLatin1", "()Z"⟩
abbrev cJ0_checkIndex_df160 : ByteArray := prog_18_method_155_code
def yJ0_checkIndex_df160 : MethodName := ⟨RJ0, "checkIndex", "(II)V"⟩
def RJ1 : String := "java/lang/StringLatin1"
def TJ1 : u_T := fun k => match k with
  | _ => ("", "", "", false)
def tyJ1 : Nat → FieldType := fun k => match k with
  | _ => .int
theorem nmJ1 : ∀ a, a < 0 → ∀ b, b < 0 → a ≠ b → (TJ1 a).2.1 ≠ (TJ1 b).2.1 := by decide +kernel
theorem tyJ1_ok : ∀ k, k < 0 → parseFieldDescriptor (TJ1 k).2.2.1 = some (tyJ1 k) := by decide +kernel
abbrev cJ1_charAt_3b067 : ByteArray := prog_19_method_2_code
def yJ1_charAt_3b067 : MethodName := ⟨RJ1, "charAt", "([BI)C"⟩
def RJ2 : String := "java/lang/StringUTF16"
def TJ2 : u_T := fun k => match k with
  | _ => ("", "", "", false)
def tyJ2 : Nat → FieldType := fun k => match k with
  | _ => .int
theorem nmJ2 : ∀ a, a < 0 → ∀ b, b < 0 → a ≠ b → (TJ2 a).2.1 ≠ (TJ2 b).2.1 := by decide +kernel
theorem tyJ2_ok : ∀ k, k < 0 → parseFieldDescriptor (TJ2 k).2.2.1 = some (tyJ2 k) := by decide +kernel
abbrev cJ2_getChar_3b067 : ByteArray := prog_20_method_5_code
def yJ2_getChar_3b067 : MethodName := ⟨RJ2, "getChar", "([BI)C"⟩
abbrev cJ2_length_9d52b : ByteArray := prog_20_method_6_code
def yJ2_length_9d52b : MethodName := ⟨RJ2, "length", "([B)I"⟩
abbrev cJ2_charAt_3b067 : ByteArray := prog_20_method_83_code
def yJ2_charAt_3b067 : MethodName := ⟨RJ2, "charAt", "([BI)C"⟩
abbrev cJ2_checkIndex_2214a : ByteArray := prog_20_method_91_code
def yJ2_checkIndex_2214a : MethodName := ⟨RJ2, "checkIndex", "(I[B)V"⟩
def RJxfd54e : String := "java/lang/constant/Constable"
def TJxfd54e : u_T := fun k => match k with
  | _ => ("", "", "", false)
def tyJxfd54e : Nat → FieldType := fun k => match k with
  | _ => .int
theorem nmJxfd54e : ∀ a, a < 0 → ∀ b, b < 0 → a ≠ b → (TJxfd54e a).2.1 ≠ (TJxfd54e b).2.1 := by decide +kernel
theorem tyJxfd54e_ok : ∀ k, k < 0 → parseFieldDescriptor (TJxfd54e k).2.2.1 = some (tyJxfd54e k) := by decide +kernel
def RJx3cf43 : String := "java/lang/constant/ConstantDesc"
def TJx3cf43 : u_T := fun k => match k with
  | _ => ("", "", "", false)
def tyJx3cf43 : Nat → FieldType := fun k => match k with
  | _ => .int
theorem nmJx3cf43 : ∀ a, a < 0 → ∀ b, b < 0 → a ≠ b → (TJx3cf43 a).2.1 ≠ (TJx3cf43 b).2.1 := by decide +kernel
theorem tyJx3cf43_ok : ∀ k, k < 0 → parseFieldDescriptor (TJx3cf43 k).2.2.1 = some (tyJx3cf43 k) := by decide +kernel
def RJ3 : String := "jdk/internal/util/Preconditions"
def TJ3 : u_T := fun k => match k with
  | _ => ("", "", "", false)
def tyJ3 : Nat → FieldType := fun k => match k with
  | _ => .int
theorem nmJ3 : ∀ a, a < 0 → ∀ b, b < 0 → a ≠ b → (TJ3 a).2.1 ≠ (TJ3 b).2.1 := by decide +kernel
theorem tyJ3_ok : ∀ k, k < 0 → parseFieldDescriptor (TJ3 k).2.2.1 = some (tyJ3 k) := by decide +kernel
abbrev cJ3_checkIndex_8e157 : ByteArray := prog_25_method_11_code
def yJ3_checkIndex_8e157 : MethodName := ⟨RJ3, "checkIndex", "(IILjava/util/function/BiFunction;)I"⟩
def RL : String := "FreightShareLaw"
abbrev cL_load : ByteArray := method_3_code
def yL_load : MethodName := ⟨RL, "load", "(LFreightShare;II[J)I"⟩
abbrev cL_trip : ByteArray := method_4_code
def yL_trip : MethodName := ⟨RL, "trip", "(LFreightShare;II[J)I"⟩
abbrev cL_law : ByteArray := code
def yL_law : MethodName := ⟨RL, "law", "([I)Z"⟩
abbrev vwCl : List vw_C := [(RX0, TX0, 19), (RX1, TX1, 4), (RX2, TX2, 16), (RX3, TX3, 4), (RX4, TX4, 12), (RX5, TX5, 16), (RX6, TX6, 6), (RX7, TX7, 2), (RX8, TX8, 9), (RX9, TX9, 31)]
end
section
theorem dX0_init_0 : decode cX0_init 0 = .ok (.aload_n 0, 1) := by decide +kernel
theorem dX0_init_1 : decode cX0_init 1 = .ok (.invokespecial 3, 3) := by decide +kernel
theorem dX0_init_4 : decode cX0_init 4 = .ok (.aload_n 0, 1) := by decide +kernel
theorem dX0_init_5 : decode cX0_init 5 = .ok (.bipush 12, 2) := by decide +kernel
theorem dX0_init_7 : decode cX0_init 7 = .ok (.newarray .int, 2) := by decide +kernel
theorem dX0_init_9 : decode cX0_init 9 = .ok (.putfield 9, 3) := by decide +kernel
theorem dX0_init_12 : decode cX0_init 12 = .ok (.aload_n 0, 1) := by decide +kernel
theorem dX0_init_13 : decode cX0_init 13 = .ok (.bipush 12, 2) := by decide +kernel
theorem dX0_init_15 : decode cX0_init 15 = .ok (.newarray .int, 2) := by decide +kernel
theorem dX0_init_17 : decode cX0_init 17 = .ok (.putfield 15, 3) := by decide +kernel
theorem dX0_init_20 : decode cX0_init 20 = .ok (.aload_n 0, 1) := by decide +kernel
theorem dX0_init_21 : decode cX0_init 21 = .ok (.iconst 4, 1) := by decide +kernel
theorem dX0_init_22 : decode cX0_init 22 = .ok (.newarray .int, 2) := by decide +kernel
theorem dX0_init_24 : decode cX0_init 24 = .ok (.putfield 18, 3) := by decide +kernel
theorem dX0_init_27 : decode cX0_init 27 = .ok (.aload_n 0, 1) := by decide +kernel
theorem dX0_init_28 : decode cX0_init 28 = .ok (.iconst 4, 1) := by decide +kernel
theorem dX0_init_29 : decode cX0_init 29 = .ok (.newarray .int, 2) := by decide +kernel
theorem dX0_init_31 : decode cX0_init 31 = .ok (.putfield 21, 3) := by decide +kernel
theorem dX0_init_34 : decode cX0_init 34 = .ok (.aload_n 0, 1) := by decide +kernel
theorem dX0_init_35 : decode cX0_init 35 = .ok (.bipush 16, 2) := by decide +kernel
theorem dX0_init_37 : decode cX0_init 37 = .ok (.newarray .int, 2) := by decide +kernel
theorem dX0_init_39 : decode cX0_init 39 = .ok (.putfield 24, 3) := by decide +kernel
theorem dX0_init_42 : decode cX0_init 42 = .ok (.aload_n 0, 1) := by decide +kernel
theorem dX0_init_43 : decode cX0_init 43 = .ok (.bipush 16, 2) := by decide +kernel
theorem dX0_init_45 : decode cX0_init 45 = .ok (.newarray .int, 2) := by decide +kernel
theorem dX0_init_47 : decode cX0_init 47 = .ok (.putfield 27, 3) := by decide +kernel
theorem dX0_init_50 : decode cX0_init 50 = .ok (.aload_n 0, 1) := by decide +kernel
theorem dX0_init_51 : decode cX0_init 51 = .ok (.bipush 16, 2) := by decide +kernel
theorem dX0_init_53 : decode cX0_init 53 = .ok (.newarray .int, 2) := by decide +kernel
theorem dX0_init_55 : decode cX0_init 55 = .ok (.putfield 30, 3) := by decide +kernel
theorem dX0_init_58 : decode cX0_init 58 = .ok (.aload_n 0, 1) := by decide +kernel
theorem dX0_init_59 : decode cX0_init 59 = .ok (.bipush 16, 2) := by decide +kernel
theorem dX0_init_61 : decode cX0_init 61 = .ok (.newarray .int, 2) := by decide +kernel
theorem dX0_init_63 : decode cX0_init 63 = .ok (.putfield 33, 3) := by decide +kernel
theorem dX0_init_66 : decode cX0_init 66 = .ok (.aload_n 0, 1) := by decide +kernel
theorem dX0_init_67 : decode cX0_init 67 = .ok (.bipush 16, 2) := by decide +kernel
theorem dX0_init_69 : decode cX0_init 69 = .ok (.newarray .int, 2) := by decide +kernel
theorem dX0_init_71 : decode cX0_init 71 = .ok (.putfield 36, 3) := by decide +kernel
theorem dX0_init_74 : decode cX0_init 74 = .ok (.aload_n 0, 1) := by decide +kernel
theorem dX0_init_75 : decode cX0_init 75 = .ok (.bipush 16, 2) := by decide +kernel
theorem dX0_init_77 : decode cX0_init 77 = .ok (.newarray .int, 2) := by decide +kernel
theorem dX0_init_79 : decode cX0_init 79 = .ok (.putfield 39, 3) := by decide +kernel
theorem dX0_init_82 : decode cX0_init 82 = .ok (.aload_n 0, 1) := by decide +kernel
theorem dX0_init_83 : decode cX0_init 83 = .ok (.bipush 16, 2) := by decide +kernel
theorem dX0_init_85 : decode cX0_init 85 = .ok (.newarray .int, 2) := by decide +kernel
theorem dX0_init_87 : decode cX0_init 87 = .ok (.putfield 42, 3) := by decide +kernel
theorem dX0_init_90 : decode cX0_init 90 = .ok (.aload_n 0, 1) := by decide +kernel
theorem dX0_init_91 : decode cX0_init 91 = .ok (.sipush 200, 3) := by decide +kernel
theorem dX0_init_94 : decode cX0_init 94 = .ok (.newarray .int, 2) := by decide +kernel
theorem dX0_init_96 : decode cX0_init 96 = .ok (.putfield 45, 3) := by decide +kernel
theorem dX0_init_99 : decode cX0_init 99 = .ok (.aload_n 0, 1) := by decide +kernel
theorem dX0_init_100 : decode cX0_init 100 = .ok (.sipush 200, 3) := by decide +kernel
theorem dX0_init_103 : decode cX0_init 103 = .ok (.newarray .int, 2) := by decide +kernel
theorem dX0_init_105 : decode cX0_init 105 = .ok (.putfield 48, 3) := by decide +kernel
theorem dX0_init_108 : decode cX0_init 108 = .ok (.return_, 1) := by decide +kernel
theorem dX0_clear_0 : decode cX0_clear 0 = .ok (.aload_n 0, 1) := by decide +kernel
theorem dX0_clear_1 : decode cX0_clear 1 = .ok (.iconst 0, 1) := by decide +kernel
theorem dX0_clear_2 : decode cX0_clear 2 = .ok (.putfield 51, 3) := by decide +kernel
theorem dX0_clear_5 : decode cX0_clear 5 = .ok (.aload_n 0, 1) := by decide +kernel
theorem dX0_clear_6 : decode cX0_clear 6 = .ok (.iconst 0, 1) := by decide +kernel
theorem dX0_clear_7 : decode cX0_clear 7 = .ok (.putfield 55, 3) := by decide +kernel
theorem dX0_clear_10 : decode cX0_clear 10 = .ok (.aload_n 0, 1) := by decide +kernel
theorem dX0_clear_11 : decode cX0_clear 11 = .ok (.iconst 0, 1) := by decide +kernel
theorem dX0_clear_12 : decode cX0_clear 12 = .ok (.putfield 58, 3) := by decide +kernel
theorem dX0_clear_15 : decode cX0_clear 15 = .ok (.aload_n 0, 1) := by decide +kernel
theorem dX0_clear_16 : decode cX0_clear 16 = .ok (.iconst 0, 1) := by decide +kernel
theorem dX0_clear_17 : decode cX0_clear 17 = .ok (.putfield 61, 3) := by decide +kernel
theorem dX0_clear_20 : decode cX0_clear 20 = .ok (.aload_n 0, 1) := by decide +kernel
theorem dX0_clear_21 : decode cX0_clear 21 = .ok (.iconst 0, 1) := by decide +kernel
theorem dX0_clear_22 : decode cX0_clear 22 = .ok (.putfield 64, 3) := by decide +kernel
theorem dX0_clear_25 : decode cX0_clear 25 = .ok (.aload_n 0, 1) := by decide +kernel
theorem dX0_clear_26 : decode cX0_clear 26 = .ok (.iconst 0, 1) := by decide +kernel
theorem dX0_clear_27 : decode cX0_clear 27 = .ok (.putfield 67, 3) := by decide +kernel
theorem dX0_clear_30 : decode cX0_clear 30 = .ok (.return_, 1) := by decide +kernel
theorem dX0_addPlace_0 : decode cX0_addPlace 0 = .ok (.aload_n 0, 1) := by decide +kernel
theorem dX0_addPlace_1 : decode cX0_addPlace 1 = .ok (.getfield 55, 3) := by decide +kernel
theorem dX0_addPlace_4 : decode cX0_addPlace 4 = .ok (.bipush 12, 2) := by decide +kernel
theorem dX0_addPlace_6 : decode cX0_addPlace 6 = .ok (.if_icmp .ge 33, 3) := by decide +kernel
theorem dX0_addPlace_9 : decode cX0_addPlace 9 = .ok (.aload_n 0, 1) := by decide +kernel
theorem dX0_addPlace_10 : decode cX0_addPlace 10 = .ok (.getfield 9, 3) := by decide +kernel
theorem dX0_addPlace_13 : decode cX0_addPlace 13 = .ok (.aload_n 0, 1) := by decide +kernel
theorem dX0_addPlace_14 : decode cX0_addPlace 14 = .ok (.getfield 55, 3) := by decide +kernel
theorem dX0_addPlace_17 : decode cX0_addPlace 17 = .ok (.iload_n 1, 1) := by decide +kernel
theorem dX0_addPlace_18 : decode cX0_addPlace 18 = .ok (.iastore, 1) := by decide +kernel
theorem dX0_addPlace_19 : decode cX0_addPlace 19 = .ok (.aload_n 0, 1) := by decide +kernel
theorem dX0_addPlace_20 : decode cX0_addPlace 20 = .ok (.getfield 15, 3) := by decide +kernel
theorem dX0_addPlace_23 : decode cX0_addPlace 23 = .ok (.aload_n 0, 1) := by decide +kernel
theorem dX0_addPlace_24 : decode cX0_addPlace 24 = .ok (.getfield 55, 3) := by decide +kernel
theorem dX0_addPlace_27 : decode cX0_addPlace 27 = .ok (.iload_n 2, 1) := by decide +kernel
theorem dX0_addPlace_28 : decode cX0_addPlace 28 = .ok (.iastore, 1) := by decide +kernel
theorem dX0_addPlace_29 : decode cX0_addPlace 29 = .ok (.aload_n 0, 1) := by decide +kernel
theorem dX0_addPlace_30 : decode cX0_addPlace 30 = .ok (.dup, 1) := by decide +kernel
theorem dX0_addPlace_31 : decode cX0_addPlace 31 = .ok (.getfield 55, 3) := by decide +kernel
theorem dX0_addPlace_34 : decode cX0_addPlace 34 = .ok (.iconst 1, 1) := by decide +kernel
theorem dX0_addPlace_35 : decode cX0_addPlace 35 = .ok (.iadd, 1) := by decide +kernel
theorem dX0_addPlace_36 : decode cX0_addPlace 36 = .ok (.putfield 55, 3) := by decide +kernel
theorem dX0_addPlace_39 : decode cX0_addPlace 39 = .ok (.return_, 1) := by decide +kernel
theorem dX0_addTruck_0 : decode cX0_addTruck 0 = .ok (.aload_n 0, 1) := by decide +kernel
theorem dX0_addTruck_1 : decode cX0_addTruck 1 = .ok (.getfield 58, 3) := by decide +kernel
theorem dX0_addTruck_4 : decode cX0_addTruck 4 = .ok (.iconst 4, 1) := by decide +kernel
theorem dX0_addTruck_5 : decode cX0_addTruck 5 = .ok (.if_icmp .ge 33, 3) := by decide +kernel
theorem dX0_addTruck_8 : decode cX0_addTruck 8 = .ok (.aload_n 0, 1) := by decide +kernel
theorem dX0_addTruck_9 : decode cX0_addTruck 9 = .ok (.getfield 18, 3) := by decide +kernel
theorem dX0_addTruck_12 : decode cX0_addTruck 12 = .ok (.aload_n 0, 1) := by decide +kernel
theorem dX0_addTruck_13 : decode cX0_addTruck 13 = .ok (.getfield 58, 3) := by decide +kernel
theorem dX0_addTruck_16 : decode cX0_addTruck 16 = .ok (.iload_n 1, 1) := by decide +kernel
theorem dX0_addTruck_17 : decode cX0_addTruck 17 = .ok (.iastore, 1) := by decide +kernel
theorem dX0_addTruck_18 : decode cX0_addTruck 18 = .ok (.aload_n 0, 1) := by decide +kernel
theorem dX0_addTruck_19 : decode cX0_addTruck 19 = .ok (.getfield 21, 3) := by decide +kernel
theorem dX0_addTruck_22 : decode cX0_addTruck 22 = .ok (.aload_n 0, 1) := by decide +kernel
theorem dX0_addTruck_23 : decode cX0_addTruck 23 = .ok (.getfield 58, 3) := by decide +kernel
theorem dX0_addTruck_26 : decode cX0_addTruck 26 = .ok (.iload_n 2, 1) := by decide +kernel
theorem dX0_addTruck_27 : decode cX0_addTruck 27 = .ok (.iastore, 1) := by decide +kernel
theorem dX0_addTruck_28 : decode cX0_addTruck 28 = .ok (.aload_n 0, 1) := by decide +kernel
theorem dX0_addTruck_29 : decode cX0_addTruck 29 = .ok (.dup, 1) := by decide +kernel
theorem dX0_addTruck_30 : decode cX0_addTruck 30 = .ok (.getfield 58, 3) := by decide +kernel
theorem dX0_addTruck_33 : decode cX0_addTruck 33 = .ok (.iconst 1, 1) := by decide +kernel
theorem dX0_addTruck_34 : decode cX0_addTruck 34 = .ok (.iadd, 1) := by decide +kernel
theorem dX0_addTruck_35 : decode cX0_addTruck 35 = .ok (.putfield 58, 3) := by decide +kernel
theorem dX0_addTruck_38 : decode cX0_addTruck 38 = .ok (.return_, 1) := by decide +kernel
theorem dX0_addLoad_0 : decode cX0_addLoad 0 = .ok (.aload_n 0, 1) := by decide +kernel
theorem dX0_addLoad_1 : decode cX0_addLoad 1 = .ok (.getfield 61, 3) := by decide +kernel
theorem dX0_addLoad_4 : decode cX0_addLoad 4 = .ok (.bipush 16, 2) := by decide +kernel
theorem dX0_addLoad_6 : decode cX0_addLoad 6 = .ok (.if_icmp .ge 43, 3) := by decide +kernel
theorem dX0_addLoad_9 : decode cX0_addLoad 9 = .ok (.aload_n 0, 1) := by decide +kernel
theorem dX0_addLoad_10 : decode cX0_addLoad 10 = .ok (.getfield 24, 3) := by decide +kernel
theorem dX0_addLoad_13 : decode cX0_addLoad 13 = .ok (.aload_n 0, 1) := by decide +kernel
theorem dX0_addLoad_14 : decode cX0_addLoad 14 = .ok (.getfield 61, 3) := by decide +kernel
theorem dX0_addLoad_17 : decode cX0_addLoad 17 = .ok (.iload_n 1, 1) := by decide +kernel
theorem dX0_addLoad_18 : decode cX0_addLoad 18 = .ok (.iastore, 1) := by decide +kernel
theorem dX0_addLoad_19 : decode cX0_addLoad 19 = .ok (.aload_n 0, 1) := by decide +kernel
theorem dX0_addLoad_20 : decode cX0_addLoad 20 = .ok (.getfield 27, 3) := by decide +kernel
theorem dX0_addLoad_23 : decode cX0_addLoad 23 = .ok (.aload_n 0, 1) := by decide +kernel
theorem dX0_addLoad_24 : decode cX0_addLoad 24 = .ok (.getfield 61, 3) := by decide +kernel
theorem dX0_addLoad_27 : decode cX0_addLoad 27 = .ok (.iload_n 2, 1) := by decide +kernel
theorem dX0_addLoad_28 : decode cX0_addLoad 28 = .ok (.iastore, 1) := by decide +kernel
theorem dX0_addLoad_29 : decode cX0_addLoad 29 = .ok (.aload_n 0, 1) := by decide +kernel
theorem dX0_addLoad_30 : decode cX0_addLoad 30 = .ok (.getfield 30, 3) := by decide +kernel
theorem dX0_addLoad_33 : decode cX0_addLoad 33 = .ok (.aload_n 0, 1) := by decide +kernel
theorem dX0_addLoad_34 : decode cX0_addLoad 34 = .ok (.getfield 61, 3) := by decide +kernel
theorem dX0_addLoad_37 : decode cX0_addLoad 37 = .ok (.iload_n 3, 1) := by decide +kernel
theorem dX0_addLoad_38 : decode cX0_addLoad 38 = .ok (.iastore, 1) := by decide +kernel
theorem dX0_addLoad_39 : decode cX0_addLoad 39 = .ok (.aload_n 0, 1) := by decide +kernel
theorem dX0_addLoad_40 : decode cX0_addLoad 40 = .ok (.dup, 1) := by decide +kernel
theorem dX0_addLoad_41 : decode cX0_addLoad 41 = .ok (.getfield 61, 3) := by decide +kernel
theorem dX0_addLoad_44 : decode cX0_addLoad 44 = .ok (.iconst 1, 1) := by decide +kernel
theorem dX0_addLoad_45 : decode cX0_addLoad 45 = .ok (.iadd, 1) := by decide +kernel
theorem dX0_addLoad_46 : decode cX0_addLoad 46 = .ok (.putfield 61, 3) := by decide +kernel
theorem dX0_addLoad_49 : decode cX0_addLoad 49 = .ok (.return_, 1) := by decide +kernel
theorem dX0_addTrip_0 : decode cX0_addTrip 0 = .ok (.aload_n 0, 1) := by decide +kernel
theorem dX0_addTrip_1 : decode cX0_addTrip 1 = .ok (.getfield 64, 3) := by decide +kernel
theorem dX0_addTrip_4 : decode cX0_addTrip 4 = .ok (.bipush 16, 2) := by decide +kernel
theorem dX0_addTrip_6 : decode cX0_addTrip 6 = .ok (.if_icmp .ge 56, 3) := by decide +kernel
theorem dX0_addTrip_9 : decode cX0_addTrip 9 = .ok (.aload_n 0, 1) := by decide +kernel
theorem dX0_addTrip_10 : decode cX0_addTrip 10 = .ok (.getfield 33, 3) := by decide +kernel
theorem dX0_addTrip_13 : decode cX0_addTrip 13 = .ok (.aload_n 0, 1) := by decide +kernel
theorem dX0_addTrip_14 : decode cX0_addTrip 14 = .ok (.getfield 64, 3) := by decide +kernel
theorem dX0_addTrip_17 : decode cX0_addTrip 17 = .ok (.iload_n 1, 1) := by decide +kernel
theorem dX0_addTrip_18 : decode cX0_addTrip 18 = .ok (.iastore, 1) := by decide +kernel
theorem dX0_addTrip_19 : decode cX0_addTrip 19 = .ok (.aload_n 0, 1) := by decide +kernel
theorem dX0_addTrip_20 : decode cX0_addTrip 20 = .ok (.getfield 36, 3) := by decide +kernel
theorem dX0_addTrip_23 : decode cX0_addTrip 23 = .ok (.aload_n 0, 1) := by decide +kernel
theorem dX0_addTrip_24 : decode cX0_addTrip 24 = .ok (.getfield 64, 3) := by decide +kernel
theorem dX0_addTrip_27 : decode cX0_addTrip 27 = .ok (.iload_n 2, 1) := by decide +kernel
theorem dX0_addTrip_28 : decode cX0_addTrip 28 = .ok (.iastore, 1) := by decide +kernel
theorem dX0_addTrip_29 : decode cX0_addTrip 29 = .ok (.aload_n 0, 1) := by decide +kernel
theorem dX0_addTrip_30 : decode cX0_addTrip 30 = .ok (.getfield 39, 3) := by decide +kernel
theorem dX0_addTrip_33 : decode cX0_addTrip 33 = .ok (.aload_n 0, 1) := by decide +kernel
theorem dX0_addTrip_34 : decode cX0_addTrip 34 = .ok (.getfield 64, 3) := by decide +kernel
theorem dX0_addTrip_37 : decode cX0_addTrip 37 = .ok (.iload_n 3, 1) := by decide +kernel
theorem dX0_addTrip_38 : decode cX0_addTrip 38 = .ok (.iastore, 1) := by decide +kernel
theorem dX0_addTrip_39 : decode cX0_addTrip 39 = .ok (.aload_n 0, 1) := by decide +kernel
theorem dX0_addTrip_40 : decode cX0_addTrip 40 = .ok (.getfield 42, 3) := by decide +kernel
theorem dX0_addTrip_43 : decode cX0_addTrip 43 = .ok (.aload_n 0, 1) := by decide +kernel
theorem dX0_addTrip_44 : decode cX0_addTrip 44 = .ok (.getfield 64, 3) := by decide +kernel
theorem dX0_addTrip_47 : decode cX0_addTrip 47 = .ok (.aload_n 0, 1) := by decide +kernel
theorem dX0_addTrip_48 : decode cX0_addTrip 48 = .ok (.getfield 67, 3) := by decide +kernel
theorem dX0_addTrip_51 : decode cX0_addTrip 51 = .ok (.iastore, 1) := by decide +kernel
theorem dX0_addTrip_52 : decode cX0_addTrip 52 = .ok (.aload_n 0, 1) := by decide +kernel
theorem dX0_addTrip_53 : decode cX0_addTrip 53 = .ok (.dup, 1) := by decide +kernel
theorem dX0_addTrip_54 : decode cX0_addTrip 54 = .ok (.getfield 64, 3) := by decide +kernel
theorem dX0_addTrip_57 : decode cX0_addTrip 57 = .ok (.iconst 1, 1) := by decide +kernel
theorem dX0_addTrip_58 : decode cX0_addTrip 58 = .ok (.iadd, 1) := by decide +kernel
theorem dX0_addTrip_59 : decode cX0_addTrip 59 = .ok (.putfield 64, 3) := by decide +kernel
theorem dX0_addTrip_62 : decode cX0_addTrip 62 = .ok (.return_, 1) := by decide +kernel
theorem dX0_addStep_0 : decode cX0_addStep 0 = .ok (.aload_n 0, 1) := by decide +kernel
theorem dX0_addStep_1 : decode cX0_addStep 1 = .ok (.getfield 64, 3) := by decide +kernel
theorem dX0_addStep_4 : decode cX0_addStep 4 = .ok (.ifCond .le 67, 3) := by decide +kernel
theorem dX0_addStep_7 : decode cX0_addStep 7 = .ok (.aload_n 0, 1) := by decide +kernel
theorem dX0_addStep_8 : decode cX0_addStep 8 = .ok (.getfield 64, 3) := by decide +kernel
theorem dX0_addStep_11 : decode cX0_addStep 11 = .ok (.bipush 16, 2) := by decide +kernel
theorem dX0_addStep_13 : decode cX0_addStep 13 = .ok (.if_icmp .gt 58, 3) := by decide +kernel
theorem dX0_addStep_16 : decode cX0_addStep 16 = .ok (.aload_n 0, 1) := by decide +kernel
theorem dX0_addStep_17 : decode cX0_addStep 17 = .ok (.getfield 67, 3) := by decide +kernel
theorem dX0_addStep_20 : decode cX0_addStep 20 = .ok (.sipush 200, 3) := by decide +kernel
theorem dX0_addStep_23 : decode cX0_addStep 23 = .ok (.if_icmp .ge 48, 3) := by decide +kernel
theorem dX0_addStep_26 : decode cX0_addStep 26 = .ok (.aload_n 0, 1) := by decide +kernel
theorem dX0_addStep_27 : decode cX0_addStep 27 = .ok (.getfield 45, 3) := by decide +kernel
theorem dX0_addStep_30 : decode cX0_addStep 30 = .ok (.aload_n 0, 1) := by decide +kernel
theorem dX0_addStep_31 : decode cX0_addStep 31 = .ok (.getfield 67, 3) := by decide +kernel
theorem dX0_addStep_34 : decode cX0_addStep 34 = .ok (.iload_n 1, 1) := by decide +kernel
theorem dX0_addStep_35 : decode cX0_addStep 35 = .ok (.iastore, 1) := by decide +kernel
theorem dX0_addStep_36 : decode cX0_addStep 36 = .ok (.aload_n 0, 1) := by decide +kernel
theorem dX0_addStep_37 : decode cX0_addStep 37 = .ok (.getfield 48, 3) := by decide +kernel
theorem dX0_addStep_40 : decode cX0_addStep 40 = .ok (.aload_n 0, 1) := by decide +kernel
theorem dX0_addStep_41 : decode cX0_addStep 41 = .ok (.getfield 67, 3) := by decide +kernel
theorem dX0_addStep_44 : decode cX0_addStep 44 = .ok (.iload_n 2, 1) := by decide +kernel
theorem dX0_addStep_45 : decode cX0_addStep 45 = .ok (.iastore, 1) := by decide +kernel
theorem dX0_addStep_46 : decode cX0_addStep 46 = .ok (.aload_n 0, 1) := by decide +kernel
theorem dX0_addStep_47 : decode cX0_addStep 47 = .ok (.dup, 1) := by decide +kernel
theorem dX0_addStep_48 : decode cX0_addStep 48 = .ok (.getfield 67, 3) := by decide +kernel
theorem dX0_addStep_51 : decode cX0_addStep 51 = .ok (.iconst 1, 1) := by decide +kernel
theorem dX0_addStep_52 : decode cX0_addStep 52 = .ok (.iadd, 1) := by decide +kernel
theorem dX0_addStep_53 : decode cX0_addStep 53 = .ok (.putfield 67, 3) := by decide +kernel
theorem dX0_addStep_56 : decode cX0_addStep 56 = .ok (.aload_n 0, 1) := by decide +kernel
theorem dX0_addStep_57 : decode cX0_addStep 57 = .ok (.getfield 42, 3) := by decide +kernel
theorem dX0_addStep_60 : decode cX0_addStep 60 = .ok (.aload_n 0, 1) := by decide +kernel
theorem dX0_addStep_61 : decode cX0_addStep 61 = .ok (.getfield 64, 3) := by decide +kernel
theorem dX0_addStep_64 : decode cX0_addStep 64 = .ok (.iconst 1, 1) := by decide +kernel
theorem dX0_addStep_65 : decode cX0_addStep 65 = .ok (.isub, 1) := by decide +kernel
theorem dX0_addStep_66 : decode cX0_addStep 66 = .ok (.aload_n 0, 1) := by decide +kernel
theorem dX0_addStep_67 : decode cX0_addStep 67 = .ok (.getfield 67, 3) := by decide +kernel
theorem dX0_addStep_70 : decode cX0_addStep 70 = .ok (.iastore, 1) := by decide +kernel
theorem dX0_addStep_71 : decode cX0_addStep 71 = .ok (.return_, 1) := by decide +kernel
theorem dX0_firstStep_0 : decode cX0_firstStep 0 = .ok (.iload_n 1, 1) := by decide +kernel
theorem dX0_firstStep_1 : decode cX0_firstStep 1 = .ok (.ifCond .le 20, 3) := by decide +kernel
theorem dX0_firstStep_4 : decode cX0_firstStep 4 = .ok (.iload_n 1, 1) := by decide +kernel
theorem dX0_firstStep_5 : decode cX0_firstStep 5 = .ok (.bipush 16, 2) := by decide +kernel
theorem dX0_firstStep_7 : decode cX0_firstStep 7 = .ok (.if_icmp .ge 14, 3) := by decide +kernel
theorem dX0_firstStep_10 : decode cX0_firstStep 10 = .ok (.aload_n 0, 1) := by decide +kernel
theorem dX0_firstStep_11 : decode cX0_firstStep 11 = .ok (.getfield 42, 3) := by decide +kernel
theorem dX0_firstStep_14 : decode cX0_firstStep 14 = .ok (.iload_n 1, 1) := by decide +kernel
theorem dX0_firstStep_15 : decode cX0_firstStep 15 = .ok (.iconst 1, 1) := by decide +kernel
theorem dX0_firstStep_16 : decode cX0_firstStep 16 = .ok (.isub, 1) := by decide +kernel
theorem dX0_firstStep_17 : decode cX0_firstStep 17 = .ok (.iaload, 1) := by decide +kernel
theorem dX0_firstStep_18 : decode cX0_firstStep 18 = .ok (.goto 4, 3) := by decide +kernel
theorem dX0_firstStep_21 : decode cX0_firstStep 21 = .ok (.iconst 0, 1) := by decide +kernel
theorem dX0_firstStep_22 : decode cX0_firstStep 22 = .ok (.ireturn, 1) := by decide +kernel
theorem dX0_fuelTold_0 : decode cX0_fuelTold 0 = .ok (.iconst 0, 1) := by decide +kernel
theorem dX0_fuelTold_1 : decode cX0_fuelTold 1 = .ok (.istore_n 2, 1) := by decide +kernel
theorem dX0_fuelTold_2 : decode cX0_fuelTold 2 = .ok (.iconst 0, 1) := by decide +kernel
theorem dX0_fuelTold_3 : decode cX0_fuelTold 3 = .ok (.istore_n 3, 1) := by decide +kernel
theorem dX0_fuelTold_4 : decode cX0_fuelTold 4 = .ok (.iload_n 3, 1) := by decide +kernel
theorem dX0_fuelTold_5 : decode cX0_fuelTold 5 = .ok (.aload_n 0, 1) := by decide +kernel
theorem dX0_fuelTold_6 : decode cX0_fuelTold 6 = .ok (.getfield 64, 3) := by decide +kernel
theorem dX0_fuelTold_9 : decode cX0_fuelTold 9 = .ok (.if_icmp .ge 38, 3) := by decide +kernel
theorem dX0_fuelTold_12 : decode cX0_fuelTold 12 = .ok (.aload_n 0, 1) := by decide +kernel
theorem dX0_fuelTold_13 : decode cX0_fuelTold 13 = .ok (.getfield 33, 3) := by decide +kernel
theorem dX0_fuelTold_16 : decode cX0_fuelTold 16 = .ok (.iload_n 3, 1) := by decide +kernel
theorem dX0_fuelTold_17 : decode cX0_fuelTold 17 = .ok (.iaload, 1) := by decide +kernel
theorem dX0_fuelTold_18 : decode cX0_fuelTold 18 = .ok (.iload_n 1, 1) := by decide +kernel
theorem dX0_fuelTold_19 : decode cX0_fuelTold 19 = .ok (.if_icmp .ne 22, 3) := by decide +kernel
theorem dX0_fuelTold_22 : decode cX0_fuelTold 22 = .ok (.aload_n 0, 1) := by decide +kernel
theorem dX0_fuelTold_23 : decode cX0_fuelTold 23 = .ok (.getfield 36, 3) := by decide +kernel
theorem dX0_fuelTold_26 : decode cX0_fuelTold 26 = .ok (.iload_n 3, 1) := by decide +kernel
theorem dX0_fuelTold_27 : decode cX0_fuelTold 27 = .ok (.iaload, 1) := by decide +kernel
theorem dX0_fuelTold_28 : decode cX0_fuelTold 28 = .ok (.iconst (-1), 1) := by decide +kernel
theorem dX0_fuelTold_29 : decode cX0_fuelTold 29 = .ok (.if_icmp .eq 12, 3) := by decide +kernel
theorem dX0_fuelTold_32 : decode cX0_fuelTold 32 = .ok (.iload_n 2, 1) := by decide +kernel
theorem dX0_fuelTold_33 : decode cX0_fuelTold 33 = .ok (.aload_n 0, 1) := by decide +kernel
theorem dX0_fuelTold_34 : decode cX0_fuelTold 34 = .ok (.getfield 36, 3) := by decide +kernel
theorem dX0_fuelTold_37 : decode cX0_fuelTold 37 = .ok (.iload_n 3, 1) := by decide +kernel
theorem dX0_fuelTold_38 : decode cX0_fuelTold 38 = .ok (.iaload, 1) := by decide +kernel
theorem dX0_fuelTold_39 : decode cX0_fuelTold 39 = .ok (.iadd, 1) := by decide +kernel
theorem dX0_fuelTold_40 : decode cX0_fuelTold 40 = .ok (.istore_n 2, 1) := by decide +kernel
theorem dX0_fuelTold_41 : decode cX0_fuelTold 41 = .ok (.iinc 3 1, 3) := by decide +kernel
theorem dX0_fuelTold_44 : decode cX0_fuelTold 44 = .ok (.goto (-40), 3) := by decide +kernel
theorem dX0_fuelTold_47 : decode cX0_fuelTold 47 = .ok (.iload_n 2, 1) := by decide +kernel
theorem dX0_fuelTold_48 : decode cX0_fuelTold 48 = .ok (.ireturn, 1) := by decide +kernel
theorem dX0_distance_0 : decode cX0_distance 0 = .ok (.aload_n 0, 1) := by decide +kernel
theorem dX0_distance_1 : decode cX0_distance 1 = .ok (.getfield 9, 3) := by decide +kernel
theorem dX0_distance_4 : decode cX0_distance 4 = .ok (.iload_n 1, 1) := by decide +kernel
theorem dX0_distance_5 : decode cX0_distance 5 = .ok (.iaload, 1) := by decide +kernel
theorem dX0_distance_6 : decode cX0_distance 6 = .ok (.aload_n 0, 1) := by decide +kernel
theorem dX0_distance_7 : decode cX0_distance 7 = .ok (.getfield 9, 3) := by decide +kernel
theorem dX0_distance_10 : decode cX0_distance 10 = .ok (.iload_n 2, 1) := by decide +kernel
theorem dX0_distance_11 : decode cX0_distance 11 = .ok (.iaload, 1) := by decide +kernel
theorem dX0_distance_12 : decode cX0_distance 12 = .ok (.isub, 1) := by decide +kernel
theorem dX0_distance_13 : decode cX0_distance 13 = .ok (.invokestatic 70, 3) := by decide +kernel
theorem dX0_distance_16 : decode cX0_distance 16 = .ok (.aload_n 0, 1) := by decide +kernel
theorem dX0_distance_17 : decode cX0_distance 17 = .ok (.getfield 15, 3) := by decide +kernel
theorem dX0_distance_20 : decode cX0_distance 20 = .ok (.iload_n 1, 1) := by decide +kernel
theorem dX0_distance_21 : decode cX0_distance 21 = .ok (.iaload, 1) := by decide +kernel
theorem dX0_distance_22 : decode cX0_distance 22 = .ok (.aload_n 0, 1) := by decide +kernel
theorem dX0_distance_23 : decode cX0_distance 23 = .ok (.getfield 15, 3) := by decide +kernel
theorem dX0_distance_26 : decode cX0_distance 26 = .ok (.iload_n 2, 1) := by decide +kernel
theorem dX0_distance_27 : decode cX0_distance 27 = .ok (.iaload, 1) := by decide +kernel
theorem dX0_distance_28 : decode cX0_distance 28 = .ok (.isub, 1) := by decide +kernel
theorem dX0_distance_29 : decode cX0_distance 29 = .ok (.invokestatic 70, 3) := by decide +kernel
theorem dX0_distance_32 : decode cX0_distance 32 = .ok (.iadd, 1) := by decide +kernel
theorem dX0_distance_33 : decode cX0_distance 33 = .ok (.ireturn, 1) := by decide +kernel
theorem dX1_init_0 : decode cX1_init 0 = .ok (.aload_n 0, 1) := by decide +kernel
theorem dX1_init_1 : decode cX1_init 1 = .ok (.invokespecial 3, 3) := by decide +kernel
theorem dX1_init_4 : decode cX1_init 4 = .ok (.aload_n 0, 1) := by decide +kernel
theorem dX1_init_5 : decode cX1_init 5 = .ok (.bipush 12, 2) := by decide +kernel
theorem dX1_init_7 : decode cX1_init 7 = .ok (.newarray .int, 2) := by decide +kernel
theorem dX1_init_9 : decode cX1_init 9 = .ok (.putfield 9, 3) := by decide +kernel
theorem dX1_init_12 : decode cX1_init 12 = .ok (.aload_n 0, 1) := by decide +kernel
theorem dX1_init_13 : decode cX1_init 13 = .ok (.bipush 12, 2) := by decide +kernel
theorem dX1_init_15 : decode cX1_init 15 = .ok (.newarray .int, 2) := by decide +kernel
theorem dX1_init_17 : decode cX1_init 17 = .ok (.putfield 15, 3) := by decide +kernel
theorem dX1_init_20 : decode cX1_init 20 = .ok (.aload_n 0, 1) := by decide +kernel
theorem dX1_init_21 : decode cX1_init 21 = .ok (.bipush 12, 2) := by decide +kernel
theorem dX1_init_23 : decode cX1_init 23 = .ok (.newarray .int, 2) := by decide +kernel
theorem dX1_init_25 : decode cX1_init 25 = .ok (.putfield 18, 3) := by decide +kernel
theorem dX1_init_28 : decode cX1_init 28 = .ok (.return_, 1) := by decide +kernel
theorem dX1_keep_0 : decode cX1_keep 0 = .ok (.aload_n 0, 1) := by decide +kernel
theorem dX1_keep_1 : decode cX1_keep 1 = .ok (.getfield 21, 3) := by decide +kernel
theorem dX1_keep_4 : decode cX1_keep 4 = .ok (.bipush 12, 2) := by decide +kernel
theorem dX1_keep_6 : decode cX1_keep 6 = .ok (.if_icmp .lt 7, 3) := by decide +kernel
theorem dX1_keep_9 : decode cX1_keep 9 = .ok (.aload_n 0, 1) := by decide +kernel
theorem dX1_keep_10 : decode cX1_keep 10 = .ok (.invokevirtual 25, 3) := by decide +kernel
theorem dX1_keep_13 : decode cX1_keep 13 = .ok (.aload_n 0, 1) := by decide +kernel
theorem dX1_keep_14 : decode cX1_keep 14 = .ok (.getfield 21, 3) := by decide +kernel
theorem dX1_keep_17 : decode cX1_keep 17 = .ok (.ifCond .lt 52, 3) := by decide +kernel
theorem dX1_keep_20 : decode cX1_keep 20 = .ok (.aload_n 0, 1) := by decide +kernel
theorem dX1_keep_21 : decode cX1_keep 21 = .ok (.getfield 21, 3) := by decide +kernel
theorem dX1_keep_24 : decode cX1_keep 24 = .ok (.bipush 12, 2) := by decide +kernel
theorem dX1_keep_26 : decode cX1_keep 26 = .ok (.if_icmp .ge 43, 3) := by decide +kernel
theorem dX1_keep_29 : decode cX1_keep 29 = .ok (.aload_n 0, 1) := by decide +kernel
theorem dX1_keep_30 : decode cX1_keep 30 = .ok (.getfield 9, 3) := by decide +kernel
theorem dX1_keep_33 : decode cX1_keep 33 = .ok (.aload_n 0, 1) := by decide +kernel
theorem dX1_keep_34 : decode cX1_keep 34 = .ok (.getfield 21, 3) := by decide +kernel
theorem dX1_keep_37 : decode cX1_keep 37 = .ok (.iload_n 1, 1) := by decide +kernel
theorem dX1_keep_38 : decode cX1_keep 38 = .ok (.iastore, 1) := by decide +kernel
theorem dX1_keep_39 : decode cX1_keep 39 = .ok (.aload_n 0, 1) := by decide +kernel
theorem dX1_keep_40 : decode cX1_keep 40 = .ok (.getfield 15, 3) := by decide +kernel
theorem dX1_keep_43 : decode cX1_keep 43 = .ok (.aload_n 0, 1) := by decide +kernel
theorem dX1_keep_44 : decode cX1_keep 44 = .ok (.getfield 21, 3) := by decide +kernel
theorem dX1_keep_47 : decode cX1_keep 47 = .ok (.iload_n 2, 1) := by decide +kernel
theorem dX1_keep_48 : decode cX1_keep 48 = .ok (.iastore, 1) := by decide +kernel
theorem dX1_keep_49 : decode cX1_keep 49 = .ok (.aload_n 0, 1) := by decide +kernel
theorem dX1_keep_50 : decode cX1_keep 50 = .ok (.getfield 18, 3) := by decide +kernel
theorem dX1_keep_53 : decode cX1_keep 53 = .ok (.aload_n 0, 1) := by decide +kernel
theorem dX1_keep_54 : decode cX1_keep 54 = .ok (.getfield 21, 3) := by decide +kernel
theorem dX1_keep_57 : decode cX1_keep 57 = .ok (.iload_n 3, 1) := by decide +kernel
theorem dX1_keep_58 : decode cX1_keep 58 = .ok (.iastore, 1) := by decide +kernel
theorem dX1_keep_59 : decode cX1_keep 59 = .ok (.aload_n 0, 1) := by decide +kernel
theorem dX1_keep_60 : decode cX1_keep 60 = .ok (.dup, 1) := by decide +kernel
theorem dX1_keep_61 : decode cX1_keep 61 = .ok (.getfield 21, 3) := by decide +kernel
theorem dX1_keep_64 : decode cX1_keep 64 = .ok (.iconst 1, 1) := by decide +kernel
theorem dX1_keep_65 : decode cX1_keep 65 = .ok (.iadd, 1) := by decide +kernel
theorem dX1_keep_66 : decode cX1_keep 66 = .ok (.putfield 21, 3) := by decide +kernel
theorem dX1_keep_69 : decode cX1_keep 69 = .ok (.return_, 1) := by decide +kernel
theorem dX1_forgetOldest_0 : decode cX1_forgetOldest 0 = .ok (.iconst 1, 1) := by decide +kernel
theorem dX1_forgetOldest_1 : decode cX1_forgetOldest 1 = .ok (.istore_n 1, 1) := by decide +kernel
theorem dX1_forgetOldest_2 : decode cX1_forgetOldest 2 = .ok (.iload_n 1, 1) := by decide +kernel
theorem dX1_forgetOldest_3 : decode cX1_forgetOldest 3 = .ok (.bipush 12, 2) := by decide +kernel
theorem dX1_forgetOldest_5 : decode cX1_forgetOldest 5 = .ok (.if_icmp .ge 51, 3) := by decide +kernel
theorem dX1_forgetOldest_8 : decode cX1_forgetOldest 8 = .ok (.aload_n 0, 1) := by decide +kernel
theorem dX1_forgetOldest_9 : decode cX1_forgetOldest 9 = .ok (.getfield 9, 3) := by decide +kernel
theorem dX1_forgetOldest_12 : decode cX1_forgetOldest 12 = .ok (.iload_n 1, 1) := by decide +kernel
theorem dX1_forgetOldest_13 : decode cX1_forgetOldest 13 = .ok (.iconst 1, 1) := by decide +kernel
theorem dX1_forgetOldest_14 : decode cX1_forgetOldest 14 = .ok (.isub, 1) := by decide +kernel
theorem dX1_forgetOldest_15 : decode cX1_forgetOldest 15 = .ok (.aload_n 0, 1) := by decide +kernel
theorem dX1_forgetOldest_16 : decode cX1_forgetOldest 16 = .ok (.getfield 9, 3) := by decide +kernel
theorem dX1_forgetOldest_19 : decode cX1_forgetOldest 19 = .ok (.iload_n 1, 1) := by decide +kernel
theorem dX1_forgetOldest_20 : decode cX1_forgetOldest 20 = .ok (.iaload, 1) := by decide +kernel
theorem dX1_forgetOldest_21 : decode cX1_forgetOldest 21 = .ok (.iastore, 1) := by decide +kernel
theorem dX1_forgetOldest_22 : decode cX1_forgetOldest 22 = .ok (.aload_n 0, 1) := by decide +kernel
theorem dX1_forgetOldest_23 : decode cX1_forgetOldest 23 = .ok (.getfield 15, 3) := by decide +kernel
theorem dX1_forgetOldest_26 : decode cX1_forgetOldest 26 = .ok (.iload_n 1, 1) := by decide +kernel
theorem dX1_forgetOldest_27 : decode cX1_forgetOldest 27 = .ok (.iconst 1, 1) := by decide +kernel
theorem dX1_forgetOldest_28 : decode cX1_forgetOldest 28 = .ok (.isub, 1) := by decide +kernel
theorem dX1_forgetOldest_29 : decode cX1_forgetOldest 29 = .ok (.aload_n 0, 1) := by decide +kernel
theorem dX1_forgetOldest_30 : decode cX1_forgetOldest 30 = .ok (.getfield 15, 3) := by decide +kernel
theorem dX1_forgetOldest_33 : decode cX1_forgetOldest 33 = .ok (.iload_n 1, 1) := by decide +kernel
theorem dX1_forgetOldest_34 : decode cX1_forgetOldest 34 = .ok (.iaload, 1) := by decide +kernel
theorem dX1_forgetOldest_35 : decode cX1_forgetOldest 35 = .ok (.iastore, 1) := by decide +kernel
theorem dX1_forgetOldest_36 : decode cX1_forgetOldest 36 = .ok (.aload_n 0, 1) := by decide +kernel
theorem dX1_forgetOldest_37 : decode cX1_forgetOldest 37 = .ok (.getfield 18, 3) := by decide +kernel
theorem dX1_forgetOldest_40 : decode cX1_forgetOldest 40 = .ok (.iload_n 1, 1) := by decide +kernel
theorem dX1_forgetOldest_41 : decode cX1_forgetOldest 41 = .ok (.iconst 1, 1) := by decide +kernel
theorem dX1_forgetOldest_42 : decode cX1_forgetOldest 42 = .ok (.isub, 1) := by decide +kernel
theorem dX1_forgetOldest_43 : decode cX1_forgetOldest 43 = .ok (.aload_n 0, 1) := by decide +kernel
theorem dX1_forgetOldest_44 : decode cX1_forgetOldest 44 = .ok (.getfield 18, 3) := by decide +kernel
theorem dX1_forgetOldest_47 : decode cX1_forgetOldest 47 = .ok (.iload_n 1, 1) := by decide +kernel
theorem dX1_forgetOldest_48 : decode cX1_forgetOldest 48 = .ok (.iaload, 1) := by decide +kernel
theorem dX1_forgetOldest_49 : decode cX1_forgetOldest 49 = .ok (.iastore, 1) := by decide +kernel
theorem dX1_forgetOldest_50 : decode cX1_forgetOldest 50 = .ok (.iinc 1 1, 3) := by decide +kernel
theorem dX1_forgetOldest_53 : decode cX1_forgetOldest 53 = .ok (.goto (-51), 3) := by decide +kernel
theorem dX1_forgetOldest_56 : decode cX1_forgetOldest 56 = .ok (.aload_n 0, 1) := by decide +kernel
theorem dX1_forgetOldest_57 : decode cX1_forgetOldest 57 = .ok (.bipush 11, 2) := by decide +kernel
theorem dX1_forgetOldest_59 : decode cX1_forgetOldest 59 = .ok (.putfield 21, 3) := by decide +kernel
theorem dX1_forgetOldest_62 : decode cX1_forgetOldest 62 = .ok (.return_, 1) := by decide +kernel
theorem dX2_init_0 : decode cX2_init 0 = .ok (.aload_n 0, 1) := by decide +kernel
theorem dX2_init_1 : decode cX2_init 1 = .ok (.invokespecial 3, 3) := by decide +kernel
theorem dX2_init_4 : decode cX2_init 4 = .ok (.aload_n 0, 1) := by decide +kernel
theorem dX2_init_5 : decode cX2_init 5 = .ok (.new 9, 3) := by decide +kernel
theorem dX2_init_8 : decode cX2_init 8 = .ok (.dup, 1) := by decide +kernel
theorem dX2_init_9 : decode cX2_init 9 = .ok (.invokespecial 11, 3) := by decide +kernel
theorem dX2_init_12 : decode cX2_init 12 = .ok (.putfield 12, 3) := by decide +kernel
theorem dX2_init_15 : decode cX2_init 15 = .ok (.aload_n 0, 1) := by decide +kernel
theorem dX2_init_16 : decode cX2_init 16 = .ok (.bipush 16, 2) := by decide +kernel
theorem dX2_init_18 : decode cX2_init 18 = .ok (.newarray .int, 2) := by decide +kernel
theorem dX2_init_20 : decode cX2_init 20 = .ok (.putfield 18, 3) := by decide +kernel
theorem dX2_init_23 : decode cX2_init 23 = .ok (.aload_n 0, 1) := by decide +kernel
theorem dX2_init_24 : decode cX2_init 24 = .ok (.bipush 16, 2) := by decide +kernel
theorem dX2_init_26 : decode cX2_init 26 = .ok (.newarray .int, 2) := by decide +kernel
theorem dX2_init_28 : decode cX2_init 28 = .ok (.putfield 22, 3) := by decide +kernel
theorem dX2_init_31 : decode cX2_init 31 = .ok (.aload_n 0, 1) := by decide +kernel
theorem dX2_init_32 : decode cX2_init 32 = .ok (.bipush 16, 2) := by decide +kernel
theorem dX2_init_34 : decode cX2_init 34 = .ok (.newarray .int, 2) := by decide +kernel
theorem dX2_init_36 : decode cX2_init 36 = .ok (.putfield 25, 3) := by decide +kernel
theorem dX2_init_39 : decode cX2_init 39 = .ok (.aload_n 0, 1) := by decide +kernel
theorem dX2_init_40 : decode cX2_init 40 = .ok (.bipush 16, 2) := by decide +kernel
theorem dX2_init_42 : decode cX2_init 42 = .ok (.newarray .int, 2) := by decide +kernel
theorem dX2_init_44 : decode cX2_init 44 = .ok (.putfield 28, 3) := by decide +kernel
theorem dX2_init_47 : decode cX2_init 47 = .ok (.aload_n 0, 1) := by decide +kernel
theorem dX2_init_48 : decode cX2_init 48 = .ok (.bipush 16, 2) := by decide +kernel
theorem dX2_init_50 : decode cX2_init 50 = .ok (.bipush 16, 2) := by decide +kernel
theorem dX2_init_52 : decode cX2_init 52 = .ok (.multianewarray 31 2, 4) := by decide +kernel
theorem dX2_init_56 : decode cX2_init 56 = .ok (.putfield 33, 3) := by decide +kernel
theorem dX2_init_59 : decode cX2_init 59 = .ok (.aload_n 0, 1) := by decide +kernel
theorem dX2_init_60 : decode cX2_init 60 = .ok (.bipush 16, 2) := by decide +kernel
theorem dX2_init_62 : decode cX2_init 62 = .ok (.newarray .int, 2) := by decide +kernel
theorem dX2_init_64 : decode cX2_init 64 = .ok (.putfield 36, 3) := by decide +kernel
theorem dX2_init_67 : decode cX2_init 67 = .ok (.aload_n 0, 1) := by decide +kernel
theorem dX2_init_68 : decode cX2_init 68 = .ok (.bipush 16, 2) := by decide +kernel
theorem dX2_init_70 : decode cX2_init 70 = .ok (.newarray .int, 2) := by decide +kernel
theorem dX2_init_72 : decode cX2_init 72 = .ok (.putfield 39, 3) := by decide +kernel
theorem dX2_init_75 : decode cX2_init 75 = .ok (.aload_n 0, 1) := by decide +kernel
theorem dX2_init_76 : decode cX2_init 76 = .ok (.bipush 16, 2) := by decide +kernel
theorem dX2_init_78 : decode cX2_init 78 = .ok (.newarray .int, 2) := by decide +kernel
theorem dX2_init_80 : decode cX2_init 80 = .ok (.putfield 42, 3) := by decide +kernel
theorem dX2_init_83 : decode cX2_init 83 = .ok (.aload_n 0, 1) := by decide +kernel
theorem dX2_init_84 : decode cX2_init 84 = .ok (.bipush 16, 2) := by decide +kernel
theorem dX2_init_86 : decode cX2_init 86 = .ok (.bipush 16, 2) := by decide +kernel
theorem dX2_init_88 : decode cX2_init 88 = .ok (.multianewarray 31 2, 4) := by decide +kernel
theorem dX2_init_92 : decode cX2_init 92 = .ok (.putfield 45, 3) := by decide +kernel
theorem dX2_init_95 : decode cX2_init 95 = .ok (.aload_n 0, 1) := by decide +kernel
theorem dX2_init_96 : decode cX2_init 96 = .ok (.bipush 16, 2) := by decide +kernel
theorem dX2_init_98 : decode cX2_init 98 = .ok (.newarray .int, 2) := by decide +kernel
theorem dX2_init_100 : decode cX2_init 100 = .ok (.putfield 48, 3) := by decide +kernel
theorem dX2_init_103 : decode cX2_init 103 = .ok (.aload_n 0, 1) := by decide +kernel
theorem dX2_init_104 : decode cX2_init 104 = .ok (.bipush 16, 2) := by decide +kernel
theorem dX2_init_106 : decode cX2_init 106 = .ok (.newarray .int, 2) := by decide +kernel
theorem dX2_init_108 : decode cX2_init 108 = .ok (.putfield 51, 3) := by decide +kernel
theorem dX2_init_111 : decode cX2_init 111 = .ok (.return_, 1) := by decide +kernel
theorem dX2_takeLoads_0 : decode cX2_takeLoads 0 = .ok (.aload_n 0, 1) := by decide +kernel
theorem dX2_takeLoads_1 : decode cX2_takeLoads 1 = .ok (.aload_n 1, 1) := by decide +kernel
theorem dX2_takeLoads_2 : decode cX2_takeLoads 2 = .ok (.getfield 54, 3) := by decide +kernel
theorem dX2_takeLoads_5 : decode cX2_takeLoads 5 = .ok (.putfield 60, 3) := by decide +kernel
theorem dX2_takeLoads_8 : decode cX2_takeLoads 8 = .ok (.iconst 0, 1) := by decide +kernel
theorem dX2_takeLoads_9 : decode cX2_takeLoads 9 = .ok (.istore_n 2, 1) := by decide +kernel
theorem dX2_takeLoads_10 : decode cX2_takeLoads 10 = .ok (.iload_n 2, 1) := by decide +kernel
theorem dX2_takeLoads_11 : decode cX2_takeLoads 11 = .ok (.aload_n 0, 1) := by decide +kernel
theorem dX2_takeLoads_12 : decode cX2_takeLoads 12 = .ok (.getfield 60, 3) := by decide +kernel
theorem dX2_takeLoads_15 : decode cX2_takeLoads 15 = .ok (.if_icmp .ge 28, 3) := by decide +kernel
theorem dX2_takeLoads_18 : decode cX2_takeLoads 18 = .ok (.aload_n 0, 1) := by decide +kernel
theorem dX2_takeLoads_19 : decode cX2_takeLoads 19 = .ok (.getfield 18, 3) := by decide +kernel
theorem dX2_takeLoads_22 : decode cX2_takeLoads 22 = .ok (.iload_n 2, 1) := by decide +kernel
theorem dX2_takeLoads_23 : decode cX2_takeLoads 23 = .ok (.aload_n 1, 1) := by decide +kernel
theorem dX2_takeLoads_24 : decode cX2_takeLoads 24 = .ok (.getfield 61, 3) := by decide +kernel
theorem dX2_takeLoads_27 : decode cX2_takeLoads 27 = .ok (.iload_n 2, 1) := by decide +kernel
theorem dX2_takeLoads_28 : decode cX2_takeLoads 28 = .ok (.iaload, 1) := by decide +kernel
theorem dX2_takeLoads_29 : decode cX2_takeLoads 29 = .ok (.iastore, 1) := by decide +kernel
theorem dX2_takeLoads_30 : decode cX2_takeLoads 30 = .ok (.aload_n 0, 1) := by decide +kernel
theorem dX2_takeLoads_31 : decode cX2_takeLoads 31 = .ok (.getfield 22, 3) := by decide +kernel
theorem dX2_takeLoads_34 : decode cX2_takeLoads 34 = .ok (.iload_n 2, 1) := by decide +kernel
theorem dX2_takeLoads_35 : decode cX2_takeLoads 35 = .ok (.iload_n 2, 1) := by decide +kernel
theorem dX2_takeLoads_36 : decode cX2_takeLoads 36 = .ok (.iastore, 1) := by decide +kernel
theorem dX2_takeLoads_37 : decode cX2_takeLoads 37 = .ok (.iinc 2 1, 3) := by decide +kernel
theorem dX2_takeLoads_40 : decode cX2_takeLoads 40 = .ok (.goto (-30), 3) := by decide +kernel
theorem dX2_takeLoads_43 : decode cX2_takeLoads 43 = .ok (.return_, 1) := by decide +kernel
theorem dX2_splitLoad_0 : decode cX2_splitLoad 0 = .ok (.aload_n 0, 1) := by decide +kernel
theorem dX2_splitLoad_1 : decode cX2_splitLoad 1 = .ok (.getfield 60, 3) := by decide +kernel
theorem dX2_splitLoad_4 : decode cX2_splitLoad 4 = .ok (.bipush 16, 2) := by decide +kernel
theorem dX2_splitLoad_6 : decode cX2_splitLoad 6 = .ok (.if_icmp .ge 47, 3) := by decide +kernel
theorem dX2_splitLoad_9 : decode cX2_splitLoad 9 = .ok (.aload_n 0, 1) := by decide +kernel
theorem dX2_splitLoad_10 : decode cX2_splitLoad 10 = .ok (.getfield 18, 3) := by decide +kernel
theorem dX2_splitLoad_13 : decode cX2_splitLoad 13 = .ok (.aload_n 0, 1) := by decide +kernel
theorem dX2_splitLoad_14 : decode cX2_splitLoad 14 = .ok (.getfield 60, 3) := by decide +kernel
theorem dX2_splitLoad_17 : decode cX2_splitLoad 17 = .ok (.aload_n 0, 1) := by decide +kernel
theorem dX2_splitLoad_18 : decode cX2_splitLoad 18 = .ok (.getfield 18, 3) := by decide +kernel
theorem dX2_splitLoad_21 : decode cX2_splitLoad 21 = .ok (.iload_n 1, 1) := by decide +kernel
theorem dX2_splitLoad_22 : decode cX2_splitLoad 22 = .ok (.iaload, 1) := by decide +kernel
theorem dX2_splitLoad_23 : decode cX2_splitLoad 23 = .ok (.iload_n 2, 1) := by decide +kernel
theorem dX2_splitLoad_24 : decode cX2_splitLoad 24 = .ok (.isub, 1) := by decide +kernel
theorem dX2_splitLoad_25 : decode cX2_splitLoad 25 = .ok (.iastore, 1) := by decide +kernel
theorem dX2_splitLoad_26 : decode cX2_splitLoad 26 = .ok (.aload_n 0, 1) := by decide +kernel
theorem dX2_splitLoad_27 : decode cX2_splitLoad 27 = .ok (.getfield 22, 3) := by decide +kernel
theorem dX2_splitLoad_30 : decode cX2_splitLoad 30 = .ok (.aload_n 0, 1) := by decide +kernel
theorem dX2_splitLoad_31 : decode cX2_splitLoad 31 = .ok (.getfield 60, 3) := by decide +kernel
theorem dX2_splitLoad_34 : decode cX2_splitLoad 34 = .ok (.iload_n 1, 1) := by decide +kernel
theorem dX2_splitLoad_35 : decode cX2_splitLoad 35 = .ok (.iastore, 1) := by decide +kernel
theorem dX2_splitLoad_36 : decode cX2_splitLoad 36 = .ok (.aload_n 0, 1) := by decide +kernel
theorem dX2_splitLoad_37 : decode cX2_splitLoad 37 = .ok (.getfield 18, 3) := by decide +kernel
theorem dX2_splitLoad_40 : decode cX2_splitLoad 40 = .ok (.iload_n 1, 1) := by decide +kernel
theorem dX2_splitLoad_41 : decode cX2_splitLoad 41 = .ok (.iload_n 2, 1) := by decide +kernel
theorem dX2_splitLoad_42 : decode cX2_splitLoad 42 = .ok (.iastore, 1) := by decide +kernel
theorem dX2_splitLoad_43 : decode cX2_splitLoad 43 = .ok (.aload_n 0, 1) := by decide +kernel
theorem dX2_splitLoad_44 : decode cX2_splitLoad 44 = .ok (.dup, 1) := by decide +kernel
theorem dX2_splitLoad_45 : decode cX2_splitLoad 45 = .ok (.getfield 60, 3) := by decide +kernel
theorem dX2_splitLoad_48 : decode cX2_splitLoad 48 = .ok (.iconst 1, 1) := by decide +kernel
theorem dX2_splitLoad_49 : decode cX2_splitLoad 49 = .ok (.iadd, 1) := by decide +kernel
theorem dX2_splitLoad_50 : decode cX2_splitLoad 50 = .ok (.putfield 60, 3) := by decide +kernel
theorem dX2_splitLoad_53 : decode cX2_splitLoad 53 = .ok (.return_, 1) := by decide +kernel
theorem dX2_settle_0 : decode cX2_settle 0 = .ok (.aload_n 0, 1) := by decide +kernel
theorem dX2_settle_1 : decode cX2_settle 1 = .ok (.aload_n 1, 1) := by decide +kernel
theorem dX2_settle_2 : decode cX2_settle 2 = .ok (.putfield 62, 3) := by decide +kernel
theorem dX2_settle_5 : decode cX2_settle 5 = .ok (.aload_n 0, 1) := by decide +kernel
theorem dX2_settle_6 : decode cX2_settle 6 = .ok (.aload_n 2, 1) := by decide +kernel
theorem dX2_settle_7 : decode cX2_settle 7 = .ok (.putfield 66, 3) := by decide +kernel
theorem dX2_settle_10 : decode cX2_settle 10 = .ok (.aload_n 0, 1) := by decide +kernel
theorem dX2_settle_11 : decode cX2_settle 11 = .ok (.iconst 0, 1) := by decide +kernel
theorem dX2_settle_12 : decode cX2_settle 12 = .ok (.putfield 70, 3) := by decide +kernel
theorem dX2_settle_15 : decode cX2_settle 15 = .ok (.iconst 0, 1) := by decide +kernel
theorem dX2_settle_16 : decode cX2_settle 16 = .ok (.istore_n 3, 1) := by decide +kernel
theorem dX2_settle_17 : decode cX2_settle 17 = .ok (.iload_n 3, 1) := by decide +kernel
theorem dX2_settle_18 : decode cX2_settle 18 = .ok (.bipush 16, 2) := by decide +kernel
theorem dX2_settle_20 : decode cX2_settle 20 = .ok (.if_icmp .ge 16, 3) := by decide +kernel
theorem dX2_settle_23 : decode cX2_settle 23 = .ok (.aload_n 0, 1) := by decide +kernel
theorem dX2_settle_24 : decode cX2_settle 24 = .ok (.getfield 51, 3) := by decide +kernel
theorem dX2_settle_27 : decode cX2_settle 27 = .ok (.iload_n 3, 1) := by decide +kernel
theorem dX2_settle_28 : decode cX2_settle 28 = .ok (.iconst 0, 1) := by decide +kernel
theorem dX2_settle_29 : decode cX2_settle 29 = .ok (.iastore, 1) := by decide +kernel
theorem dX2_settle_30 : decode cX2_settle 30 = .ok (.iinc 3 1, 3) := by decide +kernel
theorem dX2_settle_33 : decode cX2_settle 33 = .ok (.goto (-16), 3) := by decide +kernel
theorem dX2_settle_36 : decode cX2_settle 36 = .ok (.iconst 0, 1) := by decide +kernel
theorem dX2_settle_37 : decode cX2_settle 37 = .ok (.istore_n 3, 1) := by decide +kernel
theorem dX2_settle_38 : decode cX2_settle 38 = .ok (.iload_n 3, 1) := by decide +kernel
theorem dX2_settle_39 : decode cX2_settle 39 = .ok (.aload_n 0, 1) := by decide +kernel
theorem dX2_settle_40 : decode cX2_settle 40 = .ok (.getfield 62, 3) := by decide +kernel
theorem dX2_settle_43 : decode cX2_settle 43 = .ok (.getfield 73, 3) := by decide +kernel
theorem dX2_settle_46 : decode cX2_settle 46 = .ok (.if_icmp .ge 25, 3) := by decide +kernel
theorem dX2_settle_49 : decode cX2_settle 49 = .ok (.aload_n 0, 1) := by decide +kernel
theorem dX2_settle_50 : decode cX2_settle 50 = .ok (.getfield 25, 3) := by decide +kernel
theorem dX2_settle_53 : decode cX2_settle 53 = .ok (.iload_n 3, 1) := by decide +kernel
theorem dX2_settle_54 : decode cX2_settle 54 = .ok (.aload_n 0, 1) := by decide +kernel
theorem dX2_settle_55 : decode cX2_settle 55 = .ok (.iload_n 3, 1) := by decide +kernel
theorem dX2_settle_56 : decode cX2_settle 56 = .ok (.invokevirtual 76, 3) := by decide +kernel
theorem dX2_settle_59 : decode cX2_settle 59 = .ok (.iastore, 1) := by decide +kernel
theorem dX2_settle_60 : decode cX2_settle 60 = .ok (.aload_n 0, 1) := by decide +kernel
theorem dX2_settle_61 : decode cX2_settle 61 = .ok (.iload_n 3, 1) := by decide +kernel
theorem dX2_settle_62 : decode cX2_settle 62 = .ok (.invokevirtual 80, 3) := by decide +kernel
theorem dX2_settle_65 : decode cX2_settle 65 = .ok (.iinc 3 1, 3) := by decide +kernel
theorem dX2_settle_68 : decode cX2_settle 68 = .ok (.goto (-30), 3) := by decide +kernel
theorem dX2_settle_71 : decode cX2_settle 71 = .ok (.iconst 0, 1) := by decide +kernel
theorem dX2_settle_72 : decode cX2_settle 72 = .ok (.istore_n 3, 1) := by decide +kernel
theorem dX2_settle_73 : decode cX2_settle 73 = .ok (.iload_n 3, 1) := by decide +kernel
theorem dX2_settle_74 : decode cX2_settle 74 = .ok (.aload_n 0, 1) := by decide +kernel
theorem dX2_settle_75 : decode cX2_settle 75 = .ok (.getfield 62, 3) := by decide +kernel
theorem dX2_settle_78 : decode cX2_settle 78 = .ok (.getfield 84, 3) := by decide +kernel
theorem dX2_settle_81 : decode cX2_settle 81 = .ok (.if_icmp .ge 14, 3) := by decide +kernel
theorem dX2_settle_84 : decode cX2_settle 84 = .ok (.aload_n 0, 1) := by decide +kernel
theorem dX2_settle_85 : decode cX2_settle 85 = .ok (.iload_n 3, 1) := by decide +kernel
theorem dX2_settle_86 : decode cX2_settle 86 = .ok (.invokevirtual 87, 3) := by decide +kernel
theorem dX2_settle_89 : decode cX2_settle 89 = .ok (.iinc 3 1, 3) := by decide +kernel
theorem dX2_settle_92 : decode cX2_settle 92 = .ok (.goto (-19), 3) := by decide +kernel
theorem dX2_settle_95 : decode cX2_settle 95 = .ok (.aload_n 0, 1) := by decide +kernel
theorem dX2_settle_96 : decode cX2_settle 96 = .ok (.invokevirtual 90, 3) := by decide +kernel
theorem dX2_settle_99 : decode cX2_settle 99 = .ok (.iconst 0, 1) := by decide +kernel
theorem dX2_settle_100 : decode cX2_settle 100 = .ok (.istore_n 3, 1) := by decide +kernel
theorem dX2_settle_101 : decode cX2_settle 101 = .ok (.iload_n 3, 1) := by decide +kernel
theorem dX2_settle_102 : decode cX2_settle 102 = .ok (.aload_n 0, 1) := by decide +kernel
theorem dX2_settle_103 : decode cX2_settle 103 = .ok (.getfield 62, 3) := by decide +kernel
theorem dX2_settle_106 : decode cX2_settle 106 = .ok (.getfield 73, 3) := by decide +kernel
theorem dX2_settle_109 : decode cX2_settle 109 = .ok (.if_icmp .ge 14, 3) := by decide +kernel
theorem dX2_settle_112 : decode cX2_settle 112 = .ok (.aload_n 0, 1) := by decide +kernel
theorem dX2_settle_113 : decode cX2_settle 113 = .ok (.iload_n 3, 1) := by decide +kernel
theorem dX2_settle_114 : decode cX2_settle 114 = .ok (.invokevirtual 93, 3) := by decide +kernel
theorem dX2_settle_117 : decode cX2_settle 117 = .ok (.iinc 3 1, 3) := by decide +kernel
theorem dX2_settle_120 : decode cX2_settle 120 = .ok (.goto (-19), 3) := by decide +kernel
theorem dX2_settle_123 : decode cX2_settle 123 = .ok (.aload_n 0, 1) := by decide +kernel
theorem dX2_settle_124 : decode cX2_settle 124 = .ok (.invokevirtual 96, 3) := by decide +kernel
theorem dX2_settle_127 : decode cX2_settle 127 = .ok (.return_, 1) := by decide +kernel
theorem dX2_isIdle_0 : decode cX2_isIdle 0 = .ok (.aload_n 0, 1) := by decide +kernel
theorem dX2_isIdle_1 : decode cX2_isIdle 1 = .ok (.getfield 36, 3) := by decide +kernel
theorem dX2_isIdle_4 : decode cX2_isIdle 4 = .ok (.iload_n 1, 1) := by decide +kernel
theorem dX2_isIdle_5 : decode cX2_isIdle 5 = .ok (.iaload, 1) := by decide +kernel
theorem dX2_isIdle_6 : decode cX2_isIdle 6 = .ok (.ifCond .ne 7, 3) := by decide +kernel
theorem dX2_isIdle_9 : decode cX2_isIdle 9 = .ok (.iconst 1, 1) := by decide +kernel
theorem dX2_isIdle_10 : decode cX2_isIdle 10 = .ok (.goto 4, 3) := by decide +kernel
theorem dX2_isIdle_13 : decode cX2_isIdle 13 = .ok (.iconst 0, 1) := by decide +kernel
theorem dX2_isIdle_14 : decode cX2_isIdle 14 = .ok (.ireturn, 1) := by decide +kernel
theorem dX2_estimateOf_0 : decode cX2_estimateOf 0 = .ok (.aload_n 0, 1) := by decide +kernel
theorem dX2_estimateOf_1 : decode cX2_estimateOf 1 = .ok (.getfield 62, 3) := by decide +kernel
theorem dX2_estimateOf_4 : decode cX2_estimateOf 4 = .ok (.getfield 99, 3) := by decide +kernel
theorem dX2_estimateOf_7 : decode cX2_estimateOf 7 = .ok (.iload_n 1, 1) := by decide +kernel
theorem dX2_estimateOf_8 : decode cX2_estimateOf 8 = .ok (.iaload, 1) := by decide +kernel
theorem dX2_estimateOf_9 : decode cX2_estimateOf 9 = .ok (.iconst (-1), 1) := by decide +kernel
theorem dX2_estimateOf_10 : decode cX2_estimateOf 10 = .ok (.if_icmp .eq 13, 3) := by decide +kernel
theorem dX2_estimateOf_13 : decode cX2_estimateOf 13 = .ok (.aload_n 0, 1) := by decide +kernel
theorem dX2_estimateOf_14 : decode cX2_estimateOf 14 = .ok (.getfield 62, 3) := by decide +kernel
theorem dX2_estimateOf_17 : decode cX2_estimateOf 17 = .ok (.getfield 99, 3) := by decide +kernel
theorem dX2_estimateOf_20 : decode cX2_estimateOf 20 = .ok (.iload_n 1, 1) := by decide +kernel
theorem dX2_estimateOf_21 : decode cX2_estimateOf 21 = .ok (.iaload, 1) := by decide +kernel
theorem dX2_estimateOf_22 : decode cX2_estimateOf 22 = .ok (.ireturn, 1) := by decide +kernel
theorem dX2_estimateOf_23 : decode cX2_estimateOf 23 = .ok (.aload_n 0, 1) := by decide +kernel
theorem dX2_estimateOf_24 : decode cX2_estimateOf 24 = .ok (.getfield 62, 3) := by decide +kernel
theorem dX2_estimateOf_27 : decode cX2_estimateOf 27 = .ok (.getfield 102, 3) := by decide +kernel
theorem dX2_estimateOf_30 : decode cX2_estimateOf 30 = .ok (.aload_n 0, 1) := by decide +kernel
theorem dX2_estimateOf_31 : decode cX2_estimateOf 31 = .ok (.getfield 62, 3) := by decide +kernel
theorem dX2_estimateOf_34 : decode cX2_estimateOf 34 = .ok (.getfield 105, 3) := by decide +kernel
theorem dX2_estimateOf_37 : decode cX2_estimateOf 37 = .ok (.iload_n 1, 1) := by decide +kernel
theorem dX2_estimateOf_38 : decode cX2_estimateOf 38 = .ok (.iaload, 1) := by decide +kernel
theorem dX2_estimateOf_39 : decode cX2_estimateOf 39 = .ok (.iaload, 1) := by decide +kernel
theorem dX2_estimateOf_40 : decode cX2_estimateOf 40 = .ok (.aload_n 0, 1) := by decide +kernel
theorem dX2_estimateOf_41 : decode cX2_estimateOf 41 = .ok (.getfield 66, 3) := by decide +kernel
theorem dX2_estimateOf_44 : decode cX2_estimateOf 44 = .ok (.getfield 108, 3) := by decide +kernel
theorem dX2_estimateOf_47 : decode cX2_estimateOf 47 = .ok (.iload_n 1, 1) := by decide +kernel
theorem dX2_estimateOf_48 : decode cX2_estimateOf 48 = .ok (.iaload, 1) := by decide +kernel
theorem dX2_estimateOf_49 : decode cX2_estimateOf 49 = .ok (.imul, 1) := by decide +kernel
theorem dX2_estimateOf_50 : decode cX2_estimateOf 50 = .ok (.bipush 99, 2) := by decide +kernel
theorem dX2_estimateOf_52 : decode cX2_estimateOf 52 = .ok (.iadd, 1) := by decide +kernel
theorem dX2_estimateOf_53 : decode cX2_estimateOf 53 = .ok (.bipush 100, 2) := by decide +kernel
theorem dX2_estimateOf_55 : decode cX2_estimateOf 55 = .ok (.idiv, 1) := by decide +kernel
theorem dX2_estimateOf_56 : decode cX2_estimateOf 56 = .ok (.ireturn, 1) := by decide +kernel
theorem dX2_measureParts_0 : decode cX2_measureParts 0 = .ok (.aload_n 0, 1) := by decide +kernel
theorem dX2_measureParts_1 : decode cX2_measureParts 1 = .ok (.getfield 36, 3) := by decide +kernel
theorem dX2_measureParts_4 : decode cX2_measureParts 4 = .ok (.iload_n 1, 1) := by decide +kernel
theorem dX2_measureParts_5 : decode cX2_measureParts 5 = .ok (.iconst 0, 1) := by decide +kernel
theorem dX2_measureParts_6 : decode cX2_measureParts 6 = .ok (.iastore, 1) := by decide +kernel
theorem dX2_measureParts_7 : decode cX2_measureParts 7 = .ok (.iconst 0, 1) := by decide +kernel
theorem dX2_measureParts_8 : decode cX2_measureParts 8 = .ok (.istore_n 2, 1) := by decide +kernel
theorem dX2_measureParts_9 : decode cX2_measureParts 9 = .ok (.iload_n 2, 1) := by decide +kernel
theorem dX2_measureParts_10 : decode cX2_measureParts 10 = .ok (.aload_n 0, 1) := by decide +kernel
theorem dX2_measureParts_11 : decode cX2_measureParts 11 = .ok (.getfield 60, 3) := by decide +kernel
theorem dX2_measureParts_14 : decode cX2_measureParts 14 = .ok (.if_icmp .ge 106, 3) := by decide +kernel
theorem dX2_measureParts_17 : decode cX2_measureParts 17 = .ok (.aload_n 0, 1) := by decide +kernel
theorem dX2_measureParts_18 : decode cX2_measureParts 18 = .ok (.getfield 22, 3) := by decide +kernel
theorem dX2_measureParts_21 : decode cX2_measureParts 21 = .ok (.iload_n 2, 1) := by decide +kernel
theorem dX2_measureParts_22 : decode cX2_measureParts 22 = .ok (.iaload, 1) := by decide +kernel
theorem dX2_measureParts_23 : decode cX2_measureParts 23 = .ok (.istore_n 3, 1) := by decide +kernel
theorem dX2_measureParts_24 : decode cX2_measureParts 24 = .ok (.aload_n 0, 1) := by decide +kernel
theorem dX2_measureParts_25 : decode cX2_measureParts 25 = .ok (.getfield 33, 3) := by decide +kernel
theorem dX2_measureParts_28 : decode cX2_measureParts 28 = .ok (.iload_n 1, 1) := by decide +kernel
theorem dX2_measureParts_29 : decode cX2_measureParts 29 = .ok (.aaload, 1) := by decide +kernel
theorem dX2_measureParts_30 : decode cX2_measureParts 30 = .ok (.iload_n 2, 1) := by decide +kernel
theorem dX2_measureParts_31 : decode cX2_measureParts 31 = .ok (.iconst 0, 1) := by decide +kernel
theorem dX2_measureParts_32 : decode cX2_measureParts 32 = .ok (.iastore, 1) := by decide +kernel
theorem dX2_measureParts_33 : decode cX2_measureParts 33 = .ok (.aload_n 0, 1) := by decide +kernel
theorem dX2_measureParts_34 : decode cX2_measureParts 34 = .ok (.getfield 66, 3) := by decide +kernel
theorem dX2_measureParts_37 : decode cX2_measureParts 37 = .ok (.getfield 113, 3) := by decide +kernel
theorem dX2_measureParts_40 : decode cX2_measureParts 40 = .ok (.iload_n 1, 1) := by decide +kernel
theorem dX2_measureParts_41 : decode cX2_measureParts 41 = .ok (.iaload, 1) := by decide +kernel
theorem dX2_measureParts_42 : decode cX2_measureParts 42 = .ok (.iload_n 3, 1) := by decide +kernel
theorem dX2_measureParts_43 : decode cX2_measureParts 43 = .ok (.ishr, 1) := by decide +kernel
theorem dX2_measureParts_44 : decode cX2_measureParts 44 = .ok (.iconst 1, 1) := by decide +kernel
theorem dX2_measureParts_45 : decode cX2_measureParts 45 = .ok (.iand, 1) := by decide +kernel
theorem dX2_measureParts_46 : decode cX2_measureParts 46 = .ok (.ifCond .eq 51, 3) := by decide +kernel
theorem dX2_measureParts_49 : decode cX2_measureParts 49 = .ok (.aload_n 0, 1) := by decide +kernel
theorem dX2_measureParts_50 : decode cX2_measureParts 50 = .ok (.getfield 62, 3) := by decide +kernel
theorem dX2_measureParts_53 : decode cX2_measureParts 53 = .ok (.aload_n 0, 1) := by decide +kernel
theorem dX2_measureParts_54 : decode cX2_measureParts 54 = .ok (.getfield 66, 3) := by decide +kernel
theorem dX2_measureParts_57 : decode cX2_measureParts 57 = .ok (.getfield 116, 3) := by decide +kernel
theorem dX2_measureParts_60 : decode cX2_measureParts 60 = .ok (.iload_n 1, 1) := by decide +kernel
theorem dX2_measureParts_61 : decode cX2_measureParts 61 = .ok (.aaload, 1) := by decide +kernel
theorem dX2_measureParts_62 : decode cX2_measureParts 62 = .ok (.iload_n 3, 1) := by decide +kernel
theorem dX2_measureParts_63 : decode cX2_measureParts 63 = .ok (.iaload, 1) := by decide +kernel
theorem dX2_measureParts_64 : decode cX2_measureParts 64 = .ok (.aload_n 0, 1) := by decide +kernel
theorem dX2_measureParts_65 : decode cX2_measureParts 65 = .ok (.getfield 66, 3) := by decide +kernel
theorem dX2_measureParts_68 : decode cX2_measureParts 68 = .ok (.getfield 119, 3) := by decide +kernel
theorem dX2_measureParts_71 : decode cX2_measureParts 71 = .ok (.iload_n 1, 1) := by decide +kernel
theorem dX2_measureParts_72 : decode cX2_measureParts 72 = .ok (.aaload, 1) := by decide +kernel
theorem dX2_measureParts_73 : decode cX2_measureParts 73 = .ok (.iload_n 3, 1) := by decide +kernel
theorem dX2_measureParts_74 : decode cX2_measureParts 74 = .ok (.iaload, 1) := by decide +kernel
theorem dX2_measureParts_75 : decode cX2_measureParts 75 = .ok (.invokevirtual 122, 3) := by decide +kernel
theorem dX2_measureParts_78 : decode cX2_measureParts 78 = .ok (.istore 4, 2) := by decide +kernel
theorem dX2_measureParts_80 : decode cX2_measureParts 80 = .ok (.aload_n 0, 1) := by decide +kernel
theorem dX2_measureParts_81 : decode cX2_measureParts 81 = .ok (.getfield 33, 3) := by decide +kernel
theorem dX2_measureParts_84 : decode cX2_measureParts 84 = .ok (.iload_n 1, 1) := by decide +kernel
theorem dX2_measureParts_85 : decode cX2_measureParts 85 = .ok (.aaload, 1) := by decide +kernel
theorem dX2_measureParts_86 : decode cX2_measureParts 86 = .ok (.iload_n 2, 1) := by decide +kernel
theorem dX2_measureParts_87 : decode cX2_measureParts 87 = .ok (.aload_n 0, 1) := by decide +kernel
theorem dX2_measureParts_88 : decode cX2_measureParts 88 = .ok (.getfield 18, 3) := by decide +kernel
theorem dX2_measureParts_91 : decode cX2_measureParts 91 = .ok (.iload_n 2, 1) := by decide +kernel
theorem dX2_measureParts_92 : decode cX2_measureParts 92 = .ok (.iaload, 1) := by decide +kernel
theorem dX2_measureParts_93 : decode cX2_measureParts 93 = .ok (.iload 4, 2) := by decide +kernel
theorem dX2_measureParts_95 : decode cX2_measureParts 95 = .ok (.imul, 1) := by decide +kernel
theorem dX2_measureParts_96 : decode cX2_measureParts 96 = .ok (.iastore, 1) := by decide +kernel
theorem dX2_measureParts_97 : decode cX2_measureParts 97 = .ok (.aload_n 0, 1) := by decide +kernel
theorem dX2_measureParts_98 : decode cX2_measureParts 98 = .ok (.getfield 36, 3) := by decide +kernel
theorem dX2_measureParts_101 : decode cX2_measureParts 101 = .ok (.iload_n 1, 1) := by decide +kernel
theorem dX2_measureParts_102 : decode cX2_measureParts 102 = .ok (.dup2, 1) := by decide +kernel
theorem dX2_measureParts_103 : decode cX2_measureParts 103 = .ok (.iaload, 1) := by decide +kernel
theorem dX2_measureParts_104 : decode cX2_measureParts 104 = .ok (.aload_n 0, 1) := by decide +kernel
theorem dX2_measureParts_105 : decode cX2_measureParts 105 = .ok (.getfield 33, 3) := by decide +kernel
theorem dX2_measureParts_108 : decode cX2_measureParts 108 = .ok (.iload_n 1, 1) := by decide +kernel
theorem dX2_measureParts_109 : decode cX2_measureParts 109 = .ok (.aaload, 1) := by decide +kernel
theorem dX2_measureParts_110 : decode cX2_measureParts 110 = .ok (.iload_n 2, 1) := by decide +kernel
theorem dX2_measureParts_111 : decode cX2_measureParts 111 = .ok (.iaload, 1) := by decide +kernel
theorem dX2_measureParts_112 : decode cX2_measureParts 112 = .ok (.iadd, 1) := by decide +kernel
theorem dX2_measureParts_113 : decode cX2_measureParts 113 = .ok (.iastore, 1) := by decide +kernel
theorem dX2_measureParts_114 : decode cX2_measureParts 114 = .ok (.iinc 2 1, 3) := by decide +kernel
theorem dX2_measureParts_117 : decode cX2_measureParts 117 = .ok (.goto (-108), 3) := by decide +kernel
theorem dX2_measureParts_120 : decode cX2_measureParts 120 = .ok (.return_, 1) := by decide +kernel
theorem dX2_closeTruck_0 : decode cX2_closeTruck 0 = .ok (.aload_n 0, 1) := by decide +kernel
theorem dX2_closeTruck_1 : decode cX2_closeTruck 1 = .ok (.getfield 62, 3) := by decide +kernel
theorem dX2_closeTruck_4 : decode cX2_closeTruck 4 = .ok (.getfield 126, 3) := by decide +kernel
theorem dX2_closeTruck_7 : decode cX2_closeTruck 7 = .ok (.iload_n 1, 1) := by decide +kernel
theorem dX2_closeTruck_8 : decode cX2_closeTruck 8 = .ok (.iaload, 1) := by decide +kernel
theorem dX2_closeTruck_9 : decode cX2_closeTruck 9 = .ok (.istore_n 2, 1) := by decide +kernel
theorem dX2_closeTruck_10 : decode cX2_closeTruck 10 = .ok (.aload_n 0, 1) := by decide +kernel
theorem dX2_closeTruck_11 : decode cX2_closeTruck 11 = .ok (.getfield 62, 3) := by decide +kernel
theorem dX2_closeTruck_14 : decode cX2_closeTruck 14 = .ok (.iload_n 1, 1) := by decide +kernel
theorem dX2_closeTruck_15 : decode cX2_closeTruck 15 = .ok (.invokevirtual 129, 3) := by decide +kernel
theorem dX2_closeTruck_18 : decode cX2_closeTruck 18 = .ok (.istore_n 3, 1) := by decide +kernel
theorem dX2_closeTruck_19 : decode cX2_closeTruck 19 = .ok (.aload_n 0, 1) := by decide +kernel
theorem dX2_closeTruck_20 : decode cX2_closeTruck 20 = .ok (.iload_n 1, 1) := by decide +kernel
theorem dX2_closeTruck_21 : decode cX2_closeTruck 21 = .ok (.invokevirtual 132, 3) := by decide +kernel
theorem dX2_closeTruck_24 : decode cX2_closeTruck 24 = .ok (.ifCond .le 12, 3) := by decide +kernel
theorem dX2_closeTruck_27 : decode cX2_closeTruck 27 = .ok (.iload_n 3, 1) := by decide +kernel
theorem dX2_closeTruck_28 : decode cX2_closeTruck 28 = .ok (.iload_n 2, 1) := by decide +kernel
theorem dX2_closeTruck_29 : decode cX2_closeTruck 29 = .ok (.if_icmp .gt 7, 3) := by decide +kernel
theorem dX2_closeTruck_32 : decode cX2_closeTruck 32 = .ok (.iconst 1, 1) := by decide +kernel
theorem dX2_closeTruck_33 : decode cX2_closeTruck 33 = .ok (.goto 4, 3) := by decide +kernel
theorem dX2_closeTruck_36 : decode cX2_closeTruck 36 = .ok (.iconst 0, 1) := by decide +kernel
theorem dX2_closeTruck_37 : decode cX2_closeTruck 37 = .ok (.istore 4, 2) := by decide +kernel
theorem dX2_closeTruck_39 : decode cX2_closeTruck 39 = .ok (.aload_n 0, 1) := by decide +kernel
theorem dX2_closeTruck_40 : decode cX2_closeTruck 40 = .ok (.getfield 12, 3) := by decide +kernel
theorem dX2_closeTruck_43 : decode cX2_closeTruck 43 = .ok (.invokevirtual 135, 3) := by decide +kernel
theorem dX2_closeTruck_46 : decode cX2_closeTruck 46 = .ok (.iconst 0, 1) := by decide +kernel
theorem dX2_closeTruck_47 : decode cX2_closeTruck 47 = .ok (.istore 5, 2) := by decide +kernel
theorem dX2_closeTruck_49 : decode cX2_closeTruck 49 = .ok (.iload 5, 2) := by decide +kernel
theorem dX2_closeTruck_51 : decode cX2_closeTruck 51 = .ok (.aload_n 0, 1) := by decide +kernel
theorem dX2_closeTruck_52 : decode cX2_closeTruck 52 = .ok (.getfield 62, 3) := by decide +kernel
theorem dX2_closeTruck_55 : decode cX2_closeTruck 55 = .ok (.getfield 73, 3) := by decide +kernel
theorem dX2_closeTruck_58 : decode cX2_closeTruck 58 = .ok (.if_icmp .ge 69, 3) := by decide +kernel
theorem dX2_closeTruck_61 : decode cX2_closeTruck 61 = .ok (.aload_n 0, 1) := by decide +kernel
theorem dX2_closeTruck_62 : decode cX2_closeTruck 62 = .ok (.iload 5, 2) := by decide +kernel
theorem dX2_closeTruck_64 : decode cX2_closeTruck 64 = .ok (.iload_n 1, 1) := by decide +kernel
theorem dX2_closeTruck_65 : decode cX2_closeTruck 65 = .ok (.iload 4, 2) := by decide +kernel
theorem dX2_closeTruck_67 : decode cX2_closeTruck 67 = .ok (.invokevirtual 138, 3) := by decide +kernel
theorem dX2_closeTruck_70 : decode cX2_closeTruck 70 = .ok (.ifCond .eq 20, 3) := by decide +kernel
theorem dX2_closeTruck_73 : decode cX2_closeTruck 73 = .ok (.aload_n 0, 1) := by decide +kernel
theorem dX2_closeTruck_74 : decode cX2_closeTruck 74 = .ok (.getfield 12, 3) := by decide +kernel
theorem dX2_closeTruck_77 : decode cX2_closeTruck 77 = .ok (.aload_n 0, 1) := by decide +kernel
theorem dX2_closeTruck_78 : decode cX2_closeTruck 78 = .ok (.getfield 25, 3) := by decide +kernel
theorem dX2_closeTruck_81 : decode cX2_closeTruck 81 = .ok (.iload 5, 2) := by decide +kernel
theorem dX2_closeTruck_83 : decode cX2_closeTruck 83 = .ok (.iaload, 1) := by decide +kernel
theorem dX2_closeTruck_84 : decode cX2_closeTruck 84 = .ok (.invokevirtual 142, 3) := by decide +kernel
theorem dX2_closeTruck_87 : decode cX2_closeTruck 87 = .ok (.goto 34, 3) := by decide +kernel
theorem dX2_closeTruck_90 : decode cX2_closeTruck 90 = .ok (.aload_n 0, 1) := by decide +kernel
theorem dX2_closeTruck_91 : decode cX2_closeTruck 91 = .ok (.getfield 62, 3) := by decide +kernel
theorem dX2_closeTruck_94 : decode cX2_closeTruck 94 = .ok (.getfield 105, 3) := by decide +kernel
theorem dX2_closeTruck_97 : decode cX2_closeTruck 97 = .ok (.iload 5, 2) := by decide +kernel
theorem dX2_closeTruck_99 : decode cX2_closeTruck 99 = .ok (.iaload, 1) := by decide +kernel
theorem dX2_closeTruck_100 : decode cX2_closeTruck 100 = .ok (.iload_n 1, 1) := by decide +kernel
theorem dX2_closeTruck_101 : decode cX2_closeTruck 101 = .ok (.if_icmp .ne 20, 3) := by decide +kernel
theorem dX2_closeTruck_104 : decode cX2_closeTruck 104 = .ok (.aload_n 0, 1) := by decide +kernel
theorem dX2_closeTruck_105 : decode cX2_closeTruck 105 = .ok (.getfield 28, 3) := by decide +kernel
theorem dX2_closeTruck_108 : decode cX2_closeTruck 108 = .ok (.iload 5, 2) := by decide +kernel
theorem dX2_closeTruck_110 : decode cX2_closeTruck 110 = .ok (.aload_n 0, 1) := by decide +kernel
theorem dX2_closeTruck_111 : decode cX2_closeTruck 111 = .ok (.getfield 62, 3) := by decide +kernel
theorem dX2_closeTruck_114 : decode cX2_closeTruck 114 = .ok (.getfield 99, 3) := by decide +kernel
theorem dX2_closeTruck_117 : decode cX2_closeTruck 117 = .ok (.iload 5, 2) := by decide +kernel
theorem dX2_closeTruck_119 : decode cX2_closeTruck 119 = .ok (.iaload, 1) := by decide +kernel
theorem dX2_closeTruck_120 : decode cX2_closeTruck 120 = .ok (.iastore, 1) := by decide +kernel
theorem dX2_closeTruck_121 : decode cX2_closeTruck 121 = .ok (.iinc 5 1, 3) := by decide +kernel
theorem dX2_closeTruck_124 : decode cX2_closeTruck 124 = .ok (.goto (-75), 3) := by decide +kernel
theorem dX2_closeTruck_127 : decode cX2_closeTruck 127 = .ok (.aload_n 0, 1) := by decide +kernel
theorem dX2_closeTruck_128 : decode cX2_closeTruck 128 = .ok (.getfield 12, 3) := by decide +kernel
theorem dX2_closeTruck_131 : decode cX2_closeTruck 131 = .ok (.getfield 145, 3) := by decide +kernel
theorem dX2_closeTruck_134 : decode cX2_closeTruck 134 = .ok (.ifCond .ne 14, 3) := by decide +kernel
theorem dX2_closeTruck_137 : decode cX2_closeTruck 137 = .ok (.aload_n 0, 1) := by decide +kernel
theorem dX2_closeTruck_138 : decode cX2_closeTruck 138 = .ok (.dup, 1) := by decide +kernel
theorem dX2_closeTruck_139 : decode cX2_closeTruck 139 = .ok (.getfield 70, 3) := by decide +kernel
theorem dX2_closeTruck_142 : decode cX2_closeTruck 142 = .ok (.iload_n 2, 1) := by decide +kernel
theorem dX2_closeTruck_143 : decode cX2_closeTruck 143 = .ok (.iadd, 1) := by decide +kernel
theorem dX2_closeTruck_144 : decode cX2_closeTruck 144 = .ok (.putfield 70, 3) := by decide +kernel
theorem dX2_closeTruck_147 : decode cX2_closeTruck 147 = .ok (.return_, 1) := by decide +kernel
theorem dX2_closeTruck_148 : decode cX2_closeTruck 148 = .ok (.aload_n 0, 1) := by decide +kernel
theorem dX2_closeTruck_149 : decode cX2_closeTruck 149 = .ok (.getfield 12, 3) := by decide +kernel
theorem dX2_closeTruck_152 : decode cX2_closeTruck 152 = .ok (.iload 4, 2) := by decide +kernel
theorem dX2_closeTruck_154 : decode cX2_closeTruck 154 = .ok (.ifCond .eq 9, 3) := by decide +kernel
theorem dX2_closeTruck_157 : decode cX2_closeTruck 157 = .ok (.iload_n 2, 1) := by decide +kernel
theorem dX2_closeTruck_158 : decode cX2_closeTruck 158 = .ok (.iload_n 3, 1) := by decide +kernel
theorem dX2_closeTruck_159 : decode cX2_closeTruck 159 = .ok (.isub, 1) := by decide +kernel
theorem dX2_closeTruck_160 : decode cX2_closeTruck 160 = .ok (.goto 4, 3) := by decide +kernel
theorem dX2_closeTruck_163 : decode cX2_closeTruck 163 = .ok (.iload_n 2, 1) := by decide +kernel
theorem dX2_closeTruck_164 : decode cX2_closeTruck 164 = .ok (.invokevirtual 148, 3) := by decide +kernel
theorem dX2_closeTruck_167 : decode cX2_closeTruck 167 = .ok (.iconst 0, 1) := by decide +kernel
theorem dX2_closeTruck_168 : decode cX2_closeTruck 168 = .ok (.istore 5, 2) := by decide +kernel
theorem dX2_closeTruck_170 : decode cX2_closeTruck 170 = .ok (.iconst 0, 1) := by decide +kernel
theorem dX2_closeTruck_171 : decode cX2_closeTruck 171 = .ok (.istore 6, 2) := by decide +kernel
theorem dX2_closeTruck_173 : decode cX2_closeTruck 173 = .ok (.iload 6, 2) := by decide +kernel
theorem dX2_closeTruck_175 : decode cX2_closeTruck 175 = .ok (.aload_n 0, 1) := by decide +kernel
theorem dX2_closeTruck_176 : decode cX2_closeTruck 176 = .ok (.getfield 62, 3) := by decide +kernel
theorem dX2_closeTruck_179 : decode cX2_closeTruck 179 = .ok (.getfield 73, 3) := by decide +kernel
theorem dX2_closeTruck_182 : decode cX2_closeTruck 182 = .ok (.if_icmp .ge 53, 3) := by decide +kernel
theorem dX2_closeTruck_185 : decode cX2_closeTruck 185 = .ok (.iload 5, 2) := by decide +kernel
theorem dX2_closeTruck_187 : decode cX2_closeTruck 187 = .ok (.aload_n 0, 1) := by decide +kernel
theorem dX2_closeTruck_188 : decode cX2_closeTruck 188 = .ok (.getfield 12, 3) := by decide +kernel
theorem dX2_closeTruck_191 : decode cX2_closeTruck 191 = .ok (.getfield 145, 3) := by decide +kernel
theorem dX2_closeTruck_194 : decode cX2_closeTruck 194 = .ok (.if_icmp .ge 41, 3) := by decide +kernel
theorem dX2_closeTruck_197 : decode cX2_closeTruck 197 = .ok (.aload_n 0, 1) := by decide +kernel
theorem dX2_closeTruck_198 : decode cX2_closeTruck 198 = .ok (.iload 6, 2) := by decide +kernel
theorem dX2_closeTruck_200 : decode cX2_closeTruck 200 = .ok (.iload_n 1, 1) := by decide +kernel
theorem dX2_closeTruck_201 : decode cX2_closeTruck 201 = .ok (.iload 4, 2) := by decide +kernel
theorem dX2_closeTruck_203 : decode cX2_closeTruck 203 = .ok (.invokevirtual 138, 3) := by decide +kernel
theorem dX2_closeTruck_206 : decode cX2_closeTruck 206 = .ok (.ifCond .eq 23, 3) := by decide +kernel
theorem dX2_closeTruck_209 : decode cX2_closeTruck 209 = .ok (.aload_n 0, 1) := by decide +kernel
theorem dX2_closeTruck_210 : decode cX2_closeTruck 210 = .ok (.getfield 28, 3) := by decide +kernel
theorem dX2_closeTruck_213 : decode cX2_closeTruck 213 = .ok (.iload 6, 2) := by decide +kernel
theorem dX2_closeTruck_215 : decode cX2_closeTruck 215 = .ok (.aload_n 0, 1) := by decide +kernel
theorem dX2_closeTruck_216 : decode cX2_closeTruck 216 = .ok (.getfield 12, 3) := by decide +kernel
theorem dX2_closeTruck_219 : decode cX2_closeTruck 219 = .ok (.getfield 151, 3) := by decide +kernel
theorem dX2_closeTruck_222 : decode cX2_closeTruck 222 = .ok (.iload 5, 2) := by decide +kernel
theorem dX2_closeTruck_224 : decode cX2_closeTruck 224 = .ok (.iaload, 1) := by decide +kernel
theorem dX2_closeTruck_225 : decode cX2_closeTruck 225 = .ok (.iastore, 1) := by decide +kernel
theorem dX2_closeTruck_226 : decode cX2_closeTruck 226 = .ok (.iinc 5 1, 3) := by decide +kernel
theorem dX2_closeTruck_229 : decode cX2_closeTruck 229 = .ok (.iinc 6 1, 3) := by decide +kernel
theorem dX2_closeTruck_232 : decode cX2_closeTruck 232 = .ok (.goto (-59), 3) := by decide +kernel
theorem dX2_closeTruck_235 : decode cX2_closeTruck 235 = .ok (.return_, 1) := by decide +kernel
theorem dX2_isParted_0 : decode cX2_isParted 0 = .ok (.aload_n 0, 1) := by decide +kernel
theorem dX2_isParted_1 : decode cX2_isParted 1 = .ok (.getfield 62, 3) := by decide +kernel
theorem dX2_isParted_4 : decode cX2_isParted 4 = .ok (.getfield 105, 3) := by decide +kernel
theorem dX2_isParted_7 : decode cX2_isParted 7 = .ok (.iload_n 1, 1) := by decide +kernel
theorem dX2_isParted_8 : decode cX2_isParted 8 = .ok (.iaload, 1) := by decide +kernel
theorem dX2_isParted_9 : decode cX2_isParted 9 = .ok (.iload_n 2, 1) := by decide +kernel
theorem dX2_isParted_10 : decode cX2_isParted 10 = .ok (.if_icmp .ne 24, 3) := by decide +kernel
theorem dX2_isParted_13 : decode cX2_isParted 13 = .ok (.iload_n 3, 1) := by decide +kernel
theorem dX2_isParted_14 : decode cX2_isParted 14 = .ok (.ifCond .eq 16, 3) := by decide +kernel
theorem dX2_isParted_17 : decode cX2_isParted 17 = .ok (.aload_n 0, 1) := by decide +kernel
theorem dX2_isParted_18 : decode cX2_isParted 18 = .ok (.getfield 62, 3) := by decide +kernel
theorem dX2_isParted_21 : decode cX2_isParted 21 = .ok (.getfield 99, 3) := by decide +kernel
theorem dX2_isParted_24 : decode cX2_isParted 24 = .ok (.iload_n 1, 1) := by decide +kernel
theorem dX2_isParted_25 : decode cX2_isParted 25 = .ok (.iaload, 1) := by decide +kernel
theorem dX2_isParted_26 : decode cX2_isParted 26 = .ok (.iconst (-1), 1) := by decide +kernel
theorem dX2_isParted_27 : decode cX2_isParted 27 = .ok (.if_icmp .ne 7, 3) := by decide +kernel
theorem dX2_isParted_30 : decode cX2_isParted 30 = .ok (.iconst 1, 1) := by decide +kernel
theorem dX2_isParted_31 : decode cX2_isParted 31 = .ok (.goto 4, 3) := by decide +kernel
theorem dX2_isParted_34 : decode cX2_isParted 34 = .ok (.iconst 0, 1) := by decide +kernel
theorem dX2_isParted_35 : decode cX2_isParted 35 = .ok (.ireturn, 1) := by decide +kernel
theorem dX2_sumOfMissing_0 : decode cX2_sumOfMissing 0 = .ok (.iconst 0, 1) := by decide +kernel
theorem dX2_sumOfMissing_1 : decode cX2_sumOfMissing 1 = .ok (.istore_n 2, 1) := by decide +kernel
theorem dX2_sumOfMissing_2 : decode cX2_sumOfMissing 2 = .ok (.iconst 0, 1) := by decide +kernel
theorem dX2_sumOfMissing_3 : decode cX2_sumOfMissing 3 = .ok (.istore_n 3, 1) := by decide +kernel
theorem dX2_sumOfMissing_4 : decode cX2_sumOfMissing 4 = .ok (.iload_n 3, 1) := by decide +kernel
theorem dX2_sumOfMissing_5 : decode cX2_sumOfMissing 5 = .ok (.aload_n 0, 1) := by decide +kernel
theorem dX2_sumOfMissing_6 : decode cX2_sumOfMissing 6 = .ok (.getfield 62, 3) := by decide +kernel
theorem dX2_sumOfMissing_9 : decode cX2_sumOfMissing 9 = .ok (.getfield 73, 3) := by decide +kernel
theorem dX2_sumOfMissing_12 : decode cX2_sumOfMissing 12 = .ok (.if_icmp .ge 44, 3) := by decide +kernel
theorem dX2_sumOfMissing_15 : decode cX2_sumOfMissing 15 = .ok (.aload_n 0, 1) := by decide +kernel
theorem dX2_sumOfMissing_16 : decode cX2_sumOfMissing 16 = .ok (.getfield 62, 3) := by decide +kernel
theorem dX2_sumOfMissing_19 : decode cX2_sumOfMissing 19 = .ok (.getfield 105, 3) := by decide +kernel
theorem dX2_sumOfMissing_22 : decode cX2_sumOfMissing 22 = .ok (.iload_n 3, 1) := by decide +kernel
theorem dX2_sumOfMissing_23 : decode cX2_sumOfMissing 23 = .ok (.iaload, 1) := by decide +kernel
theorem dX2_sumOfMissing_24 : decode cX2_sumOfMissing 24 = .ok (.iload_n 1, 1) := by decide +kernel
theorem dX2_sumOfMissing_25 : decode cX2_sumOfMissing 25 = .ok (.if_icmp .ne 25, 3) := by decide +kernel
theorem dX2_sumOfMissing_28 : decode cX2_sumOfMissing 28 = .ok (.aload_n 0, 1) := by decide +kernel
theorem dX2_sumOfMissing_29 : decode cX2_sumOfMissing 29 = .ok (.getfield 62, 3) := by decide +kernel
theorem dX2_sumOfMissing_32 : decode cX2_sumOfMissing 32 = .ok (.getfield 99, 3) := by decide +kernel
theorem dX2_sumOfMissing_35 : decode cX2_sumOfMissing 35 = .ok (.iload_n 3, 1) := by decide +kernel
theorem dX2_sumOfMissing_36 : decode cX2_sumOfMissing 36 = .ok (.iaload, 1) := by decide +kernel
theorem dX2_sumOfMissing_37 : decode cX2_sumOfMissing 37 = .ok (.iconst (-1), 1) := by decide +kernel
theorem dX2_sumOfMissing_38 : decode cX2_sumOfMissing 38 = .ok (.if_icmp .ne 12, 3) := by decide +kernel
theorem dX2_sumOfMissing_41 : decode cX2_sumOfMissing 41 = .ok (.iload_n 2, 1) := by decide +kernel
theorem dX2_sumOfMissing_42 : decode cX2_sumOfMissing 42 = .ok (.aload_n 0, 1) := by decide +kernel
theorem dX2_sumOfMissing_43 : decode cX2_sumOfMissing 43 = .ok (.getfield 25, 3) := by decide +kernel
theorem dX2_sumOfMissing_46 : decode cX2_sumOfMissing 46 = .ok (.iload_n 3, 1) := by decide +kernel
theorem dX2_sumOfMissing_47 : decode cX2_sumOfMissing 47 = .ok (.iaload, 1) := by decide +kernel
theorem dX2_sumOfMissing_48 : decode cX2_sumOfMissing 48 = .ok (.iadd, 1) := by decide +kernel
theorem dX2_sumOfMissing_49 : decode cX2_sumOfMissing 49 = .ok (.istore_n 2, 1) := by decide +kernel
theorem dX2_sumOfMissing_50 : decode cX2_sumOfMissing 50 = .ok (.iinc 3 1, 3) := by decide +kernel
theorem dX2_sumOfMissing_53 : decode cX2_sumOfMissing 53 = .ok (.goto (-49), 3) := by decide +kernel
theorem dX2_sumOfMissing_56 : decode cX2_sumOfMissing 56 = .ok (.iload_n 2, 1) := by decide +kernel
theorem dX2_sumOfMissing_57 : decode cX2_sumOfMissing 57 = .ok (.ireturn, 1) := by decide +kernel
theorem dX2_gatherIdle_0 : decode cX2_gatherIdle 0 = .ok (.iconst 0, 1) := by decide +kernel
theorem dX2_gatherIdle_1 : decode cX2_gatherIdle 1 = .ok (.istore_n 1, 1) := by decide +kernel
theorem dX2_gatherIdle_2 : decode cX2_gatherIdle 2 = .ok (.iload_n 1, 1) := by decide +kernel
theorem dX2_gatherIdle_3 : decode cX2_gatherIdle 3 = .ok (.aload_n 0, 1) := by decide +kernel
theorem dX2_gatherIdle_4 : decode cX2_gatherIdle 4 = .ok (.getfield 62, 3) := by decide +kernel
theorem dX2_gatherIdle_7 : decode cX2_gatherIdle 7 = .ok (.getfield 73, 3) := by decide +kernel
theorem dX2_gatherIdle_10 : decode cX2_gatherIdle 10 = .ok (.if_icmp .ge 16, 3) := by decide +kernel
theorem dX2_gatherIdle_13 : decode cX2_gatherIdle 13 = .ok (.aload_n 0, 1) := by decide +kernel
theorem dX2_gatherIdle_14 : decode cX2_gatherIdle 14 = .ok (.getfield 42, 3) := by decide +kernel
theorem dX2_gatherIdle_17 : decode cX2_gatherIdle 17 = .ok (.iload_n 1, 1) := by decide +kernel
theorem dX2_gatherIdle_18 : decode cX2_gatherIdle 18 = .ok (.iconst 0, 1) := by decide +kernel
theorem dX2_gatherIdle_19 : decode cX2_gatherIdle 19 = .ok (.iastore, 1) := by decide +kernel
theorem dX2_gatherIdle_20 : decode cX2_gatherIdle 20 = .ok (.iinc 1 1, 3) := by decide +kernel
theorem dX2_gatherIdle_23 : decode cX2_gatherIdle 23 = .ok (.goto (-21), 3) := by decide +kernel
theorem dX2_gatherIdle_26 : decode cX2_gatherIdle 26 = .ok (.iconst 0, 1) := by decide +kernel
theorem dX2_gatherIdle_27 : decode cX2_gatherIdle 27 = .ok (.istore_n 1, 1) := by decide +kernel
theorem dX2_gatherIdle_28 : decode cX2_gatherIdle 28 = .ok (.iload_n 1, 1) := by decide +kernel
theorem dX2_gatherIdle_29 : decode cX2_gatherIdle 29 = .ok (.aload_n 0, 1) := by decide +kernel
theorem dX2_gatherIdle_30 : decode cX2_gatherIdle 30 = .ok (.getfield 62, 3) := by decide +kernel
theorem dX2_gatherIdle_33 : decode cX2_gatherIdle 33 = .ok (.getfield 73, 3) := by decide +kernel
theorem dX2_gatherIdle_36 : decode cX2_gatherIdle 36 = .ok (.if_icmp .ge 93, 3) := by decide +kernel
theorem dX2_gatherIdle_39 : decode cX2_gatherIdle 39 = .ok (.aload_n 0, 1) := by decide +kernel
theorem dX2_gatherIdle_40 : decode cX2_gatherIdle 40 = .ok (.getfield 39, 3) := by decide +kernel
theorem dX2_gatherIdle_43 : decode cX2_gatherIdle 43 = .ok (.iload_n 1, 1) := by decide +kernel
theorem dX2_gatherIdle_44 : decode cX2_gatherIdle 44 = .ok (.iconst (-1), 1) := by decide +kernel
theorem dX2_gatherIdle_45 : decode cX2_gatherIdle 45 = .ok (.iastore, 1) := by decide +kernel
theorem dX2_gatherIdle_46 : decode cX2_gatherIdle 46 = .ok (.aload_n 0, 1) := by decide +kernel
theorem dX2_gatherIdle_47 : decode cX2_gatherIdle 47 = .ok (.iload_n 1, 1) := by decide +kernel
theorem dX2_gatherIdle_48 : decode cX2_gatherIdle 48 = .ok (.invokevirtual 154, 3) := by decide +kernel
theorem dX2_gatherIdle_51 : decode cX2_gatherIdle 51 = .ok (.ifCond .ne 21, 3) := by decide +kernel
theorem dX2_gatherIdle_54 : decode cX2_gatherIdle 54 = .ok (.aload_n 0, 1) := by decide +kernel
theorem dX2_gatherIdle_55 : decode cX2_gatherIdle 55 = .ok (.getfield 42, 3) := by decide +kernel
theorem dX2_gatherIdle_58 : decode cX2_gatherIdle 58 = .ok (.iload_n 1, 1) := by decide +kernel
theorem dX2_gatherIdle_59 : decode cX2_gatherIdle 59 = .ok (.dup2, 1) := by decide +kernel
theorem dX2_gatherIdle_60 : decode cX2_gatherIdle 60 = .ok (.iaload, 1) := by decide +kernel
theorem dX2_gatherIdle_61 : decode cX2_gatherIdle 61 = .ok (.aload_n 0, 1) := by decide +kernel
theorem dX2_gatherIdle_62 : decode cX2_gatherIdle 62 = .ok (.getfield 28, 3) := by decide +kernel
theorem dX2_gatherIdle_65 : decode cX2_gatherIdle 65 = .ok (.iload_n 1, 1) := by decide +kernel
theorem dX2_gatherIdle_66 : decode cX2_gatherIdle 66 = .ok (.iaload, 1) := by decide +kernel
theorem dX2_gatherIdle_67 : decode cX2_gatherIdle 67 = .ok (.iadd, 1) := by decide +kernel
theorem dX2_gatherIdle_68 : decode cX2_gatherIdle 68 = .ok (.iastore, 1) := by decide +kernel
theorem dX2_gatherIdle_69 : decode cX2_gatherIdle 69 = .ok (.goto 54, 3) := by decide +kernel
theorem dX2_gatherIdle_72 : decode cX2_gatherIdle 72 = .ok (.aload_n 0, 1) := by decide +kernel
theorem dX2_gatherIdle_73 : decode cX2_gatherIdle 73 = .ok (.iload_n 1, 1) := by decide +kernel
theorem dX2_gatherIdle_74 : decode cX2_gatherIdle 74 = .ok (.invokevirtual 158, 3) := by decide +kernel
theorem dX2_gatherIdle_77 : decode cX2_gatherIdle 77 = .ok (.istore_n 2, 1) := by decide +kernel
theorem dX2_gatherIdle_78 : decode cX2_gatherIdle 78 = .ok (.aload_n 0, 1) := by decide +kernel
theorem dX2_gatherIdle_79 : decode cX2_gatherIdle 79 = .ok (.getfield 39, 3) := by decide +kernel
theorem dX2_gatherIdle_82 : decode cX2_gatherIdle 82 = .ok (.iload_n 1, 1) := by decide +kernel
theorem dX2_gatherIdle_83 : decode cX2_gatherIdle 83 = .ok (.iload_n 2, 1) := by decide +kernel
theorem dX2_gatherIdle_84 : decode cX2_gatherIdle 84 = .ok (.iastore, 1) := by decide +kernel
theorem dX2_gatherIdle_85 : decode cX2_gatherIdle 85 = .ok (.iload_n 2, 1) := by decide +kernel
theorem dX2_gatherIdle_86 : decode cX2_gatherIdle 86 = .ok (.iconst (-1), 1) := by decide +kernel
theorem dX2_gatherIdle_87 : decode cX2_gatherIdle 87 = .ok (.if_icmp .ne 21, 3) := by decide +kernel
theorem dX2_gatherIdle_90 : decode cX2_gatherIdle 90 = .ok (.aload_n 0, 1) := by decide +kernel
theorem dX2_gatherIdle_91 : decode cX2_gatherIdle 91 = .ok (.dup, 1) := by decide +kernel
theorem dX2_gatherIdle_92 : decode cX2_gatherIdle 92 = .ok (.getfield 70, 3) := by decide +kernel
theorem dX2_gatherIdle_95 : decode cX2_gatherIdle 95 = .ok (.aload_n 0, 1) := by decide +kernel
theorem dX2_gatherIdle_96 : decode cX2_gatherIdle 96 = .ok (.getfield 28, 3) := by decide +kernel
theorem dX2_gatherIdle_99 : decode cX2_gatherIdle 99 = .ok (.iload_n 1, 1) := by decide +kernel
theorem dX2_gatherIdle_100 : decode cX2_gatherIdle 100 = .ok (.iaload, 1) := by decide +kernel
theorem dX2_gatherIdle_101 : decode cX2_gatherIdle 101 = .ok (.iadd, 1) := by decide +kernel
theorem dX2_gatherIdle_102 : decode cX2_gatherIdle 102 = .ok (.putfield 70, 3) := by decide +kernel
theorem dX2_gatherIdle_105 : decode cX2_gatherIdle 105 = .ok (.goto 18, 3) := by decide +kernel
theorem dX2_gatherIdle_108 : decode cX2_gatherIdle 108 = .ok (.aload_n 0, 1) := by decide +kernel
theorem dX2_gatherIdle_109 : decode cX2_gatherIdle 109 = .ok (.getfield 42, 3) := by decide +kernel
theorem dX2_gatherIdle_112 : decode cX2_gatherIdle 112 = .ok (.iload_n 2, 1) := by decide +kernel
theorem dX2_gatherIdle_113 : decode cX2_gatherIdle 113 = .ok (.dup2, 1) := by decide +kernel
theorem dX2_gatherIdle_114 : decode cX2_gatherIdle 114 = .ok (.iaload, 1) := by decide +kernel
theorem dX2_gatherIdle_115 : decode cX2_gatherIdle 115 = .ok (.aload_n 0, 1) := by decide +kernel
theorem dX2_gatherIdle_116 : decode cX2_gatherIdle 116 = .ok (.getfield 28, 3) := by decide +kernel
theorem dX2_gatherIdle_119 : decode cX2_gatherIdle 119 = .ok (.iload_n 1, 1) := by decide +kernel
theorem dX2_gatherIdle_120 : decode cX2_gatherIdle 120 = .ok (.iaload, 1) := by decide +kernel
theorem dX2_gatherIdle_121 : decode cX2_gatherIdle 121 = .ok (.iadd, 1) := by decide +kernel
theorem dX2_gatherIdle_122 : decode cX2_gatherIdle 122 = .ok (.iastore, 1) := by decide +kernel
theorem dX2_gatherIdle_123 : decode cX2_gatherIdle 123 = .ok (.iinc 1 1, 3) := by decide +kernel
theorem dX2_gatherIdle_126 : decode cX2_gatherIdle 126 = .ok (.goto (-98), 3) := by decide +kernel
theorem dX2_gatherIdle_129 : decode cX2_gatherIdle 129 = .ok (.return_, 1) := by decide +kernel
theorem dX2_heirOf_0 : decode cX2_heirOf 0 = .ok (.aload_n 0, 1) := by decide +kernel
theorem dX2_heirOf_1 : decode cX2_heirOf 1 = .ok (.getfield 62, 3) := by decide +kernel
theorem dX2_heirOf_4 : decode cX2_heirOf 4 = .ok (.getfield 105, 3) := by decide +kernel
theorem dX2_heirOf_7 : decode cX2_heirOf 7 = .ok (.iload_n 1, 1) := by decide +kernel
theorem dX2_heirOf_8 : decode cX2_heirOf 8 = .ok (.iaload, 1) := by decide +kernel
theorem dX2_heirOf_9 : decode cX2_heirOf 9 = .ok (.istore_n 2, 1) := by decide +kernel
theorem dX2_heirOf_10 : decode cX2_heirOf 10 = .ok (.iload_n 1, 1) := by decide +kernel
theorem dX2_heirOf_11 : decode cX2_heirOf 11 = .ok (.iconst 1, 1) := by decide +kernel
theorem dX2_heirOf_12 : decode cX2_heirOf 12 = .ok (.isub, 1) := by decide +kernel
theorem dX2_heirOf_13 : decode cX2_heirOf 13 = .ok (.istore_n 3, 1) := by decide +kernel
theorem dX2_heirOf_14 : decode cX2_heirOf 14 = .ok (.iload_n 3, 1) := by decide +kernel
theorem dX2_heirOf_15 : decode cX2_heirOf 15 = .ok (.ifCond .lt 32, 3) := by decide +kernel
theorem dX2_heirOf_18 : decode cX2_heirOf 18 = .ok (.aload_n 0, 1) := by decide +kernel
theorem dX2_heirOf_19 : decode cX2_heirOf 19 = .ok (.getfield 62, 3) := by decide +kernel
theorem dX2_heirOf_22 : decode cX2_heirOf 22 = .ok (.getfield 105, 3) := by decide +kernel
theorem dX2_heirOf_25 : decode cX2_heirOf 25 = .ok (.iload_n 3, 1) := by decide +kernel
theorem dX2_heirOf_26 : decode cX2_heirOf 26 = .ok (.iaload, 1) := by decide +kernel
theorem dX2_heirOf_27 : decode cX2_heirOf 27 = .ok (.iload_n 2, 1) := by decide +kernel
theorem dX2_heirOf_28 : decode cX2_heirOf 28 = .ok (.if_icmp .ne 13, 3) := by decide +kernel
theorem dX2_heirOf_31 : decode cX2_heirOf 31 = .ok (.aload_n 0, 1) := by decide +kernel
theorem dX2_heirOf_32 : decode cX2_heirOf 32 = .ok (.iload_n 3, 1) := by decide +kernel
theorem dX2_heirOf_33 : decode cX2_heirOf 33 = .ok (.invokevirtual 154, 3) := by decide +kernel
theorem dX2_heirOf_36 : decode cX2_heirOf 36 = .ok (.ifCond .ne 5, 3) := by decide +kernel
theorem dX2_heirOf_39 : decode cX2_heirOf 39 = .ok (.iload_n 3, 1) := by decide +kernel
theorem dX2_heirOf_40 : decode cX2_heirOf 40 = .ok (.ireturn, 1) := by decide +kernel
theorem dX2_heirOf_41 : decode cX2_heirOf 41 = .ok (.iinc 3 (-1), 3) := by decide +kernel
theorem dX2_heirOf_44 : decode cX2_heirOf 44 = .ok (.goto (-30), 3) := by decide +kernel
theorem dX2_heirOf_47 : decode cX2_heirOf 47 = .ok (.iload_n 1, 1) := by decide +kernel
theorem dX2_heirOf_48 : decode cX2_heirOf 48 = .ok (.iconst 1, 1) := by decide +kernel
theorem dX2_heirOf_49 : decode cX2_heirOf 49 = .ok (.iadd, 1) := by decide +kernel
theorem dX2_heirOf_50 : decode cX2_heirOf 50 = .ok (.istore_n 3, 1) := by decide +kernel
theorem dX2_heirOf_51 : decode cX2_heirOf 51 = .ok (.iload_n 3, 1) := by decide +kernel
theorem dX2_heirOf_52 : decode cX2_heirOf 52 = .ok (.aload_n 0, 1) := by decide +kernel
theorem dX2_heirOf_53 : decode cX2_heirOf 53 = .ok (.getfield 62, 3) := by decide +kernel
theorem dX2_heirOf_56 : decode cX2_heirOf 56 = .ok (.getfield 73, 3) := by decide +kernel
theorem dX2_heirOf_59 : decode cX2_heirOf 59 = .ok (.if_icmp .ge 32, 3) := by decide +kernel
theorem dX2_heirOf_62 : decode cX2_heirOf 62 = .ok (.aload_n 0, 1) := by decide +kernel
theorem dX2_heirOf_63 : decode cX2_heirOf 63 = .ok (.getfield 62, 3) := by decide +kernel
theorem dX2_heirOf_66 : decode cX2_heirOf 66 = .ok (.getfield 105, 3) := by decide +kernel
theorem dX2_heirOf_69 : decode cX2_heirOf 69 = .ok (.iload_n 3, 1) := by decide +kernel
theorem dX2_heirOf_70 : decode cX2_heirOf 70 = .ok (.iaload, 1) := by decide +kernel
theorem dX2_heirOf_71 : decode cX2_heirOf 71 = .ok (.iload_n 2, 1) := by decide +kernel
theorem dX2_heirOf_72 : decode cX2_heirOf 72 = .ok (.if_icmp .ne 13, 3) := by decide +kernel
theorem dX2_heirOf_75 : decode cX2_heirOf 75 = .ok (.aload_n 0, 1) := by decide +kernel
theorem dX2_heirOf_76 : decode cX2_heirOf 76 = .ok (.iload_n 3, 1) := by decide +kernel
theorem dX2_heirOf_77 : decode cX2_heirOf 77 = .ok (.invokevirtual 154, 3) := by decide +kernel
theorem dX2_heirOf_80 : decode cX2_heirOf 80 = .ok (.ifCond .ne 5, 3) := by decide +kernel
theorem dX2_heirOf_83 : decode cX2_heirOf 83 = .ok (.iload_n 3, 1) := by decide +kernel
theorem dX2_heirOf_84 : decode cX2_heirOf 84 = .ok (.ireturn, 1) := by decide +kernel
theorem dX2_heirOf_85 : decode cX2_heirOf 85 = .ok (.iinc 3 1, 3) := by decide +kernel
theorem dX2_heirOf_88 : decode cX2_heirOf 88 = .ok (.goto (-37), 3) := by decide +kernel
theorem dX2_heirOf_91 : decode cX2_heirOf 91 = .ok (.iconst (-1), 1) := by decide +kernel
theorem dX2_heirOf_92 : decode cX2_heirOf 92 = .ok (.ireturn, 1) := by decide +kernel
theorem dX2_partTrip_0 : decode cX2_partTrip 0 = .ok (.aload_n 0, 1) := by decide +kernel
theorem dX2_partTrip_1 : decode cX2_partTrip 1 = .ok (.iload_n 1, 1) := by decide +kernel
theorem dX2_partTrip_2 : decode cX2_partTrip 2 = .ok (.invokevirtual 154, 3) := by decide +kernel
theorem dX2_partTrip_5 : decode cX2_partTrip 5 = .ok (.istore_n 2, 1) := by decide +kernel
theorem dX2_partTrip_6 : decode cX2_partTrip 6 = .ok (.iload_n 2, 1) := by decide +kernel
theorem dX2_partTrip_7 : decode cX2_partTrip 7 = .ok (.ifCond .ne 54, 3) := by decide +kernel
theorem dX2_partTrip_10 : decode cX2_partTrip 10 = .ok (.aload_n 0, 1) := by decide +kernel
theorem dX2_partTrip_11 : decode cX2_partTrip 11 = .ok (.getfield 12, 3) := by decide +kernel
theorem dX2_partTrip_14 : decode cX2_partTrip 14 = .ok (.invokevirtual 135, 3) := by decide +kernel
theorem dX2_partTrip_17 : decode cX2_partTrip 17 = .ok (.iconst 0, 1) := by decide +kernel
theorem dX2_partTrip_18 : decode cX2_partTrip 18 = .ok (.istore_n 3, 1) := by decide +kernel
theorem dX2_partTrip_19 : decode cX2_partTrip 19 = .ok (.iload_n 3, 1) := by decide +kernel
theorem dX2_partTrip_20 : decode cX2_partTrip 20 = .ok (.aload_n 0, 1) := by decide +kernel
theorem dX2_partTrip_21 : decode cX2_partTrip 21 = .ok (.getfield 60, 3) := by decide +kernel
theorem dX2_partTrip_24 : decode cX2_partTrip 24 = .ok (.if_icmp .ge 24, 3) := by decide +kernel
theorem dX2_partTrip_27 : decode cX2_partTrip 27 = .ok (.aload_n 0, 1) := by decide +kernel
theorem dX2_partTrip_28 : decode cX2_partTrip 28 = .ok (.getfield 12, 3) := by decide +kernel
theorem dX2_partTrip_31 : decode cX2_partTrip 31 = .ok (.aload_n 0, 1) := by decide +kernel
theorem dX2_partTrip_32 : decode cX2_partTrip 32 = .ok (.getfield 33, 3) := by decide +kernel
theorem dX2_partTrip_35 : decode cX2_partTrip 35 = .ok (.iload_n 1, 1) := by decide +kernel
theorem dX2_partTrip_36 : decode cX2_partTrip 36 = .ok (.aaload, 1) := by decide +kernel
theorem dX2_partTrip_37 : decode cX2_partTrip 37 = .ok (.iload_n 3, 1) := by decide +kernel
theorem dX2_partTrip_38 : decode cX2_partTrip 38 = .ok (.iaload, 1) := by decide +kernel
theorem dX2_partTrip_39 : decode cX2_partTrip 39 = .ok (.invokevirtual 142, 3) := by decide +kernel
theorem dX2_partTrip_42 : decode cX2_partTrip 42 = .ok (.iinc 3 1, 3) := by decide +kernel
theorem dX2_partTrip_45 : decode cX2_partTrip 45 = .ok (.goto (-26), 3) := by decide +kernel
theorem dX2_partTrip_48 : decode cX2_partTrip 48 = .ok (.aload_n 0, 1) := by decide +kernel
theorem dX2_partTrip_49 : decode cX2_partTrip 49 = .ok (.getfield 12, 3) := by decide +kernel
theorem dX2_partTrip_52 : decode cX2_partTrip 52 = .ok (.aload_n 0, 1) := by decide +kernel
theorem dX2_partTrip_53 : decode cX2_partTrip 53 = .ok (.getfield 42, 3) := by decide +kernel
theorem dX2_partTrip_56 : decode cX2_partTrip 56 = .ok (.iload_n 1, 1) := by decide +kernel
theorem dX2_partTrip_57 : decode cX2_partTrip 57 = .ok (.iaload, 1) := by decide +kernel
theorem dX2_partTrip_58 : decode cX2_partTrip 58 = .ok (.invokevirtual 148, 3) := by decide +kernel
theorem dX2_partTrip_61 : decode cX2_partTrip 61 = .ok (.iconst 0, 1) := by decide +kernel
theorem dX2_partTrip_62 : decode cX2_partTrip 62 = .ok (.istore_n 3, 1) := by decide +kernel
theorem dX2_partTrip_63 : decode cX2_partTrip 63 = .ok (.iload_n 3, 1) := by decide +kernel
theorem dX2_partTrip_64 : decode cX2_partTrip 64 = .ok (.aload_n 0, 1) := by decide +kernel
theorem dX2_partTrip_65 : decode cX2_partTrip 65 = .ok (.getfield 60, 3) := by decide +kernel
theorem dX2_partTrip_68 : decode cX2_partTrip 68 = .ok (.if_icmp .ge 51, 3) := by decide +kernel
theorem dX2_partTrip_71 : decode cX2_partTrip 71 = .ok (.aload_n 0, 1) := by decide +kernel
theorem dX2_partTrip_72 : decode cX2_partTrip 72 = .ok (.getfield 45, 3) := by decide +kernel
theorem dX2_partTrip_75 : decode cX2_partTrip 75 = .ok (.iload_n 1, 1) := by decide +kernel
theorem dX2_partTrip_76 : decode cX2_partTrip 76 = .ok (.aaload, 1) := by decide +kernel
theorem dX2_partTrip_77 : decode cX2_partTrip 77 = .ok (.iload_n 3, 1) := by decide +kernel
theorem dX2_partTrip_78 : decode cX2_partTrip 78 = .ok (.iload_n 2, 1) := by decide +kernel
theorem dX2_partTrip_79 : decode cX2_partTrip 79 = .ok (.ifCond .eq 7, 3) := by decide +kernel
theorem dX2_partTrip_82 : decode cX2_partTrip 82 = .ok (.iconst 0, 1) := by decide +kernel
theorem dX2_partTrip_83 : decode cX2_partTrip 83 = .ok (.goto 12, 3) := by decide +kernel
theorem dX2_partTrip_86 : decode cX2_partTrip 86 = .ok (.aload_n 0, 1) := by decide +kernel
theorem dX2_partTrip_87 : decode cX2_partTrip 87 = .ok (.getfield 12, 3) := by decide +kernel
theorem dX2_partTrip_90 : decode cX2_partTrip 90 = .ok (.getfield 151, 3) := by decide +kernel
theorem dX2_partTrip_93 : decode cX2_partTrip 93 = .ok (.iload_n 3, 1) := by decide +kernel
theorem dX2_partTrip_94 : decode cX2_partTrip 94 = .ok (.iaload, 1) := by decide +kernel
theorem dX2_partTrip_95 : decode cX2_partTrip 95 = .ok (.iastore, 1) := by decide +kernel
theorem dX2_partTrip_96 : decode cX2_partTrip 96 = .ok (.aload_n 0, 1) := by decide +kernel
theorem dX2_partTrip_97 : decode cX2_partTrip 97 = .ok (.getfield 51, 3) := by decide +kernel
theorem dX2_partTrip_100 : decode cX2_partTrip 100 = .ok (.iload_n 3, 1) := by decide +kernel
theorem dX2_partTrip_101 : decode cX2_partTrip 101 = .ok (.dup2, 1) := by decide +kernel
theorem dX2_partTrip_102 : decode cX2_partTrip 102 = .ok (.iaload, 1) := by decide +kernel
theorem dX2_partTrip_103 : decode cX2_partTrip 103 = .ok (.aload_n 0, 1) := by decide +kernel
theorem dX2_partTrip_104 : decode cX2_partTrip 104 = .ok (.getfield 45, 3) := by decide +kernel
theorem dX2_partTrip_107 : decode cX2_partTrip 107 = .ok (.iload_n 1, 1) := by decide +kernel
theorem dX2_partTrip_108 : decode cX2_partTrip 108 = .ok (.aaload, 1) := by decide +kernel
theorem dX2_partTrip_109 : decode cX2_partTrip 109 = .ok (.iload_n 3, 1) := by decide +kernel
theorem dX2_partTrip_110 : decode cX2_partTrip 110 = .ok (.iaload, 1) := by decide +kernel
theorem dX2_partTrip_111 : decode cX2_partTrip 111 = .ok (.iadd, 1) := by decide +kernel
theorem dX2_partTrip_112 : decode cX2_partTrip 112 = .ok (.iastore, 1) := by decide +kernel
theorem dX2_partTrip_113 : decode cX2_partTrip 113 = .ok (.iinc 3 1, 3) := by decide +kernel
theorem dX2_partTrip_116 : decode cX2_partTrip 116 = .ok (.goto (-53), 3) := by decide +kernel
theorem dX2_partTrip_119 : decode cX2_partTrip 119 = .ok (.return_, 1) := by decide +kernel
theorem dX2_partOpen_0 : decode cX2_partOpen 0 = .ok (.aload_n 0, 1) := by decide +kernel
theorem dX2_partOpen_1 : decode cX2_partOpen 1 = .ok (.getfield 12, 3) := by decide +kernel
theorem dX2_partOpen_4 : decode cX2_partOpen 4 = .ok (.invokevirtual 135, 3) := by decide +kernel
theorem dX2_partOpen_7 : decode cX2_partOpen 7 = .ok (.iconst 0, 1) := by decide +kernel
theorem dX2_partOpen_8 : decode cX2_partOpen 8 = .ok (.istore_n 1, 1) := by decide +kernel
theorem dX2_partOpen_9 : decode cX2_partOpen 9 = .ok (.iload_n 1, 1) := by decide +kernel
theorem dX2_partOpen_10 : decode cX2_partOpen 10 = .ok (.aload_n 0, 1) := by decide +kernel
theorem dX2_partOpen_11 : decode cX2_partOpen 11 = .ok (.getfield 60, 3) := by decide +kernel
theorem dX2_partOpen_14 : decode cX2_partOpen 14 = .ok (.if_icmp .ge 55, 3) := by decide +kernel
theorem dX2_partOpen_17 : decode cX2_partOpen 17 = .ok (.aload_n 0, 1) := by decide +kernel
theorem dX2_partOpen_18 : decode cX2_partOpen 18 = .ok (.getfield 22, 3) := by decide +kernel
theorem dX2_partOpen_21 : decode cX2_partOpen 21 = .ok (.iload_n 1, 1) := by decide +kernel
theorem dX2_partOpen_22 : decode cX2_partOpen 22 = .ok (.iaload, 1) := by decide +kernel
theorem dX2_partOpen_23 : decode cX2_partOpen 23 = .ok (.istore_n 2, 1) := by decide +kernel
theorem dX2_partOpen_24 : decode cX2_partOpen 24 = .ok (.aload_n 0, 1) := by decide +kernel
theorem dX2_partOpen_25 : decode cX2_partOpen 25 = .ok (.getfield 12, 3) := by decide +kernel
theorem dX2_partOpen_28 : decode cX2_partOpen 28 = .ok (.aload_n 0, 1) := by decide +kernel
theorem dX2_partOpen_29 : decode cX2_partOpen 29 = .ok (.getfield 18, 3) := by decide +kernel
theorem dX2_partOpen_32 : decode cX2_partOpen 32 = .ok (.iload_n 1, 1) := by decide +kernel
theorem dX2_partOpen_33 : decode cX2_partOpen 33 = .ok (.iaload, 1) := by decide +kernel
theorem dX2_partOpen_34 : decode cX2_partOpen 34 = .ok (.aload_n 0, 1) := by decide +kernel
theorem dX2_partOpen_35 : decode cX2_partOpen 35 = .ok (.getfield 62, 3) := by decide +kernel
theorem dX2_partOpen_38 : decode cX2_partOpen 38 = .ok (.aload_n 0, 1) := by decide +kernel
theorem dX2_partOpen_39 : decode cX2_partOpen 39 = .ok (.getfield 62, 3) := by decide +kernel
theorem dX2_partOpen_42 : decode cX2_partOpen 42 = .ok (.getfield 161, 3) := by decide +kernel
theorem dX2_partOpen_45 : decode cX2_partOpen 45 = .ok (.iload_n 2, 1) := by decide +kernel
theorem dX2_partOpen_46 : decode cX2_partOpen 46 = .ok (.iaload, 1) := by decide +kernel
theorem dX2_partOpen_47 : decode cX2_partOpen 47 = .ok (.aload_n 0, 1) := by decide +kernel
theorem dX2_partOpen_48 : decode cX2_partOpen 48 = .ok (.getfield 62, 3) := by decide +kernel
theorem dX2_partOpen_51 : decode cX2_partOpen 51 = .ok (.getfield 164, 3) := by decide +kernel
theorem dX2_partOpen_54 : decode cX2_partOpen 54 = .ok (.iload_n 2, 1) := by decide +kernel
theorem dX2_partOpen_55 : decode cX2_partOpen 55 = .ok (.iaload, 1) := by decide +kernel
theorem dX2_partOpen_56 : decode cX2_partOpen 56 = .ok (.invokevirtual 122, 3) := by decide +kernel
theorem dX2_partOpen_59 : decode cX2_partOpen 59 = .ok (.imul, 1) := by decide +kernel
theorem dX2_partOpen_60 : decode cX2_partOpen 60 = .ok (.invokevirtual 142, 3) := by decide +kernel
theorem dX2_partOpen_63 : decode cX2_partOpen 63 = .ok (.iinc 1 1, 3) := by decide +kernel
theorem dX2_partOpen_66 : decode cX2_partOpen 66 = .ok (.goto (-57), 3) := by decide +kernel
theorem dX2_partOpen_69 : decode cX2_partOpen 69 = .ok (.aload_n 0, 1) := by decide +kernel
theorem dX2_partOpen_70 : decode cX2_partOpen 70 = .ok (.getfield 12, 3) := by decide +kernel
theorem dX2_partOpen_73 : decode cX2_partOpen 73 = .ok (.aload_n 0, 1) := by decide +kernel
theorem dX2_partOpen_74 : decode cX2_partOpen 74 = .ok (.getfield 70, 3) := by decide +kernel
theorem dX2_partOpen_77 : decode cX2_partOpen 77 = .ok (.invokevirtual 148, 3) := by decide +kernel
theorem dX2_partOpen_80 : decode cX2_partOpen 80 = .ok (.iconst 0, 1) := by decide +kernel
theorem dX2_partOpen_81 : decode cX2_partOpen 81 = .ok (.istore_n 1, 1) := by decide +kernel
theorem dX2_partOpen_82 : decode cX2_partOpen 82 = .ok (.iload_n 1, 1) := by decide +kernel
theorem dX2_partOpen_83 : decode cX2_partOpen 83 = .ok (.aload_n 0, 1) := by decide +kernel
theorem dX2_partOpen_84 : decode cX2_partOpen 84 = .ok (.getfield 60, 3) := by decide +kernel
theorem dX2_partOpen_87 : decode cX2_partOpen 87 = .ok (.if_icmp .ge 39, 3) := by decide +kernel
theorem dX2_partOpen_90 : decode cX2_partOpen 90 = .ok (.aload_n 0, 1) := by decide +kernel
theorem dX2_partOpen_91 : decode cX2_partOpen 91 = .ok (.getfield 48, 3) := by decide +kernel
theorem dX2_partOpen_94 : decode cX2_partOpen 94 = .ok (.iload_n 1, 1) := by decide +kernel
theorem dX2_partOpen_95 : decode cX2_partOpen 95 = .ok (.aload_n 0, 1) := by decide +kernel
theorem dX2_partOpen_96 : decode cX2_partOpen 96 = .ok (.getfield 12, 3) := by decide +kernel
theorem dX2_partOpen_99 : decode cX2_partOpen 99 = .ok (.getfield 151, 3) := by decide +kernel
theorem dX2_partOpen_102 : decode cX2_partOpen 102 = .ok (.iload_n 1, 1) := by decide +kernel
theorem dX2_partOpen_103 : decode cX2_partOpen 103 = .ok (.iaload, 1) := by decide +kernel
theorem dX2_partOpen_104 : decode cX2_partOpen 104 = .ok (.iastore, 1) := by decide +kernel
theorem dX2_partOpen_105 : decode cX2_partOpen 105 = .ok (.aload_n 0, 1) := by decide +kernel
theorem dX2_partOpen_106 : decode cX2_partOpen 106 = .ok (.getfield 51, 3) := by decide +kernel
theorem dX2_partOpen_109 : decode cX2_partOpen 109 = .ok (.iload_n 1, 1) := by decide +kernel
theorem dX2_partOpen_110 : decode cX2_partOpen 110 = .ok (.dup2, 1) := by decide +kernel
theorem dX2_partOpen_111 : decode cX2_partOpen 111 = .ok (.iaload, 1) := by decide +kernel
theorem dX2_partOpen_112 : decode cX2_partOpen 112 = .ok (.aload_n 0, 1) := by decide +kernel
theorem dX2_partOpen_113 : decode cX2_partOpen 113 = .ok (.getfield 48, 3) := by decide +kernel
theorem dX2_partOpen_116 : decode cX2_partOpen 116 = .ok (.iload_n 1, 1) := by decide +kernel
theorem dX2_partOpen_117 : decode cX2_partOpen 117 = .ok (.iaload, 1) := by decide +kernel
theorem dX2_partOpen_118 : decode cX2_partOpen 118 = .ok (.iadd, 1) := by decide +kernel
theorem dX2_partOpen_119 : decode cX2_partOpen 119 = .ok (.iastore, 1) := by decide +kernel
theorem dX2_partOpen_120 : decode cX2_partOpen 120 = .ok (.iinc 1 1, 3) := by decide +kernel
theorem dX2_partOpen_123 : decode cX2_partOpen 123 = .ok (.goto (-41), 3) := by decide +kernel
theorem dX2_partOpen_126 : decode cX2_partOpen 126 = .ok (.return_, 1) := by decide +kernel
theorem dX3_init_0 : decode cX3_init 0 = .ok (.aload_n 0, 1) := by decide +kernel
theorem dX3_init_1 : decode cX3_init 1 = .ok (.invokespecial 3, 3) := by decide +kernel
theorem dX3_init_4 : decode cX3_init 4 = .ok (.aload_n 0, 1) := by decide +kernel
theorem dX3_init_5 : decode cX3_init 5 = .ok (.bipush 16, 2) := by decide +kernel
theorem dX3_init_7 : decode cX3_init 7 = .ok (.newarray .int, 2) := by decide +kernel
theorem dX3_init_9 : decode cX3_init 9 = .ok (.putfield 9, 3) := by decide +kernel
theorem dX3_init_12 : decode cX3_init 12 = .ok (.aload_n 0, 1) := by decide +kernel
theorem dX3_init_13 : decode cX3_init 13 = .ok (.bipush 16, 2) := by decide +kernel
theorem dX3_init_15 : decode cX3_init 15 = .ok (.newarray .int, 2) := by decide +kernel
theorem dX3_init_17 : decode cX3_init 17 = .ok (.putfield 15, 3) := by decide +kernel
theorem dX3_init_20 : decode cX3_init 20 = .ok (.aload_n 0, 1) := by decide +kernel
theorem dX3_init_21 : decode cX3_init 21 = .ok (.bipush 16, 2) := by decide +kernel
theorem dX3_init_23 : decode cX3_init 23 = .ok (.newarray .long, 2) := by decide +kernel
theorem dX3_init_25 : decode cX3_init 25 = .ok (.putfield 18, 3) := by decide +kernel
theorem dX3_init_28 : decode cX3_init 28 = .ok (.return_, 1) := by decide +kernel
theorem dX3_begin_0 : decode cX3_begin 0 = .ok (.aload_n 0, 1) := by decide +kernel
theorem dX3_begin_1 : decode cX3_begin 1 = .ok (.iconst 0, 1) := by decide +kernel
theorem dX3_begin_2 : decode cX3_begin 2 = .ok (.putfield 22, 3) := by decide +kernel
theorem dX3_begin_5 : decode cX3_begin 5 = .ok (.return_, 1) := by decide +kernel
theorem dX3_add_0 : decode cX3_add 0 = .ok (.aload_n 0, 1) := by decide +kernel
theorem dX3_add_1 : decode cX3_add 1 = .ok (.getfield 22, 3) := by decide +kernel
theorem dX3_add_4 : decode cX3_add 4 = .ok (.bipush 16, 2) := by decide +kernel
theorem dX3_add_6 : decode cX3_add 6 = .ok (.if_icmp .ge 23, 3) := by decide +kernel
theorem dX3_add_9 : decode cX3_add 9 = .ok (.aload_n 0, 1) := by decide +kernel
theorem dX3_add_10 : decode cX3_add 10 = .ok (.getfield 15, 3) := by decide +kernel
theorem dX3_add_13 : decode cX3_add 13 = .ok (.aload_n 0, 1) := by decide +kernel
theorem dX3_add_14 : decode cX3_add 14 = .ok (.getfield 22, 3) := by decide +kernel
theorem dX3_add_17 : decode cX3_add 17 = .ok (.iload_n 1, 1) := by decide +kernel
theorem dX3_add_18 : decode cX3_add 18 = .ok (.iastore, 1) := by decide +kernel
theorem dX3_add_19 : decode cX3_add 19 = .ok (.aload_n 0, 1) := by decide +kernel
theorem dX3_add_20 : decode cX3_add 20 = .ok (.dup, 1) := by decide +kernel
theorem dX3_add_21 : decode cX3_add 21 = .ok (.getfield 22, 3) := by decide +kernel
theorem dX3_add_24 : decode cX3_add 24 = .ok (.iconst 1, 1) := by decide +kernel
theorem dX3_add_25 : decode cX3_add 25 = .ok (.iadd, 1) := by decide +kernel
theorem dX3_add_26 : decode cX3_add 26 = .ok (.putfield 22, 3) := by decide +kernel
theorem dX3_add_29 : decode cX3_add 29 = .ok (.return_, 1) := by decide +kernel
theorem dX3_divide_0 : decode cX3_divide 0 = .ok (.lconst 0, 1) := by decide +kernel
theorem dX3_divide_1 : decode cX3_divide 1 = .ok (.lstore_n 2, 1) := by decide +kernel
theorem dX3_divide_2 : decode cX3_divide 2 = .ok (.iconst 0, 1) := by decide +kernel
theorem dX3_divide_3 : decode cX3_divide 3 = .ok (.istore 4, 2) := by decide +kernel
theorem dX3_divide_5 : decode cX3_divide 5 = .ok (.iload 4, 2) := by decide +kernel
theorem dX3_divide_7 : decode cX3_divide 7 = .ok (.aload_n 0, 1) := by decide +kernel
theorem dX3_divide_8 : decode cX3_divide 8 = .ok (.getfield 22, 3) := by decide +kernel
theorem dX3_divide_11 : decode cX3_divide 11 = .ok (.if_icmp .ge 28, 3) := by decide +kernel
theorem dX3_divide_14 : decode cX3_divide 14 = .ok (.lload_n 2, 1) := by decide +kernel
theorem dX3_divide_15 : decode cX3_divide 15 = .ok (.aload_n 0, 1) := by decide +kernel
theorem dX3_divide_16 : decode cX3_divide 16 = .ok (.getfield 15, 3) := by decide +kernel
theorem dX3_divide_19 : decode cX3_divide 19 = .ok (.iload 4, 2) := by decide +kernel
theorem dX3_divide_21 : decode cX3_divide 21 = .ok (.iaload, 1) := by decide +kernel
theorem dX3_divide_22 : decode cX3_divide 22 = .ok (.i2l, 1) := by decide +kernel
theorem dX3_divide_23 : decode cX3_divide 23 = .ok (.ladd, 1) := by decide +kernel
theorem dX3_divide_24 : decode cX3_divide 24 = .ok (.lstore_n 2, 1) := by decide +kernel
theorem dX3_divide_25 : decode cX3_divide 25 = .ok (.aload_n 0, 1) := by decide +kernel
theorem dX3_divide_26 : decode cX3_divide 26 = .ok (.getfield 9, 3) := by decide +kernel
theorem dX3_divide_29 : decode cX3_divide 29 = .ok (.iload 4, 2) := by decide +kernel
theorem dX3_divide_31 : decode cX3_divide 31 = .ok (.iconst 0, 1) := by decide +kernel
theorem dX3_divide_32 : decode cX3_divide 32 = .ok (.iastore, 1) := by decide +kernel
theorem dX3_divide_33 : decode cX3_divide 33 = .ok (.iinc 4 1, 3) := by decide +kernel
theorem dX3_divide_36 : decode cX3_divide 36 = .ok (.goto (-31), 3) := by decide +kernel
theorem dX3_divide_39 : decode cX3_divide 39 = .ok (.lload_n 2, 1) := by decide +kernel
theorem dX3_divide_40 : decode cX3_divide 40 = .ok (.lconst 0, 1) := by decide +kernel
theorem dX3_divide_41 : decode cX3_divide 41 = .ok (.lcmp, 1) := by decide +kernel
theorem dX3_divide_42 : decode cX3_divide 42 = .ok (.ifCond .gt 11, 3) := by decide +kernel
theorem dX3_divide_45 : decode cX3_divide 45 = .ok (.aload_n 0, 1) := by decide +kernel
theorem dX3_divide_46 : decode cX3_divide 46 = .ok (.getfield 9, 3) := by decide +kernel
theorem dX3_divide_49 : decode cX3_divide 49 = .ok (.iconst 0, 1) := by decide +kernel
theorem dX3_divide_50 : decode cX3_divide 50 = .ok (.iload_n 1, 1) := by decide +kernel
theorem dX3_divide_51 : decode cX3_divide 51 = .ok (.iastore, 1) := by decide +kernel
theorem dX3_divide_52 : decode cX3_divide 52 = .ok (.return_, 1) := by decide +kernel
theorem dX3_divide_53 : decode cX3_divide 53 = .ok (.iload_n 1, 1) := by decide +kernel
theorem dX3_divide_54 : decode cX3_divide 54 = .ok (.istore 4, 2) := by decide +kernel
theorem dX3_divide_56 : decode cX3_divide 56 = .ok (.iconst 0, 1) := by decide +kernel
theorem dX3_divide_57 : decode cX3_divide 57 = .ok (.istore 5, 2) := by decide +kernel
theorem dX3_divide_59 : decode cX3_divide 59 = .ok (.iload 5, 2) := by decide +kernel
theorem dX3_divide_61 : decode cX3_divide 61 = .ok (.aload_n 0, 1) := by decide +kernel
theorem dX3_divide_62 : decode cX3_divide 62 = .ok (.getfield 22, 3) := by decide +kernel
theorem dX3_divide_65 : decode cX3_divide 65 = .ok (.if_icmp .ge 57, 3) := by decide +kernel
theorem dX3_divide_68 : decode cX3_divide 68 = .ok (.iload_n 1, 1) := by decide +kernel
theorem dX3_divide_69 : decode cX3_divide 69 = .ok (.i2l, 1) := by decide +kernel
theorem dX3_divide_70 : decode cX3_divide 70 = .ok (.aload_n 0, 1) := by decide +kernel
theorem dX3_divide_71 : decode cX3_divide 71 = .ok (.getfield 15, 3) := by decide +kernel
theorem dX3_divide_74 : decode cX3_divide 74 = .ok (.iload 5, 2) := by decide +kernel
theorem dX3_divide_76 : decode cX3_divide 76 = .ok (.iaload, 1) := by decide +kernel
theorem dX3_divide_77 : decode cX3_divide 77 = .ok (.i2l, 1) := by decide +kernel
theorem dX3_divide_78 : decode cX3_divide 78 = .ok (.lmul, 1) := by decide +kernel
theorem dX3_divide_79 : decode cX3_divide 79 = .ok (.lstore 6, 2) := by decide +kernel
theorem dX3_divide_81 : decode cX3_divide 81 = .ok (.aload_n 0, 1) := by decide +kernel
theorem dX3_divide_82 : decode cX3_divide 82 = .ok (.getfield 9, 3) := by decide +kernel
theorem dX3_divide_85 : decode cX3_divide 85 = .ok (.iload 5, 2) := by decide +kernel
theorem dX3_divide_87 : decode cX3_divide 87 = .ok (.lload 6, 2) := by decide +kernel
theorem dX3_divide_89 : decode cX3_divide 89 = .ok (.lload_n 2, 1) := by decide +kernel
theorem dX3_divide_90 : decode cX3_divide 90 = .ok (.ldiv, 1) := by decide +kernel
theorem dX3_divide_91 : decode cX3_divide 91 = .ok (.l2i, 1) := by decide +kernel
theorem dX3_divide_92 : decode cX3_divide 92 = .ok (.iastore, 1) := by decide +kernel
theorem dX3_divide_93 : decode cX3_divide 93 = .ok (.aload_n 0, 1) := by decide +kernel
theorem dX3_divide_94 : decode cX3_divide 94 = .ok (.getfield 18, 3) := by decide +kernel
theorem dX3_divide_97 : decode cX3_divide 97 = .ok (.iload 5, 2) := by decide +kernel
theorem dX3_divide_99 : decode cX3_divide 99 = .ok (.lload 6, 2) := by decide +kernel
theorem dX3_divide_101 : decode cX3_divide 101 = .ok (.lload_n 2, 1) := by decide +kernel
theorem dX3_divide_102 : decode cX3_divide 102 = .ok (.lrem, 1) := by decide +kernel
theorem dX3_divide_103 : decode cX3_divide 103 = .ok (.lastore, 1) := by decide +kernel
theorem dX3_divide_104 : decode cX3_divide 104 = .ok (.iload 4, 2) := by decide +kernel
theorem dX3_divide_106 : decode cX3_divide 106 = .ok (.aload_n 0, 1) := by decide +kernel
theorem dX3_divide_107 : decode cX3_divide 107 = .ok (.getfield 9, 3) := by decide +kernel
theorem dX3_divide_110 : decode cX3_divide 110 = .ok (.iload 5, 2) := by decide +kernel
theorem dX3_divide_112 : decode cX3_divide 112 = .ok (.iaload, 1) := by decide +kernel
theorem dX3_divide_113 : decode cX3_divide 113 = .ok (.isub, 1) := by decide +kernel
theorem dX3_divide_114 : decode cX3_divide 114 = .ok (.istore 4, 2) := by decide +kernel
theorem dX3_divide_116 : decode cX3_divide 116 = .ok (.iinc 5 1, 3) := by decide +kernel
theorem dX3_divide_119 : decode cX3_divide 119 = .ok (.goto (-60), 3) := by decide +kernel
theorem dX3_divide_122 : decode cX3_divide 122 = .ok (.iconst 0, 1) := by decide +kernel
theorem dX3_divide_123 : decode cX3_divide 123 = .ok (.istore 5, 2) := by decide +kernel
theorem dX3_divide_125 : decode cX3_divide 125 = .ok (.iload 5, 2) := by decide +kernel
theorem dX3_divide_127 : decode cX3_divide 127 = .ok (.iload 4, 2) := by decide +kernel
theorem dX3_divide_129 : decode cX3_divide 129 = .ok (.if_icmp .ge 22, 3) := by decide +kernel
theorem dX3_divide_132 : decode cX3_divide 132 = .ok (.iload 5, 2) := by decide +kernel
theorem dX3_divide_134 : decode cX3_divide 134 = .ok (.aload_n 0, 1) := by decide +kernel
theorem dX3_divide_135 : decode cX3_divide 135 = .ok (.getfield 22, 3) := by decide +kernel
theorem dX3_divide_138 : decode cX3_divide 138 = .ok (.if_icmp .ge 13, 3) := by decide +kernel
theorem dX3_divide_141 : decode cX3_divide 141 = .ok (.aload_n 0, 1) := by decide +kernel
theorem dX3_divide_142 : decode cX3_divide 142 = .ok (.invokevirtual 26, 3) := by decide +kernel
theorem dX3_divide_145 : decode cX3_divide 145 = .ok (.iinc 5 1, 3) := by decide +kernel
theorem dX3_divide_148 : decode cX3_divide 148 = .ok (.goto (-23), 3) := by decide +kernel
theorem dX3_divide_151 : decode cX3_divide 151 = .ok (.return_, 1) := by decide +kernel
theorem dX3_giveOne_0 : decode cX3_giveOne 0 = .ok (.iconst 0, 1) := by decide +kernel
theorem dX3_giveOne_1 : decode cX3_giveOne 1 = .ok (.istore_n 1, 1) := by decide +kernel
theorem dX3_giveOne_2 : decode cX3_giveOne 2 = .ok (.iconst 1, 1) := by decide +kernel
theorem dX3_giveOne_3 : decode cX3_giveOne 3 = .ok (.istore_n 2, 1) := by decide +kernel
theorem dX3_giveOne_4 : decode cX3_giveOne 4 = .ok (.iload_n 2, 1) := by decide +kernel
theorem dX3_giveOne_5 : decode cX3_giveOne 5 = .ok (.aload_n 0, 1) := by decide +kernel
theorem dX3_giveOne_6 : decode cX3_giveOne 6 = .ok (.getfield 22, 3) := by decide +kernel
theorem dX3_giveOne_9 : decode cX3_giveOne 9 = .ok (.if_icmp .ge 27, 3) := by decide +kernel
theorem dX3_giveOne_12 : decode cX3_giveOne 12 = .ok (.aload_n 0, 1) := by decide +kernel
theorem dX3_giveOne_13 : decode cX3_giveOne 13 = .ok (.getfield 18, 3) := by decide +kernel
theorem dX3_giveOne_16 : decode cX3_giveOne 16 = .ok (.iload_n 2, 1) := by decide +kernel
theorem dX3_giveOne_17 : decode cX3_giveOne 17 = .ok (.laload, 1) := by decide +kernel
theorem dX3_giveOne_18 : decode cX3_giveOne 18 = .ok (.aload_n 0, 1) := by decide +kernel
theorem dX3_giveOne_19 : decode cX3_giveOne 19 = .ok (.getfield 18, 3) := by decide +kernel
theorem dX3_giveOne_22 : decode cX3_giveOne 22 = .ok (.iload_n 1, 1) := by decide +kernel
theorem dX3_giveOne_23 : decode cX3_giveOne 23 = .ok (.laload, 1) := by decide +kernel
theorem dX3_giveOne_24 : decode cX3_giveOne 24 = .ok (.lcmp, 1) := by decide +kernel
theorem dX3_giveOne_25 : decode cX3_giveOne 25 = .ok (.ifCond .le 5, 3) := by decide +kernel
theorem dX3_giveOne_28 : decode cX3_giveOne 28 = .ok (.iload_n 2, 1) := by decide +kernel
theorem dX3_giveOne_29 : decode cX3_giveOne 29 = .ok (.istore_n 1, 1) := by decide +kernel
theorem dX3_giveOne_30 : decode cX3_giveOne 30 = .ok (.iinc 2 1, 3) := by decide +kernel
theorem dX3_giveOne_33 : decode cX3_giveOne 33 = .ok (.goto (-29), 3) := by decide +kernel
theorem dX3_giveOne_36 : decode cX3_giveOne 36 = .ok (.aload_n 0, 1) := by decide +kernel
theorem dX3_giveOne_37 : decode cX3_giveOne 37 = .ok (.getfield 9, 3) := by decide +kernel
theorem dX3_giveOne_40 : decode cX3_giveOne 40 = .ok (.iload_n 1, 1) := by decide +kernel
theorem dX3_giveOne_41 : decode cX3_giveOne 41 = .ok (.dup2, 1) := by decide +kernel
theorem dX3_giveOne_42 : decode cX3_giveOne 42 = .ok (.iaload, 1) := by decide +kernel
theorem dX3_giveOne_43 : decode cX3_giveOne 43 = .ok (.iconst 1, 1) := by decide +kernel
theorem dX3_giveOne_44 : decode cX3_giveOne 44 = .ok (.iadd, 1) := by decide +kernel
theorem dX3_giveOne_45 : decode cX3_giveOne 45 = .ok (.iastore, 1) := by decide +kernel
theorem dX3_giveOne_46 : decode cX3_giveOne 46 = .ok (.aload_n 0, 1) := by decide +kernel
theorem dX3_giveOne_47 : decode cX3_giveOne 47 = .ok (.getfield 18, 3) := by decide +kernel
theorem dX3_giveOne_50 : decode cX3_giveOne 50 = .ok (.iload_n 1, 1) := by decide +kernel
theorem dX3_giveOne_51 : decode cX3_giveOne 51 = .ok (.ldc2_w 29, 3) := by decide +kernel
theorem dX3_giveOne_54 : decode cX3_giveOne 54 = .ok (.lastore, 1) := by decide +kernel
theorem dX3_giveOne_55 : decode cX3_giveOne 55 = .ok (.return_, 1) := by decide +kernel
theorem dX4_init_0 : decode cX4_init 0 = .ok (.aload_n 0, 1) := by decide +kernel
theorem dX4_init_1 : decode cX4_init 1 = .ok (.invokespecial 3, 3) := by decide +kernel
theorem dX4_init_4 : decode cX4_init 4 = .ok (.aload_n 0, 1) := by decide +kernel
theorem dX4_init_5 : decode cX4_init 5 = .ok (.iconst 3, 1) := by decide +kernel
theorem dX4_init_6 : decode cX4_init 6 = .ok (.newarray .int, 2) := by decide +kernel
theorem dX4_init_8 : decode cX4_init 8 = .ok (.putfield 9, 3) := by decide +kernel
theorem dX4_init_11 : decode cX4_init 11 = .ok (.aload_n 0, 1) := by decide +kernel
theorem dX4_init_12 : decode cX4_init 12 = .ok (.new 15, 3) := by decide +kernel
theorem dX4_init_15 : decode cX4_init 15 = .ok (.dup, 1) := by decide +kernel
theorem dX4_init_16 : decode cX4_init 16 = .ok (.aload_n 1, 1) := by decide +kernel
theorem dX4_init_17 : decode cX4_init 17 = .ok (.invokespecial 17, 3) := by decide +kernel
theorem dX4_init_20 : decode cX4_init 20 = .ok (.putfield 20, 3) := by decide +kernel
theorem dX4_init_23 : decode cX4_init 23 = .ok (.return_, 1) := by decide +kernel
theorem dX4_read_0 : decode cX4_read 0 = .ok (.aload_n 0, 1) := by decide +kernel
theorem dX4_read_1 : decode cX4_read 1 = .ok (.aload_n 1, 1) := by decide +kernel
theorem dX4_read_2 : decode cX4_read 2 = .ok (.putfield 24, 3) := by decide +kernel
theorem dX4_read_5 : decode cX4_read 5 = .ok (.aload_n 0, 1) := by decide +kernel
theorem dX4_read_6 : decode cX4_read 6 = .ok (.getfield 24, 3) := by decide +kernel
theorem dX4_read_9 : decode cX4_read 9 = .ok (.invokevirtual 28, 3) := by decide +kernel
theorem dX4_read_12 : decode cX4_read 12 = .ok (.aload_n 0, 1) := by decide +kernel
theorem dX4_read_13 : decode cX4_read 13 = .ok (.iconst 0, 1) := by decide +kernel
theorem dX4_read_14 : decode cX4_read 14 = .ok (.putfield 33, 3) := by decide +kernel
theorem dX4_read_17 : decode cX4_read 17 = .ok (.aload_n 0, 1) := by decide +kernel
theorem dX4_read_18 : decode cX4_read 18 = .ok (.iconst 0, 1) := by decide +kernel
theorem dX4_read_19 : decode cX4_read 19 = .ok (.putfield 37, 3) := by decide +kernel
theorem dX4_read_22 : decode cX4_read 22 = .ok (.aload_n 0, 1) := by decide +kernel
theorem dX4_read_23 : decode cX4_read 23 = .ok (.iconst 0, 1) := by decide +kernel
theorem dX4_read_24 : decode cX4_read 24 = .ok (.putfield 40, 3) := by decide +kernel
theorem dX4_read_27 : decode cX4_read 27 = .ok (.aload_n 0, 1) := by decide +kernel
theorem dX4_read_28 : decode cX4_read 28 = .ok (.iconst (-1), 1) := by decide +kernel
theorem dX4_read_29 : decode cX4_read 29 = .ok (.putfield 43, 3) := by decide +kernel
theorem dX4_read_32 : decode cX4_read 32 = .ok (.aload_n 0, 1) := by decide +kernel
theorem dX4_read_33 : decode cX4_read 33 = .ok (.getfield 20, 3) := by decide +kernel
theorem dX4_read_36 : decode cX4_read 36 = .ok (.invokevirtual 46, 3) := by decide +kernel
theorem dX4_read_39 : decode cX4_read 39 = .ok (.iconst 0, 1) := by decide +kernel
theorem dX4_read_40 : decode cX4_read 40 = .ok (.istore_n 2, 1) := by decide +kernel
theorem dX4_read_41 : decode cX4_read 41 = .ok (.iload_n 2, 1) := by decide +kernel
theorem dX4_read_42 : decode cX4_read 42 = .ok (.sipush 840, 3) := by decide +kernel
theorem dX4_read_45 : decode cX4_read 45 = .ok (.if_icmp .gt 38, 3) := by decide +kernel
theorem dX4_read_48 : decode cX4_read 48 = .ok (.aload_n 0, 1) := by decide +kernel
theorem dX4_read_49 : decode cX4_read 49 = .ok (.getfield 20, 3) := by decide +kernel
theorem dX4_read_52 : decode cX4_read 52 = .ok (.invokevirtual 49, 3) := by decide +kernel
theorem dX4_read_55 : decode cX4_read 55 = .ok (.aload_n 0, 1) := by decide +kernel
theorem dX4_read_56 : decode cX4_read 56 = .ok (.getfield 20, 3) := by decide +kernel
theorem dX4_read_59 : decode cX4_read 59 = .ok (.getfield 52, 3) := by decide +kernel
theorem dX4_read_62 : decode cX4_read 62 = .ok (.ifCond .ne 6, 3) := by decide +kernel
theorem dX4_read_65 : decode cX4_read 65 = .ok (.goto 18, 3) := by decide +kernel
theorem dX4_read_68 : decode cX4_read 68 = .ok (.aload_n 0, 1) := by decide +kernel
theorem dX4_read_69 : decode cX4_read 69 = .ok (.invokevirtual 55, 3) := by decide +kernel
theorem dX4_read_72 : decode cX4_read 72 = .ok (.ifCond .ne 5, 3) := by decide +kernel
theorem dX4_read_75 : decode cX4_read 75 = .ok (.iconst 0, 1) := by decide +kernel
theorem dX4_read_76 : decode cX4_read 76 = .ok (.ireturn, 1) := by decide +kernel
theorem dX4_read_77 : decode cX4_read 77 = .ok (.iinc 2 1, 3) := by decide +kernel
theorem dX4_read_80 : decode cX4_read 80 = .ok (.goto (-39), 3) := by decide +kernel
theorem dX4_read_83 : decode cX4_read 83 = .ok (.aload_n 0, 1) := by decide +kernel
theorem dX4_read_84 : decode cX4_read 84 = .ok (.getfield 43, 3) := by decide +kernel
theorem dX4_read_87 : decode cX4_read 87 = .ok (.iconst (-1), 1) := by decide +kernel
theorem dX4_read_88 : decode cX4_read 88 = .ok (.if_icmp .ne 17, 3) := by decide +kernel
theorem dX4_read_91 : decode cX4_read 91 = .ok (.aload_n 0, 1) := by decide +kernel
theorem dX4_read_92 : decode cX4_read 92 = .ok (.getfield 20, 3) := by decide +kernel
theorem dX4_read_95 : decode cX4_read 95 = .ok (.invokevirtual 59, 3) := by decide +kernel
theorem dX4_read_98 : decode cX4_read 98 = .ok (.ifCond .ne 7, 3) := by decide +kernel
theorem dX4_read_101 : decode cX4_read 101 = .ok (.iconst 1, 1) := by decide +kernel
theorem dX4_read_102 : decode cX4_read 102 = .ok (.goto 4, 3) := by decide +kernel
theorem dX4_read_105 : decode cX4_read 105 = .ok (.iconst 0, 1) := by decide +kernel
theorem dX4_read_106 : decode cX4_read 106 = .ok (.istore_n 2, 1) := by decide +kernel
theorem dX4_read_107 : decode cX4_read 107 = .ok (.iload_n 2, 1) := by decide +kernel
theorem dX4_read_108 : decode cX4_read 108 = .ok (.ifCond .ne 11, 3) := by decide +kernel
theorem dX4_read_111 : decode cX4_read 111 = .ok (.aload_n 0, 1) := by decide +kernel
theorem dX4_read_112 : decode cX4_read 112 = .ok (.iconst 1, 1) := by decide +kernel
theorem dX4_read_113 : decode cX4_read 113 = .ok (.invokevirtual 62, 3) := by decide +kernel
theorem dX4_read_116 : decode cX4_read 116 = .ok (.ifCond .eq 7, 3) := by decide +kernel
theorem dX4_read_119 : decode cX4_read 119 = .ok (.iconst 1, 1) := by decide +kernel
theorem dX4_read_120 : decode cX4_read 120 = .ok (.goto 4, 3) := by decide +kernel
theorem dX4_read_123 : decode cX4_read 123 = .ok (.iconst 0, 1) := by decide +kernel
theorem dX4_read_124 : decode cX4_read 124 = .ok (.ireturn, 1) := by decide +kernel
theorem dX4_refuse_0 : decode cX4_refuse 0 = .ok (.aload_n 0, 1) := by decide +kernel
theorem dX4_refuse_1 : decode cX4_refuse 1 = .ok (.iload_n 1, 1) := by decide +kernel
theorem dX4_refuse_2 : decode cX4_refuse 2 = .ok (.putfield 37, 3) := by decide +kernel
theorem dX4_refuse_5 : decode cX4_refuse 5 = .ok (.aload_n 0, 1) := by decide +kernel
theorem dX4_refuse_6 : decode cX4_refuse 6 = .ok (.aload_n 0, 1) := by decide +kernel
theorem dX4_refuse_7 : decode cX4_refuse 7 = .ok (.getfield 20, 3) := by decide +kernel
theorem dX4_refuse_10 : decode cX4_refuse 10 = .ok (.getfield 66, 3) := by decide +kernel
theorem dX4_refuse_13 : decode cX4_refuse 13 = .ok (.putfield 40, 3) := by decide +kernel
theorem dX4_refuse_16 : decode cX4_refuse 16 = .ok (.iconst 0, 1) := by decide +kernel
theorem dX4_refuse_17 : decode cX4_refuse 17 = .ok (.ireturn, 1) := by decide +kernel
theorem dX4_takeToken_0 : decode cX4_takeToken 0 = .ok (.aload_n 0, 1) := by decide +kernel
theorem dX4_takeToken_1 : decode cX4_takeToken 1 = .ok (.getfield 43, 3) := by decide +kernel
theorem dX4_takeToken_4 : decode cX4_takeToken 4 = .ok (.iconst (-1), 1) := by decide +kernel
theorem dX4_takeToken_5 : decode cX4_takeToken 5 = .ok (.if_icmp .ne 8, 3) := by decide +kernel
theorem dX4_takeToken_8 : decode cX4_takeToken 8 = .ok (.aload_n 0, 1) := by decide +kernel
theorem dX4_takeToken_9 : decode cX4_takeToken 9 = .ok (.invokevirtual 69, 3) := by decide +kernel
theorem dX4_takeToken_12 : decode cX4_takeToken 12 = .ok (.ireturn, 1) := by decide +kernel
theorem dX4_takeToken_13 : decode cX4_takeToken 13 = .ok (.aload_n 0, 1) := by decide +kernel
theorem dX4_takeToken_14 : decode cX4_takeToken 14 = .ok (.getfield 72, 3) := by decide +kernel
theorem dX4_takeToken_17 : decode cX4_takeToken 17 = .ok (.aload_n 0, 1) := by decide +kernel
theorem dX4_takeToken_18 : decode cX4_takeToken 18 = .ok (.getfield 75, 3) := by decide +kernel
theorem dX4_takeToken_21 : decode cX4_takeToken 21 = .ok (.if_icmp .ge 8, 3) := by decide +kernel
theorem dX4_takeToken_24 : decode cX4_takeToken 24 = .ok (.aload_n 0, 1) := by decide +kernel
theorem dX4_takeToken_25 : decode cX4_takeToken 25 = .ok (.invokevirtual 78, 3) := by decide +kernel
theorem dX4_takeToken_28 : decode cX4_takeToken 28 = .ok (.ireturn, 1) := by decide +kernel
theorem dX4_takeToken_29 : decode cX4_takeToken 29 = .ok (.aload_n 0, 1) := by decide +kernel
theorem dX4_takeToken_30 : decode cX4_takeToken 30 = .ok (.getfield 43, 3) := by decide +kernel
theorem dX4_takeToken_33 : decode cX4_takeToken 33 = .ok (.bipush 9, 2) := by decide +kernel
theorem dX4_takeToken_35 : decode cX4_takeToken 35 = .ok (.if_icmp .ne 8, 3) := by decide +kernel
theorem dX4_takeToken_38 : decode cX4_takeToken 38 = .ok (.aload_n 0, 1) := by decide +kernel
theorem dX4_takeToken_39 : decode cX4_takeToken 39 = .ok (.invokevirtual 81, 3) := by decide +kernel
theorem dX4_takeToken_42 : decode cX4_takeToken 42 = .ok (.ireturn, 1) := by decide +kernel
theorem dX4_takeToken_43 : decode cX4_takeToken 43 = .ok (.aload_n 0, 1) := by decide +kernel
theorem dX4_takeToken_44 : decode cX4_takeToken 44 = .ok (.getfield 20, 3) := by decide +kernel
theorem dX4_takeToken_47 : decode cX4_takeToken 47 = .ok (.getfield 52, 3) := by decide +kernel
theorem dX4_takeToken_50 : decode cX4_takeToken 50 = .ok (.iconst 3, 1) := by decide +kernel
theorem dX4_takeToken_51 : decode cX4_takeToken 51 = .ok (.if_icmp .ne 10, 3) := by decide +kernel
theorem dX4_takeToken_54 : decode cX4_takeToken 54 = .ok (.aload_n 0, 1) := by decide +kernel
theorem dX4_takeToken_55 : decode cX4_takeToken 55 = .ok (.invokevirtual 84, 3) := by decide +kernel
theorem dX4_takeToken_58 : decode cX4_takeToken 58 = .ok (.goto 8, 3) := by decide +kernel
theorem dX4_takeToken_61 : decode cX4_takeToken 61 = .ok (.aload_n 0, 1) := by decide +kernel
theorem dX4_takeToken_62 : decode cX4_takeToken 62 = .ok (.iconst 1, 1) := by decide +kernel
theorem dX4_takeToken_63 : decode cX4_takeToken 63 = .ok (.invokevirtual 62, 3) := by decide +kernel
theorem dX4_takeToken_66 : decode cX4_takeToken 66 = .ok (.ireturn, 1) := by decide +kernel
theorem dX4_beginLine_0 : decode cX4_beginLine 0 = .ok (.aload_n 0, 1) := by decide +kernel
theorem dX4_beginLine_1 : decode cX4_beginLine 1 = .ok (.getfield 20, 3) := by decide +kernel
theorem dX4_beginLine_4 : decode cX4_beginLine 4 = .ok (.getfield 52, 3) := by decide +kernel
theorem dX4_beginLine_7 : decode cX4_beginLine 7 = .ok (.istore_n 1, 1) := by decide +kernel
theorem dX4_beginLine_8 : decode cX4_beginLine 8 = .ok (.iload_n 1, 1) := by decide +kernel
theorem dX4_beginLine_9 : decode cX4_beginLine 9 = .ok (.iconst 5, 1) := by decide +kernel
theorem dX4_beginLine_10 : decode cX4_beginLine 10 = .ok (.if_icmp .ne 7, 3) := by decide +kernel
theorem dX4_beginLine_13 : decode cX4_beginLine 13 = .ok (.iconst 1, 1) := by decide +kernel
theorem dX4_beginLine_14 : decode cX4_beginLine 14 = .ok (.goto 4, 3) := by decide +kernel
theorem dX4_beginLine_17 : decode cX4_beginLine 17 = .ok (.iconst 0, 1) := by decide +kernel
theorem dX4_beginLine_18 : decode cX4_beginLine 18 = .ok (.aload_n 0, 1) := by decide +kernel
theorem dX4_beginLine_19 : decode cX4_beginLine 19 = .ok (.getfield 33, 3) := by decide +kernel
theorem dX4_beginLine_22 : decode cX4_beginLine 22 = .ok (.ifCond .ne 7, 3) := by decide +kernel
theorem dX4_beginLine_25 : decode cX4_beginLine 25 = .ok (.iconst 1, 1) := by decide +kernel
theorem dX4_beginLine_26 : decode cX4_beginLine 26 = .ok (.goto 4, 3) := by decide +kernel
theorem dX4_beginLine_29 : decode cX4_beginLine 29 = .ok (.iconst 0, 1) := by decide +kernel
theorem dX4_beginLine_30 : decode cX4_beginLine 30 = .ok (.if_icmp .eq 9, 3) := by decide +kernel
theorem dX4_beginLine_33 : decode cX4_beginLine 33 = .ok (.aload_n 0, 1) := by decide +kernel
theorem dX4_beginLine_34 : decode cX4_beginLine 34 = .ok (.iconst 1, 1) := by decide +kernel
theorem dX4_beginLine_35 : decode cX4_beginLine 35 = .ok (.invokevirtual 62, 3) := by decide +kernel
theorem dX4_beginLine_38 : decode cX4_beginLine 38 = .ok (.ireturn, 1) := by decide +kernel
theorem dX4_beginLine_39 : decode cX4_beginLine 39 = .ok (.iload_n 1, 1) := by decide +kernel
theorem dX4_beginLine_40 : decode cX4_beginLine 40 = .ok (.tableswitch 139 5 9 #[36, 44, 68, 91, 115], 36) := by decide +kernel
theorem dX4_beginLine_76 : decode cX4_beginLine 76 = .ok (.aload_n 0, 1) := by decide +kernel
theorem dX4_beginLine_77 : decode cX4_beginLine 77 = .ok (.iload_n 1, 1) := by decide +kernel
theorem dX4_beginLine_78 : decode cX4_beginLine 78 = .ok (.iconst 1, 1) := by decide +kernel
theorem dX4_beginLine_79 : decode cX4_beginLine 79 = .ok (.iconst 1, 1) := by decide +kernel
theorem dX4_beginLine_80 : decode cX4_beginLine 80 = .ok (.invokevirtual 87, 3) := by decide +kernel
theorem dX4_beginLine_83 : decode cX4_beginLine 83 = .ok (.ireturn, 1) := by decide +kernel
theorem dX4_beginLine_84 : decode cX4_beginLine 84 = .ok (.aload_n 0, 1) := by decide +kernel
theorem dX4_beginLine_85 : decode cX4_beginLine 85 = .ok (.iload_n 1, 1) := by decide +kernel
theorem dX4_beginLine_86 : decode cX4_beginLine 86 = .ok (.iconst 2, 1) := by decide +kernel
theorem dX4_beginLine_87 : decode cX4_beginLine 87 = .ok (.aload_n 0, 1) := by decide +kernel
theorem dX4_beginLine_88 : decode cX4_beginLine 88 = .ok (.getfield 24, 3) := by decide +kernel
theorem dX4_beginLine_91 : decode cX4_beginLine 91 = .ok (.getfield 91, 3) := by decide +kernel
theorem dX4_beginLine_94 : decode cX4_beginLine 94 = .ok (.bipush 12, 2) := by decide +kernel
theorem dX4_beginLine_96 : decode cX4_beginLine 96 = .ok (.if_icmp .ge 7, 3) := by decide +kernel
theorem dX4_beginLine_99 : decode cX4_beginLine 99 = .ok (.iconst 1, 1) := by decide +kernel
theorem dX4_beginLine_100 : decode cX4_beginLine 100 = .ok (.goto 4, 3) := by decide +kernel
theorem dX4_beginLine_103 : decode cX4_beginLine 103 = .ok (.iconst 0, 1) := by decide +kernel
theorem dX4_beginLine_104 : decode cX4_beginLine 104 = .ok (.invokevirtual 87, 3) := by decide +kernel
theorem dX4_beginLine_107 : decode cX4_beginLine 107 = .ok (.ireturn, 1) := by decide +kernel
theorem dX4_beginLine_108 : decode cX4_beginLine 108 = .ok (.aload_n 0, 1) := by decide +kernel
theorem dX4_beginLine_109 : decode cX4_beginLine 109 = .ok (.iload_n 1, 1) := by decide +kernel
theorem dX4_beginLine_110 : decode cX4_beginLine 110 = .ok (.iconst 2, 1) := by decide +kernel
theorem dX4_beginLine_111 : decode cX4_beginLine 111 = .ok (.aload_n 0, 1) := by decide +kernel
theorem dX4_beginLine_112 : decode cX4_beginLine 112 = .ok (.getfield 24, 3) := by decide +kernel
theorem dX4_beginLine_115 : decode cX4_beginLine 115 = .ok (.getfield 94, 3) := by decide +kernel
theorem dX4_beginLine_118 : decode cX4_beginLine 118 = .ok (.iconst 4, 1) := by decide +kernel
theorem dX4_beginLine_119 : decode cX4_beginLine 119 = .ok (.if_icmp .ge 7, 3) := by decide +kernel
theorem dX4_beginLine_122 : decode cX4_beginLine 122 = .ok (.iconst 1, 1) := by decide +kernel
theorem dX4_beginLine_123 : decode cX4_beginLine 123 = .ok (.goto 4, 3) := by decide +kernel
theorem dX4_beginLine_126 : decode cX4_beginLine 126 = .ok (.iconst 0, 1) := by decide +kernel
theorem dX4_beginLine_127 : decode cX4_beginLine 127 = .ok (.invokevirtual 87, 3) := by decide +kernel
theorem dX4_beginLine_130 : decode cX4_beginLine 130 = .ok (.ireturn, 1) := by decide +kernel
theorem dX4_beginLine_131 : decode cX4_beginLine 131 = .ok (.aload_n 0, 1) := by decide +kernel
theorem dX4_beginLine_132 : decode cX4_beginLine 132 = .ok (.iload_n 1, 1) := by decide +kernel
theorem dX4_beginLine_133 : decode cX4_beginLine 133 = .ok (.iconst 3, 1) := by decide +kernel
theorem dX4_beginLine_134 : decode cX4_beginLine 134 = .ok (.aload_n 0, 1) := by decide +kernel
theorem dX4_beginLine_135 : decode cX4_beginLine 135 = .ok (.getfield 24, 3) := by decide +kernel
theorem dX4_beginLine_138 : decode cX4_beginLine 138 = .ok (.getfield 97, 3) := by decide +kernel
theorem dX4_beginLine_141 : decode cX4_beginLine 141 = .ok (.bipush 16, 2) := by decide +kernel
theorem dX4_beginLine_143 : decode cX4_beginLine 143 = .ok (.if_icmp .ge 7, 3) := by decide +kernel
theorem dX4_beginLine_146 : decode cX4_beginLine 146 = .ok (.iconst 1, 1) := by decide +kernel
theorem dX4_beginLine_147 : decode cX4_beginLine 147 = .ok (.goto 4, 3) := by decide +kernel
theorem dX4_beginLine_150 : decode cX4_beginLine 150 = .ok (.iconst 0, 1) := by decide +kernel
theorem dX4_beginLine_151 : decode cX4_beginLine 151 = .ok (.invokevirtual 87, 3) := by decide +kernel
theorem dX4_beginLine_154 : decode cX4_beginLine 154 = .ok (.ireturn, 1) := by decide +kernel
theorem dX4_beginLine_155 : decode cX4_beginLine 155 = .ok (.aload_n 0, 1) := by decide +kernel
theorem dX4_beginLine_156 : decode cX4_beginLine 156 = .ok (.iload_n 1, 1) := by decide +kernel
theorem dX4_beginLine_157 : decode cX4_beginLine 157 = .ok (.iconst 3, 1) := by decide +kernel
theorem dX4_beginLine_158 : decode cX4_beginLine 158 = .ok (.aload_n 0, 1) := by decide +kernel
theorem dX4_beginLine_159 : decode cX4_beginLine 159 = .ok (.getfield 24, 3) := by decide +kernel
theorem dX4_beginLine_162 : decode cX4_beginLine 162 = .ok (.getfield 100, 3) := by decide +kernel
theorem dX4_beginLine_165 : decode cX4_beginLine 165 = .ok (.bipush 16, 2) := by decide +kernel
theorem dX4_beginLine_167 : decode cX4_beginLine 167 = .ok (.if_icmp .ge 7, 3) := by decide +kernel
theorem dX4_beginLine_170 : decode cX4_beginLine 170 = .ok (.iconst 1, 1) := by decide +kernel
theorem dX4_beginLine_171 : decode cX4_beginLine 171 = .ok (.goto 4, 3) := by decide +kernel
theorem dX4_beginLine_174 : decode cX4_beginLine 174 = .ok (.iconst 0, 1) := by decide +kernel
theorem dX4_beginLine_175 : decode cX4_beginLine 175 = .ok (.invokevirtual 87, 3) := by decide +kernel
theorem dX4_beginLine_178 : decode cX4_beginLine 178 = .ok (.ireturn, 1) := by decide +kernel
theorem dX4_beginLine_179 : decode cX4_beginLine 179 = .ok (.aload_n 0, 1) := by decide +kernel
theorem dX4_beginLine_180 : decode cX4_beginLine 180 = .ok (.iconst 1, 1) := by decide +kernel
theorem dX4_beginLine_181 : decode cX4_beginLine 181 = .ok (.invokevirtual 62, 3) := by decide +kernel
theorem dX4_beginLine_184 : decode cX4_beginLine 184 = .ok (.ireturn, 1) := by decide +kernel
theorem dX4_beginLineOf_0 : decode cX4_beginLineOf 0 = .ok (.iload_n 3, 1) := by decide +kernel
theorem dX4_beginLineOf_1 : decode cX4_beginLineOf 1 = .ok (.ifCond .ne 9, 3) := by decide +kernel
theorem dX4_beginLineOf_4 : decode cX4_beginLineOf 4 = .ok (.aload_n 0, 1) := by decide +kernel
theorem dX4_beginLineOf_5 : decode cX4_beginLineOf 5 = .ok (.iconst 4, 1) := by decide +kernel
theorem dX4_beginLineOf_6 : decode cX4_beginLineOf 6 = .ok (.invokevirtual 62, 3) := by decide +kernel
theorem dX4_beginLineOf_9 : decode cX4_beginLineOf 9 = .ok (.ireturn, 1) := by decide +kernel
theorem dX4_beginLineOf_10 : decode cX4_beginLineOf 10 = .ok (.aload_n 0, 1) := by decide +kernel
theorem dX4_beginLineOf_11 : decode cX4_beginLineOf 11 = .ok (.iload_n 1, 1) := by decide +kernel
theorem dX4_beginLineOf_12 : decode cX4_beginLineOf 12 = .ok (.putfield 43, 3) := by decide +kernel
theorem dX4_beginLineOf_15 : decode cX4_beginLineOf 15 = .ok (.aload_n 0, 1) := by decide +kernel
theorem dX4_beginLineOf_16 : decode cX4_beginLineOf 16 = .ok (.iload_n 2, 1) := by decide +kernel
theorem dX4_beginLineOf_17 : decode cX4_beginLineOf 17 = .ok (.putfield 75, 3) := by decide +kernel
theorem dX4_beginLineOf_20 : decode cX4_beginLineOf 20 = .ok (.aload_n 0, 1) := by decide +kernel
theorem dX4_beginLineOf_21 : decode cX4_beginLineOf 21 = .ok (.iconst 0, 1) := by decide +kernel
theorem dX4_beginLineOf_22 : decode cX4_beginLineOf 22 = .ok (.putfield 72, 3) := by decide +kernel
theorem dX4_beginLineOf_25 : decode cX4_beginLineOf 25 = .ok (.aload_n 0, 1) := by decide +kernel
theorem dX4_beginLineOf_26 : decode cX4_beginLineOf 26 = .ok (.iconst (-1), 1) := by decide +kernel
theorem dX4_beginLineOf_27 : decode cX4_beginLineOf 27 = .ok (.putfield 103, 3) := by decide +kernel
theorem dX4_beginLineOf_30 : decode cX4_beginLineOf 30 = .ok (.aload_n 0, 1) := by decide +kernel
theorem dX4_beginLineOf_31 : decode cX4_beginLineOf 31 = .ok (.iconst 0, 1) := by decide +kernel
theorem dX4_beginLineOf_32 : decode cX4_beginLineOf 32 = .ok (.putfield 106, 3) := by decide +kernel
theorem dX4_beginLineOf_35 : decode cX4_beginLineOf 35 = .ok (.aload_n 0, 1) := by decide +kernel
theorem dX4_beginLineOf_36 : decode cX4_beginLineOf 36 = .ok (.iconst 0, 1) := by decide +kernel
theorem dX4_beginLineOf_37 : decode cX4_beginLineOf 37 = .ok (.putfield 109, 3) := by decide +kernel
theorem dX4_beginLineOf_40 : decode cX4_beginLineOf 40 = .ok (.iconst 1, 1) := by decide +kernel
theorem dX4_beginLineOf_41 : decode cX4_beginLineOf 41 = .ok (.ireturn, 1) := by decide +kernel
theorem dX4_takeField_0 : decode cX4_takeField 0 = .ok (.aload_n 0, 1) := by decide +kernel
theorem dX4_takeField_1 : decode cX4_takeField 1 = .ok (.getfield 43, 3) := by decide +kernel
theorem dX4_takeField_4 : decode cX4_takeField 4 = .ok (.tableswitch 76 5 8 #[32, 41, 49, 71], 32) := by decide +kernel
theorem dX4_takeField_36 : decode cX4_takeField 36 = .ok (.aload_n 0, 1) := by decide +kernel
theorem dX4_takeField_37 : decode cX4_takeField 37 = .ok (.iconst 0, 1) := by decide +kernel
theorem dX4_takeField_38 : decode cX4_takeField 38 = .ok (.sipush 999, 3) := by decide +kernel
theorem dX4_takeField_41 : decode cX4_takeField 41 = .ok (.invokevirtual 112, 3) := by decide +kernel
theorem dX4_takeField_44 : decode cX4_takeField 44 = .ok (.ireturn, 1) := by decide +kernel
theorem dX4_takeField_45 : decode cX4_takeField 45 = .ok (.aload_n 0, 1) := by decide +kernel
theorem dX4_takeField_46 : decode cX4_takeField 46 = .ok (.iconst 0, 1) := by decide +kernel
theorem dX4_takeField_47 : decode cX4_takeField 47 = .ok (.bipush 99, 2) := by decide +kernel
theorem dX4_takeField_49 : decode cX4_takeField 49 = .ok (.invokevirtual 112, 3) := by decide +kernel
theorem dX4_takeField_52 : decode cX4_takeField 52 = .ok (.ireturn, 1) := by decide +kernel
theorem dX4_takeField_53 : decode cX4_takeField 53 = .ok (.aload_n 0, 1) := by decide +kernel
theorem dX4_takeField_54 : decode cX4_takeField 54 = .ok (.iconst 0, 1) := by decide +kernel
theorem dX4_takeField_55 : decode cX4_takeField 55 = .ok (.aload_n 0, 1) := by decide +kernel
theorem dX4_takeField_56 : decode cX4_takeField 56 = .ok (.getfield 72, 3) := by decide +kernel
theorem dX4_takeField_59 : decode cX4_takeField 59 = .ok (.ifCond .ne 9, 3) := by decide +kernel
theorem dX4_takeField_62 : decode cX4_takeField 62 = .ok (.sipush 999, 3) := by decide +kernel
theorem dX4_takeField_65 : decode cX4_takeField 65 = .ok (.goto 6, 3) := by decide +kernel
theorem dX4_takeField_68 : decode cX4_takeField 68 = .ok (.sipush 9999, 3) := by decide +kernel
theorem dX4_takeField_71 : decode cX4_takeField 71 = .ok (.invokevirtual 112, 3) := by decide +kernel
theorem dX4_takeField_74 : decode cX4_takeField 74 = .ok (.ireturn, 1) := by decide +kernel
theorem dX4_takeField_75 : decode cX4_takeField 75 = .ok (.aload_n 0, 1) := by decide +kernel
theorem dX4_takeField_76 : decode cX4_takeField 76 = .ok (.invokevirtual 116, 3) := by decide +kernel
theorem dX4_takeField_79 : decode cX4_takeField 79 = .ok (.ireturn, 1) := by decide +kernel
theorem dX4_takeField_80 : decode cX4_takeField 80 = .ok (.aload_n 0, 1) := by decide +kernel
theorem dX4_takeField_81 : decode cX4_takeField 81 = .ok (.invokevirtual 119, 3) := by decide +kernel
theorem dX4_takeField_84 : decode cX4_takeField 84 = .ok (.ireturn, 1) := by decide +kernel
theorem dX4_takeFieldOfLoad_0 : decode cX4_takeFieldOfLoad 0 = .ok (.aload_n 0, 1) := by decide +kernel
theorem dX4_takeFieldOfLoad_1 : decode cX4_takeFieldOfLoad 1 = .ok (.getfield 72, 3) := by decide +kernel
theorem dX4_takeFieldOfLoad_4 : decode cX4_takeFieldOfLoad 4 = .ok (.ifCond .ne 11, 3) := by decide +kernel
theorem dX4_takeFieldOfLoad_7 : decode cX4_takeFieldOfLoad 7 = .ok (.aload_n 0, 1) := by decide +kernel
theorem dX4_takeFieldOfLoad_8 : decode cX4_takeFieldOfLoad 8 = .ok (.iconst 1, 1) := by decide +kernel
theorem dX4_takeFieldOfLoad_9 : decode cX4_takeFieldOfLoad 9 = .ok (.bipush 99, 2) := by decide +kernel
theorem dX4_takeFieldOfLoad_11 : decode cX4_takeFieldOfLoad 11 = .ok (.invokevirtual 112, 3) := by decide +kernel
theorem dX4_takeFieldOfLoad_14 : decode cX4_takeFieldOfLoad 14 = .ok (.ireturn, 1) := by decide +kernel
theorem dX4_takeFieldOfLoad_15 : decode cX4_takeFieldOfLoad 15 = .ok (.aload_n 0, 1) := by decide +kernel
theorem dX4_takeFieldOfLoad_16 : decode cX4_takeFieldOfLoad 16 = .ok (.aload_n 0, 1) := by decide +kernel
theorem dX4_takeFieldOfLoad_17 : decode cX4_takeFieldOfLoad 17 = .ok (.getfield 24, 3) := by decide +kernel
theorem dX4_takeFieldOfLoad_20 : decode cX4_takeFieldOfLoad 20 = .ok (.getfield 91, 3) := by decide +kernel
theorem dX4_takeFieldOfLoad_23 : decode cX4_takeFieldOfLoad 23 = .ok (.invokevirtual 122, 3) := by decide +kernel
theorem dX4_takeFieldOfLoad_26 : decode cX4_takeFieldOfLoad 26 = .ok (.ifCond .ne 5, 3) := by decide +kernel
theorem dX4_takeFieldOfLoad_29 : decode cX4_takeFieldOfLoad 29 = .ok (.iconst 0, 1) := by decide +kernel
theorem dX4_takeFieldOfLoad_30 : decode cX4_takeFieldOfLoad 30 = .ok (.ireturn, 1) := by decide +kernel
theorem dX4_takeFieldOfLoad_31 : decode cX4_takeFieldOfLoad 31 = .ok (.aload_n 0, 1) := by decide +kernel
theorem dX4_takeFieldOfLoad_32 : decode cX4_takeFieldOfLoad 32 = .ok (.getfield 72, 3) := by decide +kernel
theorem dX4_takeFieldOfLoad_35 : decode cX4_takeFieldOfLoad 35 = .ok (.iconst 3, 1) := by decide +kernel
theorem dX4_takeFieldOfLoad_36 : decode cX4_takeFieldOfLoad 36 = .ok (.if_icmp .ne 22, 3) := by decide +kernel
theorem dX4_takeFieldOfLoad_39 : decode cX4_takeFieldOfLoad 39 = .ok (.aload_n 0, 1) := by decide +kernel
theorem dX4_takeFieldOfLoad_40 : decode cX4_takeFieldOfLoad 40 = .ok (.getfield 9, 3) := by decide +kernel
theorem dX4_takeFieldOfLoad_43 : decode cX4_takeFieldOfLoad 43 = .ok (.iconst 1, 1) := by decide +kernel
theorem dX4_takeFieldOfLoad_44 : decode cX4_takeFieldOfLoad 44 = .ok (.iaload, 1) := by decide +kernel
theorem dX4_takeFieldOfLoad_45 : decode cX4_takeFieldOfLoad 45 = .ok (.aload_n 0, 1) := by decide +kernel
theorem dX4_takeFieldOfLoad_46 : decode cX4_takeFieldOfLoad 46 = .ok (.getfield 9, 3) := by decide +kernel
theorem dX4_takeFieldOfLoad_49 : decode cX4_takeFieldOfLoad 49 = .ok (.iconst 2, 1) := by decide +kernel
theorem dX4_takeFieldOfLoad_50 : decode cX4_takeFieldOfLoad 50 = .ok (.iaload, 1) := by decide +kernel
theorem dX4_takeFieldOfLoad_51 : decode cX4_takeFieldOfLoad 51 = .ok (.if_icmp .ne 7, 3) := by decide +kernel
theorem dX4_takeFieldOfLoad_54 : decode cX4_takeFieldOfLoad 54 = .ok (.iconst 1, 1) := by decide +kernel
theorem dX4_takeFieldOfLoad_55 : decode cX4_takeFieldOfLoad 55 = .ok (.goto 4, 3) := by decide +kernel
theorem dX4_takeFieldOfLoad_58 : decode cX4_takeFieldOfLoad 58 = .ok (.iconst 0, 1) := by decide +kernel
theorem dX4_takeFieldOfLoad_59 : decode cX4_takeFieldOfLoad 59 = .ok (.istore_n 1, 1) := by decide +kernel
theorem dX4_takeFieldOfLoad_60 : decode cX4_takeFieldOfLoad 60 = .ok (.iload_n 1, 1) := by decide +kernel
theorem dX4_takeFieldOfLoad_61 : decode cX4_takeFieldOfLoad 61 = .ok (.ifCond .eq 11, 3) := by decide +kernel
theorem dX4_takeFieldOfLoad_64 : decode cX4_takeFieldOfLoad 64 = .ok (.aload_n 0, 1) := by decide +kernel
theorem dX4_takeFieldOfLoad_65 : decode cX4_takeFieldOfLoad 65 = .ok (.iconst 3, 1) := by decide +kernel
theorem dX4_takeFieldOfLoad_66 : decode cX4_takeFieldOfLoad 66 = .ok (.invokevirtual 62, 3) := by decide +kernel
theorem dX4_takeFieldOfLoad_69 : decode cX4_takeFieldOfLoad 69 = .ok (.ifCond .eq 7, 3) := by decide +kernel
theorem dX4_takeFieldOfLoad_72 : decode cX4_takeFieldOfLoad 72 = .ok (.iconst 1, 1) := by decide +kernel
theorem dX4_takeFieldOfLoad_73 : decode cX4_takeFieldOfLoad 73 = .ok (.goto 4, 3) := by decide +kernel
theorem dX4_takeFieldOfLoad_76 : decode cX4_takeFieldOfLoad 76 = .ok (.iconst 0, 1) := by decide +kernel
theorem dX4_takeFieldOfLoad_77 : decode cX4_takeFieldOfLoad 77 = .ok (.ireturn, 1) := by decide +kernel
theorem dX4_takeFieldOfTrip_0 : decode cX4_takeFieldOfTrip 0 = .ok (.aload_n 0, 1) := by decide +kernel
theorem dX4_takeFieldOfTrip_1 : decode cX4_takeFieldOfTrip 1 = .ok (.getfield 72, 3) := by decide +kernel
theorem dX4_takeFieldOfTrip_4 : decode cX4_takeFieldOfTrip 4 = .ok (.ifCond .ne 15, 3) := by decide +kernel
theorem dX4_takeFieldOfTrip_7 : decode cX4_takeFieldOfTrip 7 = .ok (.aload_n 0, 1) := by decide +kernel
theorem dX4_takeFieldOfTrip_8 : decode cX4_takeFieldOfTrip 8 = .ok (.aload_n 0, 1) := by decide +kernel
theorem dX4_takeFieldOfTrip_9 : decode cX4_takeFieldOfTrip 9 = .ok (.getfield 24, 3) := by decide +kernel
theorem dX4_takeFieldOfTrip_12 : decode cX4_takeFieldOfTrip 12 = .ok (.getfield 94, 3) := by decide +kernel
theorem dX4_takeFieldOfTrip_15 : decode cX4_takeFieldOfTrip 15 = .ok (.invokevirtual 122, 3) := by decide +kernel
theorem dX4_takeFieldOfTrip_18 : decode cX4_takeFieldOfTrip 18 = .ok (.ireturn, 1) := by decide +kernel
theorem dX4_takeFieldOfTrip_19 : decode cX4_takeFieldOfTrip 19 = .ok (.aload_n 0, 1) := by decide +kernel
theorem dX4_takeFieldOfTrip_20 : decode cX4_takeFieldOfTrip 20 = .ok (.getfield 72, 3) := by decide +kernel
theorem dX4_takeFieldOfTrip_23 : decode cX4_takeFieldOfTrip 23 = .ok (.iconst 1, 1) := by decide +kernel
theorem dX4_takeFieldOfTrip_24 : decode cX4_takeFieldOfTrip 24 = .ok (.if_icmp .ne 32, 3) := by decide +kernel
theorem dX4_takeFieldOfTrip_27 : decode cX4_takeFieldOfTrip 27 = .ok (.aload_n 0, 1) := by decide +kernel
theorem dX4_takeFieldOfTrip_28 : decode cX4_takeFieldOfTrip 28 = .ok (.getfield 20, 3) := by decide +kernel
theorem dX4_takeFieldOfTrip_31 : decode cX4_takeFieldOfTrip 31 = .ok (.getfield 52, 3) := by decide +kernel
theorem dX4_takeFieldOfTrip_34 : decode cX4_takeFieldOfTrip 34 = .ok (.bipush 10, 2) := by decide +kernel
theorem dX4_takeFieldOfTrip_36 : decode cX4_takeFieldOfTrip 36 = .ok (.if_icmp .ne 11, 3) := by decide +kernel
theorem dX4_takeFieldOfTrip_39 : decode cX4_takeFieldOfTrip 39 = .ok (.aload_n 0, 1) := by decide +kernel
theorem dX4_takeFieldOfTrip_40 : decode cX4_takeFieldOfTrip 40 = .ok (.iconst (-1), 1) := by decide +kernel
theorem dX4_takeFieldOfTrip_41 : decode cX4_takeFieldOfTrip 41 = .ok (.invokevirtual 125, 3) := by decide +kernel
theorem dX4_takeFieldOfTrip_44 : decode cX4_takeFieldOfTrip 44 = .ok (.goto 11, 3) := by decide +kernel
theorem dX4_takeFieldOfTrip_47 : decode cX4_takeFieldOfTrip 47 = .ok (.aload_n 0, 1) := by decide +kernel
theorem dX4_takeFieldOfTrip_48 : decode cX4_takeFieldOfTrip 48 = .ok (.iconst 0, 1) := by decide +kernel
theorem dX4_takeFieldOfTrip_49 : decode cX4_takeFieldOfTrip 49 = .ok (.sipush 9999, 3) := by decide +kernel
theorem dX4_takeFieldOfTrip_52 : decode cX4_takeFieldOfTrip 52 = .ok (.invokevirtual 112, 3) := by decide +kernel
theorem dX4_takeFieldOfTrip_55 : decode cX4_takeFieldOfTrip 55 = .ok (.ireturn, 1) := by decide +kernel
theorem dX4_takeFieldOfTrip_56 : decode cX4_takeFieldOfTrip 56 = .ok (.aload_n 0, 1) := by decide +kernel
theorem dX4_takeFieldOfTrip_57 : decode cX4_takeFieldOfTrip 57 = .ok (.aload_n 0, 1) := by decide +kernel
theorem dX4_takeFieldOfTrip_58 : decode cX4_takeFieldOfTrip 58 = .ok (.getfield 24, 3) := by decide +kernel
theorem dX4_takeFieldOfTrip_61 : decode cX4_takeFieldOfTrip 61 = .ok (.getfield 91, 3) := by decide +kernel
theorem dX4_takeFieldOfTrip_64 : decode cX4_takeFieldOfTrip 64 = .ok (.invokevirtual 122, 3) := by decide +kernel
theorem dX4_takeFieldOfTrip_67 : decode cX4_takeFieldOfTrip 67 = .ok (.ifCond .ne 5, 3) := by decide +kernel
theorem dX4_takeFieldOfTrip_70 : decode cX4_takeFieldOfTrip 70 = .ok (.iconst 0, 1) := by decide +kernel
theorem dX4_takeFieldOfTrip_71 : decode cX4_takeFieldOfTrip 71 = .ok (.ireturn, 1) := by decide +kernel
theorem dX4_takeFieldOfTrip_72 : decode cX4_takeFieldOfTrip 72 = .ok (.aload_n 0, 1) := by decide +kernel
theorem dX4_takeFieldOfTrip_73 : decode cX4_takeFieldOfTrip 73 = .ok (.getfield 24, 3) := by decide +kernel
theorem dX4_takeFieldOfTrip_76 : decode cX4_takeFieldOfTrip 76 = .ok (.aload_n 0, 1) := by decide +kernel
theorem dX4_takeFieldOfTrip_77 : decode cX4_takeFieldOfTrip 77 = .ok (.getfield 9, 3) := by decide +kernel
theorem dX4_takeFieldOfTrip_80 : decode cX4_takeFieldOfTrip 80 = .ok (.iconst 0, 1) := by decide +kernel
theorem dX4_takeFieldOfTrip_81 : decode cX4_takeFieldOfTrip 81 = .ok (.iaload, 1) := by decide +kernel
theorem dX4_takeFieldOfTrip_82 : decode cX4_takeFieldOfTrip 82 = .ok (.aload_n 0, 1) := by decide +kernel
theorem dX4_takeFieldOfTrip_83 : decode cX4_takeFieldOfTrip 83 = .ok (.getfield 9, 3) := by decide +kernel
theorem dX4_takeFieldOfTrip_86 : decode cX4_takeFieldOfTrip 86 = .ok (.iconst 1, 1) := by decide +kernel
theorem dX4_takeFieldOfTrip_87 : decode cX4_takeFieldOfTrip 87 = .ok (.iaload, 1) := by decide +kernel
theorem dX4_takeFieldOfTrip_88 : decode cX4_takeFieldOfTrip 88 = .ok (.aload_n 0, 1) := by decide +kernel
theorem dX4_takeFieldOfTrip_89 : decode cX4_takeFieldOfTrip 89 = .ok (.getfield 9, 3) := by decide +kernel
theorem dX4_takeFieldOfTrip_92 : decode cX4_takeFieldOfTrip 92 = .ok (.iconst 2, 1) := by decide +kernel
theorem dX4_takeFieldOfTrip_93 : decode cX4_takeFieldOfTrip 93 = .ok (.iaload, 1) := by decide +kernel
theorem dX4_takeFieldOfTrip_94 : decode cX4_takeFieldOfTrip 94 = .ok (.invokevirtual 128, 3) := by decide +kernel
theorem dX4_takeFieldOfTrip_97 : decode cX4_takeFieldOfTrip 97 = .ok (.iconst 1, 1) := by decide +kernel
theorem dX4_takeFieldOfTrip_98 : decode cX4_takeFieldOfTrip 98 = .ok (.ireturn, 1) := by decide +kernel
theorem dX4_takeNumber_0 : decode cX4_takeNumber 0 = .ok (.aload_n 0, 1) := by decide +kernel
theorem dX4_takeNumber_1 : decode cX4_takeNumber 1 = .ok (.getfield 20, 3) := by decide +kernel
theorem dX4_takeNumber_4 : decode cX4_takeNumber 4 = .ok (.getfield 52, 3) := by decide +kernel
theorem dX4_takeNumber_7 : decode cX4_takeNumber 7 = .ok (.iconst 2, 1) := by decide +kernel
theorem dX4_takeNumber_8 : decode cX4_takeNumber 8 = .ok (.if_icmp .eq 9, 3) := by decide +kernel
theorem dX4_takeNumber_11 : decode cX4_takeNumber 11 = .ok (.aload_n 0, 1) := by decide +kernel
theorem dX4_takeNumber_12 : decode cX4_takeNumber 12 = .ok (.iconst 1, 1) := by decide +kernel
theorem dX4_takeNumber_13 : decode cX4_takeNumber 13 = .ok (.invokevirtual 62, 3) := by decide +kernel
theorem dX4_takeNumber_16 : decode cX4_takeNumber 16 = .ok (.ireturn, 1) := by decide +kernel
theorem dX4_takeNumber_17 : decode cX4_takeNumber 17 = .ok (.aload_n 0, 1) := by decide +kernel
theorem dX4_takeNumber_18 : decode cX4_takeNumber 18 = .ok (.getfield 20, 3) := by decide +kernel
theorem dX4_takeNumber_21 : decode cX4_takeNumber 21 = .ok (.getfield 132, 3) := by decide +kernel
theorem dX4_takeNumber_24 : decode cX4_takeNumber 24 = .ok (.iload_n 1, 1) := by decide +kernel
theorem dX4_takeNumber_25 : decode cX4_takeNumber 25 = .ok (.if_icmp .lt 14, 3) := by decide +kernel
theorem dX4_takeNumber_28 : decode cX4_takeNumber 28 = .ok (.aload_n 0, 1) := by decide +kernel
theorem dX4_takeNumber_29 : decode cX4_takeNumber 29 = .ok (.getfield 20, 3) := by decide +kernel
theorem dX4_takeNumber_32 : decode cX4_takeNumber 32 = .ok (.getfield 132, 3) := by decide +kernel
theorem dX4_takeNumber_35 : decode cX4_takeNumber 35 = .ok (.iload_n 2, 1) := by decide +kernel
theorem dX4_takeNumber_36 : decode cX4_takeNumber 36 = .ok (.if_icmp .le 9, 3) := by decide +kernel
theorem dX4_takeNumber_39 : decode cX4_takeNumber 39 = .ok (.aload_n 0, 1) := by decide +kernel
theorem dX4_takeNumber_40 : decode cX4_takeNumber 40 = .ok (.iconst 2, 1) := by decide +kernel
theorem dX4_takeNumber_41 : decode cX4_takeNumber 41 = .ok (.invokevirtual 62, 3) := by decide +kernel
theorem dX4_takeNumber_44 : decode cX4_takeNumber 44 = .ok (.ireturn, 1) := by decide +kernel
theorem dX4_takeNumber_45 : decode cX4_takeNumber 45 = .ok (.aload_n 0, 1) := by decide +kernel
theorem dX4_takeNumber_46 : decode cX4_takeNumber 46 = .ok (.aload_n 0, 1) := by decide +kernel
theorem dX4_takeNumber_47 : decode cX4_takeNumber 47 = .ok (.getfield 20, 3) := by decide +kernel
theorem dX4_takeNumber_50 : decode cX4_takeNumber 50 = .ok (.getfield 132, 3) := by decide +kernel
theorem dX4_takeNumber_53 : decode cX4_takeNumber 53 = .ok (.invokevirtual 125, 3) := by decide +kernel
theorem dX4_takeNumber_56 : decode cX4_takeNumber 56 = .ok (.ireturn, 1) := by decide +kernel
theorem dX4_takeNumberTold_0 : decode cX4_takeNumberTold 0 = .ok (.aload_n 0, 1) := by decide +kernel
theorem dX4_takeNumberTold_1 : decode cX4_takeNumberTold 1 = .ok (.iload_n 1, 1) := by decide +kernel
theorem dX4_takeNumberTold_2 : decode cX4_takeNumberTold 2 = .ok (.invokevirtual 135, 3) := by decide +kernel
theorem dX4_takeNumberTold_5 : decode cX4_takeNumberTold 5 = .ok (.ifCond .eq 21, 3) := by decide +kernel
theorem dX4_takeNumberTold_8 : decode cX4_takeNumberTold 8 = .ok (.aload_n 0, 1) := by decide +kernel
theorem dX4_takeNumberTold_9 : decode cX4_takeNumberTold 9 = .ok (.aload_n 0, 1) := by decide +kernel
theorem dX4_takeNumberTold_10 : decode cX4_takeNumberTold 10 = .ok (.getfield 20, 3) := by decide +kernel
theorem dX4_takeNumberTold_13 : decode cX4_takeNumberTold 13 = .ok (.getfield 132, 3) := by decide +kernel
theorem dX4_takeNumberTold_16 : decode cX4_takeNumberTold 16 = .ok (.invokevirtual 125, 3) := by decide +kernel
theorem dX4_takeNumberTold_19 : decode cX4_takeNumberTold 19 = .ok (.ifCond .eq 7, 3) := by decide +kernel
theorem dX4_takeNumberTold_22 : decode cX4_takeNumberTold 22 = .ok (.iconst 1, 1) := by decide +kernel
theorem dX4_takeNumberTold_23 : decode cX4_takeNumberTold 23 = .ok (.goto 4, 3) := by decide +kernel
theorem dX4_takeNumberTold_26 : decode cX4_takeNumberTold 26 = .ok (.iconst 0, 1) := by decide +kernel
theorem dX4_takeNumberTold_27 : decode cX4_takeNumberTold 27 = .ok (.ireturn, 1) := by decide +kernel
theorem dX4_isNumberTold_0 : decode cX4_isNumberTold 0 = .ok (.aload_n 0, 1) := by decide +kernel
theorem dX4_isNumberTold_1 : decode cX4_isNumberTold 1 = .ok (.getfield 20, 3) := by decide +kernel
theorem dX4_isNumberTold_4 : decode cX4_isNumberTold 4 = .ok (.getfield 52, 3) := by decide +kernel
theorem dX4_isNumberTold_7 : decode cX4_isNumberTold 7 = .ok (.iconst 2, 1) := by decide +kernel
theorem dX4_isNumberTold_8 : decode cX4_isNumberTold 8 = .ok (.if_icmp .eq 9, 3) := by decide +kernel
theorem dX4_isNumberTold_11 : decode cX4_isNumberTold 11 = .ok (.aload_n 0, 1) := by decide +kernel
theorem dX4_isNumberTold_12 : decode cX4_isNumberTold 12 = .ok (.iconst 1, 1) := by decide +kernel
theorem dX4_isNumberTold_13 : decode cX4_isNumberTold 13 = .ok (.invokevirtual 62, 3) := by decide +kernel
theorem dX4_isNumberTold_16 : decode cX4_isNumberTold 16 = .ok (.ireturn, 1) := by decide +kernel
theorem dX4_isNumberTold_17 : decode cX4_isNumberTold 17 = .ok (.aload_n 0, 1) := by decide +kernel
theorem dX4_isNumberTold_18 : decode cX4_isNumberTold 18 = .ok (.getfield 20, 3) := by decide +kernel
theorem dX4_isNumberTold_21 : decode cX4_isNumberTold 21 = .ok (.getfield 132, 3) := by decide +kernel
theorem dX4_isNumberTold_24 : decode cX4_isNumberTold 24 = .ok (.iload_n 1, 1) := by decide +kernel
theorem dX4_isNumberTold_25 : decode cX4_isNumberTold 25 = .ok (.if_icmp .lt 11, 3) := by decide +kernel
theorem dX4_isNumberTold_28 : decode cX4_isNumberTold 28 = .ok (.aload_n 0, 1) := by decide +kernel
theorem dX4_isNumberTold_29 : decode cX4_isNumberTold 29 = .ok (.iconst 3, 1) := by decide +kernel
theorem dX4_isNumberTold_30 : decode cX4_isNumberTold 30 = .ok (.invokevirtual 62, 3) := by decide +kernel
theorem dX4_isNumberTold_33 : decode cX4_isNumberTold 33 = .ok (.ifCond .eq 7, 3) := by decide +kernel
theorem dX4_isNumberTold_36 : decode cX4_isNumberTold 36 = .ok (.iconst 1, 1) := by decide +kernel
theorem dX4_isNumberTold_37 : decode cX4_isNumberTold 37 = .ok (.goto 4, 3) := by decide +kernel
theorem dX4_isNumberTold_40 : decode cX4_isNumberTold 40 = .ok (.iconst 0, 1) := by decide +kernel
theorem dX4_isNumberTold_41 : decode cX4_isNumberTold 41 = .ok (.ireturn, 1) := by decide +kernel
theorem dX4_keepField_0 : decode cX4_keepField 0 = .ok (.aload_n 0, 1) := by decide +kernel
theorem dX4_keepField_1 : decode cX4_keepField 1 = .ok (.getfield 72, 3) := by decide +kernel
theorem dX4_keepField_4 : decode cX4_keepField 4 = .ok (.iconst 3, 1) := by decide +kernel
theorem dX4_keepField_5 : decode cX4_keepField 5 = .ok (.if_icmp .ge 23, 3) := by decide +kernel
theorem dX4_keepField_8 : decode cX4_keepField 8 = .ok (.aload_n 0, 1) := by decide +kernel
theorem dX4_keepField_9 : decode cX4_keepField 9 = .ok (.getfield 9, 3) := by decide +kernel
theorem dX4_keepField_12 : decode cX4_keepField 12 = .ok (.aload_n 0, 1) := by decide +kernel
theorem dX4_keepField_13 : decode cX4_keepField 13 = .ok (.getfield 72, 3) := by decide +kernel
theorem dX4_keepField_16 : decode cX4_keepField 16 = .ok (.iload_n 1, 1) := by decide +kernel
theorem dX4_keepField_17 : decode cX4_keepField 17 = .ok (.iastore, 1) := by decide +kernel
theorem dX4_keepField_18 : decode cX4_keepField 18 = .ok (.aload_n 0, 1) := by decide +kernel
theorem dX4_keepField_19 : decode cX4_keepField 19 = .ok (.dup, 1) := by decide +kernel
theorem dX4_keepField_20 : decode cX4_keepField 20 = .ok (.getfield 72, 3) := by decide +kernel
theorem dX4_keepField_23 : decode cX4_keepField 23 = .ok (.iconst 1, 1) := by decide +kernel
theorem dX4_keepField_24 : decode cX4_keepField 24 = .ok (.iadd, 1) := by decide +kernel
theorem dX4_keepField_25 : decode cX4_keepField 25 = .ok (.putfield 72, 3) := by decide +kernel
theorem dX4_keepField_28 : decode cX4_keepField 28 = .ok (.iconst 1, 1) := by decide +kernel
theorem dX4_keepField_29 : decode cX4_keepField 29 = .ok (.ireturn, 1) := by decide +kernel
theorem dX4_takeStep_0 : decode cX4_takeStep 0 = .ok (.aload_n 0, 1) := by decide +kernel
theorem dX4_takeStep_1 : decode cX4_takeStep 1 = .ok (.getfield 103, 3) := by decide +kernel
theorem dX4_takeStep_4 : decode cX4_takeStep 4 = .ok (.iconst (-1), 1) := by decide +kernel
theorem dX4_takeStep_5 : decode cX4_takeStep 5 = .ok (.if_icmp .eq 8, 3) := by decide +kernel
theorem dX4_takeStep_8 : decode cX4_takeStep 8 = .ok (.aload_n 0, 1) := by decide +kernel
theorem dX4_takeStep_9 : decode cX4_takeStep 9 = .ok (.invokevirtual 138, 3) := by decide +kernel
theorem dX4_takeStep_12 : decode cX4_takeStep 12 = .ok (.ireturn, 1) := by decide +kernel
theorem dX4_takeStep_13 : decode cX4_takeStep 13 = .ok (.aload_n 0, 1) := by decide +kernel
theorem dX4_takeStep_14 : decode cX4_takeStep 14 = .ok (.getfield 20, 3) := by decide +kernel
theorem dX4_takeStep_17 : decode cX4_takeStep 17 = .ok (.getfield 52, 3) := by decide +kernel
theorem dX4_takeStep_20 : decode cX4_takeStep 20 = .ok (.lookupswitch 77 #[(3, 57), (11, 44), (12, 44), (13, 44)], 44) := by decide +kernel
theorem dX4_takeStep_64 : decode cX4_takeStep 64 = .ok (.aload_n 0, 1) := by decide +kernel
theorem dX4_takeStep_65 : decode cX4_takeStep 65 = .ok (.aload_n 0, 1) := by decide +kernel
theorem dX4_takeStep_66 : decode cX4_takeStep 66 = .ok (.getfield 20, 3) := by decide +kernel
theorem dX4_takeStep_69 : decode cX4_takeStep 69 = .ok (.getfield 52, 3) := by decide +kernel
theorem dX4_takeStep_72 : decode cX4_takeStep 72 = .ok (.putfield 103, 3) := by decide +kernel
theorem dX4_takeStep_75 : decode cX4_takeStep 75 = .ok (.iconst 1, 1) := by decide +kernel
theorem dX4_takeStep_76 : decode cX4_takeStep 76 = .ok (.ireturn, 1) := by decide +kernel
theorem dX4_takeStep_77 : decode cX4_takeStep 77 = .ok (.aload_n 0, 1) := by decide +kernel
theorem dX4_takeStep_78 : decode cX4_takeStep 78 = .ok (.getfield 106, 3) := by decide +kernel
theorem dX4_takeStep_81 : decode cX4_takeStep 81 = .ok (.ifCond .ne 10, 3) := by decide +kernel
theorem dX4_takeStep_84 : decode cX4_takeStep 84 = .ok (.aload_n 0, 1) := by decide +kernel
theorem dX4_takeStep_85 : decode cX4_takeStep 85 = .ok (.invokevirtual 84, 3) := by decide +kernel
theorem dX4_takeStep_88 : decode cX4_takeStep 88 = .ok (.goto 8, 3) := by decide +kernel
theorem dX4_takeStep_91 : decode cX4_takeStep 91 = .ok (.aload_n 0, 1) := by decide +kernel
theorem dX4_takeStep_92 : decode cX4_takeStep 92 = .ok (.iconst 3, 1) := by decide +kernel
theorem dX4_takeStep_93 : decode cX4_takeStep 93 = .ok (.invokevirtual 62, 3) := by decide +kernel
theorem dX4_takeStep_96 : decode cX4_takeStep 96 = .ok (.ireturn, 1) := by decide +kernel
theorem dX4_takeStep_97 : decode cX4_takeStep 97 = .ok (.aload_n 0, 1) := by decide +kernel
theorem dX4_takeStep_98 : decode cX4_takeStep 98 = .ok (.iconst 1, 1) := by decide +kernel
theorem dX4_takeStep_99 : decode cX4_takeStep 99 = .ok (.invokevirtual 62, 3) := by decide +kernel
theorem dX4_takeStep_102 : decode cX4_takeStep 102 = .ok (.ireturn, 1) := by decide +kernel
theorem dX4_takeNumberOfStep_0 : decode cX4_takeNumberOfStep 0 = .ok (.aload_n 0, 1) := by decide +kernel
theorem dX4_takeNumberOfStep_1 : decode cX4_takeNumberOfStep 1 = .ok (.aload_n 0, 1) := by decide +kernel
theorem dX4_takeNumberOfStep_2 : decode cX4_takeNumberOfStep 2 = .ok (.getfield 103, 3) := by decide +kernel
theorem dX4_takeNumberOfStep_5 : decode cX4_takeNumberOfStep 5 = .ok (.bipush 11, 2) := by decide +kernel
theorem dX4_takeNumberOfStep_7 : decode cX4_takeNumberOfStep 7 = .ok (.if_icmp .ne 13, 3) := by decide +kernel
theorem dX4_takeNumberOfStep_10 : decode cX4_takeNumberOfStep 10 = .ok (.aload_n 0, 1) := by decide +kernel
theorem dX4_takeNumberOfStep_11 : decode cX4_takeNumberOfStep 11 = .ok (.getfield 24, 3) := by decide +kernel
theorem dX4_takeNumberOfStep_14 : decode cX4_takeNumberOfStep 14 = .ok (.getfield 91, 3) := by decide +kernel
theorem dX4_takeNumberOfStep_17 : decode cX4_takeNumberOfStep 17 = .ok (.goto 10, 3) := by decide +kernel
theorem dX4_takeNumberOfStep_20 : decode cX4_takeNumberOfStep 20 = .ok (.aload_n 0, 1) := by decide +kernel
theorem dX4_takeNumberOfStep_21 : decode cX4_takeNumberOfStep 21 = .ok (.getfield 24, 3) := by decide +kernel
theorem dX4_takeNumberOfStep_24 : decode cX4_takeNumberOfStep 24 = .ok (.getfield 97, 3) := by decide +kernel
theorem dX4_takeNumberOfStep_27 : decode cX4_takeNumberOfStep 27 = .ok (.invokevirtual 135, 3) := by decide +kernel
theorem dX4_takeNumberOfStep_30 : decode cX4_takeNumberOfStep 30 = .ok (.ifCond .ne 5, 3) := by decide +kernel
theorem dX4_takeNumberOfStep_33 : decode cX4_takeNumberOfStep 33 = .ok (.iconst 0, 1) := by decide +kernel
theorem dX4_takeNumberOfStep_34 : decode cX4_takeNumberOfStep 34 = .ok (.ireturn, 1) := by decide +kernel
theorem dX4_takeNumberOfStep_35 : decode cX4_takeNumberOfStep 35 = .ok (.aload_n 0, 1) := by decide +kernel
theorem dX4_takeNumberOfStep_36 : decode cX4_takeNumberOfStep 36 = .ok (.getfield 20, 3) := by decide +kernel
theorem dX4_takeNumberOfStep_39 : decode cX4_takeNumberOfStep 39 = .ok (.getfield 132, 3) := by decide +kernel
theorem dX4_takeNumberOfStep_42 : decode cX4_takeNumberOfStep 42 = .ok (.istore_n 1, 1) := by decide +kernel
theorem dX4_takeNumberOfStep_43 : decode cX4_takeNumberOfStep 43 = .ok (.aload_n 0, 1) := by decide +kernel
theorem dX4_takeNumberOfStep_44 : decode cX4_takeNumberOfStep 44 = .ok (.getfield 103, 3) := by decide +kernel
theorem dX4_takeNumberOfStep_47 : decode cX4_takeNumberOfStep 47 = .ok (.bipush 12, 2) := by decide +kernel
theorem dX4_takeNumberOfStep_49 : decode cX4_takeNumberOfStep 49 = .ok (.if_icmp .ne 47, 3) := by decide +kernel
theorem dX4_takeNumberOfStep_52 : decode cX4_takeNumberOfStep 52 = .ok (.aload_n 0, 1) := by decide +kernel
theorem dX4_takeNumberOfStep_53 : decode cX4_takeNumberOfStep 53 = .ok (.getfield 109, 3) := by decide +kernel
theorem dX4_takeNumberOfStep_56 : decode cX4_takeNumberOfStep 56 = .ok (.iload_n 1, 1) := by decide +kernel
theorem dX4_takeNumberOfStep_57 : decode cX4_takeNumberOfStep 57 = .ok (.ishr, 1) := by decide +kernel
theorem dX4_takeNumberOfStep_58 : decode cX4_takeNumberOfStep 58 = .ok (.iconst 1, 1) := by decide +kernel
theorem dX4_takeNumberOfStep_59 : decode cX4_takeNumberOfStep 59 = .ok (.iand, 1) := by decide +kernel
theorem dX4_takeNumberOfStep_60 : decode cX4_takeNumberOfStep 60 = .ok (.ifCond .eq 9, 3) := by decide +kernel
theorem dX4_takeNumberOfStep_63 : decode cX4_takeNumberOfStep 63 = .ok (.aload_n 0, 1) := by decide +kernel
theorem dX4_takeNumberOfStep_64 : decode cX4_takeNumberOfStep 64 = .ok (.iconst 3, 1) := by decide +kernel
theorem dX4_takeNumberOfStep_65 : decode cX4_takeNumberOfStep 65 = .ok (.invokevirtual 62, 3) := by decide +kernel
theorem dX4_takeNumberOfStep_68 : decode cX4_takeNumberOfStep 68 = .ok (.ireturn, 1) := by decide +kernel
theorem dX4_takeNumberOfStep_69 : decode cX4_takeNumberOfStep 69 = .ok (.aload_n 0, 1) := by decide +kernel
theorem dX4_takeNumberOfStep_70 : decode cX4_takeNumberOfStep 70 = .ok (.dup, 1) := by decide +kernel
theorem dX4_takeNumberOfStep_71 : decode cX4_takeNumberOfStep 71 = .ok (.getfield 106, 3) := by decide +kernel
theorem dX4_takeNumberOfStep_74 : decode cX4_takeNumberOfStep 74 = .ok (.iconst 1, 1) := by decide +kernel
theorem dX4_takeNumberOfStep_75 : decode cX4_takeNumberOfStep 75 = .ok (.iload_n 1, 1) := by decide +kernel
theorem dX4_takeNumberOfStep_76 : decode cX4_takeNumberOfStep 76 = .ok (.ishl, 1) := by decide +kernel
theorem dX4_takeNumberOfStep_77 : decode cX4_takeNumberOfStep 77 = .ok (.ior, 1) := by decide +kernel
theorem dX4_takeNumberOfStep_78 : decode cX4_takeNumberOfStep 78 = .ok (.putfield 106, 3) := by decide +kernel
theorem dX4_takeNumberOfStep_81 : decode cX4_takeNumberOfStep 81 = .ok (.aload_n 0, 1) := by decide +kernel
theorem dX4_takeNumberOfStep_82 : decode cX4_takeNumberOfStep 82 = .ok (.dup, 1) := by decide +kernel
theorem dX4_takeNumberOfStep_83 : decode cX4_takeNumberOfStep 83 = .ok (.getfield 109, 3) := by decide +kernel
theorem dX4_takeNumberOfStep_86 : decode cX4_takeNumberOfStep 86 = .ok (.iconst 1, 1) := by decide +kernel
theorem dX4_takeNumberOfStep_87 : decode cX4_takeNumberOfStep 87 = .ok (.iload_n 1, 1) := by decide +kernel
theorem dX4_takeNumberOfStep_88 : decode cX4_takeNumberOfStep 88 = .ok (.ishl, 1) := by decide +kernel
theorem dX4_takeNumberOfStep_89 : decode cX4_takeNumberOfStep 89 = .ok (.ior, 1) := by decide +kernel
theorem dX4_takeNumberOfStep_90 : decode cX4_takeNumberOfStep 90 = .ok (.putfield 109, 3) := by decide +kernel
theorem dX4_takeNumberOfStep_93 : decode cX4_takeNumberOfStep 93 = .ok (.goto 43, 3) := by decide +kernel
theorem dX4_takeNumberOfStep_96 : decode cX4_takeNumberOfStep 96 = .ok (.aload_n 0, 1) := by decide +kernel
theorem dX4_takeNumberOfStep_97 : decode cX4_takeNumberOfStep 97 = .ok (.getfield 103, 3) := by decide +kernel
theorem dX4_takeNumberOfStep_100 : decode cX4_takeNumberOfStep 100 = .ok (.bipush 13, 2) := by decide +kernel
theorem dX4_takeNumberOfStep_102 : decode cX4_takeNumberOfStep 102 = .ok (.if_icmp .ne 34, 3) := by decide +kernel
theorem dX4_takeNumberOfStep_105 : decode cX4_takeNumberOfStep 105 = .ok (.aload_n 0, 1) := by decide +kernel
theorem dX4_takeNumberOfStep_106 : decode cX4_takeNumberOfStep 106 = .ok (.getfield 106, 3) := by decide +kernel
theorem dX4_takeNumberOfStep_109 : decode cX4_takeNumberOfStep 109 = .ok (.iload_n 1, 1) := by decide +kernel
theorem dX4_takeNumberOfStep_110 : decode cX4_takeNumberOfStep 110 = .ok (.ishr, 1) := by decide +kernel
theorem dX4_takeNumberOfStep_111 : decode cX4_takeNumberOfStep 111 = .ok (.iconst 1, 1) := by decide +kernel
theorem dX4_takeNumberOfStep_112 : decode cX4_takeNumberOfStep 112 = .ok (.iand, 1) := by decide +kernel
theorem dX4_takeNumberOfStep_113 : decode cX4_takeNumberOfStep 113 = .ok (.ifCond .ne 9, 3) := by decide +kernel
theorem dX4_takeNumberOfStep_116 : decode cX4_takeNumberOfStep 116 = .ok (.aload_n 0, 1) := by decide +kernel
theorem dX4_takeNumberOfStep_117 : decode cX4_takeNumberOfStep 117 = .ok (.iconst 3, 1) := by decide +kernel
theorem dX4_takeNumberOfStep_118 : decode cX4_takeNumberOfStep 118 = .ok (.invokevirtual 62, 3) := by decide +kernel
theorem dX4_takeNumberOfStep_121 : decode cX4_takeNumberOfStep 121 = .ok (.ireturn, 1) := by decide +kernel
theorem dX4_takeNumberOfStep_122 : decode cX4_takeNumberOfStep 122 = .ok (.aload_n 0, 1) := by decide +kernel
theorem dX4_takeNumberOfStep_123 : decode cX4_takeNumberOfStep 123 = .ok (.dup, 1) := by decide +kernel
theorem dX4_takeNumberOfStep_124 : decode cX4_takeNumberOfStep 124 = .ok (.getfield 106, 3) := by decide +kernel
theorem dX4_takeNumberOfStep_127 : decode cX4_takeNumberOfStep 127 = .ok (.iconst 1, 1) := by decide +kernel
theorem dX4_takeNumberOfStep_128 : decode cX4_takeNumberOfStep 128 = .ok (.iload_n 1, 1) := by decide +kernel
theorem dX4_takeNumberOfStep_129 : decode cX4_takeNumberOfStep 129 = .ok (.ishl, 1) := by decide +kernel
theorem dX4_takeNumberOfStep_130 : decode cX4_takeNumberOfStep 130 = .ok (.iconst (-1), 1) := by decide +kernel
theorem dX4_takeNumberOfStep_131 : decode cX4_takeNumberOfStep 131 = .ok (.ixor, 1) := by decide +kernel
theorem dX4_takeNumberOfStep_132 : decode cX4_takeNumberOfStep 132 = .ok (.iand, 1) := by decide +kernel
theorem dX4_takeNumberOfStep_133 : decode cX4_takeNumberOfStep 133 = .ok (.putfield 106, 3) := by decide +kernel
theorem dX4_takeNumberOfStep_136 : decode cX4_takeNumberOfStep 136 = .ok (.aload_n 0, 1) := by decide +kernel
theorem dX4_takeNumberOfStep_137 : decode cX4_takeNumberOfStep 137 = .ok (.getfield 24, 3) := by decide +kernel
theorem dX4_takeNumberOfStep_140 : decode cX4_takeNumberOfStep 140 = .ok (.aload_n 0, 1) := by decide +kernel
theorem dX4_takeNumberOfStep_141 : decode cX4_takeNumberOfStep 141 = .ok (.getfield 103, 3) := by decide +kernel
theorem dX4_takeNumberOfStep_144 : decode cX4_takeNumberOfStep 144 = .ok (.iload_n 1, 1) := by decide +kernel
theorem dX4_takeNumberOfStep_145 : decode cX4_takeNumberOfStep 145 = .ok (.invokevirtual 141, 3) := by decide +kernel
theorem dX4_takeNumberOfStep_148 : decode cX4_takeNumberOfStep 148 = .ok (.aload_n 0, 1) := by decide +kernel
theorem dX4_takeNumberOfStep_149 : decode cX4_takeNumberOfStep 149 = .ok (.iconst (-1), 1) := by decide +kernel
theorem dX4_takeNumberOfStep_150 : decode cX4_takeNumberOfStep 150 = .ok (.putfield 103, 3) := by decide +kernel
theorem dX4_takeNumberOfStep_153 : decode cX4_takeNumberOfStep 153 = .ok (.iconst 1, 1) := by decide +kernel
theorem dX4_takeNumberOfStep_154 : decode cX4_takeNumberOfStep 154 = .ok (.ireturn, 1) := by decide +kernel
theorem dX4_endLine_0 : decode cX4_endLine 0 = .ok (.aload_n 0, 1) := by decide +kernel
theorem dX4_endLine_1 : decode cX4_endLine 1 = .ok (.getfield 43, 3) := by decide +kernel
theorem dX4_endLine_4 : decode cX4_endLine 4 = .ok (.tableswitch 120 5 8 #[32, 48, 70, 92], 32) := by decide +kernel
theorem dX4_endLine_36 : decode cX4_endLine 36 = .ok (.aload_n 0, 1) := by decide +kernel
theorem dX4_endLine_37 : decode cX4_endLine 37 = .ok (.getfield 24, 3) := by decide +kernel
theorem dX4_endLine_40 : decode cX4_endLine 40 = .ok (.aload_n 0, 1) := by decide +kernel
theorem dX4_endLine_41 : decode cX4_endLine 41 = .ok (.getfield 9, 3) := by decide +kernel
theorem dX4_endLine_44 : decode cX4_endLine 44 = .ok (.iconst 0, 1) := by decide +kernel
theorem dX4_endLine_45 : decode cX4_endLine 45 = .ok (.iaload, 1) := by decide +kernel
theorem dX4_endLine_46 : decode cX4_endLine 46 = .ok (.putfield 145, 3) := by decide +kernel
theorem dX4_endLine_49 : decode cX4_endLine 49 = .ok (.goto 75, 3) := by decide +kernel
theorem dX4_endLine_52 : decode cX4_endLine 52 = .ok (.aload_n 0, 1) := by decide +kernel
theorem dX4_endLine_53 : decode cX4_endLine 53 = .ok (.getfield 24, 3) := by decide +kernel
theorem dX4_endLine_56 : decode cX4_endLine 56 = .ok (.aload_n 0, 1) := by decide +kernel
theorem dX4_endLine_57 : decode cX4_endLine 57 = .ok (.getfield 9, 3) := by decide +kernel
theorem dX4_endLine_60 : decode cX4_endLine 60 = .ok (.iconst 0, 1) := by decide +kernel
theorem dX4_endLine_61 : decode cX4_endLine 61 = .ok (.iaload, 1) := by decide +kernel
theorem dX4_endLine_62 : decode cX4_endLine 62 = .ok (.aload_n 0, 1) := by decide +kernel
theorem dX4_endLine_63 : decode cX4_endLine 63 = .ok (.getfield 9, 3) := by decide +kernel
theorem dX4_endLine_66 : decode cX4_endLine 66 = .ok (.iconst 1, 1) := by decide +kernel
theorem dX4_endLine_67 : decode cX4_endLine 67 = .ok (.iaload, 1) := by decide +kernel
theorem dX4_endLine_68 : decode cX4_endLine 68 = .ok (.invokevirtual 148, 3) := by decide +kernel
theorem dX4_endLine_71 : decode cX4_endLine 71 = .ok (.goto 53, 3) := by decide +kernel
theorem dX4_endLine_74 : decode cX4_endLine 74 = .ok (.aload_n 0, 1) := by decide +kernel
theorem dX4_endLine_75 : decode cX4_endLine 75 = .ok (.getfield 24, 3) := by decide +kernel
theorem dX4_endLine_78 : decode cX4_endLine 78 = .ok (.aload_n 0, 1) := by decide +kernel
theorem dX4_endLine_79 : decode cX4_endLine 79 = .ok (.getfield 9, 3) := by decide +kernel
theorem dX4_endLine_82 : decode cX4_endLine 82 = .ok (.iconst 0, 1) := by decide +kernel
theorem dX4_endLine_83 : decode cX4_endLine 83 = .ok (.iaload, 1) := by decide +kernel
theorem dX4_endLine_84 : decode cX4_endLine 84 = .ok (.aload_n 0, 1) := by decide +kernel
theorem dX4_endLine_85 : decode cX4_endLine 85 = .ok (.getfield 9, 3) := by decide +kernel
theorem dX4_endLine_88 : decode cX4_endLine 88 = .ok (.iconst 1, 1) := by decide +kernel
theorem dX4_endLine_89 : decode cX4_endLine 89 = .ok (.iaload, 1) := by decide +kernel
theorem dX4_endLine_90 : decode cX4_endLine 90 = .ok (.invokevirtual 151, 3) := by decide +kernel
theorem dX4_endLine_93 : decode cX4_endLine 93 = .ok (.goto 31, 3) := by decide +kernel
theorem dX4_endLine_96 : decode cX4_endLine 96 = .ok (.aload_n 0, 1) := by decide +kernel
theorem dX4_endLine_97 : decode cX4_endLine 97 = .ok (.getfield 24, 3) := by decide +kernel
theorem dX4_endLine_100 : decode cX4_endLine 100 = .ok (.aload_n 0, 1) := by decide +kernel
theorem dX4_endLine_101 : decode cX4_endLine 101 = .ok (.getfield 9, 3) := by decide +kernel
theorem dX4_endLine_104 : decode cX4_endLine 104 = .ok (.iconst 0, 1) := by decide +kernel
theorem dX4_endLine_105 : decode cX4_endLine 105 = .ok (.iaload, 1) := by decide +kernel
theorem dX4_endLine_106 : decode cX4_endLine 106 = .ok (.aload_n 0, 1) := by decide +kernel
theorem dX4_endLine_107 : decode cX4_endLine 107 = .ok (.getfield 9, 3) := by decide +kernel
theorem dX4_endLine_110 : decode cX4_endLine 110 = .ok (.iconst 1, 1) := by decide +kernel
theorem dX4_endLine_111 : decode cX4_endLine 111 = .ok (.iaload, 1) := by decide +kernel
theorem dX4_endLine_112 : decode cX4_endLine 112 = .ok (.aload_n 0, 1) := by decide +kernel
theorem dX4_endLine_113 : decode cX4_endLine 113 = .ok (.getfield 9, 3) := by decide +kernel
theorem dX4_endLine_116 : decode cX4_endLine 116 = .ok (.iconst 2, 1) := by decide +kernel
theorem dX4_endLine_117 : decode cX4_endLine 117 = .ok (.iaload, 1) := by decide +kernel
theorem dX4_endLine_118 : decode cX4_endLine 118 = .ok (.invokevirtual 154, 3) := by decide +kernel
theorem dX4_endLine_121 : decode cX4_endLine 121 = .ok (.goto 3, 3) := by decide +kernel
theorem dX4_endLine_124 : decode cX4_endLine 124 = .ok (.aload_n 0, 1) := by decide +kernel
theorem dX4_endLine_125 : decode cX4_endLine 125 = .ok (.iconst (-1), 1) := by decide +kernel
theorem dX4_endLine_126 : decode cX4_endLine 126 = .ok (.putfield 43, 3) := by decide +kernel
theorem dX4_endLine_129 : decode cX4_endLine 129 = .ok (.aload_n 0, 1) := by decide +kernel
theorem dX4_endLine_130 : decode cX4_endLine 130 = .ok (.dup, 1) := by decide +kernel
theorem dX4_endLine_131 : decode cX4_endLine 131 = .ok (.getfield 33, 3) := by decide +kernel
theorem dX4_endLine_134 : decode cX4_endLine 134 = .ok (.iconst 1, 1) := by decide +kernel
theorem dX4_endLine_135 : decode cX4_endLine 135 = .ok (.iadd, 1) := by decide +kernel
theorem dX4_endLine_136 : decode cX4_endLine 136 = .ok (.putfield 33, 3) := by decide +kernel
theorem dX4_endLine_139 : decode cX4_endLine 139 = .ok (.iconst 1, 1) := by decide +kernel
theorem dX4_endLine_140 : decode cX4_endLine 140 = .ok (.ireturn, 1) := by decide +kernel
theorem dX5_init_0 : decode cX5_init 0 = .ok (.aload_n 0, 1) := by decide +kernel
theorem dX5_init_1 : decode cX5_init 1 = .ok (.invokespecial 3, 3) := by decide +kernel
theorem dX5_init_4 : decode cX5_init 4 = .ok (.aload_n 0, 1) := by decide +kernel
theorem dX5_init_5 : decode cX5_init 5 = .ok (.bipush 16, 2) := by decide +kernel
theorem dX5_init_7 : decode cX5_init 7 = .ok (.newarray .int, 2) := by decide +kernel
theorem dX5_init_9 : decode cX5_init 9 = .ok (.putfield 9, 3) := by decide +kernel
theorem dX5_init_12 : decode cX5_init 12 = .ok (.aload_n 0, 1) := by decide +kernel
theorem dX5_init_13 : decode cX5_init 13 = .ok (.bipush 16, 2) := by decide +kernel
theorem dX5_init_15 : decode cX5_init 15 = .ok (.newarray .int, 2) := by decide +kernel
theorem dX5_init_17 : decode cX5_init 17 = .ok (.putfield 15, 3) := by decide +kernel
theorem dX5_init_20 : decode cX5_init 20 = .ok (.aload_n 0, 1) := by decide +kernel
theorem dX5_init_21 : decode cX5_init 21 = .ok (.bipush 16, 2) := by decide +kernel
theorem dX5_init_23 : decode cX5_init 23 = .ok (.newarray .int, 2) := by decide +kernel
theorem dX5_init_25 : decode cX5_init 25 = .ok (.putfield 18, 3) := by decide +kernel
theorem dX5_init_28 : decode cX5_init 28 = .ok (.aload_n 0, 1) := by decide +kernel
theorem dX5_init_29 : decode cX5_init 29 = .ok (.bipush 16, 2) := by decide +kernel
theorem dX5_init_31 : decode cX5_init 31 = .ok (.newarray .int, 2) := by decide +kernel
theorem dX5_init_33 : decode cX5_init 33 = .ok (.putfield 21, 3) := by decide +kernel
theorem dX5_init_36 : decode cX5_init 36 = .ok (.aload_n 0, 1) := by decide +kernel
theorem dX5_init_37 : decode cX5_init 37 = .ok (.bipush 16, 2) := by decide +kernel
theorem dX5_init_39 : decode cX5_init 39 = .ok (.bipush 16, 2) := by decide +kernel
theorem dX5_init_41 : decode cX5_init 41 = .ok (.multianewarray 24 2, 4) := by decide +kernel
theorem dX5_init_45 : decode cX5_init 45 = .ok (.putfield 26, 3) := by decide +kernel
theorem dX5_init_48 : decode cX5_init 48 = .ok (.aload_n 0, 1) := by decide +kernel
theorem dX5_init_49 : decode cX5_init 49 = .ok (.bipush 16, 2) := by decide +kernel
theorem dX5_init_51 : decode cX5_init 51 = .ok (.bipush 16, 2) := by decide +kernel
theorem dX5_init_53 : decode cX5_init 53 = .ok (.multianewarray 24 2, 4) := by decide +kernel
theorem dX5_init_57 : decode cX5_init 57 = .ok (.putfield 29, 3) := by decide +kernel
theorem dX5_init_60 : decode cX5_init 60 = .ok (.aload_n 0, 1) := by decide +kernel
theorem dX5_init_61 : decode cX5_init 61 = .ok (.bipush 12, 2) := by decide +kernel
theorem dX5_init_63 : decode cX5_init 63 = .ok (.bipush 12, 2) := by decide +kernel
theorem dX5_init_65 : decode cX5_init 65 = .ok (.multianewarray 24 2, 4) := by decide +kernel
theorem dX5_init_69 : decode cX5_init 69 = .ok (.putfield 32, 3) := by decide +kernel
theorem dX5_init_72 : decode cX5_init 72 = .ok (.aload_n 0, 1) := by decide +kernel
theorem dX5_init_73 : decode cX5_init 73 = .ok (.bipush 16, 2) := by decide +kernel
theorem dX5_init_75 : decode cX5_init 75 = .ok (.bipush 12, 2) := by decide +kernel
theorem dX5_init_77 : decode cX5_init 77 = .ok (.multianewarray 24 2, 4) := by decide +kernel
theorem dX5_init_81 : decode cX5_init 81 = .ok (.putfield 35, 3) := by decide +kernel
theorem dX5_init_84 : decode cX5_init 84 = .ok (.aload_n 0, 1) := by decide +kernel
theorem dX5_init_85 : decode cX5_init 85 = .ok (.bipush 16, 2) := by decide +kernel
theorem dX5_init_87 : decode cX5_init 87 = .ok (.newarray .int, 2) := by decide +kernel
theorem dX5_init_89 : decode cX5_init 89 = .ok (.putfield 38, 3) := by decide +kernel
theorem dX5_init_92 : decode cX5_init 92 = .ok (.aload_n 0, 1) := by decide +kernel
theorem dX5_init_93 : decode cX5_init 93 = .ok (.bipush 16, 2) := by decide +kernel
theorem dX5_init_95 : decode cX5_init 95 = .ok (.newarray .int, 2) := by decide +kernel
theorem dX5_init_97 : decode cX5_init 97 = .ok (.putfield 41, 3) := by decide +kernel
theorem dX5_init_100 : decode cX5_init 100 = .ok (.aload_n 0, 1) := by decide +kernel
theorem dX5_init_101 : decode cX5_init 101 = .ok (.bipush 16, 2) := by decide +kernel
theorem dX5_init_103 : decode cX5_init 103 = .ok (.newarray .int, 2) := by decide +kernel
theorem dX5_init_105 : decode cX5_init 105 = .ok (.putfield 44, 3) := by decide +kernel
theorem dX5_init_108 : decode cX5_init 108 = .ok (.aload_n 0, 1) := by decide +kernel
theorem dX5_init_109 : decode cX5_init 109 = .ok (.sipush 288, 3) := by decide +kernel
theorem dX5_init_112 : decode cX5_init 112 = .ok (.newarray .int, 2) := by decide +kernel
theorem dX5_init_114 : decode cX5_init 114 = .ok (.putfield 47, 3) := by decide +kernel
theorem dX5_init_117 : decode cX5_init 117 = .ok (.aload_n 0, 1) := by decide +kernel
theorem dX5_init_118 : decode cX5_init 118 = .ok (.sipush 288, 3) := by decide +kernel
theorem dX5_init_121 : decode cX5_init 121 = .ok (.newarray .int, 2) := by decide +kernel
theorem dX5_init_123 : decode cX5_init 123 = .ok (.putfield 50, 3) := by decide +kernel
theorem dX5_init_126 : decode cX5_init 126 = .ok (.aload_n 0, 1) := by decide +kernel
theorem dX5_init_127 : decode cX5_init 127 = .ok (.sipush 288, 3) := by decide +kernel
theorem dX5_init_130 : decode cX5_init 130 = .ok (.newarray .int, 2) := by decide +kernel
theorem dX5_init_132 : decode cX5_init 132 = .ok (.putfield 53, 3) := by decide +kernel
theorem dX5_init_135 : decode cX5_init 135 = .ok (.return_, 1) := by decide +kernel
theorem dX5_survey_0 : decode cX5_survey 0 = .ok (.aload_n 0, 1) := by decide +kernel
theorem dX5_survey_1 : decode cX5_survey 1 = .ok (.aload_n 1, 1) := by decide +kernel
theorem dX5_survey_2 : decode cX5_survey 2 = .ok (.putfield 56, 3) := by decide +kernel
theorem dX5_survey_5 : decode cX5_survey 5 = .ok (.aload_n 0, 1) := by decide +kernel
theorem dX5_survey_6 : decode cX5_survey 6 = .ok (.invokevirtual 60, 3) := by decide +kernel
theorem dX5_survey_9 : decode cX5_survey 9 = .ok (.iconst 0, 1) := by decide +kernel
theorem dX5_survey_10 : decode cX5_survey 10 = .ok (.istore_n 2, 1) := by decide +kernel
theorem dX5_survey_11 : decode cX5_survey 11 = .ok (.iload_n 2, 1) := by decide +kernel
theorem dX5_survey_12 : decode cX5_survey 12 = .ok (.aload_n 0, 1) := by decide +kernel
theorem dX5_survey_13 : decode cX5_survey 13 = .ok (.getfield 56, 3) := by decide +kernel
theorem dX5_survey_16 : decode cX5_survey 16 = .ok (.getfield 63, 3) := by decide +kernel
theorem dX5_survey_19 : decode cX5_survey 19 = .ok (.if_icmp .ge 14, 3) := by decide +kernel
theorem dX5_survey_22 : decode cX5_survey 22 = .ok (.aload_n 0, 1) := by decide +kernel
theorem dX5_survey_23 : decode cX5_survey 23 = .ok (.iload_n 2, 1) := by decide +kernel
theorem dX5_survey_24 : decode cX5_survey 24 = .ok (.invokevirtual 69, 3) := by decide +kernel
theorem dX5_survey_27 : decode cX5_survey 27 = .ok (.iinc 2 1, 3) := by decide +kernel
theorem dX5_survey_30 : decode cX5_survey 30 = .ok (.goto (-19), 3) := by decide +kernel
theorem dX5_survey_33 : decode cX5_survey 33 = .ok (.iconst 0, 1) := by decide +kernel
theorem dX5_survey_34 : decode cX5_survey 34 = .ok (.istore_n 2, 1) := by decide +kernel
theorem dX5_survey_35 : decode cX5_survey 35 = .ok (.iload_n 2, 1) := by decide +kernel
theorem dX5_survey_36 : decode cX5_survey 36 = .ok (.aload_n 0, 1) := by decide +kernel
theorem dX5_survey_37 : decode cX5_survey 37 = .ok (.getfield 56, 3) := by decide +kernel
theorem dX5_survey_40 : decode cX5_survey 40 = .ok (.getfield 73, 3) := by decide +kernel
theorem dX5_survey_43 : decode cX5_survey 43 = .ok (.if_icmp .ge 14, 3) := by decide +kernel
theorem dX5_survey_46 : decode cX5_survey 46 = .ok (.aload_n 0, 1) := by decide +kernel
theorem dX5_survey_47 : decode cX5_survey 47 = .ok (.iload_n 2, 1) := by decide +kernel
theorem dX5_survey_48 : decode cX5_survey 48 = .ok (.invokevirtual 76, 3) := by decide +kernel
theorem dX5_survey_51 : decode cX5_survey 51 = .ok (.iinc 2 1, 3) := by decide +kernel
theorem dX5_survey_54 : decode cX5_survey 54 = .ok (.goto (-19), 3) := by decide +kernel
theorem dX5_survey_57 : decode cX5_survey 57 = .ok (.iconst 0, 1) := by decide +kernel
theorem dX5_survey_58 : decode cX5_survey 58 = .ok (.istore_n 2, 1) := by decide +kernel
theorem dX5_survey_59 : decode cX5_survey 59 = .ok (.iload_n 2, 1) := by decide +kernel
theorem dX5_survey_60 : decode cX5_survey 60 = .ok (.aload_n 0, 1) := by decide +kernel
theorem dX5_survey_61 : decode cX5_survey 61 = .ok (.getfield 56, 3) := by decide +kernel
theorem dX5_survey_64 : decode cX5_survey 64 = .ok (.getfield 79, 3) := by decide +kernel
theorem dX5_survey_67 : decode cX5_survey 67 = .ok (.if_icmp .ge 14, 3) := by decide +kernel
theorem dX5_survey_70 : decode cX5_survey 70 = .ok (.aload_n 0, 1) := by decide +kernel
theorem dX5_survey_71 : decode cX5_survey 71 = .ok (.iload_n 2, 1) := by decide +kernel
theorem dX5_survey_72 : decode cX5_survey 72 = .ok (.invokevirtual 82, 3) := by decide +kernel
theorem dX5_survey_75 : decode cX5_survey 75 = .ok (.iinc 2 1, 3) := by decide +kernel
theorem dX5_survey_78 : decode cX5_survey 78 = .ok (.goto (-19), 3) := by decide +kernel
theorem dX5_survey_81 : decode cX5_survey 81 = .ok (.return_, 1) := by decide +kernel
theorem dX5_clear_0 : decode cX5_clear 0 = .ok (.aload_n 0, 1) := by decide +kernel
theorem dX5_clear_1 : decode cX5_clear 1 = .ok (.iconst 0, 1) := by decide +kernel
theorem dX5_clear_2 : decode cX5_clear 2 = .ok (.putfield 85, 3) := by decide +kernel
theorem dX5_clear_5 : decode cX5_clear 5 = .ok (.iconst 0, 1) := by decide +kernel
theorem dX5_clear_6 : decode cX5_clear 6 = .ok (.istore_n 1, 1) := by decide +kernel
theorem dX5_clear_7 : decode cX5_clear 7 = .ok (.iload_n 1, 1) := by decide +kernel
theorem dX5_clear_8 : decode cX5_clear 8 = .ok (.bipush 16, 2) := by decide +kernel
theorem dX5_clear_10 : decode cX5_clear 10 = .ok (.if_icmp .ge 37, 3) := by decide +kernel
theorem dX5_clear_13 : decode cX5_clear 13 = .ok (.aload_n 0, 1) := by decide +kernel
theorem dX5_clear_14 : decode cX5_clear 14 = .ok (.getfield 9, 3) := by decide +kernel
theorem dX5_clear_17 : decode cX5_clear 17 = .ok (.iload_n 1, 1) := by decide +kernel
theorem dX5_clear_18 : decode cX5_clear 18 = .ok (.iconst 0, 1) := by decide +kernel
theorem dX5_clear_19 : decode cX5_clear 19 = .ok (.iastore, 1) := by decide +kernel
theorem dX5_clear_20 : decode cX5_clear 20 = .ok (.aload_n 0, 1) := by decide +kernel
theorem dX5_clear_21 : decode cX5_clear 21 = .ok (.getfield 15, 3) := by decide +kernel
theorem dX5_clear_24 : decode cX5_clear 24 = .ok (.iload_n 1, 1) := by decide +kernel
theorem dX5_clear_25 : decode cX5_clear 25 = .ok (.iconst 0, 1) := by decide +kernel
theorem dX5_clear_26 : decode cX5_clear 26 = .ok (.iastore, 1) := by decide +kernel
theorem dX5_clear_27 : decode cX5_clear 27 = .ok (.aload_n 0, 1) := by decide +kernel
theorem dX5_clear_28 : decode cX5_clear 28 = .ok (.getfield 18, 3) := by decide +kernel
theorem dX5_clear_31 : decode cX5_clear 31 = .ok (.iload_n 1, 1) := by decide +kernel
theorem dX5_clear_32 : decode cX5_clear 32 = .ok (.iconst 0, 1) := by decide +kernel
theorem dX5_clear_33 : decode cX5_clear 33 = .ok (.iastore, 1) := by decide +kernel
theorem dX5_clear_34 : decode cX5_clear 34 = .ok (.aload_n 0, 1) := by decide +kernel
theorem dX5_clear_35 : decode cX5_clear 35 = .ok (.getfield 21, 3) := by decide +kernel
theorem dX5_clear_38 : decode cX5_clear 38 = .ok (.iload_n 1, 1) := by decide +kernel
theorem dX5_clear_39 : decode cX5_clear 39 = .ok (.iconst 0, 1) := by decide +kernel
theorem dX5_clear_40 : decode cX5_clear 40 = .ok (.iastore, 1) := by decide +kernel
theorem dX5_clear_41 : decode cX5_clear 41 = .ok (.iinc 1 1, 3) := by decide +kernel
theorem dX5_clear_44 : decode cX5_clear 44 = .ok (.goto (-37), 3) := by decide +kernel
theorem dX5_clear_47 : decode cX5_clear 47 = .ok (.iconst 0, 1) := by decide +kernel
theorem dX5_clear_48 : decode cX5_clear 48 = .ok (.istore_n 1, 1) := by decide +kernel
theorem dX5_clear_49 : decode cX5_clear 49 = .ok (.iload_n 1, 1) := by decide +kernel
theorem dX5_clear_50 : decode cX5_clear 50 = .ok (.bipush 16, 2) := by decide +kernel
theorem dX5_clear_52 : decode cX5_clear 52 = .ok (.if_icmp .ge 53, 3) := by decide +kernel
theorem dX5_clear_55 : decode cX5_clear 55 = .ok (.aload_n 0, 1) := by decide +kernel
theorem dX5_clear_56 : decode cX5_clear 56 = .ok (.getfield 38, 3) := by decide +kernel
theorem dX5_clear_59 : decode cX5_clear 59 = .ok (.iload_n 1, 1) := by decide +kernel
theorem dX5_clear_60 : decode cX5_clear 60 = .ok (.iconst 0, 1) := by decide +kernel
theorem dX5_clear_61 : decode cX5_clear 61 = .ok (.iastore, 1) := by decide +kernel
theorem dX5_clear_62 : decode cX5_clear 62 = .ok (.aload_n 0, 1) := by decide +kernel
theorem dX5_clear_63 : decode cX5_clear 63 = .ok (.getfield 41, 3) := by decide +kernel
theorem dX5_clear_66 : decode cX5_clear 66 = .ok (.iload_n 1, 1) := by decide +kernel
theorem dX5_clear_67 : decode cX5_clear 67 = .ok (.iconst 0, 1) := by decide +kernel
theorem dX5_clear_68 : decode cX5_clear 68 = .ok (.iastore, 1) := by decide +kernel
theorem dX5_clear_69 : decode cX5_clear 69 = .ok (.aload_n 0, 1) := by decide +kernel
theorem dX5_clear_70 : decode cX5_clear 70 = .ok (.getfield 44, 3) := by decide +kernel
theorem dX5_clear_73 : decode cX5_clear 73 = .ok (.iload_n 1, 1) := by decide +kernel
theorem dX5_clear_74 : decode cX5_clear 74 = .ok (.iconst 0, 1) := by decide +kernel
theorem dX5_clear_75 : decode cX5_clear 75 = .ok (.iastore, 1) := by decide +kernel
theorem dX5_clear_76 : decode cX5_clear 76 = .ok (.iconst 0, 1) := by decide +kernel
theorem dX5_clear_77 : decode cX5_clear 77 = .ok (.istore_n 2, 1) := by decide +kernel
theorem dX5_clear_78 : decode cX5_clear 78 = .ok (.iload_n 2, 1) := by decide +kernel
theorem dX5_clear_79 : decode cX5_clear 79 = .ok (.bipush 12, 2) := by decide +kernel
theorem dX5_clear_81 : decode cX5_clear 81 = .ok (.if_icmp .ge 18, 3) := by decide +kernel
theorem dX5_clear_84 : decode cX5_clear 84 = .ok (.aload_n 0, 1) := by decide +kernel
theorem dX5_clear_85 : decode cX5_clear 85 = .ok (.getfield 35, 3) := by decide +kernel
theorem dX5_clear_88 : decode cX5_clear 88 = .ok (.iload_n 1, 1) := by decide +kernel
theorem dX5_clear_89 : decode cX5_clear 89 = .ok (.aaload, 1) := by decide +kernel
theorem dX5_clear_90 : decode cX5_clear 90 = .ok (.iload_n 2, 1) := by decide +kernel
theorem dX5_clear_91 : decode cX5_clear 91 = .ok (.iconst 0, 1) := by decide +kernel
theorem dX5_clear_92 : decode cX5_clear 92 = .ok (.iastore, 1) := by decide +kernel
theorem dX5_clear_93 : decode cX5_clear 93 = .ok (.iinc 2 1, 3) := by decide +kernel
theorem dX5_clear_96 : decode cX5_clear 96 = .ok (.goto (-18), 3) := by decide +kernel
theorem dX5_clear_99 : decode cX5_clear 99 = .ok (.iinc 1 1, 3) := by decide +kernel
theorem dX5_clear_102 : decode cX5_clear 102 = .ok (.goto (-53), 3) := by decide +kernel
theorem dX5_clear_105 : decode cX5_clear 105 = .ok (.iconst 0, 1) := by decide +kernel
theorem dX5_clear_106 : decode cX5_clear 106 = .ok (.istore_n 1, 1) := by decide +kernel
theorem dX5_clear_107 : decode cX5_clear 107 = .ok (.iload_n 1, 1) := by decide +kernel
theorem dX5_clear_108 : decode cX5_clear 108 = .ok (.bipush 12, 2) := by decide +kernel
theorem dX5_clear_110 : decode cX5_clear 110 = .ok (.if_icmp .ge 32, 3) := by decide +kernel
theorem dX5_clear_113 : decode cX5_clear 113 = .ok (.iconst 0, 1) := by decide +kernel
theorem dX5_clear_114 : decode cX5_clear 114 = .ok (.istore_n 2, 1) := by decide +kernel
theorem dX5_clear_115 : decode cX5_clear 115 = .ok (.iload_n 2, 1) := by decide +kernel
theorem dX5_clear_116 : decode cX5_clear 116 = .ok (.bipush 12, 2) := by decide +kernel
theorem dX5_clear_118 : decode cX5_clear 118 = .ok (.if_icmp .ge 18, 3) := by decide +kernel
theorem dX5_clear_121 : decode cX5_clear 121 = .ok (.aload_n 0, 1) := by decide +kernel
theorem dX5_clear_122 : decode cX5_clear 122 = .ok (.getfield 32, 3) := by decide +kernel
theorem dX5_clear_125 : decode cX5_clear 125 = .ok (.iload_n 1, 1) := by decide +kernel
theorem dX5_clear_126 : decode cX5_clear 126 = .ok (.aaload, 1) := by decide +kernel
theorem dX5_clear_127 : decode cX5_clear 127 = .ok (.iload_n 2, 1) := by decide +kernel
theorem dX5_clear_128 : decode cX5_clear 128 = .ok (.iconst 0, 1) := by decide +kernel
theorem dX5_clear_129 : decode cX5_clear 129 = .ok (.iastore, 1) := by decide +kernel
theorem dX5_clear_130 : decode cX5_clear 130 = .ok (.iinc 2 1, 3) := by decide +kernel
theorem dX5_clear_133 : decode cX5_clear 133 = .ok (.goto (-18), 3) := by decide +kernel
theorem dX5_clear_136 : decode cX5_clear 136 = .ok (.iinc 1 1, 3) := by decide +kernel
theorem dX5_clear_139 : decode cX5_clear 139 = .ok (.goto (-32), 3) := by decide +kernel
theorem dX5_clear_142 : decode cX5_clear 142 = .ok (.return_, 1) := by decide +kernel
theorem dX5_drive_0 : decode cX5_drive 0 = .ok (.aload_n 0, 1) := by decide +kernel
theorem dX5_drive_1 : decode cX5_drive 1 = .ok (.getfield 56, 3) := by decide +kernel
theorem dX5_drive_4 : decode cX5_drive 4 = .ok (.getfield 88, 3) := by decide +kernel
theorem dX5_drive_7 : decode cX5_drive 7 = .ok (.iload_n 1, 1) := by decide +kernel
theorem dX5_drive_8 : decode cX5_drive 8 = .ok (.iaload, 1) := by decide +kernel
theorem dX5_drive_9 : decode cX5_drive 9 = .ok (.istore_n 2, 1) := by decide +kernel
theorem dX5_drive_10 : decode cX5_drive 10 = .ok (.iconst 0, 1) := by decide +kernel
theorem dX5_drive_11 : decode cX5_drive 11 = .ok (.istore_n 3, 1) := by decide +kernel
theorem dX5_drive_12 : decode cX5_drive 12 = .ok (.aload_n 0, 1) := by decide +kernel
theorem dX5_drive_13 : decode cX5_drive 13 = .ok (.getfield 56, 3) := by decide +kernel
theorem dX5_drive_16 : decode cX5_drive 16 = .ok (.iload_n 1, 1) := by decide +kernel
theorem dX5_drive_17 : decode cX5_drive 17 = .ok (.invokevirtual 91, 3) := by decide +kernel
theorem dX5_drive_20 : decode cX5_drive 20 = .ok (.istore 4, 2) := by decide +kernel
theorem dX5_drive_22 : decode cX5_drive 22 = .ok (.iload 4, 2) := by decide +kernel
theorem dX5_drive_24 : decode cX5_drive 24 = .ok (.aload_n 0, 1) := by decide +kernel
theorem dX5_drive_25 : decode cX5_drive 25 = .ok (.getfield 56, 3) := by decide +kernel
theorem dX5_drive_28 : decode cX5_drive 28 = .ok (.getfield 95, 3) := by decide +kernel
theorem dX5_drive_31 : decode cX5_drive 31 = .ok (.iload_n 1, 1) := by decide +kernel
theorem dX5_drive_32 : decode cX5_drive 32 = .ok (.iaload, 1) := by decide +kernel
theorem dX5_drive_33 : decode cX5_drive 33 = .ok (.if_icmp .ge 114, 3) := by decide +kernel
theorem dX5_drive_36 : decode cX5_drive 36 = .ok (.aload_n 0, 1) := by decide +kernel
theorem dX5_drive_37 : decode cX5_drive 37 = .ok (.getfield 56, 3) := by decide +kernel
theorem dX5_drive_40 : decode cX5_drive 40 = .ok (.getfield 98, 3) := by decide +kernel
theorem dX5_drive_43 : decode cX5_drive 43 = .ok (.iload 4, 2) := by decide +kernel
theorem dX5_drive_45 : decode cX5_drive 45 = .ok (.iaload, 1) := by decide +kernel
theorem dX5_drive_46 : decode cX5_drive 46 = .ok (.istore 5, 2) := by decide +kernel
theorem dX5_drive_48 : decode cX5_drive 48 = .ok (.aload_n 0, 1) := by decide +kernel
theorem dX5_drive_49 : decode cX5_drive 49 = .ok (.getfield 56, 3) := by decide +kernel
theorem dX5_drive_52 : decode cX5_drive 52 = .ok (.getfield 101, 3) := by decide +kernel
theorem dX5_drive_55 : decode cX5_drive 55 = .ok (.iload 4, 2) := by decide +kernel
theorem dX5_drive_57 : decode cX5_drive 57 = .ok (.iaload, 1) := by decide +kernel
theorem dX5_drive_58 : decode cX5_drive 58 = .ok (.istore 6, 2) := by decide +kernel
theorem dX5_drive_60 : decode cX5_drive 60 = .ok (.iload 6, 2) := by decide +kernel
theorem dX5_drive_62 : decode cX5_drive 62 = .ok (.bipush 11, 2) := by decide +kernel
theorem dX5_drive_64 : decode cX5_drive 64 = .ok (.if_icmp .ne 18, 3) := by decide +kernel
theorem dX5_drive_67 : decode cX5_drive 67 = .ok (.aload_n 0, 1) := by decide +kernel
theorem dX5_drive_68 : decode cX5_drive 68 = .ok (.iload_n 1, 1) := by decide +kernel
theorem dX5_drive_69 : decode cX5_drive 69 = .ok (.iload_n 3, 1) := by decide +kernel
theorem dX5_drive_70 : decode cX5_drive 70 = .ok (.iload_n 2, 1) := by decide +kernel
theorem dX5_drive_71 : decode cX5_drive 71 = .ok (.iload 5, 2) := by decide +kernel
theorem dX5_drive_73 : decode cX5_drive 73 = .ok (.invokevirtual 104, 3) := by decide +kernel
theorem dX5_drive_76 : decode cX5_drive 76 = .ok (.iload 5, 2) := by decide +kernel
theorem dX5_drive_78 : decode cX5_drive 78 = .ok (.istore_n 2, 1) := by decide +kernel
theorem dX5_drive_79 : decode cX5_drive 79 = .ok (.goto 62, 3) := by decide +kernel
theorem dX5_drive_82 : decode cX5_drive 82 = .ok (.iload 6, 2) := by decide +kernel
theorem dX5_drive_84 : decode cX5_drive 84 = .ok (.bipush 12, 2) := by decide +kernel
theorem dX5_drive_86 : decode cX5_drive 86 = .ok (.if_icmp .ne 36, 3) := by decide +kernel
theorem dX5_drive_89 : decode cX5_drive 89 = .ok (.iload_n 3, 1) := by decide +kernel
theorem dX5_drive_90 : decode cX5_drive 90 = .ok (.iconst 1, 1) := by decide +kernel
theorem dX5_drive_91 : decode cX5_drive 91 = .ok (.iload 5, 2) := by decide +kernel
theorem dX5_drive_93 : decode cX5_drive 93 = .ok (.ishl, 1) := by decide +kernel
theorem dX5_drive_94 : decode cX5_drive 94 = .ok (.ior, 1) := by decide +kernel
theorem dX5_drive_95 : decode cX5_drive 95 = .ok (.istore_n 3, 1) := by decide +kernel
theorem dX5_drive_96 : decode cX5_drive 96 = .ok (.aload_n 0, 1) := by decide +kernel
theorem dX5_drive_97 : decode cX5_drive 97 = .ok (.getfield 21, 3) := by decide +kernel
theorem dX5_drive_100 : decode cX5_drive 100 = .ok (.iload_n 1, 1) := by decide +kernel
theorem dX5_drive_101 : decode cX5_drive 101 = .ok (.dup2, 1) := by decide +kernel
theorem dX5_drive_102 : decode cX5_drive 102 = .ok (.iaload, 1) := by decide +kernel
theorem dX5_drive_103 : decode cX5_drive 103 = .ok (.iconst 1, 1) := by decide +kernel
theorem dX5_drive_104 : decode cX5_drive 104 = .ok (.iload 5, 2) := by decide +kernel
theorem dX5_drive_106 : decode cX5_drive 106 = .ok (.ishl, 1) := by decide +kernel
theorem dX5_drive_107 : decode cX5_drive 107 = .ok (.ior, 1) := by decide +kernel
theorem dX5_drive_108 : decode cX5_drive 108 = .ok (.iastore, 1) := by decide +kernel
theorem dX5_drive_109 : decode cX5_drive 109 = .ok (.aload_n 0, 1) := by decide +kernel
theorem dX5_drive_110 : decode cX5_drive 110 = .ok (.getfield 26, 3) := by decide +kernel
theorem dX5_drive_113 : decode cX5_drive 113 = .ok (.iload_n 1, 1) := by decide +kernel
theorem dX5_drive_114 : decode cX5_drive 114 = .ok (.aaload, 1) := by decide +kernel
theorem dX5_drive_115 : decode cX5_drive 115 = .ok (.iload 5, 2) := by decide +kernel
theorem dX5_drive_117 : decode cX5_drive 117 = .ok (.iload_n 2, 1) := by decide +kernel
theorem dX5_drive_118 : decode cX5_drive 118 = .ok (.iastore, 1) := by decide +kernel
theorem dX5_drive_119 : decode cX5_drive 119 = .ok (.goto 22, 3) := by decide +kernel
theorem dX5_drive_122 : decode cX5_drive 122 = .ok (.iload_n 3, 1) := by decide +kernel
theorem dX5_drive_123 : decode cX5_drive 123 = .ok (.iconst 1, 1) := by decide +kernel
theorem dX5_drive_124 : decode cX5_drive 124 = .ok (.iload 5, 2) := by decide +kernel
theorem dX5_drive_126 : decode cX5_drive 126 = .ok (.ishl, 1) := by decide +kernel
theorem dX5_drive_127 : decode cX5_drive 127 = .ok (.iconst (-1), 1) := by decide +kernel
theorem dX5_drive_128 : decode cX5_drive 128 = .ok (.ixor, 1) := by decide +kernel
theorem dX5_drive_129 : decode cX5_drive 129 = .ok (.iand, 1) := by decide +kernel
theorem dX5_drive_130 : decode cX5_drive 130 = .ok (.istore_n 3, 1) := by decide +kernel
theorem dX5_drive_131 : decode cX5_drive 131 = .ok (.aload_n 0, 1) := by decide +kernel
theorem dX5_drive_132 : decode cX5_drive 132 = .ok (.getfield 29, 3) := by decide +kernel
theorem dX5_drive_135 : decode cX5_drive 135 = .ok (.iload_n 1, 1) := by decide +kernel
theorem dX5_drive_136 : decode cX5_drive 136 = .ok (.aaload, 1) := by decide +kernel
theorem dX5_drive_137 : decode cX5_drive 137 = .ok (.iload 5, 2) := by decide +kernel
theorem dX5_drive_139 : decode cX5_drive 139 = .ok (.iload_n 2, 1) := by decide +kernel
theorem dX5_drive_140 : decode cX5_drive 140 = .ok (.iastore, 1) := by decide +kernel
theorem dX5_drive_141 : decode cX5_drive 141 = .ok (.iinc 4 1, 3) := by decide +kernel
theorem dX5_drive_144 : decode cX5_drive 144 = .ok (.goto (-122), 3) := by decide +kernel
theorem dX5_drive_147 : decode cX5_drive 147 = .ok (.aload_n 0, 1) := by decide +kernel
theorem dX5_drive_148 : decode cX5_drive 148 = .ok (.getfield 18, 3) := by decide +kernel
theorem dX5_drive_151 : decode cX5_drive 151 = .ok (.iload_n 1, 1) := by decide +kernel
theorem dX5_drive_152 : decode cX5_drive 152 = .ok (.iload_n 2, 1) := by decide +kernel
theorem dX5_drive_153 : decode cX5_drive 153 = .ok (.iastore, 1) := by decide +kernel
theorem dX5_drive_154 : decode cX5_drive 154 = .ok (.return_, 1) := by decide +kernel
theorem dX5_driveLeg_0 : decode cX5_driveLeg 0 = .ok (.aload_n 0, 1) := by decide +kernel
theorem dX5_driveLeg_1 : decode cX5_driveLeg 1 = .ok (.getfield 56, 3) := by decide +kernel
theorem dX5_driveLeg_4 : decode cX5_driveLeg 4 = .ok (.iload_n 3, 1) := by decide +kernel
theorem dX5_driveLeg_5 : decode cX5_driveLeg 5 = .ok (.iload 4, 2) := by decide +kernel
theorem dX5_driveLeg_7 : decode cX5_driveLeg 7 = .ok (.invokevirtual 108, 3) := by decide +kernel
theorem dX5_driveLeg_10 : decode cX5_driveLeg 10 = .ok (.istore 5, 2) := by decide +kernel
theorem dX5_driveLeg_12 : decode cX5_driveLeg 12 = .ok (.aload_n 0, 1) := by decide +kernel
theorem dX5_driveLeg_13 : decode cX5_driveLeg 13 = .ok (.getfield 9, 3) := by decide +kernel
theorem dX5_driveLeg_16 : decode cX5_driveLeg 16 = .ok (.iload_n 1, 1) := by decide +kernel
theorem dX5_driveLeg_17 : decode cX5_driveLeg 17 = .ok (.dup2, 1) := by decide +kernel
theorem dX5_driveLeg_18 : decode cX5_driveLeg 18 = .ok (.iaload, 1) := by decide +kernel
theorem dX5_driveLeg_19 : decode cX5_driveLeg 19 = .ok (.iload 5, 2) := by decide +kernel
theorem dX5_driveLeg_21 : decode cX5_driveLeg 21 = .ok (.iadd, 1) := by decide +kernel
theorem dX5_driveLeg_22 : decode cX5_driveLeg 22 = .ok (.iastore, 1) := by decide +kernel
theorem dX5_driveLeg_23 : decode cX5_driveLeg 23 = .ok (.iload_n 2, 1) := by decide +kernel
theorem dX5_driveLeg_24 : decode cX5_driveLeg 24 = .ok (.ifCond .ne 14, 3) := by decide +kernel
theorem dX5_driveLeg_27 : decode cX5_driveLeg 27 = .ok (.aload_n 0, 1) := by decide +kernel
theorem dX5_driveLeg_28 : decode cX5_driveLeg 28 = .ok (.getfield 15, 3) := by decide +kernel
theorem dX5_driveLeg_31 : decode cX5_driveLeg 31 = .ok (.iload_n 1, 1) := by decide +kernel
theorem dX5_driveLeg_32 : decode cX5_driveLeg 32 = .ok (.dup2, 1) := by decide +kernel
theorem dX5_driveLeg_33 : decode cX5_driveLeg 33 = .ok (.iaload, 1) := by decide +kernel
theorem dX5_driveLeg_34 : decode cX5_driveLeg 34 = .ok (.iload 5, 2) := by decide +kernel
theorem dX5_driveLeg_36 : decode cX5_driveLeg 36 = .ok (.iadd, 1) := by decide +kernel
theorem dX5_driveLeg_37 : decode cX5_driveLeg 37 = .ok (.iastore, 1) := by decide +kernel
theorem dX5_driveLeg_38 : decode cX5_driveLeg 38 = .ok (.iconst 0, 1) := by decide +kernel
theorem dX5_driveLeg_39 : decode cX5_driveLeg 39 = .ok (.istore 6, 2) := by decide +kernel
theorem dX5_driveLeg_41 : decode cX5_driveLeg 41 = .ok (.iload 6, 2) := by decide +kernel
theorem dX5_driveLeg_43 : decode cX5_driveLeg 43 = .ok (.aload_n 0, 1) := by decide +kernel
theorem dX5_driveLeg_44 : decode cX5_driveLeg 44 = .ok (.getfield 56, 3) := by decide +kernel
theorem dX5_driveLeg_47 : decode cX5_driveLeg 47 = .ok (.getfield 79, 3) := by decide +kernel
theorem dX5_driveLeg_50 : decode cX5_driveLeg 50 = .ok (.if_icmp .ge 30, 3) := by decide +kernel
theorem dX5_driveLeg_53 : decode cX5_driveLeg 53 = .ok (.iload_n 2, 1) := by decide +kernel
theorem dX5_driveLeg_54 : decode cX5_driveLeg 54 = .ok (.iload 6, 2) := by decide +kernel
theorem dX5_driveLeg_56 : decode cX5_driveLeg 56 = .ok (.ishr, 1) := by decide +kernel
theorem dX5_driveLeg_57 : decode cX5_driveLeg 57 = .ok (.iconst 1, 1) := by decide +kernel
theorem dX5_driveLeg_58 : decode cX5_driveLeg 58 = .ok (.iand, 1) := by decide +kernel
theorem dX5_driveLeg_59 : decode cX5_driveLeg 59 = .ok (.ifCond .eq 15, 3) := by decide +kernel
theorem dX5_driveLeg_62 : decode cX5_driveLeg 62 = .ok (.aload_n 0, 1) := by decide +kernel
theorem dX5_driveLeg_63 : decode cX5_driveLeg 63 = .ok (.getfield 38, 3) := by decide +kernel
theorem dX5_driveLeg_66 : decode cX5_driveLeg 66 = .ok (.iload 6, 2) := by decide +kernel
theorem dX5_driveLeg_68 : decode cX5_driveLeg 68 = .ok (.dup2, 1) := by decide +kernel
theorem dX5_driveLeg_69 : decode cX5_driveLeg 69 = .ok (.iaload, 1) := by decide +kernel
theorem dX5_driveLeg_70 : decode cX5_driveLeg 70 = .ok (.iload 5, 2) := by decide +kernel
theorem dX5_driveLeg_72 : decode cX5_driveLeg 72 = .ok (.iadd, 1) := by decide +kernel
theorem dX5_driveLeg_73 : decode cX5_driveLeg 73 = .ok (.iastore, 1) := by decide +kernel
theorem dX5_driveLeg_74 : decode cX5_driveLeg 74 = .ok (.iinc 6 1, 3) := by decide +kernel
theorem dX5_driveLeg_77 : decode cX5_driveLeg 77 = .ok (.goto (-36), 3) := by decide +kernel
theorem dX5_driveLeg_80 : decode cX5_driveLeg 80 = .ok (.iload_n 3, 1) := by decide +kernel
theorem dX5_driveLeg_81 : decode cX5_driveLeg 81 = .ok (.iload 4, 2) := by decide +kernel
theorem dX5_driveLeg_83 : decode cX5_driveLeg 83 = .ok (.if_icmp .eq 16, 3) := by decide +kernel
theorem dX5_driveLeg_86 : decode cX5_driveLeg 86 = .ok (.aload_n 0, 1) := by decide +kernel
theorem dX5_driveLeg_87 : decode cX5_driveLeg 87 = .ok (.getfield 32, 3) := by decide +kernel
theorem dX5_driveLeg_90 : decode cX5_driveLeg 90 = .ok (.iload_n 3, 1) := by decide +kernel
theorem dX5_driveLeg_91 : decode cX5_driveLeg 91 = .ok (.aaload, 1) := by decide +kernel
theorem dX5_driveLeg_92 : decode cX5_driveLeg 92 = .ok (.iload 4, 2) := by decide +kernel
theorem dX5_driveLeg_94 : decode cX5_driveLeg 94 = .ok (.dup2, 1) := by decide +kernel
theorem dX5_driveLeg_95 : decode cX5_driveLeg 95 = .ok (.iaload, 1) := by decide +kernel
theorem dX5_driveLeg_96 : decode cX5_driveLeg 96 = .ok (.iconst 1, 1) := by decide +kernel
theorem dX5_driveLeg_97 : decode cX5_driveLeg 97 = .ok (.iadd, 1) := by decide +kernel
theorem dX5_driveLeg_98 : decode cX5_driveLeg 98 = .ok (.iastore, 1) := by decide +kernel
theorem dX5_driveLeg_99 : decode cX5_driveLeg 99 = .ok (.return_, 1) := by decide +kernel
theorem dX5_findGapsOfTruck_0 : decode cX5_findGapsOfTruck 0 = .ok (.iconst (-1), 1) := by decide +kernel
theorem dX5_findGapsOfTruck_1 : decode cX5_findGapsOfTruck 1 = .ok (.istore_n 2, 1) := by decide +kernel
theorem dX5_findGapsOfTruck_2 : decode cX5_findGapsOfTruck 2 = .ok (.iconst 0, 1) := by decide +kernel
theorem dX5_findGapsOfTruck_3 : decode cX5_findGapsOfTruck 3 = .ok (.istore_n 3, 1) := by decide +kernel
theorem dX5_findGapsOfTruck_4 : decode cX5_findGapsOfTruck 4 = .ok (.iload_n 3, 1) := by decide +kernel
theorem dX5_findGapsOfTruck_5 : decode cX5_findGapsOfTruck 5 = .ok (.aload_n 0, 1) := by decide +kernel
theorem dX5_findGapsOfTruck_6 : decode cX5_findGapsOfTruck 6 = .ok (.getfield 56, 3) := by decide +kernel
theorem dX5_findGapsOfTruck_9 : decode cX5_findGapsOfTruck 9 = .ok (.getfield 63, 3) := by decide +kernel
theorem dX5_findGapsOfTruck_12 : decode cX5_findGapsOfTruck 12 = .ok (.if_icmp .ge 65, 3) := by decide +kernel
theorem dX5_findGapsOfTruck_15 : decode cX5_findGapsOfTruck 15 = .ok (.aload_n 0, 1) := by decide +kernel
theorem dX5_findGapsOfTruck_16 : decode cX5_findGapsOfTruck 16 = .ok (.getfield 56, 3) := by decide +kernel
theorem dX5_findGapsOfTruck_19 : decode cX5_findGapsOfTruck 19 = .ok (.getfield 112, 3) := by decide +kernel
theorem dX5_findGapsOfTruck_22 : decode cX5_findGapsOfTruck 22 = .ok (.iload_n 3, 1) := by decide +kernel
theorem dX5_findGapsOfTruck_23 : decode cX5_findGapsOfTruck 23 = .ok (.iaload, 1) := by decide +kernel
theorem dX5_findGapsOfTruck_24 : decode cX5_findGapsOfTruck 24 = .ok (.iload_n 1, 1) := by decide +kernel
theorem dX5_findGapsOfTruck_25 : decode cX5_findGapsOfTruck 25 = .ok (.if_icmp .eq 6, 3) := by decide +kernel
theorem dX5_findGapsOfTruck_28 : decode cX5_findGapsOfTruck 28 = .ok (.goto 43, 3) := by decide +kernel
theorem dX5_findGapsOfTruck_31 : decode cX5_findGapsOfTruck 31 = .ok (.iload_n 2, 1) := by decide +kernel
theorem dX5_findGapsOfTruck_32 : decode cX5_findGapsOfTruck 32 = .ok (.iconst (-1), 1) := by decide +kernel
theorem dX5_findGapsOfTruck_33 : decode cX5_findGapsOfTruck 33 = .ok (.if_icmp .eq 31, 3) := by decide +kernel
theorem dX5_findGapsOfTruck_36 : decode cX5_findGapsOfTruck 36 = .ok (.iload_n 2, 1) := by decide +kernel
theorem dX5_findGapsOfTruck_37 : decode cX5_findGapsOfTruck 37 = .ok (.aload_n 0, 1) := by decide +kernel
theorem dX5_findGapsOfTruck_38 : decode cX5_findGapsOfTruck 38 = .ok (.getfield 56, 3) := by decide +kernel
theorem dX5_findGapsOfTruck_41 : decode cX5_findGapsOfTruck 41 = .ok (.getfield 88, 3) := by decide +kernel
theorem dX5_findGapsOfTruck_44 : decode cX5_findGapsOfTruck 44 = .ok (.iload_n 3, 1) := by decide +kernel
theorem dX5_findGapsOfTruck_45 : decode cX5_findGapsOfTruck 45 = .ok (.iaload, 1) := by decide +kernel
theorem dX5_findGapsOfTruck_46 : decode cX5_findGapsOfTruck 46 = .ok (.if_icmp .eq 18, 3) := by decide +kernel
theorem dX5_findGapsOfTruck_49 : decode cX5_findGapsOfTruck 49 = .ok (.aload_n 0, 1) := by decide +kernel
theorem dX5_findGapsOfTruck_50 : decode cX5_findGapsOfTruck 50 = .ok (.iload_n 1, 1) := by decide +kernel
theorem dX5_findGapsOfTruck_51 : decode cX5_findGapsOfTruck 51 = .ok (.iload_n 2, 1) := by decide +kernel
theorem dX5_findGapsOfTruck_52 : decode cX5_findGapsOfTruck 52 = .ok (.aload_n 0, 1) := by decide +kernel
theorem dX5_findGapsOfTruck_53 : decode cX5_findGapsOfTruck 53 = .ok (.getfield 56, 3) := by decide +kernel
theorem dX5_findGapsOfTruck_56 : decode cX5_findGapsOfTruck 56 = .ok (.getfield 88, 3) := by decide +kernel
theorem dX5_findGapsOfTruck_59 : decode cX5_findGapsOfTruck 59 = .ok (.iload_n 3, 1) := by decide +kernel
theorem dX5_findGapsOfTruck_60 : decode cX5_findGapsOfTruck 60 = .ok (.iaload, 1) := by decide +kernel
theorem dX5_findGapsOfTruck_61 : decode cX5_findGapsOfTruck 61 = .ok (.invokevirtual 115, 3) := by decide +kernel
theorem dX5_findGapsOfTruck_64 : decode cX5_findGapsOfTruck 64 = .ok (.aload_n 0, 1) := by decide +kernel
theorem dX5_findGapsOfTruck_65 : decode cX5_findGapsOfTruck 65 = .ok (.getfield 18, 3) := by decide +kernel
theorem dX5_findGapsOfTruck_68 : decode cX5_findGapsOfTruck 68 = .ok (.iload_n 3, 1) := by decide +kernel
theorem dX5_findGapsOfTruck_69 : decode cX5_findGapsOfTruck 69 = .ok (.iaload, 1) := by decide +kernel
theorem dX5_findGapsOfTruck_70 : decode cX5_findGapsOfTruck 70 = .ok (.istore_n 2, 1) := by decide +kernel
theorem dX5_findGapsOfTruck_71 : decode cX5_findGapsOfTruck 71 = .ok (.iinc 3 1, 3) := by decide +kernel
theorem dX5_findGapsOfTruck_74 : decode cX5_findGapsOfTruck 74 = .ok (.goto (-70), 3) := by decide +kernel
theorem dX5_findGapsOfTruck_77 : decode cX5_findGapsOfTruck 77 = .ok (.return_, 1) := by decide +kernel
theorem dX5_followLoad_0 : decode cX5_followLoad 0 = .ok (.aload_n 0, 1) := by decide +kernel
theorem dX5_followLoad_1 : decode cX5_followLoad 1 = .ok (.getfield 56, 3) := by decide +kernel
theorem dX5_followLoad_4 : decode cX5_followLoad 4 = .ok (.getfield 119, 3) := by decide +kernel
theorem dX5_followLoad_7 : decode cX5_followLoad 7 = .ok (.iload_n 1, 1) := by decide +kernel
theorem dX5_followLoad_8 : decode cX5_followLoad 8 = .ok (.iaload, 1) := by decide +kernel
theorem dX5_followLoad_9 : decode cX5_followLoad 9 = .ok (.istore_n 2, 1) := by decide +kernel
theorem dX5_followLoad_10 : decode cX5_followLoad 10 = .ok (.iconst 0, 1) := by decide +kernel
theorem dX5_followLoad_11 : decode cX5_followLoad 11 = .ok (.istore_n 3, 1) := by decide +kernel
theorem dX5_followLoad_12 : decode cX5_followLoad 12 = .ok (.iconst 0, 1) := by decide +kernel
theorem dX5_followLoad_13 : decode cX5_followLoad 13 = .ok (.istore 4, 2) := by decide +kernel
theorem dX5_followLoad_15 : decode cX5_followLoad 15 = .ok (.iload 4, 2) := by decide +kernel
theorem dX5_followLoad_17 : decode cX5_followLoad 17 = .ok (.aload_n 0, 1) := by decide +kernel
theorem dX5_followLoad_18 : decode cX5_followLoad 18 = .ok (.getfield 56, 3) := by decide +kernel
theorem dX5_followLoad_21 : decode cX5_followLoad 21 = .ok (.getfield 63, 3) := by decide +kernel
theorem dX5_followLoad_24 : decode cX5_followLoad 24 = .ok (.if_icmp .ge 82, 3) := by decide +kernel
theorem dX5_followLoad_27 : decode cX5_followLoad 27 = .ok (.aload_n 0, 1) := by decide +kernel
theorem dX5_followLoad_28 : decode cX5_followLoad 28 = .ok (.getfield 21, 3) := by decide +kernel
theorem dX5_followLoad_31 : decode cX5_followLoad 31 = .ok (.iload 4, 2) := by decide +kernel
theorem dX5_followLoad_33 : decode cX5_followLoad 33 = .ok (.iaload, 1) := by decide +kernel
theorem dX5_followLoad_34 : decode cX5_followLoad 34 = .ok (.iload_n 1, 1) := by decide +kernel
theorem dX5_followLoad_35 : decode cX5_followLoad 35 = .ok (.ishr, 1) := by decide +kernel
theorem dX5_followLoad_36 : decode cX5_followLoad 36 = .ok (.iconst 1, 1) := by decide +kernel
theorem dX5_followLoad_37 : decode cX5_followLoad 37 = .ok (.iand, 1) := by decide +kernel
theorem dX5_followLoad_38 : decode cX5_followLoad 38 = .ok (.ifCond .ne 6, 3) := by decide +kernel
theorem dX5_followLoad_41 : decode cX5_followLoad 41 = .ok (.goto 59, 3) := by decide +kernel
theorem dX5_followLoad_44 : decode cX5_followLoad 44 = .ok (.aload_n 0, 1) := by decide +kernel
theorem dX5_followLoad_45 : decode cX5_followLoad 45 = .ok (.getfield 26, 3) := by decide +kernel
theorem dX5_followLoad_48 : decode cX5_followLoad 48 = .ok (.iload 4, 2) := by decide +kernel
theorem dX5_followLoad_50 : decode cX5_followLoad 50 = .ok (.aaload, 1) := by decide +kernel
theorem dX5_followLoad_51 : decode cX5_followLoad 51 = .ok (.iload_n 1, 1) := by decide +kernel
theorem dX5_followLoad_52 : decode cX5_followLoad 52 = .ok (.iaload, 1) := by decide +kernel
theorem dX5_followLoad_53 : decode cX5_followLoad 53 = .ok (.istore 5, 2) := by decide +kernel
theorem dX5_followLoad_55 : decode cX5_followLoad 55 = .ok (.iload 5, 2) := by decide +kernel
theorem dX5_followLoad_57 : decode cX5_followLoad 57 = .ok (.iload_n 2, 1) := by decide +kernel
theorem dX5_followLoad_58 : decode cX5_followLoad 58 = .ok (.if_icmp .eq 14, 3) := by decide +kernel
theorem dX5_followLoad_61 : decode cX5_followLoad 61 = .ok (.aload_n 0, 1) := by decide +kernel
theorem dX5_followLoad_62 : decode cX5_followLoad 62 = .ok (.iload_n 1, 1) := by decide +kernel
theorem dX5_followLoad_63 : decode cX5_followLoad 63 = .ok (.iload_n 2, 1) := by decide +kernel
theorem dX5_followLoad_64 : decode cX5_followLoad 64 = .ok (.iload 5, 2) := by decide +kernel
theorem dX5_followLoad_66 : decode cX5_followLoad 66 = .ok (.invokevirtual 122, 3) := by decide +kernel
theorem dX5_followLoad_69 : decode cX5_followLoad 69 = .ok (.goto 19, 3) := by decide +kernel
theorem dX5_followLoad_72 : decode cX5_followLoad 72 = .ok (.iload_n 3, 1) := by decide +kernel
theorem dX5_followLoad_73 : decode cX5_followLoad 73 = .ok (.ifCond .eq 15, 3) := by decide +kernel
theorem dX5_followLoad_76 : decode cX5_followLoad 76 = .ok (.aload_n 0, 1) := by decide +kernel
theorem dX5_followLoad_77 : decode cX5_followLoad 77 = .ok (.getfield 35, 3) := by decide +kernel
theorem dX5_followLoad_80 : decode cX5_followLoad 80 = .ok (.iload_n 1, 1) := by decide +kernel
theorem dX5_followLoad_81 : decode cX5_followLoad 81 = .ok (.aaload, 1) := by decide +kernel
theorem dX5_followLoad_82 : decode cX5_followLoad 82 = .ok (.iload_n 2, 1) := by decide +kernel
theorem dX5_followLoad_83 : decode cX5_followLoad 83 = .ok (.dup2, 1) := by decide +kernel
theorem dX5_followLoad_84 : decode cX5_followLoad 84 = .ok (.iaload, 1) := by decide +kernel
theorem dX5_followLoad_85 : decode cX5_followLoad 85 = .ok (.iconst 1, 1) := by decide +kernel
theorem dX5_followLoad_86 : decode cX5_followLoad 86 = .ok (.iadd, 1) := by decide +kernel
theorem dX5_followLoad_87 : decode cX5_followLoad 87 = .ok (.iastore, 1) := by decide +kernel
theorem dX5_followLoad_88 : decode cX5_followLoad 88 = .ok (.aload_n 0, 1) := by decide +kernel
theorem dX5_followLoad_89 : decode cX5_followLoad 89 = .ok (.getfield 29, 3) := by decide +kernel
theorem dX5_followLoad_92 : decode cX5_followLoad 92 = .ok (.iload 4, 2) := by decide +kernel
theorem dX5_followLoad_94 : decode cX5_followLoad 94 = .ok (.aaload, 1) := by decide +kernel
theorem dX5_followLoad_95 : decode cX5_followLoad 95 = .ok (.iload_n 1, 1) := by decide +kernel
theorem dX5_followLoad_96 : decode cX5_followLoad 96 = .ok (.iaload, 1) := by decide +kernel
theorem dX5_followLoad_97 : decode cX5_followLoad 97 = .ok (.istore_n 2, 1) := by decide +kernel
theorem dX5_followLoad_98 : decode cX5_followLoad 98 = .ok (.iconst 1, 1) := by decide +kernel
theorem dX5_followLoad_99 : decode cX5_followLoad 99 = .ok (.istore_n 3, 1) := by decide +kernel
theorem dX5_followLoad_100 : decode cX5_followLoad 100 = .ok (.iinc 4 1, 3) := by decide +kernel
theorem dX5_followLoad_103 : decode cX5_followLoad 103 = .ok (.goto (-88), 3) := by decide +kernel
theorem dX5_followLoad_106 : decode cX5_followLoad 106 = .ok (.iload_n 2, 1) := by decide +kernel
theorem dX5_followLoad_107 : decode cX5_followLoad 107 = .ok (.aload_n 0, 1) := by decide +kernel
theorem dX5_followLoad_108 : decode cX5_followLoad 108 = .ok (.getfield 56, 3) := by decide +kernel
theorem dX5_followLoad_111 : decode cX5_followLoad 111 = .ok (.getfield 125, 3) := by decide +kernel
theorem dX5_followLoad_114 : decode cX5_followLoad 114 = .ok (.iload_n 1, 1) := by decide +kernel
theorem dX5_followLoad_115 : decode cX5_followLoad 115 = .ok (.iaload, 1) := by decide +kernel
theorem dX5_followLoad_116 : decode cX5_followLoad 116 = .ok (.if_icmp .eq 18, 3) := by decide +kernel
theorem dX5_followLoad_119 : decode cX5_followLoad 119 = .ok (.aload_n 0, 1) := by decide +kernel
theorem dX5_followLoad_120 : decode cX5_followLoad 120 = .ok (.iload_n 1, 1) := by decide +kernel
theorem dX5_followLoad_121 : decode cX5_followLoad 121 = .ok (.iload_n 2, 1) := by decide +kernel
theorem dX5_followLoad_122 : decode cX5_followLoad 122 = .ok (.aload_n 0, 1) := by decide +kernel
theorem dX5_followLoad_123 : decode cX5_followLoad 123 = .ok (.getfield 56, 3) := by decide +kernel
theorem dX5_followLoad_126 : decode cX5_followLoad 126 = .ok (.getfield 125, 3) := by decide +kernel
theorem dX5_followLoad_129 : decode cX5_followLoad 129 = .ok (.iload_n 1, 1) := by decide +kernel
theorem dX5_followLoad_130 : decode cX5_followLoad 130 = .ok (.iaload, 1) := by decide +kernel
theorem dX5_followLoad_131 : decode cX5_followLoad 131 = .ok (.invokevirtual 122, 3) := by decide +kernel
theorem dX5_followLoad_134 : decode cX5_followLoad 134 = .ok (.return_, 1) := by decide +kernel
theorem dX5_addGapOfLoad_0 : decode cX5_addGapOfLoad 0 = .ok (.aload_n 0, 1) := by decide +kernel
theorem dX5_addGapOfLoad_1 : decode cX5_addGapOfLoad 1 = .ok (.bipush 100, 2) := by decide +kernel
theorem dX5_addGapOfLoad_3 : decode cX5_addGapOfLoad 3 = .ok (.iload_n 1, 1) := by decide +kernel
theorem dX5_addGapOfLoad_4 : decode cX5_addGapOfLoad 4 = .ok (.iadd, 1) := by decide +kernel
theorem dX5_addGapOfLoad_5 : decode cX5_addGapOfLoad 5 = .ok (.iload_n 2, 1) := by decide +kernel
theorem dX5_addGapOfLoad_6 : decode cX5_addGapOfLoad 6 = .ok (.iload_n 3, 1) := by decide +kernel
theorem dX5_addGapOfLoad_7 : decode cX5_addGapOfLoad 7 = .ok (.invokevirtual 115, 3) := by decide +kernel
theorem dX5_addGapOfLoad_10 : decode cX5_addGapOfLoad 10 = .ok (.aload_n 0, 1) := by decide +kernel
theorem dX5_addGapOfLoad_11 : decode cX5_addGapOfLoad 11 = .ok (.getfield 41, 3) := by decide +kernel
theorem dX5_addGapOfLoad_14 : decode cX5_addGapOfLoad 14 = .ok (.iload_n 1, 1) := by decide +kernel
theorem dX5_addGapOfLoad_15 : decode cX5_addGapOfLoad 15 = .ok (.dup2, 1) := by decide +kernel
theorem dX5_addGapOfLoad_16 : decode cX5_addGapOfLoad 16 = .ok (.iaload, 1) := by decide +kernel
theorem dX5_addGapOfLoad_17 : decode cX5_addGapOfLoad 17 = .ok (.iconst 1, 1) := by decide +kernel
theorem dX5_addGapOfLoad_18 : decode cX5_addGapOfLoad 18 = .ok (.iadd, 1) := by decide +kernel
theorem dX5_addGapOfLoad_19 : decode cX5_addGapOfLoad 19 = .ok (.iastore, 1) := by decide +kernel
theorem dX5_addGapOfLoad_20 : decode cX5_addGapOfLoad 20 = .ok (.aload_n 0, 1) := by decide +kernel
theorem dX5_addGapOfLoad_21 : decode cX5_addGapOfLoad 21 = .ok (.getfield 44, 3) := by decide +kernel
theorem dX5_addGapOfLoad_24 : decode cX5_addGapOfLoad 24 = .ok (.iload_n 1, 1) := by decide +kernel
theorem dX5_addGapOfLoad_25 : decode cX5_addGapOfLoad 25 = .ok (.dup2, 1) := by decide +kernel
theorem dX5_addGapOfLoad_26 : decode cX5_addGapOfLoad 26 = .ok (.iaload, 1) := by decide +kernel
theorem dX5_addGapOfLoad_27 : decode cX5_addGapOfLoad 27 = .ok (.aload_n 0, 1) := by decide +kernel
theorem dX5_addGapOfLoad_28 : decode cX5_addGapOfLoad 28 = .ok (.getfield 56, 3) := by decide +kernel
theorem dX5_addGapOfLoad_31 : decode cX5_addGapOfLoad 31 = .ok (.iload_n 2, 1) := by decide +kernel
theorem dX5_addGapOfLoad_32 : decode cX5_addGapOfLoad 32 = .ok (.iload_n 3, 1) := by decide +kernel
theorem dX5_addGapOfLoad_33 : decode cX5_addGapOfLoad 33 = .ok (.invokevirtual 108, 3) := by decide +kernel
theorem dX5_addGapOfLoad_36 : decode cX5_addGapOfLoad 36 = .ok (.iadd, 1) := by decide +kernel
theorem dX5_addGapOfLoad_37 : decode cX5_addGapOfLoad 37 = .ok (.iastore, 1) := by decide +kernel
theorem dX5_addGapOfLoad_38 : decode cX5_addGapOfLoad 38 = .ok (.return_, 1) := by decide +kernel
theorem dX5_addGap_0 : decode cX5_addGap 0 = .ok (.aload_n 0, 1) := by decide +kernel
theorem dX5_addGap_1 : decode cX5_addGap 1 = .ok (.getfield 85, 3) := by decide +kernel
theorem dX5_addGap_4 : decode cX5_addGap 4 = .ok (.sipush 288, 3) := by decide +kernel
theorem dX5_addGap_7 : decode cX5_addGap 7 = .ok (.if_icmp .ge 43, 3) := by decide +kernel
theorem dX5_addGap_10 : decode cX5_addGap 10 = .ok (.aload_n 0, 1) := by decide +kernel
theorem dX5_addGap_11 : decode cX5_addGap 11 = .ok (.getfield 47, 3) := by decide +kernel
theorem dX5_addGap_14 : decode cX5_addGap 14 = .ok (.aload_n 0, 1) := by decide +kernel
theorem dX5_addGap_15 : decode cX5_addGap 15 = .ok (.getfield 85, 3) := by decide +kernel
theorem dX5_addGap_18 : decode cX5_addGap 18 = .ok (.iload_n 1, 1) := by decide +kernel
theorem dX5_addGap_19 : decode cX5_addGap 19 = .ok (.iastore, 1) := by decide +kernel
theorem dX5_addGap_20 : decode cX5_addGap 20 = .ok (.aload_n 0, 1) := by decide +kernel
theorem dX5_addGap_21 : decode cX5_addGap 21 = .ok (.getfield 50, 3) := by decide +kernel
theorem dX5_addGap_24 : decode cX5_addGap 24 = .ok (.aload_n 0, 1) := by decide +kernel
theorem dX5_addGap_25 : decode cX5_addGap 25 = .ok (.getfield 85, 3) := by decide +kernel
theorem dX5_addGap_28 : decode cX5_addGap 28 = .ok (.iload_n 2, 1) := by decide +kernel
theorem dX5_addGap_29 : decode cX5_addGap 29 = .ok (.iastore, 1) := by decide +kernel
theorem dX5_addGap_30 : decode cX5_addGap 30 = .ok (.aload_n 0, 1) := by decide +kernel
theorem dX5_addGap_31 : decode cX5_addGap 31 = .ok (.getfield 53, 3) := by decide +kernel
theorem dX5_addGap_34 : decode cX5_addGap 34 = .ok (.aload_n 0, 1) := by decide +kernel
theorem dX5_addGap_35 : decode cX5_addGap 35 = .ok (.getfield 85, 3) := by decide +kernel
theorem dX5_addGap_38 : decode cX5_addGap 38 = .ok (.iload_n 3, 1) := by decide +kernel
theorem dX5_addGap_39 : decode cX5_addGap 39 = .ok (.iastore, 1) := by decide +kernel
theorem dX5_addGap_40 : decode cX5_addGap 40 = .ok (.aload_n 0, 1) := by decide +kernel
theorem dX5_addGap_41 : decode cX5_addGap 41 = .ok (.dup, 1) := by decide +kernel
theorem dX5_addGap_42 : decode cX5_addGap 42 = .ok (.getfield 85, 3) := by decide +kernel
theorem dX5_addGap_45 : decode cX5_addGap 45 = .ok (.iconst 1, 1) := by decide +kernel
theorem dX5_addGap_46 : decode cX5_addGap 46 = .ok (.iadd, 1) := by decide +kernel
theorem dX5_addGap_47 : decode cX5_addGap 47 = .ok (.putfield 85, 3) := by decide +kernel
theorem dX5_addGap_50 : decode cX5_addGap 50 = .ok (.return_, 1) := by decide +kernel
theorem dX6_init_0 : decode cX6_init 0 = .ok (.aload_n 0, 1) := by decide +kernel
theorem dX6_init_1 : decode cX6_init 1 = .ok (.invokespecial 3, 3) := by decide +kernel
theorem dX6_init_4 : decode cX6_init 4 = .ok (.aload_n 0, 1) := by decide +kernel
theorem dX6_init_5 : decode cX6_init 5 = .ok (.aload_n 1, 1) := by decide +kernel
theorem dX6_init_6 : decode cX6_init 6 = .ok (.putfield 9, 3) := by decide +kernel
theorem dX6_init_9 : decode cX6_init 9 = .ok (.return_, 1) := by decide +kernel
theorem dX6_begin_0 : decode cX6_begin 0 = .ok (.aload_n 0, 1) := by decide +kernel
theorem dX6_begin_1 : decode cX6_begin 1 = .ok (.iconst 0, 1) := by decide +kernel
theorem dX6_begin_2 : decode cX6_begin 2 = .ok (.putfield 15, 3) := by decide +kernel
theorem dX6_begin_5 : decode cX6_begin 5 = .ok (.aload_n 0, 1) := by decide +kernel
theorem dX6_begin_6 : decode cX6_begin 6 = .ok (.aload_n 0, 1) := by decide +kernel
theorem dX6_begin_7 : decode cX6_begin 7 = .ok (.getfield 9, 3) := by decide +kernel
theorem dX6_begin_10 : decode cX6_begin 10 = .ok (.getfield 19, 3) := by decide +kernel
theorem dX6_begin_13 : decode cX6_begin 13 = .ok (.sipush 800, 3) := by decide +kernel
theorem dX6_begin_16 : decode cX6_begin 16 = .ok (.invokestatic 24, 3) := by decide +kernel
theorem dX6_begin_19 : decode cX6_begin 19 = .ok (.putfield 30, 3) := by decide +kernel
theorem dX6_begin_22 : decode cX6_begin 22 = .ok (.return_, 1) := by decide +kernel
theorem dX6_hasTooMany_0 : decode cX6_hasTooMany 0 = .ok (.aload_n 0, 1) := by decide +kernel
theorem dX6_hasTooMany_1 : decode cX6_hasTooMany 1 = .ok (.getfield 9, 3) := by decide +kernel
theorem dX6_hasTooMany_4 : decode cX6_hasTooMany 4 = .ok (.getfield 19, 3) := by decide +kernel
theorem dX6_hasTooMany_7 : decode cX6_hasTooMany 7 = .ok (.sipush 800, 3) := by decide +kernel
theorem dX6_hasTooMany_10 : decode cX6_hasTooMany 10 = .ok (.if_icmp .le 7, 3) := by decide +kernel
theorem dX6_hasTooMany_13 : decode cX6_hasTooMany 13 = .ok (.iconst 1, 1) := by decide +kernel
theorem dX6_hasTooMany_14 : decode cX6_hasTooMany 14 = .ok (.goto 4, 3) := by decide +kernel
theorem dX6_hasTooMany_17 : decode cX6_hasTooMany 17 = .ok (.iconst 0, 1) := by decide +kernel
theorem dX6_hasTooMany_18 : decode cX6_hasTooMany 18 = .ok (.ireturn, 1) := by decide +kernel
theorem dX6_next_0 : decode cX6_next 0 = .ok (.aload_n 0, 1) := by decide +kernel
theorem dX6_next_1 : decode cX6_next 1 = .ok (.getfield 15, 3) := by decide +kernel
theorem dX6_next_4 : decode cX6_next 4 = .ok (.aload_n 0, 1) := by decide +kernel
theorem dX6_next_5 : decode cX6_next 5 = .ok (.getfield 30, 3) := by decide +kernel
theorem dX6_next_8 : decode cX6_next 8 = .ok (.if_icmp .ge 33, 3) := by decide +kernel
theorem dX6_next_11 : decode cX6_next 11 = .ok (.aload_n 0, 1) := by decide +kernel
theorem dX6_next_12 : decode cX6_next 12 = .ok (.getfield 9, 3) := by decide +kernel
theorem dX6_next_15 : decode cX6_next 15 = .ok (.aload_n 0, 1) := by decide +kernel
theorem dX6_next_16 : decode cX6_next 16 = .ok (.getfield 15, 3) := by decide +kernel
theorem dX6_next_19 : decode cX6_next 19 = .ok (.invokevirtual 33, 3) := by decide +kernel
theorem dX6_next_22 : decode cX6_next 22 = .ok (.invokestatic 37, 3) := by decide +kernel
theorem dX6_next_25 : decode cX6_next 25 = .ok (.ifCond .eq 16, 3) := by decide +kernel
theorem dX6_next_28 : decode cX6_next 28 = .ok (.aload_n 0, 1) := by decide +kernel
theorem dX6_next_29 : decode cX6_next 29 = .ok (.dup, 1) := by decide +kernel
theorem dX6_next_30 : decode cX6_next 30 = .ok (.getfield 15, 3) := by decide +kernel
theorem dX6_next_33 : decode cX6_next 33 = .ok (.iconst 1, 1) := by decide +kernel
theorem dX6_next_34 : decode cX6_next 34 = .ok (.iadd, 1) := by decide +kernel
theorem dX6_next_35 : decode cX6_next 35 = .ok (.putfield 15, 3) := by decide +kernel
theorem dX6_next_38 : decode cX6_next 38 = .ok (.goto (-38), 3) := by decide +kernel
theorem dX6_next_41 : decode cX6_next 41 = .ok (.aload_n 0, 1) := by decide +kernel
theorem dX6_next_42 : decode cX6_next 42 = .ok (.getfield 15, 3) := by decide +kernel
theorem dX6_next_45 : decode cX6_next 45 = .ok (.aload_n 0, 1) := by decide +kernel
theorem dX6_next_46 : decode cX6_next 46 = .ok (.getfield 30, 3) := by decide +kernel
theorem dX6_next_49 : decode cX6_next 49 = .ok (.if_icmp .lt 17, 3) := by decide +kernel
theorem dX6_next_52 : decode cX6_next 52 = .ok (.aload_n 0, 1) := by decide +kernel
theorem dX6_next_53 : decode cX6_next 53 = .ok (.aload_n 0, 1) := by decide +kernel
theorem dX6_next_54 : decode cX6_next 54 = .ok (.getfield 30, 3) := by decide +kernel
theorem dX6_next_57 : decode cX6_next 57 = .ok (.putfield 41, 3) := by decide +kernel
theorem dX6_next_60 : decode cX6_next 60 = .ok (.aload_n 0, 1) := by decide +kernel
theorem dX6_next_61 : decode cX6_next 61 = .ok (.iconst 0, 1) := by decide +kernel
theorem dX6_next_62 : decode cX6_next 62 = .ok (.putfield 44, 3) := by decide +kernel
theorem dX6_next_65 : decode cX6_next 65 = .ok (.return_, 1) := by decide +kernel
theorem dX6_next_66 : decode cX6_next 66 = .ok (.aload_n 0, 1) := by decide +kernel
theorem dX6_next_67 : decode cX6_next 67 = .ok (.aload_n 0, 1) := by decide +kernel
theorem dX6_next_68 : decode cX6_next 68 = .ok (.getfield 15, 3) := by decide +kernel
theorem dX6_next_71 : decode cX6_next 71 = .ok (.putfield 41, 3) := by decide +kernel
theorem dX6_next_74 : decode cX6_next 74 = .ok (.aload_n 0, 1) := by decide +kernel
theorem dX6_next_75 : decode cX6_next 75 = .ok (.getfield 9, 3) := by decide +kernel
theorem dX6_next_78 : decode cX6_next 78 = .ok (.aload_n 0, 1) := by decide +kernel
theorem dX6_next_79 : decode cX6_next 79 = .ok (.getfield 15, 3) := by decide +kernel
theorem dX6_next_82 : decode cX6_next 82 = .ok (.invokevirtual 33, 3) := by decide +kernel
theorem dX6_next_85 : decode cX6_next 85 = .ok (.bipush 59, 2) := by decide +kernel
theorem dX6_next_87 : decode cX6_next 87 = .ok (.if_icmp .ne 19, 3) := by decide +kernel
theorem dX6_next_90 : decode cX6_next 90 = .ok (.aload_n 0, 1) := by decide +kernel
theorem dX6_next_91 : decode cX6_next 91 = .ok (.dup, 1) := by decide +kernel
theorem dX6_next_92 : decode cX6_next 92 = .ok (.getfield 15, 3) := by decide +kernel
theorem dX6_next_95 : decode cX6_next 95 = .ok (.iconst 1, 1) := by decide +kernel
theorem dX6_next_96 : decode cX6_next 96 = .ok (.iadd, 1) := by decide +kernel
theorem dX6_next_97 : decode cX6_next 97 = .ok (.putfield 15, 3) := by decide +kernel
theorem dX6_next_100 : decode cX6_next 100 = .ok (.aload_n 0, 1) := by decide +kernel
theorem dX6_next_101 : decode cX6_next 101 = .ok (.iconst 3, 1) := by decide +kernel
theorem dX6_next_102 : decode cX6_next 102 = .ok (.putfield 44, 3) := by decide +kernel
theorem dX6_next_105 : decode cX6_next 105 = .ok (.return_, 1) := by decide +kernel
theorem dX6_next_106 : decode cX6_next 106 = .ok (.aload_n 0, 1) := by decide +kernel
theorem dX6_next_107 : decode cX6_next 107 = .ok (.aload_n 0, 1) := by decide +kernel
theorem dX6_next_108 : decode cX6_next 108 = .ok (.invokevirtual 47, 3) := by decide +kernel
theorem dX6_next_111 : decode cX6_next 111 = .ok (.putfield 44, 3) := by decide +kernel
theorem dX6_next_114 : decode cX6_next 114 = .ok (.return_, 1) := by decide +kernel
theorem dX6_readRun_0 : decode cX6_readRun 0 = .ok (.iconst 0, 1) := by decide +kernel
theorem dX6_readRun_1 : decode cX6_readRun 1 = .ok (.istore_n 1, 1) := by decide +kernel
theorem dX6_readRun_2 : decode cX6_readRun 2 = .ok (.iconst 0, 1) := by decide +kernel
theorem dX6_readRun_3 : decode cX6_readRun 3 = .ok (.istore_n 2, 1) := by decide +kernel
theorem dX6_readRun_4 : decode cX6_readRun 4 = .ok (.aload_n 0, 1) := by decide +kernel
theorem dX6_readRun_5 : decode cX6_readRun 5 = .ok (.iconst 0, 1) := by decide +kernel
theorem dX6_readRun_6 : decode cX6_readRun 6 = .ok (.putfield 51, 3) := by decide +kernel
theorem dX6_readRun_9 : decode cX6_readRun 9 = .ok (.aload_n 0, 1) := by decide +kernel
theorem dX6_readRun_10 : decode cX6_readRun 10 = .ok (.getfield 15, 3) := by decide +kernel
theorem dX6_readRun_13 : decode cX6_readRun 13 = .ok (.aload_n 0, 1) := by decide +kernel
theorem dX6_readRun_14 : decode cX6_readRun 14 = .ok (.getfield 9, 3) := by decide +kernel
theorem dX6_readRun_17 : decode cX6_readRun 17 = .ok (.getfield 19, 3) := by decide +kernel
theorem dX6_readRun_20 : decode cX6_readRun 20 = .ok (.if_icmp .ge 67, 3) := by decide +kernel
theorem dX6_readRun_23 : decode cX6_readRun 23 = .ok (.aload_n 0, 1) := by decide +kernel
theorem dX6_readRun_24 : decode cX6_readRun 24 = .ok (.getfield 9, 3) := by decide +kernel
theorem dX6_readRun_27 : decode cX6_readRun 27 = .ok (.aload_n 0, 1) := by decide +kernel
theorem dX6_readRun_28 : decode cX6_readRun 28 = .ok (.getfield 15, 3) := by decide +kernel
theorem dX6_readRun_31 : decode cX6_readRun 31 = .ok (.invokevirtual 33, 3) := by decide +kernel
theorem dX6_readRun_34 : decode cX6_readRun 34 = .ok (.istore_n 3, 1) := by decide +kernel
theorem dX6_readRun_35 : decode cX6_readRun 35 = .ok (.iload_n 3, 1) := by decide +kernel
theorem dX6_readRun_36 : decode cX6_readRun 36 = .ok (.invokestatic 54, 3) := by decide +kernel
theorem dX6_readRun_39 : decode cX6_readRun 39 = .ok (.ifCond .eq 9, 3) := by decide +kernel
theorem dX6_readRun_42 : decode cX6_readRun 42 = .ok (.iinc 1 1, 3) := by decide +kernel
theorem dX6_readRun_45 : decode cX6_readRun 45 = .ok (.goto 29, 3) := by decide +kernel
theorem dX6_readRun_48 : decode cX6_readRun 48 = .ok (.iload_n 3, 1) := by decide +kernel
theorem dX6_readRun_49 : decode cX6_readRun 49 = .ok (.invokestatic 57, 3) := by decide +kernel
theorem dX6_readRun_52 : decode cX6_readRun 52 = .ok (.ifCond .eq 35, 3) := by decide +kernel
theorem dX6_readRun_55 : decode cX6_readRun 55 = .ok (.iinc 2 1, 3) := by decide +kernel
theorem dX6_readRun_58 : decode cX6_readRun 58 = .ok (.aload_n 0, 1) := by decide +kernel
theorem dX6_readRun_59 : decode cX6_readRun 59 = .ok (.aload_n 0, 1) := by decide +kernel
theorem dX6_readRun_60 : decode cX6_readRun 60 = .ok (.getfield 51, 3) := by decide +kernel
theorem dX6_readRun_63 : decode cX6_readRun 63 = .ok (.bipush 10, 2) := by decide +kernel
theorem dX6_readRun_65 : decode cX6_readRun 65 = .ok (.imul, 1) := by decide +kernel
theorem dX6_readRun_66 : decode cX6_readRun 66 = .ok (.iload_n 3, 1) := by decide +kernel
theorem dX6_readRun_67 : decode cX6_readRun 67 = .ok (.bipush 48, 2) := by decide +kernel
theorem dX6_readRun_69 : decode cX6_readRun 69 = .ok (.isub, 1) := by decide +kernel
theorem dX6_readRun_70 : decode cX6_readRun 70 = .ok (.iadd, 1) := by decide +kernel
theorem dX6_readRun_71 : decode cX6_readRun 71 = .ok (.putfield 51, 3) := by decide +kernel
theorem dX6_readRun_74 : decode cX6_readRun 74 = .ok (.aload_n 0, 1) := by decide +kernel
theorem dX6_readRun_75 : decode cX6_readRun 75 = .ok (.dup, 1) := by decide +kernel
theorem dX6_readRun_76 : decode cX6_readRun 76 = .ok (.getfield 15, 3) := by decide +kernel
theorem dX6_readRun_79 : decode cX6_readRun 79 = .ok (.iconst 1, 1) := by decide +kernel
theorem dX6_readRun_80 : decode cX6_readRun 80 = .ok (.iadd, 1) := by decide +kernel
theorem dX6_readRun_81 : decode cX6_readRun 81 = .ok (.putfield 15, 3) := by decide +kernel
theorem dX6_readRun_84 : decode cX6_readRun 84 = .ok (.goto (-75), 3) := by decide +kernel
theorem dX6_readRun_87 : decode cX6_readRun 87 = .ok (.iload_n 1, 1) := by decide +kernel
theorem dX6_readRun_88 : decode cX6_readRun 88 = .ok (.ifCond .ne 19, 3) := by decide +kernel
theorem dX6_readRun_91 : decode cX6_readRun 91 = .ok (.iload_n 2, 1) := by decide +kernel
theorem dX6_readRun_92 : decode cX6_readRun 92 = .ok (.iconst 1, 1) := by decide +kernel
theorem dX6_readRun_93 : decode cX6_readRun 93 = .ok (.if_icmp .lt 12, 3) := by decide +kernel
theorem dX6_readRun_96 : decode cX6_readRun 96 = .ok (.iload_n 2, 1) := by decide +kernel
theorem dX6_readRun_97 : decode cX6_readRun 97 = .ok (.iconst 4, 1) := by decide +kernel
theorem dX6_readRun_98 : decode cX6_readRun 98 = .ok (.if_icmp .gt 7, 3) := by decide +kernel
theorem dX6_readRun_101 : decode cX6_readRun 101 = .ok (.iconst 2, 1) := by decide +kernel
theorem dX6_readRun_102 : decode cX6_readRun 102 = .ok (.goto 4, 3) := by decide +kernel
theorem dX6_readRun_105 : decode cX6_readRun 105 = .ok (.iconst 1, 1) := by decide +kernel
theorem dX6_readRun_106 : decode cX6_readRun 106 = .ok (.ireturn, 1) := by decide +kernel
theorem dX6_readRun_107 : decode cX6_readRun 107 = .ok (.iload_n 2, 1) := by decide +kernel
theorem dX6_readRun_108 : decode cX6_readRun 108 = .ok (.ifCond .ne 10, 3) := by decide +kernel
theorem dX6_readRun_111 : decode cX6_readRun 111 = .ok (.aload_n 0, 1) := by decide +kernel
theorem dX6_readRun_112 : decode cX6_readRun 112 = .ok (.invokevirtual 60, 3) := by decide +kernel
theorem dX6_readRun_115 : decode cX6_readRun 115 = .ok (.goto 4, 3) := by decide +kernel
theorem dX6_readRun_118 : decode cX6_readRun 118 = .ok (.iconst 1, 1) := by decide +kernel
theorem dX6_readRun_119 : decode cX6_readRun 119 = .ok (.ireturn, 1) := by decide +kernel
theorem dX6_wordKind_0 : decode cX6_wordKind 0 = .ok (.aload_n 0, 1) := by decide +kernel
theorem dX6_wordKind_1 : decode cX6_wordKind 1 = .ok (.ldc 63, 2) := by decide +kernel
theorem dX6_wordKind_3 : decode cX6_wordKind 3 = .ok (.invokevirtual 65, 3) := by decide +kernel
theorem dX6_wordKind_6 : decode cX6_wordKind 6 = .ok (.ifCond .eq 6, 3) := by decide +kernel
theorem dX6_wordKind_9 : decode cX6_wordKind 9 = .ok (.bipush 11, 2) := by decide +kernel
theorem dX6_wordKind_11 : decode cX6_wordKind 11 = .ok (.ireturn, 1) := by decide +kernel
theorem dX6_wordKind_12 : decode cX6_wordKind 12 = .ok (.aload_n 0, 1) := by decide +kernel
theorem dX6_wordKind_13 : decode cX6_wordKind 13 = .ok (.ldc 69, 2) := by decide +kernel
theorem dX6_wordKind_15 : decode cX6_wordKind 15 = .ok (.invokevirtual 65, 3) := by decide +kernel
theorem dX6_wordKind_18 : decode cX6_wordKind 18 = .ok (.ifCond .eq 6, 3) := by decide +kernel
theorem dX6_wordKind_21 : decode cX6_wordKind 21 = .ok (.bipush 12, 2) := by decide +kernel
theorem dX6_wordKind_23 : decode cX6_wordKind 23 = .ok (.ireturn, 1) := by decide +kernel
theorem dX6_wordKind_24 : decode cX6_wordKind 24 = .ok (.aload_n 0, 1) := by decide +kernel
theorem dX6_wordKind_25 : decode cX6_wordKind 25 = .ok (.ldc 71, 2) := by decide +kernel
theorem dX6_wordKind_27 : decode cX6_wordKind 27 = .ok (.invokevirtual 65, 3) := by decide +kernel
theorem dX6_wordKind_30 : decode cX6_wordKind 30 = .ok (.ifCond .eq 6, 3) := by decide +kernel
theorem dX6_wordKind_33 : decode cX6_wordKind 33 = .ok (.bipush 13, 2) := by decide +kernel
theorem dX6_wordKind_35 : decode cX6_wordKind 35 = .ok (.ireturn, 1) := by decide +kernel
theorem dX6_wordKind_36 : decode cX6_wordKind 36 = .ok (.aload_n 0, 1) := by decide +kernel
theorem dX6_wordKind_37 : decode cX6_wordKind 37 = .ok (.ldc 73, 2) := by decide +kernel
theorem dX6_wordKind_39 : decode cX6_wordKind 39 = .ok (.invokevirtual 65, 3) := by decide +kernel
theorem dX6_wordKind_42 : decode cX6_wordKind 42 = .ok (.ifCond .eq 6, 3) := by decide +kernel
theorem dX6_wordKind_45 : decode cX6_wordKind 45 = .ok (.bipush 10, 2) := by decide +kernel
theorem dX6_wordKind_47 : decode cX6_wordKind 47 = .ok (.ireturn, 1) := by decide +kernel
theorem dX6_wordKind_48 : decode cX6_wordKind 48 = .ok (.aload_n 0, 1) := by decide +kernel
theorem dX6_wordKind_49 : decode cX6_wordKind 49 = .ok (.ldc 75, 2) := by decide +kernel
theorem dX6_wordKind_51 : decode cX6_wordKind 51 = .ok (.invokevirtual 65, 3) := by decide +kernel
theorem dX6_wordKind_54 : decode cX6_wordKind 54 = .ok (.ifCond .eq 5, 3) := by decide +kernel
theorem dX6_wordKind_57 : decode cX6_wordKind 57 = .ok (.iconst 5, 1) := by decide +kernel
theorem dX6_wordKind_58 : decode cX6_wordKind 58 = .ok (.ireturn, 1) := by decide +kernel
theorem dX6_wordKind_59 : decode cX6_wordKind 59 = .ok (.aload_n 0, 1) := by decide +kernel
theorem dX6_wordKind_60 : decode cX6_wordKind 60 = .ok (.ldc 77, 2) := by decide +kernel
theorem dX6_wordKind_62 : decode cX6_wordKind 62 = .ok (.invokevirtual 65, 3) := by decide +kernel
theorem dX6_wordKind_65 : decode cX6_wordKind 65 = .ok (.ifCond .eq 6, 3) := by decide +kernel
theorem dX6_wordKind_68 : decode cX6_wordKind 68 = .ok (.bipush 6, 2) := by decide +kernel
theorem dX6_wordKind_70 : decode cX6_wordKind 70 = .ok (.ireturn, 1) := by decide +kernel
theorem dX6_wordKind_71 : decode cX6_wordKind 71 = .ok (.aload_n 0, 1) := by decide +kernel
theorem dX6_wordKind_72 : decode cX6_wordKind 72 = .ok (.ldc 79, 2) := by decide +kernel
theorem dX6_wordKind_74 : decode cX6_wordKind 74 = .ok (.invokevirtual 65, 3) := by decide +kernel
theorem dX6_wordKind_77 : decode cX6_wordKind 77 = .ok (.ifCond .eq 6, 3) := by decide +kernel
theorem dX6_wordKind_80 : decode cX6_wordKind 80 = .ok (.bipush 7, 2) := by decide +kernel
theorem dX6_wordKind_82 : decode cX6_wordKind 82 = .ok (.ireturn, 1) := by decide +kernel
theorem dX6_wordKind_83 : decode cX6_wordKind 83 = .ok (.aload_n 0, 1) := by decide +kernel
theorem dX6_wordKind_84 : decode cX6_wordKind 84 = .ok (.ldc 81, 2) := by decide +kernel
theorem dX6_wordKind_86 : decode cX6_wordKind 86 = .ok (.invokevirtual 65, 3) := by decide +kernel
theorem dX6_wordKind_89 : decode cX6_wordKind 89 = .ok (.ifCond .eq 6, 3) := by decide +kernel
theorem dX6_wordKind_92 : decode cX6_wordKind 92 = .ok (.bipush 8, 2) := by decide +kernel
theorem dX6_wordKind_94 : decode cX6_wordKind 94 = .ok (.ireturn, 1) := by decide +kernel
theorem dX6_wordKind_95 : decode cX6_wordKind 95 = .ok (.aload_n 0, 1) := by decide +kernel
theorem dX6_wordKind_96 : decode cX6_wordKind 96 = .ok (.ldc 83, 2) := by decide +kernel
theorem dX6_wordKind_98 : decode cX6_wordKind 98 = .ok (.invokevirtual 65, 3) := by decide +kernel
theorem dX6_wordKind_101 : decode cX6_wordKind 101 = .ok (.ifCond .eq 8, 3) := by decide +kernel
theorem dX6_wordKind_104 : decode cX6_wordKind 104 = .ok (.bipush 9, 2) := by decide +kernel
theorem dX6_wordKind_106 : decode cX6_wordKind 106 = .ok (.goto 4, 3) := by decide +kernel
theorem dX6_wordKind_109 : decode cX6_wordKind 109 = .ok (.iconst 4, 1) := by decide +kernel
theorem dX6_wordKind_110 : decode cX6_wordKind 110 = .ok (.ireturn, 1) := by decide +kernel
theorem dX6_spells_0 : decode cX6_spells 0 = .ok (.aload_n 0, 1) := by decide +kernel
theorem dX6_spells_1 : decode cX6_spells 1 = .ok (.getfield 15, 3) := by decide +kernel
theorem dX6_spells_4 : decode cX6_spells 4 = .ok (.aload_n 0, 1) := by decide +kernel
theorem dX6_spells_5 : decode cX6_spells 5 = .ok (.getfield 41, 3) := by decide +kernel
theorem dX6_spells_8 : decode cX6_spells 8 = .ok (.isub, 1) := by decide +kernel
theorem dX6_spells_9 : decode cX6_spells 9 = .ok (.aload_n 1, 1) := by decide +kernel
theorem dX6_spells_10 : decode cX6_spells 10 = .ok (.invokevirtual 85, 3) := by decide +kernel
theorem dX6_spells_13 : decode cX6_spells 13 = .ok (.if_icmp .eq 5, 3) := by decide +kernel
theorem dX6_spells_16 : decode cX6_spells 16 = .ok (.iconst 0, 1) := by decide +kernel
theorem dX6_spells_17 : decode cX6_spells 17 = .ok (.ireturn, 1) := by decide +kernel
theorem dX6_spells_18 : decode cX6_spells 18 = .ok (.iconst 0, 1) := by decide +kernel
theorem dX6_spells_19 : decode cX6_spells 19 = .ok (.istore_n 2, 1) := by decide +kernel
theorem dX6_spells_20 : decode cX6_spells 20 = .ok (.iload_n 2, 1) := by decide +kernel
theorem dX6_spells_21 : decode cX6_spells 21 = .ok (.aload_n 1, 1) := by decide +kernel
theorem dX6_spells_22 : decode cX6_spells 22 = .ok (.invokevirtual 85, 3) := by decide +kernel
theorem dX6_spells_25 : decode cX6_spells 25 = .ok (.if_icmp .ge 32, 3) := by decide +kernel
theorem dX6_spells_28 : decode cX6_spells 28 = .ok (.aload_n 0, 1) := by decide +kernel
theorem dX6_spells_29 : decode cX6_spells 29 = .ok (.getfield 9, 3) := by decide +kernel
theorem dX6_spells_32 : decode cX6_spells 32 = .ok (.aload_n 0, 1) := by decide +kernel
theorem dX6_spells_33 : decode cX6_spells 33 = .ok (.getfield 41, 3) := by decide +kernel
theorem dX6_spells_36 : decode cX6_spells 36 = .ok (.iload_n 2, 1) := by decide +kernel
theorem dX6_spells_37 : decode cX6_spells 37 = .ok (.iadd, 1) := by decide +kernel
theorem dX6_spells_38 : decode cX6_spells 38 = .ok (.invokevirtual 33, 3) := by decide +kernel
theorem dX6_spells_41 : decode cX6_spells 41 = .ok (.aload_n 1, 1) := by decide +kernel
theorem dX6_spells_42 : decode cX6_spells 42 = .ok (.iload_n 2, 1) := by decide +kernel
theorem dX6_spells_43 : decode cX6_spells 43 = .ok (.invokevirtual 90, 3) := by decide +kernel
theorem dX6_spells_46 : decode cX6_spells 46 = .ok (.if_icmp .eq 5, 3) := by decide +kernel
theorem dX6_spells_49 : decode cX6_spells 49 = .ok (.iconst 0, 1) := by decide +kernel
theorem dX6_spells_50 : decode cX6_spells 50 = .ok (.ireturn, 1) := by decide +kernel
theorem dX6_spells_51 : decode cX6_spells 51 = .ok (.iinc 2 1, 3) := by decide +kernel
theorem dX6_spells_54 : decode cX6_spells 54 = .ok (.goto (-34), 3) := by decide +kernel
theorem dX6_spells_57 : decode cX6_spells 57 = .ok (.iconst 1, 1) := by decide +kernel
theorem dX6_spells_58 : decode cX6_spells 58 = .ok (.ireturn, 1) := by decide +kernel
theorem dX6_isBlank_0 : decode cX6_isBlank 0 = .ok (.iload_n 0, 1) := by decide +kernel
theorem dX6_isBlank_1 : decode cX6_isBlank 1 = .ok (.bipush 32, 2) := by decide +kernel
theorem dX6_isBlank_3 : decode cX6_isBlank 3 = .ok (.if_icmp .eq 9, 3) := by decide +kernel
theorem dX6_isBlank_6 : decode cX6_isBlank 6 = .ok (.iload_n 0, 1) := by decide +kernel
theorem dX6_isBlank_7 : decode cX6_isBlank 7 = .ok (.bipush 10, 2) := by decide +kernel
theorem dX6_isBlank_9 : decode cX6_isBlank 9 = .ok (.if_icmp .ne 7, 3) := by decide +kernel
theorem dX6_isBlank_12 : decode cX6_isBlank 12 = .ok (.iconst 1, 1) := by decide +kernel
theorem dX6_isBlank_13 : decode cX6_isBlank 13 = .ok (.goto 4, 3) := by decide +kernel
theorem dX6_isBlank_16 : decode cX6_isBlank 16 = .ok (.iconst 0, 1) := by decide +kernel
theorem dX6_isBlank_17 : decode cX6_isBlank 17 = .ok (.ireturn, 1) := by decide +kernel
theorem dX6_isLetter_0 : decode cX6_isLetter 0 = .ok (.iload_n 0, 1) := by decide +kernel
theorem dX6_isLetter_1 : decode cX6_isLetter 1 = .ok (.bipush 97, 2) := by decide +kernel
theorem dX6_isLetter_3 : decode cX6_isLetter 3 = .ok (.if_icmp .lt 13, 3) := by decide +kernel
theorem dX6_isLetter_6 : decode cX6_isLetter 6 = .ok (.iload_n 0, 1) := by decide +kernel
theorem dX6_isLetter_7 : decode cX6_isLetter 7 = .ok (.bipush 122, 2) := by decide +kernel
theorem dX6_isLetter_9 : decode cX6_isLetter 9 = .ok (.if_icmp .gt 7, 3) := by decide +kernel
theorem dX6_isLetter_12 : decode cX6_isLetter 12 = .ok (.iconst 1, 1) := by decide +kernel
theorem dX6_isLetter_13 : decode cX6_isLetter 13 = .ok (.goto 4, 3) := by decide +kernel
theorem dX6_isLetter_16 : decode cX6_isLetter 16 = .ok (.iconst 0, 1) := by decide +kernel
theorem dX6_isLetter_17 : decode cX6_isLetter 17 = .ok (.ireturn, 1) := by decide +kernel
theorem dX6_isDigit_0 : decode cX6_isDigit 0 = .ok (.iload_n 0, 1) := by decide +kernel
theorem dX6_isDigit_1 : decode cX6_isDigit 1 = .ok (.bipush 48, 2) := by decide +kernel
theorem dX6_isDigit_3 : decode cX6_isDigit 3 = .ok (.if_icmp .lt 13, 3) := by decide +kernel
theorem dX6_isDigit_6 : decode cX6_isDigit 6 = .ok (.iload_n 0, 1) := by decide +kernel
theorem dX6_isDigit_7 : decode cX6_isDigit 7 = .ok (.bipush 57, 2) := by decide +kernel
theorem dX6_isDigit_9 : decode cX6_isDigit 9 = .ok (.if_icmp .gt 7, 3) := by decide +kernel
theorem dX6_isDigit_12 : decode cX6_isDigit 12 = .ok (.iconst 1, 1) := by decide +kernel
theorem dX6_isDigit_13 : decode cX6_isDigit 13 = .ok (.goto 4, 3) := by decide +kernel
theorem dX6_isDigit_16 : decode cX6_isDigit 16 = .ok (.iconst 0, 1) := by decide +kernel
theorem dX6_isDigit_17 : decode cX6_isDigit 17 = .ok (.ireturn, 1) := by decide +kernel
theorem dX7_init_0 : decode cX7_init 0 = .ok (.aload_n 0, 1) := by decide +kernel
theorem dX7_init_1 : decode cX7_init 1 = .ok (.invokespecial 3, 3) := by decide +kernel
theorem dX7_init_4 : decode cX7_init 4 = .ok (.aload_n 0, 1) := by decide +kernel
theorem dX7_init_5 : decode cX7_init 5 = .ok (.sipush 840, 3) := by decide +kernel
theorem dX7_init_8 : decode cX7_init 8 = .ok (.newarray .byte, 2) := by decide +kernel
theorem dX7_init_10 : decode cX7_init 10 = .ok (.putfield 9, 3) := by decide +kernel
theorem dX7_init_13 : decode cX7_init 13 = .ok (.return_, 1) := by decide +kernel
theorem dX7_addNumber_0 : decode cX7_addNumber 0 = .ok (.aload_n 0, 1) := by decide +kernel
theorem dX7_addNumber_1 : decode cX7_addNumber 1 = .ok (.iload_n 1, 1) := by decide +kernel
theorem dX7_addNumber_2 : decode cX7_addNumber 2 = .ok (.bipush 24, 2) := by decide +kernel
theorem dX7_addNumber_4 : decode cX7_addNumber 4 = .ok (.iushr, 1) := by decide +kernel
theorem dX7_addNumber_5 : decode cX7_addNumber 5 = .ok (.invokevirtual 15, 3) := by decide +kernel
theorem dX7_addNumber_8 : decode cX7_addNumber 8 = .ok (.aload_n 0, 1) := by decide +kernel
theorem dX7_addNumber_9 : decode cX7_addNumber 9 = .ok (.iload_n 1, 1) := by decide +kernel
theorem dX7_addNumber_10 : decode cX7_addNumber 10 = .ok (.bipush 16, 2) := by decide +kernel
theorem dX7_addNumber_12 : decode cX7_addNumber 12 = .ok (.iushr, 1) := by decide +kernel
theorem dX7_addNumber_13 : decode cX7_addNumber 13 = .ok (.invokevirtual 15, 3) := by decide +kernel
theorem dX7_addNumber_16 : decode cX7_addNumber 16 = .ok (.aload_n 0, 1) := by decide +kernel
theorem dX7_addNumber_17 : decode cX7_addNumber 17 = .ok (.iload_n 1, 1) := by decide +kernel
theorem dX7_addNumber_18 : decode cX7_addNumber 18 = .ok (.bipush 8, 2) := by decide +kernel
theorem dX7_addNumber_20 : decode cX7_addNumber 20 = .ok (.iushr, 1) := by decide +kernel
theorem dX7_addNumber_21 : decode cX7_addNumber 21 = .ok (.invokevirtual 15, 3) := by decide +kernel
theorem dX7_addNumber_24 : decode cX7_addNumber 24 = .ok (.aload_n 0, 1) := by decide +kernel
theorem dX7_addNumber_25 : decode cX7_addNumber 25 = .ok (.iload_n 1, 1) := by decide +kernel
theorem dX7_addNumber_26 : decode cX7_addNumber 26 = .ok (.invokevirtual 15, 3) := by decide +kernel
theorem dX7_addNumber_29 : decode cX7_addNumber 29 = .ok (.return_, 1) := by decide +kernel
theorem dX7_addByte_0 : decode cX7_addByte 0 = .ok (.aload_n 0, 1) := by decide +kernel
theorem dX7_addByte_1 : decode cX7_addByte 1 = .ok (.getfield 19, 3) := by decide +kernel
theorem dX7_addByte_4 : decode cX7_addByte 4 = .ok (.ifCond .lt 36, 3) := by decide +kernel
theorem dX7_addByte_7 : decode cX7_addByte 7 = .ok (.aload_n 0, 1) := by decide +kernel
theorem dX7_addByte_8 : decode cX7_addByte 8 = .ok (.getfield 19, 3) := by decide +kernel
theorem dX7_addByte_11 : decode cX7_addByte 11 = .ok (.aload_n 0, 1) := by decide +kernel
theorem dX7_addByte_12 : decode cX7_addByte 12 = .ok (.getfield 9, 3) := by decide +kernel
theorem dX7_addByte_15 : decode cX7_addByte 15 = .ok (.arraylength, 1) := by decide +kernel
theorem dX7_addByte_16 : decode cX7_addByte 16 = .ok (.if_icmp .ge 24, 3) := by decide +kernel
theorem dX7_addByte_19 : decode cX7_addByte 19 = .ok (.aload_n 0, 1) := by decide +kernel
theorem dX7_addByte_20 : decode cX7_addByte 20 = .ok (.getfield 9, 3) := by decide +kernel
theorem dX7_addByte_23 : decode cX7_addByte 23 = .ok (.aload_n 0, 1) := by decide +kernel
theorem dX7_addByte_24 : decode cX7_addByte 24 = .ok (.getfield 19, 3) := by decide +kernel
theorem dX7_addByte_27 : decode cX7_addByte 27 = .ok (.iload_n 1, 1) := by decide +kernel
theorem dX7_addByte_28 : decode cX7_addByte 28 = .ok (.i2b, 1) := by decide +kernel
theorem dX7_addByte_29 : decode cX7_addByte 29 = .ok (.bastore, 1) := by decide +kernel
theorem dX7_addByte_30 : decode cX7_addByte 30 = .ok (.aload_n 0, 1) := by decide +kernel
theorem dX7_addByte_31 : decode cX7_addByte 31 = .ok (.dup, 1) := by decide +kernel
theorem dX7_addByte_32 : decode cX7_addByte 32 = .ok (.getfield 19, 3) := by decide +kernel
theorem dX7_addByte_35 : decode cX7_addByte 35 = .ok (.iconst 1, 1) := by decide +kernel
theorem dX7_addByte_36 : decode cX7_addByte 36 = .ok (.iadd, 1) := by decide +kernel
theorem dX7_addByte_37 : decode cX7_addByte 37 = .ok (.putfield 19, 3) := by decide +kernel
theorem dX7_addByte_40 : decode cX7_addByte 40 = .ok (.return_, 1) := by decide +kernel
theorem dX7_byteAt_0 : decode cX7_byteAt 0 = .ok (.iload_n 1, 1) := by decide +kernel
theorem dX7_byteAt_1 : decode cX7_byteAt 1 = .ok (.ifCond .lt 20, 3) := by decide +kernel
theorem dX7_byteAt_4 : decode cX7_byteAt 4 = .ok (.iload_n 1, 1) := by decide +kernel
theorem dX7_byteAt_5 : decode cX7_byteAt 5 = .ok (.aload_n 0, 1) := by decide +kernel
theorem dX7_byteAt_6 : decode cX7_byteAt 6 = .ok (.getfield 19, 3) := by decide +kernel
theorem dX7_byteAt_9 : decode cX7_byteAt 9 = .ok (.if_icmp .ge 12, 3) := by decide +kernel
theorem dX7_byteAt_12 : decode cX7_byteAt 12 = .ok (.iload_n 1, 1) := by decide +kernel
theorem dX7_byteAt_13 : decode cX7_byteAt 13 = .ok (.aload_n 0, 1) := by decide +kernel
theorem dX7_byteAt_14 : decode cX7_byteAt 14 = .ok (.getfield 9, 3) := by decide +kernel
theorem dX7_byteAt_17 : decode cX7_byteAt 17 = .ok (.arraylength, 1) := by decide +kernel
theorem dX7_byteAt_18 : decode cX7_byteAt 18 = .ok (.if_icmp .lt 5, 3) := by decide +kernel
theorem dX7_byteAt_21 : decode cX7_byteAt 21 = .ok (.iconst 0, 1) := by decide +kernel
theorem dX7_byteAt_22 : decode cX7_byteAt 22 = .ok (.ireturn, 1) := by decide +kernel
theorem dX7_byteAt_23 : decode cX7_byteAt 23 = .ok (.aload_n 0, 1) := by decide +kernel
theorem dX7_byteAt_24 : decode cX7_byteAt 24 = .ok (.getfield 9, 3) := by decide +kernel
theorem dX7_byteAt_27 : decode cX7_byteAt 27 = .ok (.iload_n 1, 1) := by decide +kernel
theorem dX7_byteAt_28 : decode cX7_byteAt 28 = .ok (.baload, 1) := by decide +kernel
theorem dX7_byteAt_29 : decode cX7_byteAt 29 = .ok (.sipush 255, 3) := by decide +kernel
theorem dX7_byteAt_32 : decode cX7_byteAt 32 = .ok (.iand, 1) := by decide +kernel
theorem dX7_byteAt_33 : decode cX7_byteAt 33 = .ok (.ireturn, 1) := by decide +kernel
theorem dJ0_length_8abf5_0 : decode cJ0_length_8abf5 0 = .ok (.aload_n 0, 1) := by decide +kernel
theorem dJ0_length_8abf5_1 : decode cJ0_length_8abf5 1 = .ok (.getfield 9, 3) := by decide +kernel
theorem dJ0_length_8abf5_4 : decode cJ0_length_8abf5 4 = .ok (.arraylength, 1) := by decide +kernel
theorem dJ0_length_8abf5_5 : decode cJ0_length_8abf5 5 = .ok (.aload_n 0, 1) := by decide +kernel
theorem dJ0_length_8abf5_6 : decode cJ0_length_8abf5 6 = .ok (.invokevirtual 335, 3) := by decide +kernel
theorem dJ0_length_8abf5_9 : decode cJ0_length_8abf5 9 = .ok (.ishr, 1) := by decide +kernel
theorem dJ0_length_8abf5_10 : decode cJ0_length_8abf5 10 = .ok (.ireturn, 1) := by decide +kernel
theorem dJ0_charAt_5068e_0 : decode cJ0_charAt_5068e 0 = .ok (.aload_n 0, 1) := by decide +kernel
theorem dJ0_charAt_5068e_1 : decode cJ0_charAt_5068e 1 = .ok (.invokevirtual 492, 3) := by decide +kernel
theorem dJ0_charAt_5068e_4 : decode cJ0_charAt_5068e 4 = .ok (.ifCond .eq 12, 3) := by decide +kernel
theorem dJ0_charAt_5068e_7 : decode cJ0_charAt_5068e 7 = .ok (.aload_n 0, 1) := by decide +kernel
theorem dJ0_charAt_5068e_8 : decode cJ0_charAt_5068e 8 = .ok (.getfield 9, 3) := by decide +kernel
theorem dJ0_charAt_5068e_11 : decode cJ0_charAt_5068e 11 = .ok (.iload_n 1, 1) := by decide +kernel
theorem dJ0_charAt_5068e_12 : decode cJ0_charAt_5068e 12 = .ok (.invokestatic 495, 3) := by decide +kernel
theorem dJ0_charAt_5068e_15 : decode cJ0_charAt_5068e 15 = .ok (.ireturn, 1) := by decide +kernel
theorem dJ0_charAt_5068e_16 : decode cJ0_charAt_5068e 16 = .ok (.aload_n 0, 1) := by decide +kernel
theorem dJ0_charAt_5068e_17 : decode cJ0_charAt_5068e 17 = .ok (.getfield 9, 3) := by decide +kernel
theorem dJ0_charAt_5068e_20 : decode cJ0_charAt_5068e 20 = .ok (.iload_n 1, 1) := by decide +kernel
theorem dJ0_charAt_5068e_21 : decode cJ0_charAt_5068e 21 = .ok (.invokestatic 498, 3) := by decide +kernel
theorem dJ0_charAt_5068e_24 : decode cJ0_charAt_5068e 24 = .ok (.ireturn, 1) := by decide +kernel
theorem dJ0_coder_7d493_0 : decode cJ0_coder_7d493 0 = .ok (.getstatic 38, 3) := by decide +kernel
theorem dJ0_coder_7d493_3 : decode cJ0_coder_7d493 3 = .ok (.ifCond .eq 10, 3) := by decide +kernel
theorem dJ0_coder_7d493_6 : decode cJ0_coder_7d493 6 = .ok (.aload_n 0, 1) := by decide +kernel
theorem dJ0_coder_7d493_7 : decode cJ0_coder_7d493 7 = .ok (.getfield 15, 3) := by decide +kernel
theorem dJ0_coder_7d493_10 : decode cJ0_coder_7d493 10 = .ok (.goto 4, 3) := by decide +kernel
theorem dJ0_coder_7d493_13 : decode cJ0_coder_7d493 13 = .ok (.iconst 1, 1) := by decide +kernel
theorem dJ0_coder_7d493_14 : decode cJ0_coder_7d493 14 = .ok (.ireturn, 1) := by decide +kernel
theorem dJ0_isLatin1_aae02_0 : decode cJ0_isLatin1_aae02 0 = .ok (.getstatic 38, 3) := by decide +kernel
theorem dJ0_isLatin1_aae02_3 : decode cJ0_isLatin1_aae02 3 = .ok (.ifCond .eq 14, 3) := by decide +kernel
theorem dJ0_isLatin1_aae02_6 : decode cJ0_isLatin1_aae02 6 = .ok (.aload_n 0, 1) := by decide +kernel
theorem dJ0_isLatin1_aae02_7 : decode cJ0_isLatin1_aae02 7 = .ok (.getfield 15, 3) := by decide +kernel
theorem dJ0_isLatin1_aae02_10 : decode cJ0_isLatin1_aae02 10 = .ok (.ifCond .ne 7, 3) := by decide +kernel
theorem dJ0_isLatin1_aae02_13 : decode cJ0_isLatin1_aae02 13 = .ok (.iconst 1, 1) := by decide +kernel
theorem dJ0_isLatin1_aae02_14 : decode cJ0_isLatin1_aae02 14 = .ok (.goto 4, 3) := by decide +kernel
theorem dJ0_isLatin1_aae02_17 : decode cJ0_isLatin1_aae02 17 = .ok (.iconst 0, 1) := by decide +kernel
theorem dJ0_isLatin1_aae02_18 : decode cJ0_isLatin1_aae02 18 = .ok (.ireturn, 1) := by decide +kernel
theorem dJ0_checkIndex_df160_0 : decode cJ0_checkIndex_df160 0 = .ok (.iload_n 0, 1) := by decide +kernel
theorem dJ0_checkIndex_df160_1 : decode cJ0_checkIndex_df160 1 = .ok (.iload_n 1, 1) := by decide +kernel
theorem dJ0_checkIndex_df160_2 : decode cJ0_checkIndex_df160 2 = .ok (.getstatic 1053, 3) := by decide +kernel
theorem dJ0_checkIndex_df160_5 : decode cJ0_checkIndex_df160 5 = .ok (.invokestatic 1059, 3) := by decide +kernel
theorem dJ0_checkIndex_df160_8 : decode cJ0_checkIndex_df160 8 = .ok (.pop, 1) := by decide +kernel
theorem dJ0_checkIndex_df160_9 : decode cJ0_checkIndex_df160 9 = .ok (.return_, 1) := by decide +kernel
theorem dJ1_charAt_3b067_0 : decode cJ1_charAt_3b067 0 = .ok (.iload_n 1, 1) := by decide +kernel
theorem dJ1_charAt_3b067_1 : decode cJ1_charAt_3b067 1 = .ok (.aload_n 0, 1) := by decide +kernel
theorem dJ1_charAt_3b067_2 : decode cJ1_charAt_3b067 2 = .ok (.arraylength, 1) := by decide +kernel
theorem dJ1_charAt_3b067_3 : decode cJ1_charAt_3b067 3 = .ok (.invokestatic 9, 3) := by decide +kernel
theorem dJ1_charAt_3b067_6 : decode cJ1_charAt_3b067 6 = .ok (.aload_n 0, 1) := by decide +kernel
theorem dJ1_charAt_3b067_7 : decode cJ1_charAt_3b067 7 = .ok (.iload_n 1, 1) := by decide +kernel
theorem dJ1_charAt_3b067_8 : decode cJ1_charAt_3b067 8 = .ok (.baload, 1) := by decide +kernel
theorem dJ1_charAt_3b067_9 : decode cJ1_charAt_3b067 9 = .ok (.sipush 255, 3) := by decide +kernel
theorem dJ1_charAt_3b067_12 : decode cJ1_charAt_3b067 12 = .ok (.iand, 1) := by decide +kernel
theorem dJ1_charAt_3b067_13 : decode cJ1_charAt_3b067 13 = .ok (.i2c, 1) := by decide +kernel
theorem dJ1_charAt_3b067_14 : decode cJ1_charAt_3b067 14 = .ok (.ireturn, 1) := by decide +kernel
theorem dJ3_checkIndex_8e157_0 : decode cJ3_checkIndex_8e157 0 = .ok (.iload_n 0, 1) := by decide +kernel
theorem dJ3_checkIndex_8e157_1 : decode cJ3_checkIndex_8e157 1 = .ok (.ifCond .lt 8, 3) := by decide +kernel
theorem dJ3_checkIndex_8e157_4 : decode cJ3_checkIndex_8e157 4 = .ok (.iload_n 0, 1) := by decide +kernel
theorem dJ3_checkIndex_8e157_5 : decode cJ3_checkIndex_8e157 5 = .ok (.iload_n 1, 1) := by decide +kernel
theorem dJ3_checkIndex_8e157_6 : decode cJ3_checkIndex_8e157 6 = .ok (.if_icmp .lt 10, 3) := by decide +kernel
theorem dJ3_checkIndex_8e157_9 : decode cJ3_checkIndex_8e157 9 = .ok (.aload_n 2, 1) := by decide +kernel
theorem dJ3_checkIndex_8e157_10 : decode cJ3_checkIndex_8e157 10 = .ok (.iload_n 0, 1) := by decide +kernel
theorem dJ3_checkIndex_8e157_11 : decode cJ3_checkIndex_8e157 11 = .ok (.iload_n 1, 1) := by decide +kernel
theorem dJ3_checkIndex_8e157_12 : decode cJ3_checkIndex_8e157 12 = .ok (.invokestatic 95, 3) := by decide +kernel
theorem dJ3_checkIndex_8e157_15 : decode cJ3_checkIndex_8e157 15 = .ok (.athrow, 1) := by decide +kernel
theorem dJ3_checkIndex_8e157_16 : decode cJ3_checkIndex_8e157 16 = .ok (.iload_n 0, 1) := by decide +kernel
theorem dJ3_checkIndex_8e157_17 : decode cJ3_checkIndex_8e157 17 = .ok (.ireturn, 1) := by decide +kernel
end
section
theorem dX8_init_0 : decode cX8_init 0 = .ok (.aload_n 0, 1) := by decide +kernel
theorem dX8_init_1 : decode cX8_init 1 = .ok (.invokespecial 3, 3) := by decide +kernel
theorem dX8_init_4 : decode cX8_init 4 = .ok (.aload_n 0, 1) := by decide +kernel
theorem dX8_init_5 : decode cX8_init 5 = .ok (.new 9, 3) := by decide +kernel
theorem dX8_init_8 : decode cX8_init 8 = .ok (.dup, 1) := by decide +kernel
theorem dX8_init_9 : decode cX8_init 9 = .ok (.invokespecial 11, 3) := by decide +kernel
theorem dX8_init_12 : decode cX8_init 12 = .ok (.putfield 12, 3) := by decide +kernel
theorem dX8_init_15 : decode cX8_init 15 = .ok (.aload_n 0, 1) := by decide +kernel
theorem dX8_init_16 : decode cX8_init 16 = .ok (.new 16, 3) := by decide +kernel
theorem dX8_init_19 : decode cX8_init 19 = .ok (.dup, 1) := by decide +kernel
theorem dX8_init_20 : decode cX8_init 20 = .ok (.aload_n 0, 1) := by decide +kernel
theorem dX8_init_21 : decode cX8_init 21 = .ok (.getfield 12, 3) := by decide +kernel
theorem dX8_init_24 : decode cX8_init 24 = .ok (.invokespecial 18, 3) := by decide +kernel
theorem dX8_init_27 : decode cX8_init 27 = .ok (.putfield 21, 3) := by decide +kernel
theorem dX8_init_30 : decode cX8_init 30 = .ok (.aload_n 0, 1) := by decide +kernel
theorem dX8_init_31 : decode cX8_init 31 = .ok (.new 25, 3) := by decide +kernel
theorem dX8_init_34 : decode cX8_init 34 = .ok (.dup, 1) := by decide +kernel
theorem dX8_init_35 : decode cX8_init 35 = .ok (.invokespecial 27, 3) := by decide +kernel
theorem dX8_init_38 : decode cX8_init 38 = .ok (.putfield 28, 3) := by decide +kernel
theorem dX8_init_41 : decode cX8_init 41 = .ok (.aload_n 0, 1) := by decide +kernel
theorem dX8_init_42 : decode cX8_init 42 = .ok (.new 32, 3) := by decide +kernel
theorem dX8_init_45 : decode cX8_init 45 = .ok (.dup, 1) := by decide +kernel
theorem dX8_init_46 : decode cX8_init 46 = .ok (.invokespecial 34, 3) := by decide +kernel
theorem dX8_init_49 : decode cX8_init 49 = .ok (.putfield 35, 3) := by decide +kernel
theorem dX8_init_52 : decode cX8_init 52 = .ok (.aload_n 0, 1) := by decide +kernel
theorem dX8_init_53 : decode cX8_init 53 = .ok (.new 32, 3) := by decide +kernel
theorem dX8_init_56 : decode cX8_init 56 = .ok (.dup, 1) := by decide +kernel
theorem dX8_init_57 : decode cX8_init 57 = .ok (.invokespecial 34, 3) := by decide +kernel
theorem dX8_init_60 : decode cX8_init 60 = .ok (.putfield 39, 3) := by decide +kernel
theorem dX8_init_63 : decode cX8_init 63 = .ok (.aload_n 0, 1) := by decide +kernel
theorem dX8_init_64 : decode cX8_init 64 = .ok (.new 42, 3) := by decide +kernel
theorem dX8_init_67 : decode cX8_init 67 = .ok (.dup, 1) := by decide +kernel
theorem dX8_init_68 : decode cX8_init 68 = .ok (.invokespecial 44, 3) := by decide +kernel
theorem dX8_init_71 : decode cX8_init 71 = .ok (.putfield 45, 3) := by decide +kernel
theorem dX8_init_74 : decode cX8_init 74 = .ok (.aload_n 0, 1) := by decide +kernel
theorem dX8_init_75 : decode cX8_init 75 = .ok (.new 49, 3) := by decide +kernel
theorem dX8_init_78 : decode cX8_init 78 = .ok (.dup, 1) := by decide +kernel
theorem dX8_init_79 : decode cX8_init 79 = .ok (.invokespecial 51, 3) := by decide +kernel
theorem dX8_init_82 : decode cX8_init 82 = .ok (.putfield 52, 3) := by decide +kernel
theorem dX8_init_85 : decode cX8_init 85 = .ok (.aload_n 0, 1) := by decide +kernel
theorem dX8_init_86 : decode cX8_init 86 = .ok (.new 49, 3) := by decide +kernel
theorem dX8_init_89 : decode cX8_init 89 = .ok (.dup, 1) := by decide +kernel
theorem dX8_init_90 : decode cX8_init 90 = .ok (.invokespecial 51, 3) := by decide +kernel
theorem dX8_init_93 : decode cX8_init 93 = .ok (.putfield 56, 3) := by decide +kernel
theorem dX8_init_96 : decode cX8_init 96 = .ok (.aload_n 0, 1) := by decide +kernel
theorem dX8_init_97 : decode cX8_init 97 = .ok (.iconst 0, 1) := by decide +kernel
theorem dX8_init_98 : decode cX8_init 98 = .ok (.putfield 59, 3) := by decide +kernel
theorem dX8_init_101 : decode cX8_init 101 = .ok (.return_, 1) := by decide +kernel
theorem dX8_feed_0 : decode cX8_feed 0 = .ok (.aload_n 0, 1) := by decide +kernel
theorem dX8_feed_1 : decode cX8_feed 1 = .ok (.getfield 12, 3) := by decide +kernel
theorem dX8_feed_4 : decode cX8_feed 4 = .ok (.getfield 63, 3) := by decide +kernel
theorem dX8_feed_7 : decode cX8_feed 7 = .ok (.sipush 820, 3) := by decide +kernel
theorem dX8_feed_10 : decode cX8_feed 10 = .ok (.if_icmp .le 5, 3) := by decide +kernel
theorem dX8_feed_13 : decode cX8_feed 13 = .ok (.iconst (-1), 1) := by decide +kernel
theorem dX8_feed_14 : decode cX8_feed 14 = .ok (.ireturn, 1) := by decide +kernel
theorem dX8_feed_15 : decode cX8_feed 15 = .ok (.aload_n 0, 1) := by decide +kernel
theorem dX8_feed_16 : decode cX8_feed 16 = .ok (.getfield 12, 3) := by decide +kernel
theorem dX8_feed_19 : decode cX8_feed 19 = .ok (.iload_n 1, 1) := by decide +kernel
theorem dX8_feed_20 : decode cX8_feed 20 = .ok (.invokevirtual 66, 3) := by decide +kernel
theorem dX8_feed_23 : decode cX8_feed 23 = .ok (.aload_n 0, 1) := by decide +kernel
theorem dX8_feed_24 : decode cX8_feed 24 = .ok (.getfield 12, 3) := by decide +kernel
theorem dX8_feed_27 : decode cX8_feed 27 = .ok (.iload_n 2, 1) := by decide +kernel
theorem dX8_feed_28 : decode cX8_feed 28 = .ok (.invokevirtual 66, 3) := by decide +kernel
theorem dX8_feed_31 : decode cX8_feed 31 = .ok (.aload_n 0, 1) := by decide +kernel
theorem dX8_feed_32 : decode cX8_feed 32 = .ok (.getfield 12, 3) := by decide +kernel
theorem dX8_feed_35 : decode cX8_feed 35 = .ok (.iload_n 3, 1) := by decide +kernel
theorem dX8_feed_36 : decode cX8_feed 36 = .ok (.invokevirtual 66, 3) := by decide +kernel
theorem dX8_feed_39 : decode cX8_feed 39 = .ok (.aload_n 0, 1) := by decide +kernel
theorem dX8_feed_40 : decode cX8_feed 40 = .ok (.getfield 12, 3) := by decide +kernel
theorem dX8_feed_43 : decode cX8_feed 43 = .ok (.iload 4, 2) := by decide +kernel
theorem dX8_feed_45 : decode cX8_feed 45 = .ok (.invokevirtual 66, 3) := by decide +kernel
theorem dX8_feed_48 : decode cX8_feed 48 = .ok (.aload_n 0, 1) := by decide +kernel
theorem dX8_feed_49 : decode cX8_feed 49 = .ok (.getfield 12, 3) := by decide +kernel
theorem dX8_feed_52 : decode cX8_feed 52 = .ok (.iload 5, 2) := by decide +kernel
theorem dX8_feed_54 : decode cX8_feed 54 = .ok (.invokevirtual 66, 3) := by decide +kernel
theorem dX8_feed_57 : decode cX8_feed 57 = .ok (.aload_n 0, 1) := by decide +kernel
theorem dX8_feed_58 : decode cX8_feed 58 = .ok (.getfield 12, 3) := by decide +kernel
theorem dX8_feed_61 : decode cX8_feed 61 = .ok (.getfield 63, 3) := by decide +kernel
theorem dX8_feed_64 : decode cX8_feed 64 = .ok (.ireturn, 1) := by decide +kernel
theorem dX8_end_0 : decode cX8_end 0 = .ok (.iload_n 1, 1) := by decide +kernel
theorem dX8_end_1 : decode cX8_end 1 = .ok (.ifCond .lt 14, 3) := by decide +kernel
theorem dX8_end_4 : decode cX8_end 4 = .ok (.iload_n 1, 1) := by decide +kernel
theorem dX8_end_5 : decode cX8_end 5 = .ok (.aload_n 0, 1) := by decide +kernel
theorem dX8_end_6 : decode cX8_end 6 = .ok (.getfield 12, 3) := by decide +kernel
theorem dX8_end_9 : decode cX8_end 9 = .ok (.getfield 63, 3) := by decide +kernel
theorem dX8_end_12 : decode cX8_end 12 = .ok (.if_icmp .le 5, 3) := by decide +kernel
theorem dX8_end_15 : decode cX8_end 15 = .ok (.iconst 0, 1) := by decide +kernel
theorem dX8_end_16 : decode cX8_end 16 = .ok (.ireturn, 1) := by decide +kernel
theorem dX8_end_17 : decode cX8_end 17 = .ok (.aload_n 0, 1) := by decide +kernel
theorem dX8_end_18 : decode cX8_end 18 = .ok (.getfield 12, 3) := by decide +kernel
theorem dX8_end_21 : decode cX8_end 21 = .ok (.iload_n 1, 1) := by decide +kernel
theorem dX8_end_22 : decode cX8_end 22 = .ok (.putfield 63, 3) := by decide +kernel
theorem dX8_end_25 : decode cX8_end 25 = .ok (.iconst 1, 1) := by decide +kernel
theorem dX8_end_26 : decode cX8_end 26 = .ok (.ireturn, 1) := by decide +kernel
theorem dX8_text_0 : decode cX8_text 0 = .ok (.aload_n 0, 1) := by decide +kernel
theorem dX8_text_1 : decode cX8_text 1 = .ok (.getfield 21, 3) := by decide +kernel
theorem dX8_text_4 : decode cX8_text 4 = .ok (.aload_n 0, 1) := by decide +kernel
theorem dX8_text_5 : decode cX8_text 5 = .ok (.getfield 56, 3) := by decide +kernel
theorem dX8_text_8 : decode cX8_text 8 = .ok (.invokevirtual 70, 3) := by decide +kernel
theorem dX8_text_11 : decode cX8_text 11 = .ok (.istore_n 1, 1) := by decide +kernel
theorem dX8_text_12 : decode cX8_text 12 = .ok (.aload_n 0, 1) := by decide +kernel
theorem dX8_text_13 : decode cX8_text 13 = .ok (.getfield 12, 3) := by decide +kernel
theorem dX8_text_16 : decode cX8_text 16 = .ok (.iconst 0, 1) := by decide +kernel
theorem dX8_text_17 : decode cX8_text 17 = .ok (.putfield 63, 3) := by decide +kernel
theorem dX8_text_20 : decode cX8_text 20 = .ok (.aload_n 0, 1) := by decide +kernel
theorem dX8_text_21 : decode cX8_text 21 = .ok (.aload_n 0, 1) := by decide +kernel
theorem dX8_text_22 : decode cX8_text 22 = .ok (.getfield 21, 3) := by decide +kernel
theorem dX8_text_25 : decode cX8_text 25 = .ok (.getfield 74, 3) := by decide +kernel
theorem dX8_text_28 : decode cX8_text 28 = .ok (.putfield 59, 3) := by decide +kernel
theorem dX8_text_31 : decode cX8_text 31 = .ok (.iload_n 1, 1) := by decide +kernel
theorem dX8_text_32 : decode cX8_text 32 = .ok (.ifCond .ne 13, 3) := by decide +kernel
theorem dX8_text_35 : decode cX8_text 35 = .ok (.iconst (-1), 1) := by decide +kernel
theorem dX8_text_36 : decode cX8_text 36 = .ok (.aload_n 0, 1) := by decide +kernel
theorem dX8_text_37 : decode cX8_text 37 = .ok (.getfield 21, 3) := by decide +kernel
theorem dX8_text_40 : decode cX8_text 40 = .ok (.getfield 77, 3) := by decide +kernel
theorem dX8_text_43 : decode cX8_text 43 = .ok (.isub, 1) := by decide +kernel
theorem dX8_text_44 : decode cX8_text 44 = .ok (.ireturn, 1) := by decide +kernel
theorem dX8_text_45 : decode cX8_text 45 = .ok (.aload_n 0, 1) := by decide +kernel
theorem dX8_text_46 : decode cX8_text 46 = .ok (.getfield 56, 3) := by decide +kernel
theorem dX8_text_49 : decode cX8_text 49 = .ok (.astore_n 2, 1) := by decide +kernel
theorem dX8_text_50 : decode cX8_text 50 = .ok (.aload_n 0, 1) := by decide +kernel
theorem dX8_text_51 : decode cX8_text 51 = .ok (.aload_n 0, 1) := by decide +kernel
theorem dX8_text_52 : decode cX8_text 52 = .ok (.getfield 52, 3) := by decide +kernel
theorem dX8_text_55 : decode cX8_text 55 = .ok (.putfield 56, 3) := by decide +kernel
theorem dX8_text_58 : decode cX8_text 58 = .ok (.aload_n 0, 1) := by decide +kernel
theorem dX8_text_59 : decode cX8_text 59 = .ok (.aload_n 2, 1) := by decide +kernel
theorem dX8_text_60 : decode cX8_text 60 = .ok (.putfield 52, 3) := by decide +kernel
theorem dX8_text_63 : decode cX8_text 63 = .ok (.aload_n 0, 1) := by decide +kernel
theorem dX8_text_64 : decode cX8_text 64 = .ok (.getfield 45, 3) := by decide +kernel
theorem dX8_text_67 : decode cX8_text 67 = .ok (.iconst 0, 1) := by decide +kernel
theorem dX8_text_68 : decode cX8_text 68 = .ok (.putfield 80, 3) := by decide +kernel
theorem dX8_text_71 : decode cX8_text 71 = .ok (.aload_n 0, 1) := by decide +kernel
theorem dX8_text_72 : decode cX8_text 72 = .ok (.getfield 28, 3) := by decide +kernel
theorem dX8_text_75 : decode cX8_text 75 = .ok (.aload_n 0, 1) := by decide +kernel
theorem dX8_text_76 : decode cX8_text 76 = .ok (.getfield 52, 3) := by decide +kernel
theorem dX8_text_79 : decode cX8_text 79 = .ok (.invokevirtual 83, 3) := by decide +kernel
theorem dX8_text_82 : decode cX8_text 82 = .ok (.aload_n 0, 1) := by decide +kernel
theorem dX8_text_83 : decode cX8_text 83 = .ok (.invokevirtual 87, 3) := by decide +kernel
theorem dX8_text_86 : decode cX8_text 86 = .ok (.aload_n 0, 1) := by decide +kernel
theorem dX8_text_87 : decode cX8_text 87 = .ok (.getfield 21, 3) := by decide +kernel
theorem dX8_text_90 : decode cX8_text 90 = .ok (.getfield 90, 3) := by decide +kernel
theorem dX8_text_93 : decode cX8_text 93 = .ok (.ireturn, 1) := by decide +kernel
theorem dX8_fault_0 : decode cX8_fault 0 = .ok (.aload_n 0, 1) := by decide +kernel
theorem dX8_fault_1 : decode cX8_fault 1 = .ok (.getfield 59, 3) := by decide +kernel
theorem dX8_fault_4 : decode cX8_fault 4 = .ok (.ireturn, 1) := by decide +kernel
theorem dX8_now_0 : decode cX8_now 0 = .ok (.iload_n 1, 1) := by decide +kernel
theorem dX8_now_1 : decode cX8_now 1 = .ok (.tableswitch 176 0 11 #[63, 71, 79, 87, 95, 103, 121, 139, 147, 152, 160, 168], 63) := by decide +kernel
theorem dX8_now_64 : decode cX8_now 64 = .ok (.aload_n 0, 1) := by decide +kernel
theorem dX8_now_65 : decode cX8_now 65 = .ok (.getfield 52, 3) := by decide +kernel
theorem dX8_now_68 : decode cX8_now 68 = .ok (.getfield 93, 3) := by decide +kernel
theorem dX8_now_71 : decode cX8_now 71 = .ok (.ireturn, 1) := by decide +kernel
theorem dX8_now_72 : decode cX8_now 72 = .ok (.aload_n 0, 1) := by decide +kernel
theorem dX8_now_73 : decode cX8_now 73 = .ok (.getfield 52, 3) := by decide +kernel
theorem dX8_now_76 : decode cX8_now 76 = .ok (.getfield 96, 3) := by decide +kernel
theorem dX8_now_79 : decode cX8_now 79 = .ok (.ireturn, 1) := by decide +kernel
theorem dX8_now_80 : decode cX8_now 80 = .ok (.aload_n 0, 1) := by decide +kernel
theorem dX8_now_81 : decode cX8_now 81 = .ok (.getfield 52, 3) := by decide +kernel
theorem dX8_now_84 : decode cX8_now 84 = .ok (.getfield 99, 3) := by decide +kernel
theorem dX8_now_87 : decode cX8_now 87 = .ok (.ireturn, 1) := by decide +kernel
theorem dX8_now_88 : decode cX8_now 88 = .ok (.aload_n 0, 1) := by decide +kernel
theorem dX8_now_89 : decode cX8_now 89 = .ok (.getfield 52, 3) := by decide +kernel
theorem dX8_now_92 : decode cX8_now 92 = .ok (.getfield 102, 3) := by decide +kernel
theorem dX8_now_95 : decode cX8_now 95 = .ok (.ireturn, 1) := by decide +kernel
theorem dX8_now_96 : decode cX8_now 96 = .ok (.aload_n 0, 1) := by decide +kernel
theorem dX8_now_97 : decode cX8_now 97 = .ok (.getfield 52, 3) := by decide +kernel
theorem dX8_now_100 : decode cX8_now 100 = .ok (.getfield 105, 3) := by decide +kernel
theorem dX8_now_103 : decode cX8_now 103 = .ok (.ireturn, 1) := by decide +kernel
theorem dX8_now_104 : decode cX8_now 104 = .ok (.aload_n 0, 1) := by decide +kernel
theorem dX8_now_105 : decode cX8_now 105 = .ok (.getfield 52, 3) := by decide +kernel
theorem dX8_now_108 : decode cX8_now 108 = .ok (.getfield 108, 3) := by decide +kernel
theorem dX8_now_111 : decode cX8_now 111 = .ok (.aload_n 0, 1) := by decide +kernel
theorem dX8_now_112 : decode cX8_now 112 = .ok (.getfield 52, 3) := by decide +kernel
theorem dX8_now_115 : decode cX8_now 115 = .ok (.getfield 99, 3) := by decide +kernel
theorem dX8_now_118 : decode cX8_now 118 = .ok (.invokestatic 112, 3) := by decide +kernel
theorem dX8_now_121 : decode cX8_now 121 = .ok (.ireturn, 1) := by decide +kernel
theorem dX8_now_122 : decode cX8_now 122 = .ok (.aload_n 0, 1) := by decide +kernel
theorem dX8_now_123 : decode cX8_now 123 = .ok (.getfield 35, 3) := by decide +kernel
theorem dX8_now_126 : decode cX8_now 126 = .ok (.getfield 116, 3) := by decide +kernel
theorem dX8_now_129 : decode cX8_now 129 = .ok (.aload_n 0, 1) := by decide +kernel
theorem dX8_now_130 : decode cX8_now 130 = .ok (.getfield 52, 3) := by decide +kernel
theorem dX8_now_133 : decode cX8_now 133 = .ok (.getfield 102, 3) := by decide +kernel
theorem dX8_now_136 : decode cX8_now 136 = .ok (.invokestatic 112, 3) := by decide +kernel
theorem dX8_now_139 : decode cX8_now 139 = .ok (.ireturn, 1) := by decide +kernel
theorem dX8_now_140 : decode cX8_now 140 = .ok (.aload_n 0, 1) := by decide +kernel
theorem dX8_now_141 : decode cX8_now 141 = .ok (.getfield 35, 3) := by decide +kernel
theorem dX8_now_144 : decode cX8_now 144 = .ok (.getfield 119, 3) := by decide +kernel
theorem dX8_now_147 : decode cX8_now 147 = .ok (.ireturn, 1) := by decide +kernel
theorem dX8_now_148 : decode cX8_now 148 = .ok (.aload_n 0, 1) := by decide +kernel
theorem dX8_now_149 : decode cX8_now 149 = .ok (.invokevirtual 122, 3) := by decide +kernel
theorem dX8_now_152 : decode cX8_now 152 = .ok (.ireturn, 1) := by decide +kernel
theorem dX8_now_153 : decode cX8_now 153 = .ok (.aload_n 0, 1) := by decide +kernel
theorem dX8_now_154 : decode cX8_now 154 = .ok (.getfield 28, 3) := by decide +kernel
theorem dX8_now_157 : decode cX8_now 157 = .ok (.getfield 126, 3) := by decide +kernel
theorem dX8_now_160 : decode cX8_now 160 = .ok (.ireturn, 1) := by decide +kernel
theorem dX8_now_161 : decode cX8_now 161 = .ok (.aload_n 0, 1) := by decide +kernel
theorem dX8_now_162 : decode cX8_now 162 = .ok (.getfield 45, 3) := by decide +kernel
theorem dX8_now_165 : decode cX8_now 165 = .ok (.getfield 80, 3) := by decide +kernel
theorem dX8_now_168 : decode cX8_now 168 = .ok (.ireturn, 1) := by decide +kernel
theorem dX8_now_169 : decode cX8_now 169 = .ok (.aload_n 0, 1) := by decide +kernel
theorem dX8_now_170 : decode cX8_now 170 = .ok (.getfield 12, 3) := by decide +kernel
theorem dX8_now_173 : decode cX8_now 173 = .ok (.getfield 63, 3) := by decide +kernel
theorem dX8_now_176 : decode cX8_now 176 = .ok (.ireturn, 1) := by decide +kernel
theorem dX8_now_177 : decode cX8_now 177 = .ok (.iconst (-1), 1) := by decide +kernel
theorem dX8_now_178 : decode cX8_now 178 = .ok (.ireturn, 1) := by decide +kernel
theorem dX8_direct_0 : decode cX8_direct 0 = .ok (.iload_n 1, 1) := by decide +kernel
theorem dX8_direct_1 : decode cX8_direct 1 = .ok (.aload_n 0, 1) := by decide +kernel
theorem dX8_direct_2 : decode cX8_direct 2 = .ok (.getfield 52, 3) := by decide +kernel
theorem dX8_direct_5 : decode cX8_direct 5 = .ok (.getfield 96, 3) := by decide +kernel
theorem dX8_direct_8 : decode cX8_direct 8 = .ok (.invokestatic 129, 3) := by decide +kernel
theorem dX8_direct_11 : decode cX8_direct 11 = .ok (.ifCond .eq 17, 3) := by decide +kernel
theorem dX8_direct_14 : decode cX8_direct 14 = .ok (.iload_n 2, 1) := by decide +kernel
theorem dX8_direct_15 : decode cX8_direct 15 = .ok (.aload_n 0, 1) := by decide +kernel
theorem dX8_direct_16 : decode cX8_direct 16 = .ok (.getfield 52, 3) := by decide +kernel
theorem dX8_direct_19 : decode cX8_direct 19 = .ok (.getfield 96, 3) := by decide +kernel
theorem dX8_direct_22 : decode cX8_direct 22 = .ok (.invokestatic 129, 3) := by decide +kernel
theorem dX8_direct_25 : decode cX8_direct 25 = .ok (.ifCond .ne 5, 3) := by decide +kernel
theorem dX8_direct_28 : decode cX8_direct 28 = .ok (.iconst (-1), 1) := by decide +kernel
theorem dX8_direct_29 : decode cX8_direct 29 = .ok (.ireturn, 1) := by decide +kernel
theorem dX8_direct_30 : decode cX8_direct 30 = .ok (.aload_n 0, 1) := by decide +kernel
theorem dX8_direct_31 : decode cX8_direct 31 = .ok (.getfield 52, 3) := by decide +kernel
theorem dX8_direct_34 : decode cX8_direct 34 = .ok (.iload_n 1, 1) := by decide +kernel
theorem dX8_direct_35 : decode cX8_direct 35 = .ok (.iload_n 2, 1) := by decide +kernel
theorem dX8_direct_36 : decode cX8_direct 36 = .ok (.invokevirtual 133, 3) := by decide +kernel
theorem dX8_direct_39 : decode cX8_direct 39 = .ok (.ireturn, 1) := by decide +kernel
theorem dX8_truck_0 : decode cX8_truck 0 = .ok (.iload_n 1, 1) := by decide +kernel
theorem dX8_truck_1 : decode cX8_truck 1 = .ok (.aload_n 0, 1) := by decide +kernel
theorem dX8_truck_2 : decode cX8_truck 2 = .ok (.getfield 52, 3) := by decide +kernel
theorem dX8_truck_5 : decode cX8_truck 5 = .ok (.getfield 99, 3) := by decide +kernel
theorem dX8_truck_8 : decode cX8_truck 8 = .ok (.invokestatic 129, 3) := by decide +kernel
theorem dX8_truck_11 : decode cX8_truck 11 = .ok (.ifCond .ne 5, 3) := by decide +kernel
theorem dX8_truck_14 : decode cX8_truck 14 = .ok (.iconst (-1), 1) := by decide +kernel
theorem dX8_truck_15 : decode cX8_truck 15 = .ok (.ireturn, 1) := by decide +kernel
theorem dX8_truck_16 : decode cX8_truck 16 = .ok (.iload_n 2, 1) := by decide +kernel
theorem dX8_truck_17 : decode cX8_truck 17 = .ok (.tableswitch 127 0 7 #[47, 57, 67, 73, 86, 99, 108, 114], 47) := by decide +kernel
theorem dX8_truck_64 : decode cX8_truck 64 = .ok (.aload_n 0, 1) := by decide +kernel
theorem dX8_truck_65 : decode cX8_truck 65 = .ok (.getfield 52, 3) := by decide +kernel
theorem dX8_truck_68 : decode cX8_truck 68 = .ok (.getfield 137, 3) := by decide +kernel
theorem dX8_truck_71 : decode cX8_truck 71 = .ok (.iload_n 1, 1) := by decide +kernel
theorem dX8_truck_72 : decode cX8_truck 72 = .ok (.iaload, 1) := by decide +kernel
theorem dX8_truck_73 : decode cX8_truck 73 = .ok (.ireturn, 1) := by decide +kernel
theorem dX8_truck_74 : decode cX8_truck 74 = .ok (.aload_n 0, 1) := by decide +kernel
theorem dX8_truck_75 : decode cX8_truck 75 = .ok (.getfield 52, 3) := by decide +kernel
theorem dX8_truck_78 : decode cX8_truck 78 = .ok (.getfield 108, 3) := by decide +kernel
theorem dX8_truck_81 : decode cX8_truck 81 = .ok (.iload_n 1, 1) := by decide +kernel
theorem dX8_truck_82 : decode cX8_truck 82 = .ok (.iaload, 1) := by decide +kernel
theorem dX8_truck_83 : decode cX8_truck 83 = .ok (.ireturn, 1) := by decide +kernel
theorem dX8_truck_84 : decode cX8_truck 84 = .ok (.aload_n 0, 1) := by decide +kernel
theorem dX8_truck_85 : decode cX8_truck 85 = .ok (.iload_n 1, 1) := by decide +kernel
theorem dX8_truck_86 : decode cX8_truck 86 = .ok (.invokevirtual 140, 3) := by decide +kernel
theorem dX8_truck_89 : decode cX8_truck 89 = .ok (.ireturn, 1) := by decide +kernel
theorem dX8_truck_90 : decode cX8_truck 90 = .ok (.aload_n 0, 1) := by decide +kernel
theorem dX8_truck_91 : decode cX8_truck 91 = .ok (.iload_n 1, 1) := by decide +kernel
theorem dX8_truck_92 : decode cX8_truck 92 = .ok (.aload_n 0, 1) := by decide +kernel
theorem dX8_truck_93 : decode cX8_truck 93 = .ok (.getfield 28, 3) := by decide +kernel
theorem dX8_truck_96 : decode cX8_truck 96 = .ok (.getfield 144, 3) := by decide +kernel
theorem dX8_truck_99 : decode cX8_truck 99 = .ok (.invokevirtual 147, 3) := by decide +kernel
theorem dX8_truck_102 : decode cX8_truck 102 = .ok (.ireturn, 1) := by decide +kernel
theorem dX8_truck_103 : decode cX8_truck 103 = .ok (.aload_n 0, 1) := by decide +kernel
theorem dX8_truck_104 : decode cX8_truck 104 = .ok (.iload_n 1, 1) := by decide +kernel
theorem dX8_truck_105 : decode cX8_truck 105 = .ok (.aload_n 0, 1) := by decide +kernel
theorem dX8_truck_106 : decode cX8_truck 106 = .ok (.getfield 28, 3) := by decide +kernel
theorem dX8_truck_109 : decode cX8_truck 109 = .ok (.getfield 151, 3) := by decide +kernel
theorem dX8_truck_112 : decode cX8_truck 112 = .ok (.invokevirtual 147, 3) := by decide +kernel
theorem dX8_truck_115 : decode cX8_truck 115 = .ok (.ireturn, 1) := by decide +kernel
theorem dX8_truck_116 : decode cX8_truck 116 = .ok (.aload_n 0, 1) := by decide +kernel
theorem dX8_truck_117 : decode cX8_truck 117 = .ok (.getfield 52, 3) := by decide +kernel
theorem dX8_truck_120 : decode cX8_truck 120 = .ok (.iload_n 1, 1) := by decide +kernel
theorem dX8_truck_121 : decode cX8_truck 121 = .ok (.invokevirtual 154, 3) := by decide +kernel
theorem dX8_truck_124 : decode cX8_truck 124 = .ok (.ireturn, 1) := by decide +kernel
theorem dX8_truck_125 : decode cX8_truck 125 = .ok (.aload_n 0, 1) := by decide +kernel
theorem dX8_truck_126 : decode cX8_truck 126 = .ok (.iload_n 1, 1) := by decide +kernel
theorem dX8_truck_127 : decode cX8_truck 127 = .ok (.invokevirtual 157, 3) := by decide +kernel
theorem dX8_truck_130 : decode cX8_truck 130 = .ok (.ireturn, 1) := by decide +kernel
theorem dX8_truck_131 : decode cX8_truck 131 = .ok (.aload_n 0, 1) := by decide +kernel
theorem dX8_truck_132 : decode cX8_truck 132 = .ok (.iload_n 1, 1) := by decide +kernel
theorem dX8_truck_133 : decode cX8_truck 133 = .ok (.aload_n 0, 1) := by decide +kernel
theorem dX8_truck_134 : decode cX8_truck 134 = .ok (.getfield 35, 3) := by decide +kernel
theorem dX8_truck_137 : decode cX8_truck 137 = .ok (.getfield 160, 3) := by decide +kernel
theorem dX8_truck_140 : decode cX8_truck 140 = .ok (.invokevirtual 147, 3) := by decide +kernel
theorem dX8_truck_143 : decode cX8_truck 143 = .ok (.ireturn, 1) := by decide +kernel
theorem dX8_truck_144 : decode cX8_truck 144 = .ok (.iconst (-1), 1) := by decide +kernel
theorem dX8_truck_145 : decode cX8_truck 145 = .ok (.ireturn, 1) := by decide +kernel
theorem dX8_load_0 : decode cX8_load 0 = .ok (.iload_n 1, 1) := by decide +kernel
theorem dX8_load_1 : decode cX8_load 1 = .ok (.aload_n 0, 1) := by decide +kernel
theorem dX8_load_2 : decode cX8_load 2 = .ok (.getfield 52, 3) := by decide +kernel
theorem dX8_load_5 : decode cX8_load 5 = .ok (.getfield 102, 3) := by decide +kernel
theorem dX8_load_8 : decode cX8_load 8 = .ok (.invokestatic 129, 3) := by decide +kernel
theorem dX8_load_11 : decode cX8_load 11 = .ok (.ifCond .ne 13, 3) := by decide +kernel
theorem dX8_load_14 : decode cX8_load 14 = .ok (.new 163, 3) := by decide +kernel
theorem dX8_load_17 : decode cX8_load 17 = .ok (.dup, 1) := by decide +kernel
theorem dX8_load_18 : decode cX8_load 18 = .ok (.ldc 165, 2) := by decide +kernel
theorem dX8_load_20 : decode cX8_load 20 = .ok (.invokespecial 167, 3) := by decide +kernel
theorem dX8_load_23 : decode cX8_load 23 = .ok (.athrow, 1) := by decide +kernel
theorem dX8_load_24 : decode cX8_load 24 = .ok (.iload_n 2, 1) := by decide +kernel
theorem dX8_load_25 : decode cX8_load 25 = .ok (.tableswitch 159 0 9 #[55, 65, 75, 85, 111, 117, 123, 133, 139, 149], 55) := by decide +kernel
theorem dX8_load_80 : decode cX8_load 80 = .ok (.aload_n 0, 1) := by decide +kernel
theorem dX8_load_81 : decode cX8_load 81 = .ok (.getfield 52, 3) := by decide +kernel
theorem dX8_load_84 : decode cX8_load 84 = .ok (.getfield 170, 3) := by decide +kernel
theorem dX8_load_87 : decode cX8_load 87 = .ok (.iload_n 1, 1) := by decide +kernel
theorem dX8_load_88 : decode cX8_load 88 = .ok (.iaload, 1) := by decide +kernel
theorem dX8_load_89 : decode cX8_load 89 = .ok (.ireturn, 1) := by decide +kernel
theorem dX8_load_90 : decode cX8_load 90 = .ok (.aload_n 0, 1) := by decide +kernel
theorem dX8_load_91 : decode cX8_load 91 = .ok (.getfield 52, 3) := by decide +kernel
theorem dX8_load_94 : decode cX8_load 94 = .ok (.getfield 173, 3) := by decide +kernel
theorem dX8_load_97 : decode cX8_load 97 = .ok (.iload_n 1, 1) := by decide +kernel
theorem dX8_load_98 : decode cX8_load 98 = .ok (.iaload, 1) := by decide +kernel
theorem dX8_load_99 : decode cX8_load 99 = .ok (.ireturn, 1) := by decide +kernel
theorem dX8_load_100 : decode cX8_load 100 = .ok (.aload_n 0, 1) := by decide +kernel
theorem dX8_load_101 : decode cX8_load 101 = .ok (.getfield 52, 3) := by decide +kernel
theorem dX8_load_104 : decode cX8_load 104 = .ok (.getfield 176, 3) := by decide +kernel
theorem dX8_load_107 : decode cX8_load 107 = .ok (.iload_n 1, 1) := by decide +kernel
theorem dX8_load_108 : decode cX8_load 108 = .ok (.iaload, 1) := by decide +kernel
theorem dX8_load_109 : decode cX8_load 109 = .ok (.ireturn, 1) := by decide +kernel
theorem dX8_load_110 : decode cX8_load 110 = .ok (.aload_n 0, 1) := by decide +kernel
theorem dX8_load_111 : decode cX8_load 111 = .ok (.getfield 52, 3) := by decide +kernel
theorem dX8_load_114 : decode cX8_load 114 = .ok (.aload_n 0, 1) := by decide +kernel
theorem dX8_load_115 : decode cX8_load 115 = .ok (.getfield 52, 3) := by decide +kernel
theorem dX8_load_118 : decode cX8_load 118 = .ok (.getfield 173, 3) := by decide +kernel
theorem dX8_load_121 : decode cX8_load 121 = .ok (.iload_n 1, 1) := by decide +kernel
theorem dX8_load_122 : decode cX8_load 122 = .ok (.iaload, 1) := by decide +kernel
theorem dX8_load_123 : decode cX8_load 123 = .ok (.aload_n 0, 1) := by decide +kernel
theorem dX8_load_124 : decode cX8_load 124 = .ok (.getfield 52, 3) := by decide +kernel
theorem dX8_load_127 : decode cX8_load 127 = .ok (.getfield 176, 3) := by decide +kernel
theorem dX8_load_130 : decode cX8_load 130 = .ok (.iload_n 1, 1) := by decide +kernel
theorem dX8_load_131 : decode cX8_load 131 = .ok (.iaload, 1) := by decide +kernel
theorem dX8_load_132 : decode cX8_load 132 = .ok (.invokevirtual 133, 3) := by decide +kernel
theorem dX8_load_135 : decode cX8_load 135 = .ok (.ireturn, 1) := by decide +kernel
theorem dX8_load_136 : decode cX8_load 136 = .ok (.aload_n 0, 1) := by decide +kernel
theorem dX8_load_137 : decode cX8_load 137 = .ok (.iload_n 1, 1) := by decide +kernel
theorem dX8_load_138 : decode cX8_load 138 = .ok (.invokevirtual 179, 3) := by decide +kernel
theorem dX8_load_141 : decode cX8_load 141 = .ok (.ireturn, 1) := by decide +kernel
theorem dX8_load_142 : decode cX8_load 142 = .ok (.aload_n 0, 1) := by decide +kernel
theorem dX8_load_143 : decode cX8_load 143 = .ok (.iload_n 1, 1) := by decide +kernel
theorem dX8_load_144 : decode cX8_load 144 = .ok (.invokevirtual 182, 3) := by decide +kernel
theorem dX8_load_147 : decode cX8_load 147 = .ok (.ireturn, 1) := by decide +kernel
theorem dX8_load_148 : decode cX8_load 148 = .ok (.aload_n 0, 1) := by decide +kernel
theorem dX8_load_149 : decode cX8_load 149 = .ok (.getfield 35, 3) := by decide +kernel
theorem dX8_load_152 : decode cX8_load 152 = .ok (.getfield 116, 3) := by decide +kernel
theorem dX8_load_155 : decode cX8_load 155 = .ok (.iload_n 1, 1) := by decide +kernel
theorem dX8_load_156 : decode cX8_load 156 = .ok (.iaload, 1) := by decide +kernel
theorem dX8_load_157 : decode cX8_load 157 = .ok (.ireturn, 1) := by decide +kernel
theorem dX8_load_158 : decode cX8_load 158 = .ok (.aload_n 0, 1) := by decide +kernel
theorem dX8_load_159 : decode cX8_load 159 = .ok (.iload_n 1, 1) := by decide +kernel
theorem dX8_load_160 : decode cX8_load 160 = .ok (.invokevirtual 185, 3) := by decide +kernel
theorem dX8_load_163 : decode cX8_load 163 = .ok (.ireturn, 1) := by decide +kernel
theorem dX8_load_164 : decode cX8_load 164 = .ok (.aload_n 0, 1) := by decide +kernel
theorem dX8_load_165 : decode cX8_load 165 = .ok (.getfield 28, 3) := by decide +kernel
theorem dX8_load_168 : decode cX8_load 168 = .ok (.getfield 188, 3) := by decide +kernel
theorem dX8_load_171 : decode cX8_load 171 = .ok (.iload_n 1, 1) := by decide +kernel
theorem dX8_load_172 : decode cX8_load 172 = .ok (.iaload, 1) := by decide +kernel
theorem dX8_load_173 : decode cX8_load 173 = .ok (.ireturn, 1) := by decide +kernel
theorem dX8_load_174 : decode cX8_load 174 = .ok (.aload_n 0, 1) := by decide +kernel
theorem dX8_load_175 : decode cX8_load 175 = .ok (.getfield 28, 3) := by decide +kernel
theorem dX8_load_178 : decode cX8_load 178 = .ok (.getfield 191, 3) := by decide +kernel
theorem dX8_load_181 : decode cX8_load 181 = .ok (.iload_n 1, 1) := by decide +kernel
theorem dX8_load_182 : decode cX8_load 182 = .ok (.iaload, 1) := by decide +kernel
theorem dX8_load_183 : decode cX8_load 183 = .ok (.ireturn, 1) := by decide +kernel
theorem dX8_load_184 : decode cX8_load 184 = .ok (.new 163, 3) := by decide +kernel
theorem dX8_load_187 : decode cX8_load 187 = .ok (.dup, 1) := by decide +kernel
theorem dX8_load_188 : decode cX8_load 188 = .ok (.ldc 194, 2) := by decide +kernel
theorem dX8_load_190 : decode cX8_load 190 = .ok (.invokespecial 167, 3) := by decide +kernel
theorem dX8_load_193 : decode cX8_load 193 = .ok (.athrow, 1) := by decide +kernel
theorem dX8_trip_0 : decode cX8_trip 0 = .ok (.iload_n 1, 1) := by decide +kernel
theorem dX8_trip_1 : decode cX8_trip 1 = .ok (.aload_n 0, 1) := by decide +kernel
theorem dX8_trip_2 : decode cX8_trip 2 = .ok (.getfield 52, 3) := by decide +kernel
theorem dX8_trip_5 : decode cX8_trip 5 = .ok (.getfield 105, 3) := by decide +kernel
theorem dX8_trip_8 : decode cX8_trip 8 = .ok (.invokestatic 129, 3) := by decide +kernel
theorem dX8_trip_11 : decode cX8_trip 11 = .ok (.ifCond .ne 13, 3) := by decide +kernel
theorem dX8_trip_14 : decode cX8_trip 14 = .ok (.new 163, 3) := by decide +kernel
theorem dX8_trip_17 : decode cX8_trip 17 = .ok (.dup, 1) := by decide +kernel
theorem dX8_trip_18 : decode cX8_trip 18 = .ok (.ldc 196, 2) := by decide +kernel
theorem dX8_trip_20 : decode cX8_trip 20 = .ok (.invokespecial 167, 3) := by decide +kernel
theorem dX8_trip_23 : decode cX8_trip 23 = .ok (.athrow, 1) := by decide +kernel
theorem dX8_trip_24 : decode cX8_trip 24 = .ok (.iload_n 2, 1) := by decide +kernel
theorem dX8_trip_25 : decode cX8_trip 25 = .ok (.tableswitch 183 0 11 #[63, 73, 83, 93, 103, 113, 123, 133, 143, 153, 163, 173], 63) := by decide +kernel
theorem dX8_trip_88 : decode cX8_trip 88 = .ok (.aload_n 0, 1) := by decide +kernel
theorem dX8_trip_89 : decode cX8_trip 89 = .ok (.getfield 52, 3) := by decide +kernel
theorem dX8_trip_92 : decode cX8_trip 92 = .ok (.getfield 198, 3) := by decide +kernel
theorem dX8_trip_95 : decode cX8_trip 95 = .ok (.iload_n 1, 1) := by decide +kernel
theorem dX8_trip_96 : decode cX8_trip 96 = .ok (.iaload, 1) := by decide +kernel
theorem dX8_trip_97 : decode cX8_trip 97 = .ok (.ireturn, 1) := by decide +kernel
theorem dX8_trip_98 : decode cX8_trip 98 = .ok (.aload_n 0, 1) := by decide +kernel
theorem dX8_trip_99 : decode cX8_trip 99 = .ok (.getfield 52, 3) := by decide +kernel
theorem dX8_trip_102 : decode cX8_trip 102 = .ok (.getfield 201, 3) := by decide +kernel
theorem dX8_trip_105 : decode cX8_trip 105 = .ok (.iload_n 1, 1) := by decide +kernel
theorem dX8_trip_106 : decode cX8_trip 106 = .ok (.iaload, 1) := by decide +kernel
theorem dX8_trip_107 : decode cX8_trip 107 = .ok (.ireturn, 1) := by decide +kernel
theorem dX8_trip_108 : decode cX8_trip 108 = .ok (.aload_n 0, 1) := by decide +kernel
theorem dX8_trip_109 : decode cX8_trip 109 = .ok (.getfield 28, 3) := by decide +kernel
theorem dX8_trip_112 : decode cX8_trip 112 = .ok (.getfield 144, 3) := by decide +kernel
theorem dX8_trip_115 : decode cX8_trip 115 = .ok (.iload_n 1, 1) := by decide +kernel
theorem dX8_trip_116 : decode cX8_trip 116 = .ok (.iaload, 1) := by decide +kernel
theorem dX8_trip_117 : decode cX8_trip 117 = .ok (.ireturn, 1) := by decide +kernel
theorem dX8_trip_118 : decode cX8_trip 118 = .ok (.aload_n 0, 1) := by decide +kernel
theorem dX8_trip_119 : decode cX8_trip 119 = .ok (.getfield 28, 3) := by decide +kernel
theorem dX8_trip_122 : decode cX8_trip 122 = .ok (.getfield 151, 3) := by decide +kernel
theorem dX8_trip_125 : decode cX8_trip 125 = .ok (.iload_n 1, 1) := by decide +kernel
theorem dX8_trip_126 : decode cX8_trip 126 = .ok (.iaload, 1) := by decide +kernel
theorem dX8_trip_127 : decode cX8_trip 127 = .ok (.ireturn, 1) := by decide +kernel
theorem dX8_trip_128 : decode cX8_trip 128 = .ok (.aload_n 0, 1) := by decide +kernel
theorem dX8_trip_129 : decode cX8_trip 129 = .ok (.getfield 28, 3) := by decide +kernel
theorem dX8_trip_132 : decode cX8_trip 132 = .ok (.getfield 204, 3) := by decide +kernel
theorem dX8_trip_135 : decode cX8_trip 135 = .ok (.iload_n 1, 1) := by decide +kernel
theorem dX8_trip_136 : decode cX8_trip 136 = .ok (.iaload, 1) := by decide +kernel
theorem dX8_trip_137 : decode cX8_trip 137 = .ok (.ireturn, 1) := by decide +kernel
theorem dX8_trip_138 : decode cX8_trip 138 = .ok (.aload_n 0, 1) := by decide +kernel
theorem dX8_trip_139 : decode cX8_trip 139 = .ok (.getfield 35, 3) := by decide +kernel
theorem dX8_trip_142 : decode cX8_trip 142 = .ok (.getfield 207, 3) := by decide +kernel
theorem dX8_trip_145 : decode cX8_trip 145 = .ok (.iload_n 1, 1) := by decide +kernel
theorem dX8_trip_146 : decode cX8_trip 146 = .ok (.iaload, 1) := by decide +kernel
theorem dX8_trip_147 : decode cX8_trip 147 = .ok (.ireturn, 1) := by decide +kernel
theorem dX8_trip_148 : decode cX8_trip 148 = .ok (.aload_n 0, 1) := by decide +kernel
theorem dX8_trip_149 : decode cX8_trip 149 = .ok (.getfield 35, 3) := by decide +kernel
theorem dX8_trip_152 : decode cX8_trip 152 = .ok (.getfield 160, 3) := by decide +kernel
theorem dX8_trip_155 : decode cX8_trip 155 = .ok (.iload_n 1, 1) := by decide +kernel
theorem dX8_trip_156 : decode cX8_trip 156 = .ok (.iaload, 1) := by decide +kernel
theorem dX8_trip_157 : decode cX8_trip 157 = .ok (.ireturn, 1) := by decide +kernel
theorem dX8_trip_158 : decode cX8_trip 158 = .ok (.aload_n 0, 1) := by decide +kernel
theorem dX8_trip_159 : decode cX8_trip 159 = .ok (.getfield 35, 3) := by decide +kernel
theorem dX8_trip_162 : decode cX8_trip 162 = .ok (.getfield 210, 3) := by decide +kernel
theorem dX8_trip_165 : decode cX8_trip 165 = .ok (.iload_n 1, 1) := by decide +kernel
theorem dX8_trip_166 : decode cX8_trip 166 = .ok (.iaload, 1) := by decide +kernel
theorem dX8_trip_167 : decode cX8_trip 167 = .ok (.ireturn, 1) := by decide +kernel
theorem dX8_trip_168 : decode cX8_trip 168 = .ok (.aload_n 0, 1) := by decide +kernel
theorem dX8_trip_169 : decode cX8_trip 169 = .ok (.getfield 35, 3) := by decide +kernel
theorem dX8_trip_172 : decode cX8_trip 172 = .ok (.getfield 213, 3) := by decide +kernel
theorem dX8_trip_175 : decode cX8_trip 175 = .ok (.iload_n 1, 1) := by decide +kernel
theorem dX8_trip_176 : decode cX8_trip 176 = .ok (.iaload, 1) := by decide +kernel
theorem dX8_trip_177 : decode cX8_trip 177 = .ok (.ireturn, 1) := by decide +kernel
theorem dX8_trip_178 : decode cX8_trip 178 = .ok (.aload_n 0, 1) := by decide +kernel
theorem dX8_trip_179 : decode cX8_trip 179 = .ok (.getfield 35, 3) := by decide +kernel
theorem dX8_trip_182 : decode cX8_trip 182 = .ok (.getfield 216, 3) := by decide +kernel
theorem dX8_trip_185 : decode cX8_trip 185 = .ok (.iload_n 1, 1) := by decide +kernel
theorem dX8_trip_186 : decode cX8_trip 186 = .ok (.iaload, 1) := by decide +kernel
theorem dX8_trip_187 : decode cX8_trip 187 = .ok (.ireturn, 1) := by decide +kernel
theorem dX8_trip_188 : decode cX8_trip 188 = .ok (.aload_n 0, 1) := by decide +kernel
theorem dX8_trip_189 : decode cX8_trip 189 = .ok (.getfield 52, 3) := by decide +kernel
theorem dX8_trip_192 : decode cX8_trip 192 = .ok (.getfield 219, 3) := by decide +kernel
theorem dX8_trip_195 : decode cX8_trip 195 = .ok (.iload_n 1, 1) := by decide +kernel
theorem dX8_trip_196 : decode cX8_trip 196 = .ok (.iaload, 1) := by decide +kernel
theorem dX8_trip_197 : decode cX8_trip 197 = .ok (.ireturn, 1) := by decide +kernel
theorem dX8_trip_198 : decode cX8_trip 198 = .ok (.aload_n 0, 1) := by decide +kernel
theorem dX8_trip_199 : decode cX8_trip 199 = .ok (.getfield 28, 3) := by decide +kernel
theorem dX8_trip_202 : decode cX8_trip 202 = .ok (.getfield 222, 3) := by decide +kernel
theorem dX8_trip_205 : decode cX8_trip 205 = .ok (.iload_n 1, 1) := by decide +kernel
theorem dX8_trip_206 : decode cX8_trip 206 = .ok (.iaload, 1) := by decide +kernel
theorem dX8_trip_207 : decode cX8_trip 207 = .ok (.ireturn, 1) := by decide +kernel
theorem dX8_trip_208 : decode cX8_trip 208 = .ok (.new 163, 3) := by decide +kernel
theorem dX8_trip_211 : decode cX8_trip 211 = .ok (.dup, 1) := by decide +kernel
theorem dX8_trip_212 : decode cX8_trip 212 = .ok (.ldc 225, 2) := by decide +kernel
theorem dX8_trip_214 : decode cX8_trip 214 = .ok (.invokespecial 167, 3) := by decide +kernel
theorem dX8_trip_217 : decode cX8_trip 217 = .ok (.athrow, 1) := by decide +kernel
theorem dX8_share_0 : decode cX8_share 0 = .ok (.iload_n 2, 1) := by decide +kernel
theorem dX8_share_1 : decode cX8_share 1 = .ok (.aload_n 0, 1) := by decide +kernel
theorem dX8_share_2 : decode cX8_share 2 = .ok (.getfield 52, 3) := by decide +kernel
theorem dX8_share_5 : decode cX8_share 5 = .ok (.getfield 102, 3) := by decide +kernel
theorem dX8_share_8 : decode cX8_share 8 = .ok (.invokestatic 129, 3) := by decide +kernel
theorem dX8_share_11 : decode cX8_share 11 = .ok (.ifCond .ne 5, 3) := by decide +kernel
theorem dX8_share_14 : decode cX8_share 14 = .ok (.iconst (-1), 1) := by decide +kernel
theorem dX8_share_15 : decode cX8_share 15 = .ok (.ireturn, 1) := by decide +kernel
theorem dX8_share_16 : decode cX8_share 16 = .ok (.iload_n 1, 1) := by decide +kernel
theorem dX8_share_17 : decode cX8_share 17 = .ok (.iconst (-1), 1) := by decide +kernel
theorem dX8_share_18 : decode cX8_share 18 = .ok (.if_icmp .ne 13, 3) := by decide +kernel
theorem dX8_share_21 : decode cX8_share 21 = .ok (.aload_n 0, 1) := by decide +kernel
theorem dX8_share_22 : decode cX8_share 22 = .ok (.getfield 35, 3) := by decide +kernel
theorem dX8_share_25 : decode cX8_share 25 = .ok (.getfield 227, 3) := by decide +kernel
theorem dX8_share_28 : decode cX8_share 28 = .ok (.iload_n 2, 1) := by decide +kernel
theorem dX8_share_29 : decode cX8_share 29 = .ok (.iaload, 1) := by decide +kernel
theorem dX8_share_30 : decode cX8_share 30 = .ok (.ireturn, 1) := by decide +kernel
theorem dX8_share_31 : decode cX8_share 31 = .ok (.iload_n 1, 1) := by decide +kernel
theorem dX8_share_32 : decode cX8_share 32 = .ok (.aload_n 0, 1) := by decide +kernel
theorem dX8_share_33 : decode cX8_share 33 = .ok (.getfield 52, 3) := by decide +kernel
theorem dX8_share_36 : decode cX8_share 36 = .ok (.getfield 105, 3) := by decide +kernel
theorem dX8_share_39 : decode cX8_share 39 = .ok (.invokestatic 129, 3) := by decide +kernel
theorem dX8_share_42 : decode cX8_share 42 = .ok (.ifCond .ne 5, 3) := by decide +kernel
theorem dX8_share_45 : decode cX8_share 45 = .ok (.iconst (-1), 1) := by decide +kernel
theorem dX8_share_46 : decode cX8_share 46 = .ok (.ireturn, 1) := by decide +kernel
theorem dX8_share_47 : decode cX8_share 47 = .ok (.aload_n 0, 1) := by decide +kernel
theorem dX8_share_48 : decode cX8_share 48 = .ok (.getfield 35, 3) := by decide +kernel
theorem dX8_share_51 : decode cX8_share 51 = .ok (.getfield 230, 3) := by decide +kernel
theorem dX8_share_54 : decode cX8_share 54 = .ok (.iload_n 1, 1) := by decide +kernel
theorem dX8_share_55 : decode cX8_share 55 = .ok (.aaload, 1) := by decide +kernel
theorem dX8_share_56 : decode cX8_share 56 = .ok (.iload_n 2, 1) := by decide +kernel
theorem dX8_share_57 : decode cX8_share 57 = .ok (.iaload, 1) := by decide +kernel
theorem dX8_share_58 : decode cX8_share 58 = .ok (.ireturn, 1) := by decide +kernel
theorem dX8_gap_0 : decode cX8_gap 0 = .ok (.iload_n 1, 1) := by decide +kernel
theorem dX8_gap_1 : decode cX8_gap 1 = .ok (.aload_n 0, 1) := by decide +kernel
theorem dX8_gap_2 : decode cX8_gap 2 = .ok (.getfield 28, 3) := by decide +kernel
theorem dX8_gap_5 : decode cX8_gap 5 = .ok (.getfield 126, 3) := by decide +kernel
theorem dX8_gap_8 : decode cX8_gap 8 = .ok (.invokestatic 129, 3) := by decide +kernel
theorem dX8_gap_11 : decode cX8_gap 11 = .ok (.ifCond .ne 5, 3) := by decide +kernel
theorem dX8_gap_14 : decode cX8_gap 14 = .ok (.iconst (-1), 1) := by decide +kernel
theorem dX8_gap_15 : decode cX8_gap 15 = .ok (.ireturn, 1) := by decide +kernel
theorem dX8_gap_16 : decode cX8_gap 16 = .ok (.iload_n 2, 1) := by decide +kernel
theorem dX8_gap_17 : decode cX8_gap 17 = .ok (.tableswitch 57 0 2 #[27, 37, 47], 27) := by decide +kernel
theorem dX8_gap_44 : decode cX8_gap 44 = .ok (.aload_n 0, 1) := by decide +kernel
theorem dX8_gap_45 : decode cX8_gap 45 = .ok (.getfield 28, 3) := by decide +kernel
theorem dX8_gap_48 : decode cX8_gap 48 = .ok (.getfield 234, 3) := by decide +kernel
theorem dX8_gap_51 : decode cX8_gap 51 = .ok (.iload_n 1, 1) := by decide +kernel
theorem dX8_gap_52 : decode cX8_gap 52 = .ok (.iaload, 1) := by decide +kernel
theorem dX8_gap_53 : decode cX8_gap 53 = .ok (.ireturn, 1) := by decide +kernel
theorem dX8_gap_54 : decode cX8_gap 54 = .ok (.aload_n 0, 1) := by decide +kernel
theorem dX8_gap_55 : decode cX8_gap 55 = .ok (.getfield 28, 3) := by decide +kernel
theorem dX8_gap_58 : decode cX8_gap 58 = .ok (.getfield 237, 3) := by decide +kernel
theorem dX8_gap_61 : decode cX8_gap 61 = .ok (.iload_n 1, 1) := by decide +kernel
theorem dX8_gap_62 : decode cX8_gap 62 = .ok (.iaload, 1) := by decide +kernel
theorem dX8_gap_63 : decode cX8_gap 63 = .ok (.ireturn, 1) := by decide +kernel
theorem dX8_gap_64 : decode cX8_gap 64 = .ok (.aload_n 0, 1) := by decide +kernel
theorem dX8_gap_65 : decode cX8_gap 65 = .ok (.getfield 28, 3) := by decide +kernel
theorem dX8_gap_68 : decode cX8_gap 68 = .ok (.getfield 240, 3) := by decide +kernel
theorem dX8_gap_71 : decode cX8_gap 71 = .ok (.iload_n 1, 1) := by decide +kernel
theorem dX8_gap_72 : decode cX8_gap 72 = .ok (.iaload, 1) := by decide +kernel
theorem dX8_gap_73 : decode cX8_gap 73 = .ok (.ireturn, 1) := by decide +kernel
theorem dX8_gap_74 : decode cX8_gap 74 = .ok (.iconst (-1), 1) := by decide +kernel
theorem dX8_gap_75 : decode cX8_gap 75 = .ok (.ireturn, 1) := by decide +kernel
theorem dX8_way_0 : decode cX8_way 0 = .ok (.iload_n 1, 1) := by decide +kernel
theorem dX8_way_1 : decode cX8_way 1 = .ok (.aload_n 0, 1) := by decide +kernel
theorem dX8_way_2 : decode cX8_way 2 = .ok (.getfield 52, 3) := by decide +kernel
theorem dX8_way_5 : decode cX8_way 5 = .ok (.getfield 96, 3) := by decide +kernel
theorem dX8_way_8 : decode cX8_way 8 = .ok (.invokestatic 129, 3) := by decide +kernel
theorem dX8_way_11 : decode cX8_way 11 = .ok (.ifCond .eq 22, 3) := by decide +kernel
theorem dX8_way_14 : decode cX8_way 14 = .ok (.iload_n 2, 1) := by decide +kernel
theorem dX8_way_15 : decode cX8_way 15 = .ok (.aload_n 0, 1) := by decide +kernel
theorem dX8_way_16 : decode cX8_way 16 = .ok (.getfield 52, 3) := by decide +kernel
theorem dX8_way_19 : decode cX8_way 19 = .ok (.getfield 96, 3) := by decide +kernel
theorem dX8_way_22 : decode cX8_way 22 = .ok (.invokestatic 129, 3) := by decide +kernel
theorem dX8_way_25 : decode cX8_way 25 = .ok (.ifCond .eq 8, 3) := by decide +kernel
theorem dX8_way_28 : decode cX8_way 28 = .ok (.iload_n 1, 1) := by decide +kernel
theorem dX8_way_29 : decode cX8_way 29 = .ok (.iload_n 2, 1) := by decide +kernel
theorem dX8_way_30 : decode cX8_way 30 = .ok (.if_icmp .ne 5, 3) := by decide +kernel
theorem dX8_way_33 : decode cX8_way 33 = .ok (.iconst (-1), 1) := by decide +kernel
theorem dX8_way_34 : decode cX8_way 34 = .ok (.ireturn, 1) := by decide +kernel
theorem dX8_way_35 : decode cX8_way 35 = .ok (.aload_n 0, 1) := by decide +kernel
theorem dX8_way_36 : decode cX8_way 36 = .ok (.getfield 28, 3) := by decide +kernel
theorem dX8_way_39 : decode cX8_way 39 = .ok (.getfield 243, 3) := by decide +kernel
theorem dX8_way_42 : decode cX8_way 42 = .ok (.iload_n 1, 1) := by decide +kernel
theorem dX8_way_43 : decode cX8_way 43 = .ok (.aaload, 1) := by decide +kernel
theorem dX8_way_44 : decode cX8_way 44 = .ok (.iload_n 2, 1) := by decide +kernel
theorem dX8_way_45 : decode cX8_way 45 = .ok (.iaload, 1) := by decide +kernel
theorem dX8_way_46 : decode cX8_way 46 = .ok (.ireturn, 1) := by decide +kernel
theorem dX8_busiest_0 : decode cX8_busiest 0 = .ok (.iconst (-1), 1) := by decide +kernel
theorem dX8_busiest_1 : decode cX8_busiest 1 = .ok (.istore_n 1, 1) := by decide +kernel
theorem dX8_busiest_2 : decode cX8_busiest 2 = .ok (.iconst 0, 1) := by decide +kernel
theorem dX8_busiest_3 : decode cX8_busiest 3 = .ok (.istore_n 2, 1) := by decide +kernel
theorem dX8_busiest_4 : decode cX8_busiest 4 = .ok (.iconst 0, 1) := by decide +kernel
theorem dX8_busiest_5 : decode cX8_busiest 5 = .ok (.istore_n 3, 1) := by decide +kernel
theorem dX8_busiest_6 : decode cX8_busiest 6 = .ok (.iload_n 3, 1) := by decide +kernel
theorem dX8_busiest_7 : decode cX8_busiest 7 = .ok (.aload_n 0, 1) := by decide +kernel
theorem dX8_busiest_8 : decode cX8_busiest 8 = .ok (.getfield 52, 3) := by decide +kernel
theorem dX8_busiest_11 : decode cX8_busiest 11 = .ok (.getfield 96, 3) := by decide +kernel
theorem dX8_busiest_14 : decode cX8_busiest 14 = .ok (.if_icmp .ge 73, 3) := by decide +kernel
theorem dX8_busiest_17 : decode cX8_busiest 17 = .ok (.iconst 0, 1) := by decide +kernel
theorem dX8_busiest_18 : decode cX8_busiest 18 = .ok (.istore 4, 2) := by decide +kernel
theorem dX8_busiest_20 : decode cX8_busiest 20 = .ok (.iload 4, 2) := by decide +kernel
theorem dX8_busiest_22 : decode cX8_busiest 22 = .ok (.aload_n 0, 1) := by decide +kernel
theorem dX8_busiest_23 : decode cX8_busiest 23 = .ok (.getfield 52, 3) := by decide +kernel
theorem dX8_busiest_26 : decode cX8_busiest 26 = .ok (.getfield 96, 3) := by decide +kernel
theorem dX8_busiest_29 : decode cX8_busiest 29 = .ok (.if_icmp .ge 52, 3) := by decide +kernel
theorem dX8_busiest_32 : decode cX8_busiest 32 = .ok (.iload_n 3, 1) := by decide +kernel
theorem dX8_busiest_33 : decode cX8_busiest 33 = .ok (.iload 4, 2) := by decide +kernel
theorem dX8_busiest_35 : decode cX8_busiest 35 = .ok (.if_icmp .eq 40, 3) := by decide +kernel
theorem dX8_busiest_38 : decode cX8_busiest 38 = .ok (.aload_n 0, 1) := by decide +kernel
theorem dX8_busiest_39 : decode cX8_busiest 39 = .ok (.getfield 28, 3) := by decide +kernel
theorem dX8_busiest_42 : decode cX8_busiest 42 = .ok (.getfield 243, 3) := by decide +kernel
theorem dX8_busiest_45 : decode cX8_busiest 45 = .ok (.iload_n 3, 1) := by decide +kernel
theorem dX8_busiest_46 : decode cX8_busiest 46 = .ok (.aaload, 1) := by decide +kernel
theorem dX8_busiest_47 : decode cX8_busiest 47 = .ok (.iload 4, 2) := by decide +kernel
theorem dX8_busiest_49 : decode cX8_busiest 49 = .ok (.iaload, 1) := by decide +kernel
theorem dX8_busiest_50 : decode cX8_busiest 50 = .ok (.iload_n 2, 1) := by decide +kernel
theorem dX8_busiest_51 : decode cX8_busiest 51 = .ok (.if_icmp .le 24, 3) := by decide +kernel
theorem dX8_busiest_54 : decode cX8_busiest 54 = .ok (.aload_n 0, 1) := by decide +kernel
theorem dX8_busiest_55 : decode cX8_busiest 55 = .ok (.getfield 28, 3) := by decide +kernel
theorem dX8_busiest_58 : decode cX8_busiest 58 = .ok (.getfield 243, 3) := by decide +kernel
theorem dX8_busiest_61 : decode cX8_busiest 61 = .ok (.iload_n 3, 1) := by decide +kernel
theorem dX8_busiest_62 : decode cX8_busiest 62 = .ok (.aaload, 1) := by decide +kernel
theorem dX8_busiest_63 : decode cX8_busiest 63 = .ok (.iload 4, 2) := by decide +kernel
theorem dX8_busiest_65 : decode cX8_busiest 65 = .ok (.iaload, 1) := by decide +kernel
theorem dX8_busiest_66 : decode cX8_busiest 66 = .ok (.istore_n 2, 1) := by decide +kernel
theorem dX8_busiest_67 : decode cX8_busiest 67 = .ok (.bipush 100, 2) := by decide +kernel
theorem dX8_busiest_69 : decode cX8_busiest 69 = .ok (.iload_n 3, 1) := by decide +kernel
theorem dX8_busiest_70 : decode cX8_busiest 70 = .ok (.imul, 1) := by decide +kernel
theorem dX8_busiest_71 : decode cX8_busiest 71 = .ok (.iload 4, 2) := by decide +kernel
theorem dX8_busiest_73 : decode cX8_busiest 73 = .ok (.iadd, 1) := by decide +kernel
theorem dX8_busiest_74 : decode cX8_busiest 74 = .ok (.istore_n 1, 1) := by decide +kernel
theorem dX8_busiest_75 : decode cX8_busiest 75 = .ok (.iinc 4 1, 3) := by decide +kernel
theorem dX8_busiest_78 : decode cX8_busiest 78 = .ok (.goto (-58), 3) := by decide +kernel
theorem dX8_busiest_81 : decode cX8_busiest 81 = .ok (.iinc 3 1, 3) := by decide +kernel
theorem dX8_busiest_84 : decode cX8_busiest 84 = .ok (.goto (-78), 3) := by decide +kernel
theorem dX8_busiest_87 : decode cX8_busiest 87 = .ok (.iload_n 1, 1) := by decide +kernel
theorem dX8_busiest_88 : decode cX8_busiest 88 = .ok (.ireturn, 1) := by decide +kernel
theorem dX8_hub_0 : decode cX8_hub 0 = .ok (.iload_n 1, 1) := by decide +kernel
theorem dX8_hub_1 : decode cX8_hub 1 = .ok (.aload_n 0, 1) := by decide +kernel
theorem dX8_hub_2 : decode cX8_hub 2 = .ok (.getfield 52, 3) := by decide +kernel
theorem dX8_hub_5 : decode cX8_hub 5 = .ok (.getfield 96, 3) := by decide +kernel
theorem dX8_hub_8 : decode cX8_hub 8 = .ok (.invokestatic 129, 3) := by decide +kernel
theorem dX8_hub_11 : decode cX8_hub 11 = .ok (.ifCond .ne 5, 3) := by decide +kernel
theorem dX8_hub_14 : decode cX8_hub 14 = .ok (.iconst (-1), 1) := by decide +kernel
theorem dX8_hub_15 : decode cX8_hub 15 = .ok (.ireturn, 1) := by decide +kernel
theorem dX8_hub_16 : decode cX8_hub 16 = .ok (.iconst 0, 1) := by decide +kernel
theorem dX8_hub_17 : decode cX8_hub 17 = .ok (.istore_n 2, 1) := by decide +kernel
theorem dX8_hub_18 : decode cX8_hub 18 = .ok (.iconst 0, 1) := by decide +kernel
theorem dX8_hub_19 : decode cX8_hub 19 = .ok (.istore_n 3, 1) := by decide +kernel
theorem dX8_hub_20 : decode cX8_hub 20 = .ok (.iload_n 3, 1) := by decide +kernel
theorem dX8_hub_21 : decode cX8_hub 21 = .ok (.aload_n 0, 1) := by decide +kernel
theorem dX8_hub_22 : decode cX8_hub 22 = .ok (.getfield 52, 3) := by decide +kernel
theorem dX8_hub_25 : decode cX8_hub 25 = .ok (.getfield 102, 3) := by decide +kernel
theorem dX8_hub_28 : decode cX8_hub 28 = .ok (.if_icmp .ge 33, 3) := by decide +kernel
theorem dX8_hub_31 : decode cX8_hub 31 = .ok (.iload_n 2, 1) := by decide +kernel
theorem dX8_hub_32 : decode cX8_hub 32 = .ok (.aload_n 0, 1) := by decide +kernel
theorem dX8_hub_33 : decode cX8_hub 33 = .ok (.getfield 52, 3) := by decide +kernel
theorem dX8_hub_36 : decode cX8_hub 36 = .ok (.getfield 170, 3) := by decide +kernel
theorem dX8_hub_39 : decode cX8_hub 39 = .ok (.iload_n 3, 1) := by decide +kernel
theorem dX8_hub_40 : decode cX8_hub 40 = .ok (.iaload, 1) := by decide +kernel
theorem dX8_hub_41 : decode cX8_hub 41 = .ok (.aload_n 0, 1) := by decide +kernel
theorem dX8_hub_42 : decode cX8_hub 42 = .ok (.getfield 28, 3) := by decide +kernel
theorem dX8_hub_45 : decode cX8_hub 45 = .ok (.getfield 246, 3) := by decide +kernel
theorem dX8_hub_48 : decode cX8_hub 48 = .ok (.iload_n 3, 1) := by decide +kernel
theorem dX8_hub_49 : decode cX8_hub 49 = .ok (.aaload, 1) := by decide +kernel
theorem dX8_hub_50 : decode cX8_hub 50 = .ok (.iload_n 1, 1) := by decide +kernel
theorem dX8_hub_51 : decode cX8_hub 51 = .ok (.iaload, 1) := by decide +kernel
theorem dX8_hub_52 : decode cX8_hub 52 = .ok (.imul, 1) := by decide +kernel
theorem dX8_hub_53 : decode cX8_hub 53 = .ok (.iadd, 1) := by decide +kernel
theorem dX8_hub_54 : decode cX8_hub 54 = .ok (.istore_n 2, 1) := by decide +kernel
theorem dX8_hub_55 : decode cX8_hub 55 = .ok (.iinc 3 1, 3) := by decide +kernel
theorem dX8_hub_58 : decode cX8_hub 58 = .ok (.goto (-38), 3) := by decide +kernel
theorem dX8_hub_61 : decode cX8_hub 61 = .ok (.iload_n 2, 1) := by decide +kernel
theorem dX8_hub_62 : decode cX8_hub 62 = .ok (.ireturn, 1) := by decide +kernel
theorem dX8_dearest_0 : decode cX8_dearest 0 = .ok (.iconst (-1), 1) := by decide +kernel
theorem dX8_dearest_1 : decode cX8_dearest 1 = .ok (.istore_n 1, 1) := by decide +kernel
theorem dX8_dearest_2 : decode cX8_dearest 2 = .ok (.iconst 0, 1) := by decide +kernel
theorem dX8_dearest_3 : decode cX8_dearest 3 = .ok (.istore_n 2, 1) := by decide +kernel
theorem dX8_dearest_4 : decode cX8_dearest 4 = .ok (.iload_n 2, 1) := by decide +kernel
theorem dX8_dearest_5 : decode cX8_dearest 5 = .ok (.aload_n 0, 1) := by decide +kernel
theorem dX8_dearest_6 : decode cX8_dearest 6 = .ok (.getfield 52, 3) := by decide +kernel
theorem dX8_dearest_9 : decode cX8_dearest 9 = .ok (.getfield 105, 3) := by decide +kernel
theorem dX8_dearest_12 : decode cX8_dearest 12 = .ok (.if_icmp .ge 39, 3) := by decide +kernel
theorem dX8_dearest_15 : decode cX8_dearest 15 = .ok (.aload_n 0, 1) := by decide +kernel
theorem dX8_dearest_16 : decode cX8_dearest 16 = .ok (.getfield 35, 3) := by decide +kernel
theorem dX8_dearest_19 : decode cX8_dearest 19 = .ok (.iload_n 2, 1) := by decide +kernel
theorem dX8_dearest_20 : decode cX8_dearest 20 = .ok (.invokevirtual 249, 3) := by decide +kernel
theorem dX8_dearest_23 : decode cX8_dearest 23 = .ok (.ifCond .eq 6, 3) := by decide +kernel
theorem dX8_dearest_26 : decode cX8_dearest 26 = .ok (.goto 19, 3) := by decide +kernel
theorem dX8_dearest_29 : decode cX8_dearest 29 = .ok (.iload_n 1, 1) := by decide +kernel
theorem dX8_dearest_30 : decode cX8_dearest 30 = .ok (.iconst (-1), 1) := by decide +kernel
theorem dX8_dearest_31 : decode cX8_dearest 31 = .ok (.if_icmp .eq 12, 3) := by decide +kernel
theorem dX8_dearest_34 : decode cX8_dearest 34 = .ok (.aload_n 0, 1) := by decide +kernel
theorem dX8_dearest_35 : decode cX8_dearest 35 = .ok (.iload_n 2, 1) := by decide +kernel
theorem dX8_dearest_36 : decode cX8_dearest 36 = .ok (.iload_n 1, 1) := by decide +kernel
theorem dX8_dearest_37 : decode cX8_dearest 37 = .ok (.invokevirtual 253, 3) := by decide +kernel
theorem dX8_dearest_40 : decode cX8_dearest 40 = .ok (.ifCond .eq 5, 3) := by decide +kernel
theorem dX8_dearest_43 : decode cX8_dearest 43 = .ok (.iload_n 2, 1) := by decide +kernel
theorem dX8_dearest_44 : decode cX8_dearest 44 = .ok (.istore_n 1, 1) := by decide +kernel
theorem dX8_dearest_45 : decode cX8_dearest 45 = .ok (.iinc 2 1, 3) := by decide +kernel
theorem dX8_dearest_48 : decode cX8_dearest 48 = .ok (.goto (-44), 3) := by decide +kernel
theorem dX8_dearest_51 : decode cX8_dearest 51 = .ok (.iload_n 1, 1) := by decide +kernel
theorem dX8_dearest_52 : decode cX8_dearest 52 = .ok (.ireturn, 1) := by decide +kernel
theorem dX8_split_0 : decode cX8_split 0 = .ok (.iload_n 1, 1) := by decide +kernel
theorem dX8_split_1 : decode cX8_split 1 = .ok (.aload_n 0, 1) := by decide +kernel
theorem dX8_split_2 : decode cX8_split 2 = .ok (.getfield 52, 3) := by decide +kernel
theorem dX8_split_5 : decode cX8_split 5 = .ok (.getfield 102, 3) := by decide +kernel
theorem dX8_split_8 : decode cX8_split 8 = .ok (.invokestatic 129, 3) := by decide +kernel
theorem dX8_split_11 : decode cX8_split 11 = .ok (.ifCond .eq 15, 3) := by decide +kernel
theorem dX8_split_14 : decode cX8_split 14 = .ok (.aload_n 0, 1) := by decide +kernel
theorem dX8_split_15 : decode cX8_split 15 = .ok (.getfield 52, 3) := by decide +kernel
theorem dX8_split_18 : decode cX8_split 18 = .ok (.getfield 102, 3) := by decide +kernel
theorem dX8_split_21 : decode cX8_split 21 = .ok (.bipush 16, 2) := by decide +kernel
theorem dX8_split_23 : decode cX8_split 23 = .ok (.if_icmp .lt 5, 3) := by decide +kernel
theorem dX8_split_26 : decode cX8_split 26 = .ok (.iconst (-1), 1) := by decide +kernel
theorem dX8_split_27 : decode cX8_split 27 = .ok (.ireturn, 1) := by decide +kernel
theorem dX8_split_28 : decode cX8_split 28 = .ok (.iload_n 2, 1) := by decide +kernel
theorem dX8_split_29 : decode cX8_split 29 = .ok (.iconst 1, 1) := by decide +kernel
theorem dX8_split_30 : decode cX8_split 30 = .ok (.if_icmp .lt 25, 3) := by decide +kernel
theorem dX8_split_33 : decode cX8_split 33 = .ok (.iload_n 2, 1) := by decide +kernel
theorem dX8_split_34 : decode cX8_split 34 = .ok (.aload_n 0, 1) := by decide +kernel
theorem dX8_split_35 : decode cX8_split 35 = .ok (.getfield 52, 3) := by decide +kernel
theorem dX8_split_38 : decode cX8_split 38 = .ok (.getfield 170, 3) := by decide +kernel
theorem dX8_split_41 : decode cX8_split 41 = .ok (.iload_n 1, 1) := by decide +kernel
theorem dX8_split_42 : decode cX8_split 42 = .ok (.iaload, 1) := by decide +kernel
theorem dX8_split_43 : decode cX8_split 43 = .ok (.if_icmp .ge 12, 3) := by decide +kernel
theorem dX8_split_46 : decode cX8_split 46 = .ok (.iload_n 3, 1) := by decide +kernel
theorem dX8_split_47 : decode cX8_split 47 = .ok (.ifCond .lt 8, 3) := by decide +kernel
theorem dX8_split_50 : decode cX8_split 50 = .ok (.iload_n 3, 1) := by decide +kernel
theorem dX8_split_51 : decode cX8_split 51 = .ok (.iconst 1, 1) := by decide +kernel
theorem dX8_split_52 : decode cX8_split 52 = .ok (.if_icmp .le 5, 3) := by decide +kernel
theorem dX8_split_55 : decode cX8_split 55 = .ok (.iconst (-1), 1) := by decide +kernel
theorem dX8_split_56 : decode cX8_split 56 = .ok (.ireturn, 1) := by decide +kernel
theorem dX8_split_57 : decode cX8_split 57 = .ok (.aload_n 0, 1) := by decide +kernel
theorem dX8_split_58 : decode cX8_split 58 = .ok (.getfield 52, 3) := by decide +kernel
theorem dX8_split_61 : decode cX8_split 61 = .ok (.getfield 102, 3) := by decide +kernel
theorem dX8_split_64 : decode cX8_split 64 = .ok (.istore 4, 2) := by decide +kernel
theorem dX8_split_66 : decode cX8_split 66 = .ok (.aload_n 0, 1) := by decide +kernel
theorem dX8_split_67 : decode cX8_split 67 = .ok (.getfield 39, 3) := by decide +kernel
theorem dX8_split_70 : decode cX8_split 70 = .ok (.aload_n 0, 1) := by decide +kernel
theorem dX8_split_71 : decode cX8_split 71 = .ok (.getfield 52, 3) := by decide +kernel
theorem dX8_split_74 : decode cX8_split 74 = .ok (.invokevirtual 256, 3) := by decide +kernel
theorem dX8_split_77 : decode cX8_split 77 = .ok (.aload_n 0, 1) := by decide +kernel
theorem dX8_split_78 : decode cX8_split 78 = .ok (.getfield 39, 3) := by decide +kernel
theorem dX8_split_81 : decode cX8_split 81 = .ok (.iload_n 1, 1) := by decide +kernel
theorem dX8_split_82 : decode cX8_split 82 = .ok (.iload_n 2, 1) := by decide +kernel
theorem dX8_split_83 : decode cX8_split 83 = .ok (.invokevirtual 259, 3) := by decide +kernel
theorem dX8_split_86 : decode cX8_split 86 = .ok (.aload_n 0, 1) := by decide +kernel
theorem dX8_split_87 : decode cX8_split 87 = .ok (.getfield 39, 3) := by decide +kernel
theorem dX8_split_90 : decode cX8_split 90 = .ok (.aload_n 0, 1) := by decide +kernel
theorem dX8_split_91 : decode cX8_split 91 = .ok (.getfield 52, 3) := by decide +kernel
theorem dX8_split_94 : decode cX8_split 94 = .ok (.aload_n 0, 1) := by decide +kernel
theorem dX8_split_95 : decode cX8_split 95 = .ok (.getfield 28, 3) := by decide +kernel
theorem dX8_split_98 : decode cX8_split 98 = .ok (.invokevirtual 263, 3) := by decide +kernel
theorem dX8_split_101 : decode cX8_split 101 = .ok (.iload_n 3, 1) := by decide +kernel
theorem dX8_split_102 : decode cX8_split 102 = .ok (.iconst 1, 1) := by decide +kernel
theorem dX8_split_103 : decode cX8_split 103 = .ok (.if_icmp .ne 15, 3) := by decide +kernel
theorem dX8_split_106 : decode cX8_split 106 = .ok (.aload_n 0, 1) := by decide +kernel
theorem dX8_split_107 : decode cX8_split 107 = .ok (.getfield 39, 3) := by decide +kernel
theorem dX8_split_110 : decode cX8_split 110 = .ok (.getfield 116, 3) := by decide +kernel
theorem dX8_split_113 : decode cX8_split 113 = .ok (.iload_n 1, 1) := by decide +kernel
theorem dX8_split_114 : decode cX8_split 114 = .ok (.iaload, 1) := by decide +kernel
theorem dX8_split_115 : decode cX8_split 115 = .ok (.goto 23, 3) := by decide +kernel
theorem dX8_split_118 : decode cX8_split 118 = .ok (.aload_n 0, 1) := by decide +kernel
theorem dX8_split_119 : decode cX8_split 119 = .ok (.getfield 39, 3) := by decide +kernel
theorem dX8_split_122 : decode cX8_split 122 = .ok (.getfield 116, 3) := by decide +kernel
theorem dX8_split_125 : decode cX8_split 125 = .ok (.iload_n 1, 1) := by decide +kernel
theorem dX8_split_126 : decode cX8_split 126 = .ok (.iaload, 1) := by decide +kernel
theorem dX8_split_127 : decode cX8_split 127 = .ok (.aload_n 0, 1) := by decide +kernel
theorem dX8_split_128 : decode cX8_split 128 = .ok (.getfield 39, 3) := by decide +kernel
theorem dX8_split_131 : decode cX8_split 131 = .ok (.getfield 116, 3) := by decide +kernel
theorem dX8_split_134 : decode cX8_split 134 = .ok (.iload 4, 2) := by decide +kernel
theorem dX8_split_136 : decode cX8_split 136 = .ok (.iaload, 1) := by decide +kernel
theorem dX8_split_137 : decode cX8_split 137 = .ok (.iadd, 1) := by decide +kernel
theorem dX8_split_138 : decode cX8_split 138 = .ok (.ireturn, 1) := by decide +kernel
theorem dX8_without_0 : decode cX8_without 0 = .ok (.iload_n 1, 1) := by decide +kernel
theorem dX8_without_1 : decode cX8_without 1 = .ok (.aload_n 0, 1) := by decide +kernel
theorem dX8_without_2 : decode cX8_without 2 = .ok (.getfield 52, 3) := by decide +kernel
theorem dX8_without_5 : decode cX8_without 5 = .ok (.getfield 102, 3) := by decide +kernel
theorem dX8_without_8 : decode cX8_without 8 = .ok (.invokestatic 129, 3) := by decide +kernel
theorem dX8_without_11 : decode cX8_without 11 = .ok (.ifCond .eq 22, 3) := by decide +kernel
theorem dX8_without_14 : decode cX8_without 14 = .ok (.iload_n 2, 1) := by decide +kernel
theorem dX8_without_15 : decode cX8_without 15 = .ok (.aload_n 0, 1) := by decide +kernel
theorem dX8_without_16 : decode cX8_without 16 = .ok (.getfield 52, 3) := by decide +kernel
theorem dX8_without_19 : decode cX8_without 19 = .ok (.getfield 102, 3) := by decide +kernel
theorem dX8_without_22 : decode cX8_without 22 = .ok (.invokestatic 129, 3) := by decide +kernel
theorem dX8_without_25 : decode cX8_without 25 = .ok (.ifCond .eq 8, 3) := by decide +kernel
theorem dX8_without_28 : decode cX8_without 28 = .ok (.iload_n 1, 1) := by decide +kernel
theorem dX8_without_29 : decode cX8_without 29 = .ok (.iload_n 2, 1) := by decide +kernel
theorem dX8_without_30 : decode cX8_without 30 = .ok (.if_icmp .ne 5, 3) := by decide +kernel
theorem dX8_without_33 : decode cX8_without 33 = .ok (.iconst (-1), 1) := by decide +kernel
theorem dX8_without_34 : decode cX8_without 34 = .ok (.ireturn, 1) := by decide +kernel
theorem dX8_without_35 : decode cX8_without 35 = .ok (.aload_n 0, 1) := by decide +kernel
theorem dX8_without_36 : decode cX8_without 36 = .ok (.getfield 39, 3) := by decide +kernel
theorem dX8_without_39 : decode cX8_without 39 = .ok (.aload_n 0, 1) := by decide +kernel
theorem dX8_without_40 : decode cX8_without 40 = .ok (.getfield 52, 3) := by decide +kernel
theorem dX8_without_43 : decode cX8_without 43 = .ok (.invokevirtual 256, 3) := by decide +kernel
theorem dX8_without_46 : decode cX8_without 46 = .ok (.aload_n 0, 1) := by decide +kernel
theorem dX8_without_47 : decode cX8_without 47 = .ok (.getfield 39, 3) := by decide +kernel
theorem dX8_without_50 : decode cX8_without 50 = .ok (.getfield 266, 3) := by decide +kernel
theorem dX8_without_53 : decode cX8_without 53 = .ok (.iload_n 1, 1) := by decide +kernel
theorem dX8_without_54 : decode cX8_without 54 = .ok (.iconst 0, 1) := by decide +kernel
theorem dX8_without_55 : decode cX8_without 55 = .ok (.iastore, 1) := by decide +kernel
theorem dX8_without_56 : decode cX8_without 56 = .ok (.aload_n 0, 1) := by decide +kernel
theorem dX8_without_57 : decode cX8_without 57 = .ok (.getfield 39, 3) := by decide +kernel
theorem dX8_without_60 : decode cX8_without 60 = .ok (.aload_n 0, 1) := by decide +kernel
theorem dX8_without_61 : decode cX8_without 61 = .ok (.getfield 52, 3) := by decide +kernel
theorem dX8_without_64 : decode cX8_without 64 = .ok (.aload_n 0, 1) := by decide +kernel
theorem dX8_without_65 : decode cX8_without 65 = .ok (.getfield 28, 3) := by decide +kernel
theorem dX8_without_68 : decode cX8_without 68 = .ok (.invokevirtual 263, 3) := by decide +kernel
theorem dX8_without_71 : decode cX8_without 71 = .ok (.aload_n 0, 1) := by decide +kernel
theorem dX8_without_72 : decode cX8_without 72 = .ok (.getfield 39, 3) := by decide +kernel
theorem dX8_without_75 : decode cX8_without 75 = .ok (.getfield 116, 3) := by decide +kernel
theorem dX8_without_78 : decode cX8_without 78 = .ok (.iload_n 2, 1) := by decide +kernel
theorem dX8_without_79 : decode cX8_without 79 = .ok (.iaload, 1) := by decide +kernel
theorem dX8_without_80 : decode cX8_without 80 = .ok (.ireturn, 1) := by decide +kernel
theorem dX8_fuel_0 : decode cX8_fuel 0 = .ok (.iload_n 1, 1) := by decide +kernel
theorem dX8_fuel_1 : decode cX8_fuel 1 = .ok (.aload_n 0, 1) := by decide +kernel
theorem dX8_fuel_2 : decode cX8_fuel 2 = .ok (.getfield 52, 3) := by decide +kernel
theorem dX8_fuel_5 : decode cX8_fuel 5 = .ok (.getfield 105, 3) := by decide +kernel
theorem dX8_fuel_8 : decode cX8_fuel 8 = .ok (.invokestatic 129, 3) := by decide +kernel
theorem dX8_fuel_11 : decode cX8_fuel 11 = .ok (.ifCond .eq 15, 3) := by decide +kernel
theorem dX8_fuel_14 : decode cX8_fuel 14 = .ok (.iload_n 2, 1) := by decide +kernel
theorem dX8_fuel_15 : decode cX8_fuel 15 = .ok (.iconst (-1), 1) := by decide +kernel
theorem dX8_fuel_16 : decode cX8_fuel 16 = .ok (.if_icmp .lt 10, 3) := by decide +kernel
theorem dX8_fuel_19 : decode cX8_fuel 19 = .ok (.iload_n 2, 1) := by decide +kernel
theorem dX8_fuel_20 : decode cX8_fuel 20 = .ok (.sipush 9999, 3) := by decide +kernel
theorem dX8_fuel_23 : decode cX8_fuel 23 = .ok (.if_icmp .le 6, 3) := by decide +kernel
theorem dX8_fuel_26 : decode cX8_fuel 26 = .ok (.bipush (-2), 2) := by decide +kernel
theorem dX8_fuel_28 : decode cX8_fuel 28 = .ok (.ireturn, 1) := by decide +kernel
theorem dX8_fuel_29 : decode cX8_fuel 29 = .ok (.aload_n 0, 1) := by decide +kernel
theorem dX8_fuel_30 : decode cX8_fuel 30 = .ok (.iconst 0, 1) := by decide +kernel
theorem dX8_fuel_31 : decode cX8_fuel 31 = .ok (.aload_n 0, 1) := by decide +kernel
theorem dX8_fuel_32 : decode cX8_fuel 32 = .ok (.getfield 52, 3) := by decide +kernel
theorem dX8_fuel_35 : decode cX8_fuel 35 = .ok (.getfield 201, 3) := by decide +kernel
theorem dX8_fuel_38 : decode cX8_fuel 38 = .ok (.iload_n 1, 1) := by decide +kernel
theorem dX8_fuel_39 : decode cX8_fuel 39 = .ok (.iload_n 2, 1) := by decide +kernel
theorem dX8_fuel_40 : decode cX8_fuel 40 = .ok (.invokevirtual 267, 3) := by decide +kernel
theorem dX8_fuel_43 : decode cX8_fuel 43 = .ok (.ireturn, 1) := by decide +kernel
theorem dX8_buy_0 : decode cX8_buy 0 = .ok (.iload_n 1, 1) := by decide +kernel
theorem dX8_buy_1 : decode cX8_buy 1 = .ok (.aload_n 0, 1) := by decide +kernel
theorem dX8_buy_2 : decode cX8_buy 2 = .ok (.getfield 52, 3) := by decide +kernel
theorem dX8_buy_5 : decode cX8_buy 5 = .ok (.getfield 99, 3) := by decide +kernel
theorem dX8_buy_8 : decode cX8_buy 8 = .ok (.invokestatic 129, 3) := by decide +kernel
theorem dX8_buy_11 : decode cX8_buy 11 = .ok (.ifCond .eq 14, 3) := by decide +kernel
theorem dX8_buy_14 : decode cX8_buy 14 = .ok (.iload_n 2, 1) := by decide +kernel
theorem dX8_buy_15 : decode cX8_buy 15 = .ok (.ifCond .lt 10, 3) := by decide +kernel
theorem dX8_buy_18 : decode cX8_buy 18 = .ok (.iload_n 2, 1) := by decide +kernel
theorem dX8_buy_19 : decode cX8_buy 19 = .ok (.sipush 9999, 3) := by decide +kernel
theorem dX8_buy_22 : decode cX8_buy 22 = .ok (.if_icmp .le 6, 3) := by decide +kernel
theorem dX8_buy_25 : decode cX8_buy 25 = .ok (.bipush (-2), 2) := by decide +kernel
theorem dX8_buy_27 : decode cX8_buy 27 = .ok (.ireturn, 1) := by decide +kernel
theorem dX8_buy_28 : decode cX8_buy 28 = .ok (.aload_n 0, 1) := by decide +kernel
theorem dX8_buy_29 : decode cX8_buy 29 = .ok (.iconst 1, 1) := by decide +kernel
theorem dX8_buy_30 : decode cX8_buy 30 = .ok (.aload_n 0, 1) := by decide +kernel
theorem dX8_buy_31 : decode cX8_buy 31 = .ok (.getfield 52, 3) := by decide +kernel
theorem dX8_buy_34 : decode cX8_buy 34 = .ok (.getfield 108, 3) := by decide +kernel
theorem dX8_buy_37 : decode cX8_buy 37 = .ok (.iload_n 1, 1) := by decide +kernel
theorem dX8_buy_38 : decode cX8_buy 38 = .ok (.iload_n 2, 1) := by decide +kernel
theorem dX8_buy_39 : decode cX8_buy 39 = .ok (.invokevirtual 267, 3) := by decide +kernel
theorem dX8_buy_42 : decode cX8_buy 42 = .ok (.ireturn, 1) := by decide +kernel
theorem dX8_weigh_0 : decode cX8_weigh 0 = .ok (.iload_n 1, 1) := by decide +kernel
theorem dX8_weigh_1 : decode cX8_weigh 1 = .ok (.aload_n 0, 1) := by decide +kernel
theorem dX8_weigh_2 : decode cX8_weigh 2 = .ok (.getfield 52, 3) := by decide +kernel
theorem dX8_weigh_5 : decode cX8_weigh 5 = .ok (.getfield 102, 3) := by decide +kernel
theorem dX8_weigh_8 : decode cX8_weigh 8 = .ok (.invokestatic 129, 3) := by decide +kernel
theorem dX8_weigh_11 : decode cX8_weigh 11 = .ok (.ifCond .eq 14, 3) := by decide +kernel
theorem dX8_weigh_14 : decode cX8_weigh 14 = .ok (.iload_n 2, 1) := by decide +kernel
theorem dX8_weigh_15 : decode cX8_weigh 15 = .ok (.iconst 1, 1) := by decide +kernel
theorem dX8_weigh_16 : decode cX8_weigh 16 = .ok (.if_icmp .lt 9, 3) := by decide +kernel
theorem dX8_weigh_19 : decode cX8_weigh 19 = .ok (.iload_n 2, 1) := by decide +kernel
theorem dX8_weigh_20 : decode cX8_weigh 20 = .ok (.bipush 99, 2) := by decide +kernel
theorem dX8_weigh_22 : decode cX8_weigh 22 = .ok (.if_icmp .le 6, 3) := by decide +kernel
theorem dX8_weigh_25 : decode cX8_weigh 25 = .ok (.bipush (-2), 2) := by decide +kernel
theorem dX8_weigh_27 : decode cX8_weigh 27 = .ok (.ireturn, 1) := by decide +kernel
theorem dX8_weigh_28 : decode cX8_weigh 28 = .ok (.aload_n 0, 1) := by decide +kernel
theorem dX8_weigh_29 : decode cX8_weigh 29 = .ok (.iconst 2, 1) := by decide +kernel
theorem dX8_weigh_30 : decode cX8_weigh 30 = .ok (.aload_n 0, 1) := by decide +kernel
theorem dX8_weigh_31 : decode cX8_weigh 31 = .ok (.getfield 52, 3) := by decide +kernel
theorem dX8_weigh_34 : decode cX8_weigh 34 = .ok (.getfield 170, 3) := by decide +kernel
theorem dX8_weigh_37 : decode cX8_weigh 37 = .ok (.iload_n 1, 1) := by decide +kernel
theorem dX8_weigh_38 : decode cX8_weigh 38 = .ok (.iload_n 2, 1) := by decide +kernel
theorem dX8_weigh_39 : decode cX8_weigh 39 = .ok (.invokevirtual 267, 3) := by decide +kernel
theorem dX8_weigh_42 : decode cX8_weigh 42 = .ok (.ireturn, 1) := by decide +kernel
theorem dX8_undo_0 : decode cX8_undo 0 = .ok (.aload_n 0, 1) := by decide +kernel
theorem dX8_undo_1 : decode cX8_undo 1 = .ok (.getfield 45, 3) := by decide +kernel
theorem dX8_undo_4 : decode cX8_undo 4 = .ok (.getfield 80, 3) := by decide +kernel
theorem dX8_undo_7 : decode cX8_undo 7 = .ok (.ifCond .gt 5, 3) := by decide +kernel
theorem dX8_undo_10 : decode cX8_undo 10 = .ok (.iconst (-1), 1) := by decide +kernel
theorem dX8_undo_11 : decode cX8_undo 11 = .ok (.ireturn, 1) := by decide +kernel
theorem dX8_undo_12 : decode cX8_undo 12 = .ok (.aload_n 0, 1) := by decide +kernel
theorem dX8_undo_13 : decode cX8_undo 13 = .ok (.getfield 45, 3) := by decide +kernel
theorem dX8_undo_16 : decode cX8_undo 16 = .ok (.dup, 1) := by decide +kernel
theorem dX8_undo_17 : decode cX8_undo 17 = .ok (.getfield 80, 3) := by decide +kernel
theorem dX8_undo_20 : decode cX8_undo 20 = .ok (.iconst 1, 1) := by decide +kernel
theorem dX8_undo_21 : decode cX8_undo 21 = .ok (.isub, 1) := by decide +kernel
theorem dX8_undo_22 : decode cX8_undo 22 = .ok (.putfield 80, 3) := by decide +kernel
theorem dX8_undo_25 : decode cX8_undo 25 = .ok (.aload_n 0, 1) := by decide +kernel
theorem dX8_undo_26 : decode cX8_undo 26 = .ok (.aload_n 0, 1) := by decide +kernel
theorem dX8_undo_27 : decode cX8_undo 27 = .ok (.getfield 45, 3) := by decide +kernel
theorem dX8_undo_30 : decode cX8_undo 30 = .ok (.getfield 271, 3) := by decide +kernel
theorem dX8_undo_33 : decode cX8_undo 33 = .ok (.aload_n 0, 1) := by decide +kernel
theorem dX8_undo_34 : decode cX8_undo 34 = .ok (.getfield 45, 3) := by decide +kernel
theorem dX8_undo_37 : decode cX8_undo 37 = .ok (.getfield 80, 3) := by decide +kernel
theorem dX8_undo_40 : decode cX8_undo 40 = .ok (.iaload, 1) := by decide +kernel
theorem dX8_undo_41 : decode cX8_undo 41 = .ok (.invokevirtual 274, 3) := by decide +kernel
theorem dX8_undo_44 : decode cX8_undo 44 = .ok (.astore_n 1, 1) := by decide +kernel
theorem dX8_undo_45 : decode cX8_undo 45 = .ok (.aload_n 1, 1) := by decide +kernel
theorem dX8_undo_46 : decode cX8_undo 46 = .ok (.aload_n 0, 1) := by decide +kernel
theorem dX8_undo_47 : decode cX8_undo 47 = .ok (.getfield 45, 3) := by decide +kernel
theorem dX8_undo_50 : decode cX8_undo 50 = .ok (.getfield 278, 3) := by decide +kernel
theorem dX8_undo_53 : decode cX8_undo 53 = .ok (.aload_n 0, 1) := by decide +kernel
theorem dX8_undo_54 : decode cX8_undo 54 = .ok (.getfield 45, 3) := by decide +kernel
theorem dX8_undo_57 : decode cX8_undo 57 = .ok (.getfield 80, 3) := by decide +kernel
theorem dX8_undo_60 : decode cX8_undo 60 = .ok (.iaload, 1) := by decide +kernel
theorem dX8_undo_61 : decode cX8_undo 61 = .ok (.aload_n 0, 1) := by decide +kernel
theorem dX8_undo_62 : decode cX8_undo 62 = .ok (.getfield 45, 3) := by decide +kernel
theorem dX8_undo_65 : decode cX8_undo 65 = .ok (.getfield 281, 3) := by decide +kernel
theorem dX8_undo_68 : decode cX8_undo 68 = .ok (.aload_n 0, 1) := by decide +kernel
theorem dX8_undo_69 : decode cX8_undo 69 = .ok (.getfield 45, 3) := by decide +kernel
theorem dX8_undo_72 : decode cX8_undo 72 = .ok (.getfield 80, 3) := by decide +kernel
theorem dX8_undo_75 : decode cX8_undo 75 = .ok (.iaload, 1) := by decide +kernel
theorem dX8_undo_76 : decode cX8_undo 76 = .ok (.iastore, 1) := by decide +kernel
theorem dX8_undo_77 : decode cX8_undo 77 = .ok (.aload_n 0, 1) := by decide +kernel
theorem dX8_undo_78 : decode cX8_undo 78 = .ok (.invokevirtual 87, 3) := by decide +kernel
theorem dX8_undo_81 : decode cX8_undo 81 = .ok (.aload_n 0, 1) := by decide +kernel
theorem dX8_undo_82 : decode cX8_undo 82 = .ok (.getfield 45, 3) := by decide +kernel
theorem dX8_undo_85 : decode cX8_undo 85 = .ok (.getfield 80, 3) := by decide +kernel
theorem dX8_undo_88 : decode cX8_undo 88 = .ok (.ireturn, 1) := by decide +kernel
theorem dX8_isIn_0 : decode cX8_isIn 0 = .ok (.iload_n 0, 1) := by decide +kernel
theorem dX8_isIn_1 : decode cX8_isIn 1 = .ok (.ifCond .lt 12, 3) := by decide +kernel
theorem dX8_isIn_4 : decode cX8_isIn 4 = .ok (.iload_n 0, 1) := by decide +kernel
theorem dX8_isIn_5 : decode cX8_isIn 5 = .ok (.iload_n 1, 1) := by decide +kernel
theorem dX8_isIn_6 : decode cX8_isIn 6 = .ok (.if_icmp .ge 7, 3) := by decide +kernel
theorem dX8_isIn_9 : decode cX8_isIn 9 = .ok (.iconst 1, 1) := by decide +kernel
theorem dX8_isIn_10 : decode cX8_isIn 10 = .ok (.goto 4, 3) := by decide +kernel
theorem dX8_isIn_13 : decode cX8_isIn 13 = .ok (.iconst 0, 1) := by decide +kernel
theorem dX8_isIn_14 : decode cX8_isIn 14 = .ok (.ireturn, 1) := by decide +kernel
theorem dX8_sumOf_0 : decode cX8_sumOf 0 = .ok (.iconst 0, 1) := by decide +kernel
theorem dX8_sumOf_1 : decode cX8_sumOf 1 = .ok (.istore_n 2, 1) := by decide +kernel
theorem dX8_sumOf_2 : decode cX8_sumOf 2 = .ok (.iconst 0, 1) := by decide +kernel
theorem dX8_sumOf_3 : decode cX8_sumOf 3 = .ok (.istore_n 3, 1) := by decide +kernel
theorem dX8_sumOf_4 : decode cX8_sumOf 4 = .ok (.iload_n 3, 1) := by decide +kernel
theorem dX8_sumOf_5 : decode cX8_sumOf 5 = .ok (.iload_n 1, 1) := by decide +kernel
theorem dX8_sumOf_6 : decode cX8_sumOf 6 = .ok (.if_icmp .ge 21, 3) := by decide +kernel
theorem dX8_sumOf_9 : decode cX8_sumOf 9 = .ok (.iload_n 3, 1) := by decide +kernel
theorem dX8_sumOf_10 : decode cX8_sumOf 10 = .ok (.aload_n 0, 1) := by decide +kernel
theorem dX8_sumOf_11 : decode cX8_sumOf 11 = .ok (.arraylength, 1) := by decide +kernel
theorem dX8_sumOf_12 : decode cX8_sumOf 12 = .ok (.if_icmp .ge 15, 3) := by decide +kernel
theorem dX8_sumOf_15 : decode cX8_sumOf 15 = .ok (.iload_n 2, 1) := by decide +kernel
theorem dX8_sumOf_16 : decode cX8_sumOf 16 = .ok (.aload_n 0, 1) := by decide +kernel
theorem dX8_sumOf_17 : decode cX8_sumOf 17 = .ok (.iload_n 3, 1) := by decide +kernel
theorem dX8_sumOf_18 : decode cX8_sumOf 18 = .ok (.iaload, 1) := by decide +kernel
theorem dX8_sumOf_19 : decode cX8_sumOf 19 = .ok (.iadd, 1) := by decide +kernel
theorem dX8_sumOf_20 : decode cX8_sumOf 20 = .ok (.istore_n 2, 1) := by decide +kernel
theorem dX8_sumOf_21 : decode cX8_sumOf 21 = .ok (.iinc 3 1, 3) := by decide +kernel
theorem dX8_sumOf_24 : decode cX8_sumOf 24 = .ok (.goto (-20), 3) := by decide +kernel
theorem dX8_sumOf_27 : decode cX8_sumOf 27 = .ok (.iload_n 2, 1) := by decide +kernel
theorem dX8_sumOf_28 : decode cX8_sumOf 28 = .ok (.ireturn, 1) := by decide +kernel
theorem dX8_settle_0 : decode cX8_settle 0 = .ok (.aload_n 0, 1) := by decide +kernel
theorem dX8_settle_1 : decode cX8_settle 1 = .ok (.getfield 35, 3) := by decide +kernel
theorem dX8_settle_4 : decode cX8_settle 4 = .ok (.aload_n 0, 1) := by decide +kernel
theorem dX8_settle_5 : decode cX8_settle 5 = .ok (.getfield 52, 3) := by decide +kernel
theorem dX8_settle_8 : decode cX8_settle 8 = .ok (.invokevirtual 256, 3) := by decide +kernel
theorem dX8_settle_11 : decode cX8_settle 11 = .ok (.aload_n 0, 1) := by decide +kernel
theorem dX8_settle_12 : decode cX8_settle 12 = .ok (.getfield 35, 3) := by decide +kernel
theorem dX8_settle_15 : decode cX8_settle 15 = .ok (.aload_n 0, 1) := by decide +kernel
theorem dX8_settle_16 : decode cX8_settle 16 = .ok (.getfield 52, 3) := by decide +kernel
theorem dX8_settle_19 : decode cX8_settle 19 = .ok (.aload_n 0, 1) := by decide +kernel
theorem dX8_settle_20 : decode cX8_settle 20 = .ok (.getfield 28, 3) := by decide +kernel
theorem dX8_settle_23 : decode cX8_settle 23 = .ok (.invokevirtual 263, 3) := by decide +kernel
theorem dX8_settle_26 : decode cX8_settle 26 = .ok (.return_, 1) := by decide +kernel
theorem dX8_change_0 : decode cX8_change 0 = .ok (.aload_n 2, 1) := by decide +kernel
theorem dX8_change_1 : decode cX8_change 1 = .ok (.iload_n 3, 1) := by decide +kernel
theorem dX8_change_2 : decode cX8_change 2 = .ok (.iaload, 1) := by decide +kernel
theorem dX8_change_3 : decode cX8_change 3 = .ok (.istore 5, 2) := by decide +kernel
theorem dX8_change_5 : decode cX8_change 5 = .ok (.iload 5, 2) := by decide +kernel
theorem dX8_change_7 : decode cX8_change 7 = .ok (.iload 4, 2) := by decide +kernel
theorem dX8_change_9 : decode cX8_change 9 = .ok (.if_icmp .ne 6, 3) := by decide +kernel
theorem dX8_change_12 : decode cX8_change 12 = .ok (.bipush (-2), 2) := by decide +kernel
theorem dX8_change_14 : decode cX8_change 14 = .ok (.ireturn, 1) := by decide +kernel
theorem dX8_change_15 : decode cX8_change 15 = .ok (.aload_n 2, 1) := by decide +kernel
theorem dX8_change_16 : decode cX8_change 16 = .ok (.iload_n 3, 1) := by decide +kernel
theorem dX8_change_17 : decode cX8_change 17 = .ok (.iload 4, 2) := by decide +kernel
theorem dX8_change_19 : decode cX8_change 19 = .ok (.iastore, 1) := by decide +kernel
theorem dX8_change_20 : decode cX8_change 20 = .ok (.aload_n 0, 1) := by decide +kernel
theorem dX8_change_21 : decode cX8_change 21 = .ok (.getfield 45, 3) := by decide +kernel
theorem dX8_change_24 : decode cX8_change 24 = .ok (.iload_n 1, 1) := by decide +kernel
theorem dX8_change_25 : decode cX8_change 25 = .ok (.iload_n 3, 1) := by decide +kernel
theorem dX8_change_26 : decode cX8_change 26 = .ok (.iload 5, 2) := by decide +kernel
theorem dX8_change_28 : decode cX8_change 28 = .ok (.invokevirtual 284, 3) := by decide +kernel
theorem dX8_change_31 : decode cX8_change 31 = .ok (.aload_n 0, 1) := by decide +kernel
theorem dX8_change_32 : decode cX8_change 32 = .ok (.invokevirtual 87, 3) := by decide +kernel
theorem dX8_change_35 : decode cX8_change 35 = .ok (.iload 5, 2) := by decide +kernel
theorem dX8_change_37 : decode cX8_change 37 = .ok (.ireturn, 1) := by decide +kernel
theorem dX8_rowOf_0 : decode cX8_rowOf 0 = .ok (.iload_n 1, 1) := by decide +kernel
theorem dX8_rowOf_1 : decode cX8_rowOf 1 = .ok (.lookupswitch 43 #[(0, 27), (1, 35)], 27) := by decide +kernel
theorem dX8_rowOf_28 : decode cX8_rowOf 28 = .ok (.aload_n 0, 1) := by decide +kernel
theorem dX8_rowOf_29 : decode cX8_rowOf 29 = .ok (.getfield 52, 3) := by decide +kernel
theorem dX8_rowOf_32 : decode cX8_rowOf 32 = .ok (.getfield 201, 3) := by decide +kernel
theorem dX8_rowOf_35 : decode cX8_rowOf 35 = .ok (.areturn, 1) := by decide +kernel
theorem dX8_rowOf_36 : decode cX8_rowOf 36 = .ok (.aload_n 0, 1) := by decide +kernel
theorem dX8_rowOf_37 : decode cX8_rowOf 37 = .ok (.getfield 52, 3) := by decide +kernel
theorem dX8_rowOf_40 : decode cX8_rowOf 40 = .ok (.getfield 108, 3) := by decide +kernel
theorem dX8_rowOf_43 : decode cX8_rowOf 43 = .ok (.areturn, 1) := by decide +kernel
theorem dX8_rowOf_44 : decode cX8_rowOf 44 = .ok (.aload_n 0, 1) := by decide +kernel
theorem dX8_rowOf_45 : decode cX8_rowOf 45 = .ok (.getfield 52, 3) := by decide +kernel
theorem dX8_rowOf_48 : decode cX8_rowOf 48 = .ok (.getfield 170, 3) := by decide +kernel
theorem dX8_rowOf_51 : decode cX8_rowOf 51 = .ok (.areturn, 1) := by decide +kernel
theorem dX8_hubBits_0 : decode cX8_hubBits 0 = .ok (.iconst 0, 1) := by decide +kernel
theorem dX8_hubBits_1 : decode cX8_hubBits 1 = .ok (.istore_n 1, 1) := by decide +kernel
theorem dX8_hubBits_2 : decode cX8_hubBits 2 = .ok (.iconst 0, 1) := by decide +kernel
theorem dX8_hubBits_3 : decode cX8_hubBits 3 = .ok (.istore_n 2, 1) := by decide +kernel
theorem dX8_hubBits_4 : decode cX8_hubBits 4 = .ok (.iload_n 2, 1) := by decide +kernel
theorem dX8_hubBits_5 : decode cX8_hubBits 5 = .ok (.aload_n 0, 1) := by decide +kernel
theorem dX8_hubBits_6 : decode cX8_hubBits 6 = .ok (.getfield 52, 3) := by decide +kernel
theorem dX8_hubBits_9 : decode cX8_hubBits 9 = .ok (.getfield 102, 3) := by decide +kernel
theorem dX8_hubBits_12 : decode cX8_hubBits 12 = .ok (.if_icmp .ge 48, 3) := by decide +kernel
theorem dX8_hubBits_15 : decode cX8_hubBits 15 = .ok (.iconst 0, 1) := by decide +kernel
theorem dX8_hubBits_16 : decode cX8_hubBits 16 = .ok (.istore_n 3, 1) := by decide +kernel
theorem dX8_hubBits_17 : decode cX8_hubBits 17 = .ok (.iload_n 3, 1) := by decide +kernel
theorem dX8_hubBits_18 : decode cX8_hubBits 18 = .ok (.aload_n 0, 1) := by decide +kernel
theorem dX8_hubBits_19 : decode cX8_hubBits 19 = .ok (.getfield 52, 3) := by decide +kernel
theorem dX8_hubBits_22 : decode cX8_hubBits 22 = .ok (.getfield 96, 3) := by decide +kernel
theorem dX8_hubBits_25 : decode cX8_hubBits 25 = .ok (.if_icmp .ge 29, 3) := by decide +kernel
theorem dX8_hubBits_28 : decode cX8_hubBits 28 = .ok (.aload_n 0, 1) := by decide +kernel
theorem dX8_hubBits_29 : decode cX8_hubBits 29 = .ok (.getfield 28, 3) := by decide +kernel
theorem dX8_hubBits_32 : decode cX8_hubBits 32 = .ok (.getfield 246, 3) := by decide +kernel
theorem dX8_hubBits_35 : decode cX8_hubBits 35 = .ok (.iload_n 2, 1) := by decide +kernel
theorem dX8_hubBits_36 : decode cX8_hubBits 36 = .ok (.aaload, 1) := by decide +kernel
theorem dX8_hubBits_37 : decode cX8_hubBits 37 = .ok (.iload_n 3, 1) := by decide +kernel
theorem dX8_hubBits_38 : decode cX8_hubBits 38 = .ok (.iaload, 1) := by decide +kernel
theorem dX8_hubBits_39 : decode cX8_hubBits 39 = .ok (.ifCond .le 9, 3) := by decide +kernel
theorem dX8_hubBits_42 : decode cX8_hubBits 42 = .ok (.iload_n 1, 1) := by decide +kernel
theorem dX8_hubBits_43 : decode cX8_hubBits 43 = .ok (.iconst 1, 1) := by decide +kernel
theorem dX8_hubBits_44 : decode cX8_hubBits 44 = .ok (.iload_n 3, 1) := by decide +kernel
theorem dX8_hubBits_45 : decode cX8_hubBits 45 = .ok (.ishl, 1) := by decide +kernel
theorem dX8_hubBits_46 : decode cX8_hubBits 46 = .ok (.ior, 1) := by decide +kernel
theorem dX8_hubBits_47 : decode cX8_hubBits 47 = .ok (.istore_n 1, 1) := by decide +kernel
theorem dX8_hubBits_48 : decode cX8_hubBits 48 = .ok (.iinc 3 1, 3) := by decide +kernel
theorem dX8_hubBits_51 : decode cX8_hubBits 51 = .ok (.goto (-34), 3) := by decide +kernel
theorem dX8_hubBits_54 : decode cX8_hubBits 54 = .ok (.iinc 2 1, 3) := by decide +kernel
theorem dX8_hubBits_57 : decode cX8_hubBits 57 = .ok (.goto (-53), 3) := by decide +kernel
theorem dX8_hubBits_60 : decode cX8_hubBits 60 = .ok (.iload_n 1, 1) := by decide +kernel
theorem dX8_hubBits_61 : decode cX8_hubBits 61 = .ok (.ireturn, 1) := by decide +kernel
theorem dX8_tripBits_0 : decode cX8_tripBits 0 = .ok (.iconst 0, 1) := by decide +kernel
theorem dX8_tripBits_1 : decode cX8_tripBits 1 = .ok (.istore_n 2, 1) := by decide +kernel
theorem dX8_tripBits_2 : decode cX8_tripBits 2 = .ok (.iconst 0, 1) := by decide +kernel
theorem dX8_tripBits_3 : decode cX8_tripBits 3 = .ok (.istore_n 3, 1) := by decide +kernel
theorem dX8_tripBits_4 : decode cX8_tripBits 4 = .ok (.iload_n 3, 1) := by decide +kernel
theorem dX8_tripBits_5 : decode cX8_tripBits 5 = .ok (.aload_n 0, 1) := by decide +kernel
theorem dX8_tripBits_6 : decode cX8_tripBits 6 = .ok (.getfield 52, 3) := by decide +kernel
theorem dX8_tripBits_9 : decode cX8_tripBits 9 = .ok (.getfield 105, 3) := by decide +kernel
theorem dX8_tripBits_12 : decode cX8_tripBits 12 = .ok (.if_icmp .ge 28, 3) := by decide +kernel
theorem dX8_tripBits_15 : decode cX8_tripBits 15 = .ok (.aload_n 0, 1) := by decide +kernel
theorem dX8_tripBits_16 : decode cX8_tripBits 16 = .ok (.getfield 52, 3) := by decide +kernel
theorem dX8_tripBits_19 : decode cX8_tripBits 19 = .ok (.getfield 198, 3) := by decide +kernel
theorem dX8_tripBits_22 : decode cX8_tripBits 22 = .ok (.iload_n 3, 1) := by decide +kernel
theorem dX8_tripBits_23 : decode cX8_tripBits 23 = .ok (.iaload, 1) := by decide +kernel
theorem dX8_tripBits_24 : decode cX8_tripBits 24 = .ok (.iload_n 1, 1) := by decide +kernel
theorem dX8_tripBits_25 : decode cX8_tripBits 25 = .ok (.if_icmp .ne 9, 3) := by decide +kernel
theorem dX8_tripBits_28 : decode cX8_tripBits 28 = .ok (.iload_n 2, 1) := by decide +kernel
theorem dX8_tripBits_29 : decode cX8_tripBits 29 = .ok (.iconst 1, 1) := by decide +kernel
theorem dX8_tripBits_30 : decode cX8_tripBits 30 = .ok (.iload_n 3, 1) := by decide +kernel
theorem dX8_tripBits_31 : decode cX8_tripBits 31 = .ok (.ishl, 1) := by decide +kernel
theorem dX8_tripBits_32 : decode cX8_tripBits 32 = .ok (.ior, 1) := by decide +kernel
theorem dX8_tripBits_33 : decode cX8_tripBits 33 = .ok (.istore_n 2, 1) := by decide +kernel
theorem dX8_tripBits_34 : decode cX8_tripBits 34 = .ok (.iinc 3 1, 3) := by decide +kernel
theorem dX8_tripBits_37 : decode cX8_tripBits 37 = .ok (.goto (-33), 3) := by decide +kernel
theorem dX8_tripBits_40 : decode cX8_tripBits 40 = .ok (.iload_n 2, 1) := by decide +kernel
theorem dX8_tripBits_41 : decode cX8_tripBits 41 = .ok (.ireturn, 1) := by decide +kernel
theorem dX8_sumOverTrips_0 : decode cX8_sumOverTrips 0 = .ok (.iconst 0, 1) := by decide +kernel
theorem dX8_sumOverTrips_1 : decode cX8_sumOverTrips 1 = .ok (.istore_n 3, 1) := by decide +kernel
theorem dX8_sumOverTrips_2 : decode cX8_sumOverTrips 2 = .ok (.iconst 0, 1) := by decide +kernel
theorem dX8_sumOverTrips_3 : decode cX8_sumOverTrips 3 = .ok (.istore 4, 2) := by decide +kernel
theorem dX8_sumOverTrips_5 : decode cX8_sumOverTrips 5 = .ok (.iload 4, 2) := by decide +kernel
theorem dX8_sumOverTrips_7 : decode cX8_sumOverTrips 7 = .ok (.aload_n 0, 1) := by decide +kernel
theorem dX8_sumOverTrips_8 : decode cX8_sumOverTrips 8 = .ok (.getfield 52, 3) := by decide +kernel
theorem dX8_sumOverTrips_11 : decode cX8_sumOverTrips 11 = .ok (.getfield 105, 3) := by decide +kernel
theorem dX8_sumOverTrips_14 : decode cX8_sumOverTrips 14 = .ok (.if_icmp .ge 37, 3) := by decide +kernel
theorem dX8_sumOverTrips_17 : decode cX8_sumOverTrips 17 = .ok (.iload 4, 2) := by decide +kernel
theorem dX8_sumOverTrips_19 : decode cX8_sumOverTrips 19 = .ok (.aload_n 2, 1) := by decide +kernel
theorem dX8_sumOverTrips_20 : decode cX8_sumOverTrips 20 = .ok (.arraylength, 1) := by decide +kernel
theorem dX8_sumOverTrips_21 : decode cX8_sumOverTrips 21 = .ok (.if_icmp .ge 30, 3) := by decide +kernel
theorem dX8_sumOverTrips_24 : decode cX8_sumOverTrips 24 = .ok (.aload_n 0, 1) := by decide +kernel
theorem dX8_sumOverTrips_25 : decode cX8_sumOverTrips 25 = .ok (.getfield 52, 3) := by decide +kernel
theorem dX8_sumOverTrips_28 : decode cX8_sumOverTrips 28 = .ok (.getfield 198, 3) := by decide +kernel
theorem dX8_sumOverTrips_31 : decode cX8_sumOverTrips 31 = .ok (.iload 4, 2) := by decide +kernel
theorem dX8_sumOverTrips_33 : decode cX8_sumOverTrips 33 = .ok (.iaload, 1) := by decide +kernel
theorem dX8_sumOverTrips_34 : decode cX8_sumOverTrips 34 = .ok (.iload_n 1, 1) := by decide +kernel
theorem dX8_sumOverTrips_35 : decode cX8_sumOverTrips 35 = .ok (.if_icmp .ne 10, 3) := by decide +kernel
theorem dX8_sumOverTrips_38 : decode cX8_sumOverTrips 38 = .ok (.iload_n 3, 1) := by decide +kernel
theorem dX8_sumOverTrips_39 : decode cX8_sumOverTrips 39 = .ok (.aload_n 2, 1) := by decide +kernel
theorem dX8_sumOverTrips_40 : decode cX8_sumOverTrips 40 = .ok (.iload 4, 2) := by decide +kernel
theorem dX8_sumOverTrips_42 : decode cX8_sumOverTrips 42 = .ok (.iaload, 1) := by decide +kernel
theorem dX8_sumOverTrips_43 : decode cX8_sumOverTrips 43 = .ok (.iadd, 1) := by decide +kernel
theorem dX8_sumOverTrips_44 : decode cX8_sumOverTrips 44 = .ok (.istore_n 3, 1) := by decide +kernel
theorem dX8_sumOverTrips_45 : decode cX8_sumOverTrips 45 = .ok (.iinc 4 1, 3) := by decide +kernel
theorem dX8_sumOverTrips_48 : decode cX8_sumOverTrips 48 = .ok (.goto (-43), 3) := by decide +kernel
theorem dX8_sumOverTrips_51 : decode cX8_sumOverTrips 51 = .ok (.iload_n 3, 1) := by decide +kernel
theorem dX8_sumOverTrips_52 : decode cX8_sumOverTrips 52 = .ok (.ireturn, 1) := by decide +kernel
theorem dX8_lastPlace_0 : decode cX8_lastPlace 0 = .ok (.iconst (-1), 1) := by decide +kernel
theorem dX8_lastPlace_1 : decode cX8_lastPlace 1 = .ok (.istore_n 2, 1) := by decide +kernel
theorem dX8_lastPlace_2 : decode cX8_lastPlace 2 = .ok (.iconst 0, 1) := by decide +kernel
theorem dX8_lastPlace_3 : decode cX8_lastPlace 3 = .ok (.istore_n 3, 1) := by decide +kernel
theorem dX8_lastPlace_4 : decode cX8_lastPlace 4 = .ok (.iload_n 3, 1) := by decide +kernel
theorem dX8_lastPlace_5 : decode cX8_lastPlace 5 = .ok (.aload_n 0, 1) := by decide +kernel
theorem dX8_lastPlace_6 : decode cX8_lastPlace 6 = .ok (.getfield 52, 3) := by decide +kernel
theorem dX8_lastPlace_9 : decode cX8_lastPlace 9 = .ok (.getfield 105, 3) := by decide +kernel
theorem dX8_lastPlace_12 : decode cX8_lastPlace 12 = .ok (.if_icmp .ge 32, 3) := by decide +kernel
theorem dX8_lastPlace_15 : decode cX8_lastPlace 15 = .ok (.aload_n 0, 1) := by decide +kernel
theorem dX8_lastPlace_16 : decode cX8_lastPlace 16 = .ok (.getfield 52, 3) := by decide +kernel
theorem dX8_lastPlace_19 : decode cX8_lastPlace 19 = .ok (.getfield 198, 3) := by decide +kernel
theorem dX8_lastPlace_22 : decode cX8_lastPlace 22 = .ok (.iload_n 3, 1) := by decide +kernel
theorem dX8_lastPlace_23 : decode cX8_lastPlace 23 = .ok (.iaload, 1) := by decide +kernel
theorem dX8_lastPlace_24 : decode cX8_lastPlace 24 = .ok (.iload_n 1, 1) := by decide +kernel
theorem dX8_lastPlace_25 : decode cX8_lastPlace 25 = .ok (.if_icmp .ne 13, 3) := by decide +kernel
theorem dX8_lastPlace_28 : decode cX8_lastPlace 28 = .ok (.aload_n 0, 1) := by decide +kernel
theorem dX8_lastPlace_29 : decode cX8_lastPlace 29 = .ok (.getfield 28, 3) := by decide +kernel
theorem dX8_lastPlace_32 : decode cX8_lastPlace 32 = .ok (.getfield 222, 3) := by decide +kernel
theorem dX8_lastPlace_35 : decode cX8_lastPlace 35 = .ok (.iload_n 3, 1) := by decide +kernel
theorem dX8_lastPlace_36 : decode cX8_lastPlace 36 = .ok (.iaload, 1) := by decide +kernel
theorem dX8_lastPlace_37 : decode cX8_lastPlace 37 = .ok (.istore_n 2, 1) := by decide +kernel
theorem dX8_lastPlace_38 : decode cX8_lastPlace 38 = .ok (.iinc 3 1, 3) := by decide +kernel
theorem dX8_lastPlace_41 : decode cX8_lastPlace 41 = .ok (.goto (-37), 3) := by decide +kernel
theorem dX8_lastPlace_44 : decode cX8_lastPlace 44 = .ok (.iload_n 2, 1) := by decide +kernel
theorem dX8_lastPlace_45 : decode cX8_lastPlace 45 = .ok (.ireturn, 1) := by decide +kernel
theorem dX8_tripBitsOfLoad_0 : decode cX8_tripBitsOfLoad 0 = .ok (.iconst 0, 1) := by decide +kernel
theorem dX8_tripBitsOfLoad_1 : decode cX8_tripBitsOfLoad 1 = .ok (.istore_n 2, 1) := by decide +kernel
theorem dX8_tripBitsOfLoad_2 : decode cX8_tripBitsOfLoad 2 = .ok (.iconst 0, 1) := by decide +kernel
theorem dX8_tripBitsOfLoad_3 : decode cX8_tripBitsOfLoad 3 = .ok (.istore_n 3, 1) := by decide +kernel
theorem dX8_tripBitsOfLoad_4 : decode cX8_tripBitsOfLoad 4 = .ok (.iload_n 3, 1) := by decide +kernel
theorem dX8_tripBitsOfLoad_5 : decode cX8_tripBitsOfLoad 5 = .ok (.aload_n 0, 1) := by decide +kernel
theorem dX8_tripBitsOfLoad_6 : decode cX8_tripBitsOfLoad 6 = .ok (.getfield 52, 3) := by decide +kernel
theorem dX8_tripBitsOfLoad_9 : decode cX8_tripBitsOfLoad 9 = .ok (.getfield 105, 3) := by decide +kernel
theorem dX8_tripBitsOfLoad_12 : decode cX8_tripBitsOfLoad 12 = .ok (.if_icmp .ge 31, 3) := by decide +kernel
theorem dX8_tripBitsOfLoad_15 : decode cX8_tripBitsOfLoad 15 = .ok (.aload_n 0, 1) := by decide +kernel
theorem dX8_tripBitsOfLoad_16 : decode cX8_tripBitsOfLoad 16 = .ok (.getfield 28, 3) := by decide +kernel
theorem dX8_tripBitsOfLoad_19 : decode cX8_tripBitsOfLoad 19 = .ok (.getfield 204, 3) := by decide +kernel
theorem dX8_tripBitsOfLoad_22 : decode cX8_tripBitsOfLoad 22 = .ok (.iload_n 3, 1) := by decide +kernel
theorem dX8_tripBitsOfLoad_23 : decode cX8_tripBitsOfLoad 23 = .ok (.iaload, 1) := by decide +kernel
theorem dX8_tripBitsOfLoad_24 : decode cX8_tripBitsOfLoad 24 = .ok (.iload_n 1, 1) := by decide +kernel
theorem dX8_tripBitsOfLoad_25 : decode cX8_tripBitsOfLoad 25 = .ok (.ishr, 1) := by decide +kernel
theorem dX8_tripBitsOfLoad_26 : decode cX8_tripBitsOfLoad 26 = .ok (.iconst 1, 1) := by decide +kernel
theorem dX8_tripBitsOfLoad_27 : decode cX8_tripBitsOfLoad 27 = .ok (.iand, 1) := by decide +kernel
theorem dX8_tripBitsOfLoad_28 : decode cX8_tripBitsOfLoad 28 = .ok (.ifCond .eq 9, 3) := by decide +kernel
theorem dX8_tripBitsOfLoad_31 : decode cX8_tripBitsOfLoad 31 = .ok (.iload_n 2, 1) := by decide +kernel
theorem dX8_tripBitsOfLoad_32 : decode cX8_tripBitsOfLoad 32 = .ok (.iconst 1, 1) := by decide +kernel
theorem dX8_tripBitsOfLoad_33 : decode cX8_tripBitsOfLoad 33 = .ok (.iload_n 3, 1) := by decide +kernel
theorem dX8_tripBitsOfLoad_34 : decode cX8_tripBitsOfLoad 34 = .ok (.ishl, 1) := by decide +kernel
theorem dX8_tripBitsOfLoad_35 : decode cX8_tripBitsOfLoad 35 = .ok (.ior, 1) := by decide +kernel
theorem dX8_tripBitsOfLoad_36 : decode cX8_tripBitsOfLoad 36 = .ok (.istore_n 2, 1) := by decide +kernel
theorem dX8_tripBitsOfLoad_37 : decode cX8_tripBitsOfLoad 37 = .ok (.iinc 3 1, 3) := by decide +kernel
theorem dX8_tripBitsOfLoad_40 : decode cX8_tripBitsOfLoad 40 = .ok (.goto (-36), 3) := by decide +kernel
theorem dX8_tripBitsOfLoad_43 : decode cX8_tripBitsOfLoad 43 = .ok (.iload_n 2, 1) := by decide +kernel
theorem dX8_tripBitsOfLoad_44 : decode cX8_tripBitsOfLoad 44 = .ok (.ireturn, 1) := by decide +kernel
theorem dX8_partsOfLoad_0 : decode cX8_partsOfLoad 0 = .ok (.iconst 0, 1) := by decide +kernel
theorem dX8_partsOfLoad_1 : decode cX8_partsOfLoad 1 = .ok (.istore_n 2, 1) := by decide +kernel
theorem dX8_partsOfLoad_2 : decode cX8_partsOfLoad 2 = .ok (.iconst 0, 1) := by decide +kernel
theorem dX8_partsOfLoad_3 : decode cX8_partsOfLoad 3 = .ok (.istore_n 3, 1) := by decide +kernel
theorem dX8_partsOfLoad_4 : decode cX8_partsOfLoad 4 = .ok (.iload_n 3, 1) := by decide +kernel
theorem dX8_partsOfLoad_5 : decode cX8_partsOfLoad 5 = .ok (.aload_n 0, 1) := by decide +kernel
theorem dX8_partsOfLoad_6 : decode cX8_partsOfLoad 6 = .ok (.getfield 52, 3) := by decide +kernel
theorem dX8_partsOfLoad_9 : decode cX8_partsOfLoad 9 = .ok (.getfield 105, 3) := by decide +kernel
theorem dX8_partsOfLoad_12 : decode cX8_partsOfLoad 12 = .ok (.if_icmp .ge 23, 3) := by decide +kernel
theorem dX8_partsOfLoad_15 : decode cX8_partsOfLoad 15 = .ok (.iload_n 2, 1) := by decide +kernel
theorem dX8_partsOfLoad_16 : decode cX8_partsOfLoad 16 = .ok (.aload_n 0, 1) := by decide +kernel
theorem dX8_partsOfLoad_17 : decode cX8_partsOfLoad 17 = .ok (.getfield 35, 3) := by decide +kernel
theorem dX8_partsOfLoad_20 : decode cX8_partsOfLoad 20 = .ok (.getfield 288, 3) := by decide +kernel
theorem dX8_partsOfLoad_23 : decode cX8_partsOfLoad 23 = .ok (.iload_n 3, 1) := by decide +kernel
theorem dX8_partsOfLoad_24 : decode cX8_partsOfLoad 24 = .ok (.aaload, 1) := by decide +kernel
theorem dX8_partsOfLoad_25 : decode cX8_partsOfLoad 25 = .ok (.iload_n 1, 1) := by decide +kernel
theorem dX8_partsOfLoad_26 : decode cX8_partsOfLoad 26 = .ok (.iaload, 1) := by decide +kernel
theorem dX8_partsOfLoad_27 : decode cX8_partsOfLoad 27 = .ok (.iadd, 1) := by decide +kernel
theorem dX8_partsOfLoad_28 : decode cX8_partsOfLoad 28 = .ok (.istore_n 2, 1) := by decide +kernel
theorem dX8_partsOfLoad_29 : decode cX8_partsOfLoad 29 = .ok (.iinc 3 1, 3) := by decide +kernel
theorem dX8_partsOfLoad_32 : decode cX8_partsOfLoad 32 = .ok (.goto (-28), 3) := by decide +kernel
theorem dX8_partsOfLoad_35 : decode cX8_partsOfLoad 35 = .ok (.iload_n 2, 1) := by decide +kernel
theorem dX8_partsOfLoad_36 : decode cX8_partsOfLoad 36 = .ok (.ireturn, 1) := by decide +kernel
theorem dX8_due_0 : decode cX8_due 0 = .ok (.aload_n 0, 1) := by decide +kernel
theorem dX8_due_1 : decode cX8_due 1 = .ok (.getfield 52, 3) := by decide +kernel
theorem dX8_due_4 : decode cX8_due 4 = .ok (.getfield 170, 3) := by decide +kernel
theorem dX8_due_7 : decode cX8_due 7 = .ok (.iload_n 1, 1) := by decide +kernel
theorem dX8_due_8 : decode cX8_due 8 = .ok (.iaload, 1) := by decide +kernel
theorem dX8_due_9 : decode cX8_due 9 = .ok (.i2l, 1) := by decide +kernel
theorem dX8_due_10 : decode cX8_due 10 = .ok (.aload_n 0, 1) := by decide +kernel
theorem dX8_due_11 : decode cX8_due 11 = .ok (.getfield 28, 3) := by decide +kernel
theorem dX8_due_14 : decode cX8_due 14 = .ok (.getfield 291, 3) := by decide +kernel
theorem dX8_due_17 : decode cX8_due 17 = .ok (.iload_n 1, 1) := by decide +kernel
theorem dX8_due_18 : decode cX8_due 18 = .ok (.iaload, 1) := by decide +kernel
theorem dX8_due_19 : decode cX8_due 19 = .ok (.i2l, 1) := by decide +kernel
theorem dX8_due_20 : decode cX8_due 20 = .ok (.lmul, 1) := by decide +kernel
theorem dX8_due_21 : decode cX8_due 21 = .ok (.aload_n 0, 1) := by decide +kernel
theorem dX8_due_22 : decode cX8_due 22 = .ok (.getfield 52, 3) := by decide +kernel
theorem dX8_due_25 : decode cX8_due 25 = .ok (.getfield 93, 3) := by decide +kernel
theorem dX8_due_28 : decode cX8_due 28 = .ok (.i2l, 1) := by decide +kernel
theorem dX8_due_29 : decode cX8_due 29 = .ok (.lmul, 1) := by decide +kernel
theorem dX8_due_30 : decode cX8_due 30 = .ok (.lstore_n 2, 1) := by decide +kernel
theorem dX8_due_31 : decode cX8_due 31 = .ok (.lload_n 2, 1) := by decide +kernel
theorem dX8_due_32 : decode cX8_due 32 = .ok (.ldc2_w 294, 3) := by decide +kernel
theorem dX8_due_35 : decode cX8_due 35 = .ok (.ladd, 1) := by decide +kernel
theorem dX8_due_36 : decode cX8_due 36 = .ok (.ldc2_w 296, 3) := by decide +kernel
theorem dX8_due_39 : decode cX8_due 39 = .ok (.ldiv, 1) := by decide +kernel
theorem dX8_due_40 : decode cX8_due 40 = .ok (.l2i, 1) := by decide +kernel
theorem dX8_due_41 : decode cX8_due 41 = .ok (.ireturn, 1) := by decide +kernel
theorem dX8_isDearer_0 : decode cX8_isDearer 0 = .ok (.aload_n 0, 1) := by decide +kernel
theorem dX8_isDearer_1 : decode cX8_isDearer 1 = .ok (.getfield 35, 3) := by decide +kernel
theorem dX8_isDearer_4 : decode cX8_isDearer 4 = .ok (.getfield 213, 3) := by decide +kernel
theorem dX8_isDearer_7 : decode cX8_isDearer 7 = .ok (.iload_n 1, 1) := by decide +kernel
theorem dX8_isDearer_8 : decode cX8_isDearer 8 = .ok (.iaload, 1) := by decide +kernel
theorem dX8_isDearer_9 : decode cX8_isDearer 9 = .ok (.i2l, 1) := by decide +kernel
theorem dX8_isDearer_10 : decode cX8_isDearer 10 = .ok (.aload_n 0, 1) := by decide +kernel
theorem dX8_isDearer_11 : decode cX8_isDearer 11 = .ok (.getfield 35, 3) := by decide +kernel
theorem dX8_isDearer_14 : decode cX8_isDearer 14 = .ok (.getfield 207, 3) := by decide +kernel
theorem dX8_isDearer_17 : decode cX8_isDearer 17 = .ok (.iload_n 2, 1) := by decide +kernel
theorem dX8_isDearer_18 : decode cX8_isDearer 18 = .ok (.iaload, 1) := by decide +kernel
theorem dX8_isDearer_19 : decode cX8_isDearer 19 = .ok (.i2l, 1) := by decide +kernel
theorem dX8_isDearer_20 : decode cX8_isDearer 20 = .ok (.lmul, 1) := by decide +kernel
theorem dX8_isDearer_21 : decode cX8_isDearer 21 = .ok (.lstore_n 3, 1) := by decide +kernel
theorem dX8_isDearer_22 : decode cX8_isDearer 22 = .ok (.aload_n 0, 1) := by decide +kernel
theorem dX8_isDearer_23 : decode cX8_isDearer 23 = .ok (.getfield 35, 3) := by decide +kernel
theorem dX8_isDearer_26 : decode cX8_isDearer 26 = .ok (.getfield 213, 3) := by decide +kernel
theorem dX8_isDearer_29 : decode cX8_isDearer 29 = .ok (.iload_n 2, 1) := by decide +kernel
theorem dX8_isDearer_30 : decode cX8_isDearer 30 = .ok (.iaload, 1) := by decide +kernel
theorem dX8_isDearer_31 : decode cX8_isDearer 31 = .ok (.i2l, 1) := by decide +kernel
theorem dX8_isDearer_32 : decode cX8_isDearer 32 = .ok (.aload_n 0, 1) := by decide +kernel
theorem dX8_isDearer_33 : decode cX8_isDearer 33 = .ok (.getfield 35, 3) := by decide +kernel
theorem dX8_isDearer_36 : decode cX8_isDearer 36 = .ok (.getfield 207, 3) := by decide +kernel
theorem dX8_isDearer_39 : decode cX8_isDearer 39 = .ok (.iload_n 1, 1) := by decide +kernel
theorem dX8_isDearer_40 : decode cX8_isDearer 40 = .ok (.iaload, 1) := by decide +kernel
theorem dX8_isDearer_41 : decode cX8_isDearer 41 = .ok (.i2l, 1) := by decide +kernel
theorem dX8_isDearer_42 : decode cX8_isDearer 42 = .ok (.lmul, 1) := by decide +kernel
theorem dX8_isDearer_43 : decode cX8_isDearer 43 = .ok (.lstore 5, 2) := by decide +kernel
theorem dX8_isDearer_45 : decode cX8_isDearer 45 = .ok (.lload_n 3, 1) := by decide +kernel
theorem dX8_isDearer_46 : decode cX8_isDearer 46 = .ok (.lload 5, 2) := by decide +kernel
theorem dX8_isDearer_48 : decode cX8_isDearer 48 = .ok (.lcmp, 1) := by decide +kernel
theorem dX8_isDearer_49 : decode cX8_isDearer 49 = .ok (.ifCond .le 7, 3) := by decide +kernel
theorem dX8_isDearer_52 : decode cX8_isDearer 52 = .ok (.iconst 1, 1) := by decide +kernel
theorem dX8_isDearer_53 : decode cX8_isDearer 53 = .ok (.goto 4, 3) := by decide +kernel
theorem dX8_isDearer_56 : decode cX8_isDearer 56 = .ok (.iconst 0, 1) := by decide +kernel
theorem dX8_isDearer_57 : decode cX8_isDearer 57 = .ok (.ireturn, 1) := by decide +kernel
theorem dL_load_0 : decode cL_load 0 = .ok (.aload_n 3, 1) := by decide +kernel
theorem dL_load_1 : decode cL_load 1 = .ok (.iconst 0, 1) := by decide +kernel
theorem dL_load_2 : decode cL_load 2 = .ok (.aload_n 0, 1) := by decide +kernel
theorem dL_load_3 : decode cL_load 3 = .ok (.iload_n 1, 1) := by decide +kernel
theorem dL_load_4 : decode cL_load 4 = .ok (.iload_n 2, 1) := by decide +kernel
theorem dL_load_5 : decode cL_load 5 = .ok (.invokevirtual 7, 3) := by decide +kernel
theorem dL_load_8 : decode cL_load 8 = .ok (.i2l, 1) := by decide +kernel
theorem dL_load_9 : decode cL_load 9 = .ok (.lastore, 1) := by decide +kernel
theorem dL_load_10 : decode cL_load 10 = .ok (.goto 7, 3) := by decide +kernel
theorem dL_load_13 : decode cL_load 13 = .ok (.astore 4, 2) := by decide +kernel
theorem dL_load_15 : decode cL_load 15 = .ok (.iconst 1, 1) := by decide +kernel
theorem dL_load_16 : decode cL_load 16 = .ok (.ireturn, 1) := by decide +kernel
theorem dL_load_17 : decode cL_load 17 = .ok (.iconst 0, 1) := by decide +kernel
theorem dL_load_18 : decode cL_load 18 = .ok (.ireturn, 1) := by decide +kernel
theorem dL_trip_0 : decode cL_trip 0 = .ok (.aload_n 3, 1) := by decide +kernel
theorem dL_trip_1 : decode cL_trip 1 = .ok (.iconst 0, 1) := by decide +kernel
theorem dL_trip_2 : decode cL_trip 2 = .ok (.aload_n 0, 1) := by decide +kernel
theorem dL_trip_3 : decode cL_trip 3 = .ok (.iload_n 1, 1) := by decide +kernel
theorem dL_trip_4 : decode cL_trip 4 = .ok (.iload_n 2, 1) := by decide +kernel
theorem dL_trip_5 : decode cL_trip 5 = .ok (.invokevirtual 15, 3) := by decide +kernel
theorem dL_trip_8 : decode cL_trip 8 = .ok (.i2l, 1) := by decide +kernel
theorem dL_trip_9 : decode cL_trip 9 = .ok (.lastore, 1) := by decide +kernel
theorem dL_trip_10 : decode cL_trip 10 = .ok (.goto 7, 3) := by decide +kernel
theorem dL_trip_13 : decode cL_trip 13 = .ok (.astore 4, 2) := by decide +kernel
theorem dL_trip_15 : decode cL_trip 15 = .ok (.iconst 1, 1) := by decide +kernel
theorem dL_trip_16 : decode cL_trip 16 = .ok (.ireturn, 1) := by decide +kernel
theorem dL_trip_17 : decode cL_trip 17 = .ok (.iconst 0, 1) := by decide +kernel
theorem dL_trip_18 : decode cL_trip 18 = .ok (.ireturn, 1) := by decide +kernel
theorem dL_law_0 : decode cL_law 0 = .ok (.new 8, 3) := by decide +kernel
theorem dL_law_3 : decode cL_law 3 = .ok (.dup, 1) := by decide +kernel
theorem dL_law_4 : decode cL_law 4 = .ok (.invokespecial 18, 3) := by decide +kernel
theorem dL_law_7 : decode cL_law 7 = .ok (.astore_n 1, 1) := by decide +kernel
theorem dL_law_8 : decode cL_law 8 = .ok (.new 19, 3) := by decide +kernel
theorem dL_law_11 : decode cL_law 11 = .ok (.dup, 1) := by decide +kernel
theorem dL_law_12 : decode cL_law 12 = .ok (.invokespecial 21, 3) := by decide +kernel
theorem dL_law_15 : decode cL_law 15 = .ok (.astore_n 2, 1) := by decide +kernel
theorem dL_law_16 : decode cL_law 16 = .ok (.iconst 1, 1) := by decide +kernel
theorem dL_law_17 : decode cL_law 17 = .ok (.newarray .long, 2) := by decide +kernel
theorem dL_law_19 : decode cL_law 19 = .ok (.astore_n 3, 1) := by decide +kernel
theorem dL_law_20 : decode cL_law 20 = .ok (.iconst 0, 1) := by decide +kernel
theorem dL_law_21 : decode cL_law 21 = .ok (.istore 4, 2) := by decide +kernel
theorem dL_law_23 : decode cL_law 23 = .ok (.iload 4, 2) := by decide +kernel
theorem dL_law_25 : decode cL_law 25 = .ok (.aload_n 0, 1) := by decide +kernel
theorem dL_law_26 : decode cL_law 26 = .ok (.arraylength, 1) := by decide +kernel
theorem dL_law_27 : decode cL_law 27 = .ok (.bipush 6, 2) := by decide +kernel
theorem dL_law_29 : decode cL_law 29 = .ok (.isub, 1) := by decide +kernel
theorem dL_law_30 : decode cL_law 30 = .ok (.if_icmp .gt 847, 3) := by decide +kernel
theorem dL_law_33 : decode cL_law 33 = .ok (.aload_n 0, 1) := by decide +kernel
theorem dL_law_34 : decode cL_law 34 = .ok (.iload 4, 2) := by decide +kernel
theorem dL_law_36 : decode cL_law 36 = .ok (.iaload, 1) := by decide +kernel
theorem dL_law_37 : decode cL_law 37 = .ok (.bipush 31, 2) := by decide +kernel
theorem dL_law_39 : decode cL_law 39 = .ok (.iand, 1) := by decide +kernel
theorem dL_law_40 : decode cL_law 40 = .ok (.tableswitch 831 0 20 #[100, 173, 198, 211, 224, 249, 286, 323, 391, 459, 496, 533, 570, 583, 608, 657, 694, 707, 744, 781, 818], 100) := by decide +kernel
theorem dL_law_140 : decode cL_law 140 = .ok (.aload_n 1, 1) := by decide +kernel
theorem dL_law_141 : decode cL_law 141 = .ok (.aload_n 0, 1) := by decide +kernel
theorem dL_law_142 : decode cL_law 142 = .ok (.iload 4, 2) := by decide +kernel
theorem dL_law_144 : decode cL_law 144 = .ok (.iconst 1, 1) := by decide +kernel
theorem dL_law_145 : decode cL_law 145 = .ok (.iadd, 1) := by decide +kernel
theorem dL_law_146 : decode cL_law 146 = .ok (.iaload, 1) := by decide +kernel
theorem dL_law_147 : decode cL_law 147 = .ok (.aload_n 0, 1) := by decide +kernel
theorem dL_law_148 : decode cL_law 148 = .ok (.iload 4, 2) := by decide +kernel
theorem dL_law_150 : decode cL_law 150 = .ok (.iconst 2, 1) := by decide +kernel
theorem dL_law_151 : decode cL_law 151 = .ok (.iadd, 1) := by decide +kernel
theorem dL_law_152 : decode cL_law 152 = .ok (.iaload, 1) := by decide +kernel
theorem dL_law_153 : decode cL_law 153 = .ok (.aload_n 0, 1) := by decide +kernel
theorem dL_law_154 : decode cL_law 154 = .ok (.iload 4, 2) := by decide +kernel
theorem dL_law_156 : decode cL_law 156 = .ok (.iconst 3, 1) := by decide +kernel
theorem dL_law_157 : decode cL_law 157 = .ok (.iadd, 1) := by decide +kernel
theorem dL_law_158 : decode cL_law 158 = .ok (.iaload, 1) := by decide +kernel
theorem dL_law_159 : decode cL_law 159 = .ok (.aload_n 0, 1) := by decide +kernel
theorem dL_law_160 : decode cL_law 160 = .ok (.iload 4, 2) := by decide +kernel
theorem dL_law_162 : decode cL_law 162 = .ok (.iconst 4, 1) := by decide +kernel
theorem dL_law_163 : decode cL_law 163 = .ok (.iadd, 1) := by decide +kernel
theorem dL_law_164 : decode cL_law 164 = .ok (.iaload, 1) := by decide +kernel
theorem dL_law_165 : decode cL_law 165 = .ok (.aload_n 0, 1) := by decide +kernel
theorem dL_law_166 : decode cL_law 166 = .ok (.iload 4, 2) := by decide +kernel
theorem dL_law_168 : decode cL_law 168 = .ok (.iconst 5, 1) := by decide +kernel
theorem dL_law_169 : decode cL_law 169 = .ok (.iadd, 1) := by decide +kernel
theorem dL_law_170 : decode cL_law 170 = .ok (.iaload, 1) := by decide +kernel
theorem dL_law_171 : decode cL_law 171 = .ok (.invokevirtual 22, 3) := by decide +kernel
theorem dL_law_174 : decode cL_law 174 = .ok (.aload_n 2, 1) := by decide +kernel
theorem dL_law_175 : decode cL_law 175 = .ok (.aload_n 0, 1) := by decide +kernel
theorem dL_law_176 : decode cL_law 176 = .ok (.iload 4, 2) := by decide +kernel
theorem dL_law_178 : decode cL_law 178 = .ok (.iconst 1, 1) := by decide +kernel
theorem dL_law_179 : decode cL_law 179 = .ok (.iadd, 1) := by decide +kernel
theorem dL_law_180 : decode cL_law 180 = .ok (.iaload, 1) := by decide +kernel
theorem dL_law_181 : decode cL_law 181 = .ok (.aload_n 0, 1) := by decide +kernel
theorem dL_law_182 : decode cL_law 182 = .ok (.iload 4, 2) := by decide +kernel
theorem dL_law_184 : decode cL_law 184 = .ok (.iconst 2, 1) := by decide +kernel
theorem dL_law_185 : decode cL_law 185 = .ok (.iadd, 1) := by decide +kernel
theorem dL_law_186 : decode cL_law 186 = .ok (.iaload, 1) := by decide +kernel
theorem dL_law_187 : decode cL_law 187 = .ok (.aload_n 0, 1) := by decide +kernel
theorem dL_law_188 : decode cL_law 188 = .ok (.iload 4, 2) := by decide +kernel
theorem dL_law_190 : decode cL_law 190 = .ok (.iconst 3, 1) := by decide +kernel
theorem dL_law_191 : decode cL_law 191 = .ok (.iadd, 1) := by decide +kernel
theorem dL_law_192 : decode cL_law 192 = .ok (.iaload, 1) := by decide +kernel
theorem dL_law_193 : decode cL_law 193 = .ok (.aload_n 0, 1) := by decide +kernel
theorem dL_law_194 : decode cL_law 194 = .ok (.iload 4, 2) := by decide +kernel
theorem dL_law_196 : decode cL_law 196 = .ok (.iconst 4, 1) := by decide +kernel
theorem dL_law_197 : decode cL_law 197 = .ok (.iadd, 1) := by decide +kernel
theorem dL_law_198 : decode cL_law 198 = .ok (.iaload, 1) := by decide +kernel
theorem dL_law_199 : decode cL_law 199 = .ok (.aload_n 0, 1) := by decide +kernel
theorem dL_law_200 : decode cL_law 200 = .ok (.iload 4, 2) := by decide +kernel
theorem dL_law_202 : decode cL_law 202 = .ok (.iconst 5, 1) := by decide +kernel
theorem dL_law_203 : decode cL_law 203 = .ok (.iadd, 1) := by decide +kernel
theorem dL_law_204 : decode cL_law 204 = .ok (.iaload, 1) := by decide +kernel
theorem dL_law_205 : decode cL_law 205 = .ok (.invokevirtual 26, 3) := by decide +kernel
theorem dL_law_208 : decode cL_law 208 = .ok (.if_icmp .eq 663, 3) := by decide +kernel
theorem dL_law_211 : decode cL_law 211 = .ok (.iconst 0, 1) := by decide +kernel
theorem dL_law_212 : decode cL_law 212 = .ok (.ireturn, 1) := by decide +kernel
theorem dL_law_213 : decode cL_law 213 = .ok (.aload_n 1, 1) := by decide +kernel
theorem dL_law_214 : decode cL_law 214 = .ok (.aload_n 0, 1) := by decide +kernel
theorem dL_law_215 : decode cL_law 215 = .ok (.iload 4, 2) := by decide +kernel
theorem dL_law_217 : decode cL_law 217 = .ok (.iconst 1, 1) := by decide +kernel
theorem dL_law_218 : decode cL_law 218 = .ok (.iadd, 1) := by decide +kernel
theorem dL_law_219 : decode cL_law 219 = .ok (.iaload, 1) := by decide +kernel
theorem dL_law_220 : decode cL_law 220 = .ok (.invokevirtual 27, 3) := by decide +kernel
theorem dL_law_223 : decode cL_law 223 = .ok (.aload_n 2, 1) := by decide +kernel
theorem dL_law_224 : decode cL_law 224 = .ok (.aload_n 0, 1) := by decide +kernel
theorem dL_law_225 : decode cL_law 225 = .ok (.iload 4, 2) := by decide +kernel
theorem dL_law_227 : decode cL_law 227 = .ok (.iconst 1, 1) := by decide +kernel
theorem dL_law_228 : decode cL_law 228 = .ok (.iadd, 1) := by decide +kernel
theorem dL_law_229 : decode cL_law 229 = .ok (.iaload, 1) := by decide +kernel
theorem dL_law_230 : decode cL_law 230 = .ok (.invokevirtual 31, 3) := by decide +kernel
theorem dL_law_233 : decode cL_law 233 = .ok (.if_icmp .eq 638, 3) := by decide +kernel
theorem dL_law_236 : decode cL_law 236 = .ok (.iconst 0, 1) := by decide +kernel
theorem dL_law_237 : decode cL_law 237 = .ok (.ireturn, 1) := by decide +kernel
theorem dL_law_238 : decode cL_law 238 = .ok (.aload_n 1, 1) := by decide +kernel
theorem dL_law_239 : decode cL_law 239 = .ok (.invokevirtual 32, 3) := by decide +kernel
theorem dL_law_242 : decode cL_law 242 = .ok (.aload_n 2, 1) := by decide +kernel
theorem dL_law_243 : decode cL_law 243 = .ok (.invokevirtual 36, 3) := by decide +kernel
theorem dL_law_246 : decode cL_law 246 = .ok (.if_icmp .eq 625, 3) := by decide +kernel
theorem dL_law_249 : decode cL_law 249 = .ok (.iconst 0, 1) := by decide +kernel
theorem dL_law_250 : decode cL_law 250 = .ok (.ireturn, 1) := by decide +kernel
theorem dL_law_251 : decode cL_law 251 = .ok (.aload_n 1, 1) := by decide +kernel
theorem dL_law_252 : decode cL_law 252 = .ok (.invokevirtual 37, 3) := by decide +kernel
theorem dL_law_255 : decode cL_law 255 = .ok (.aload_n 2, 1) := by decide +kernel
theorem dL_law_256 : decode cL_law 256 = .ok (.invokevirtual 40, 3) := by decide +kernel
theorem dL_law_259 : decode cL_law 259 = .ok (.if_icmp .eq 612, 3) := by decide +kernel
theorem dL_law_262 : decode cL_law 262 = .ok (.iconst 0, 1) := by decide +kernel
theorem dL_law_263 : decode cL_law 263 = .ok (.ireturn, 1) := by decide +kernel
theorem dL_law_264 : decode cL_law 264 = .ok (.aload_n 1, 1) := by decide +kernel
theorem dL_law_265 : decode cL_law 265 = .ok (.aload_n 0, 1) := by decide +kernel
theorem dL_law_266 : decode cL_law 266 = .ok (.iload 4, 2) := by decide +kernel
theorem dL_law_268 : decode cL_law 268 = .ok (.iconst 1, 1) := by decide +kernel
theorem dL_law_269 : decode cL_law 269 = .ok (.iadd, 1) := by decide +kernel
theorem dL_law_270 : decode cL_law 270 = .ok (.iaload, 1) := by decide +kernel
theorem dL_law_271 : decode cL_law 271 = .ok (.invokevirtual 41, 3) := by decide +kernel
theorem dL_law_274 : decode cL_law 274 = .ok (.aload_n 2, 1) := by decide +kernel
theorem dL_law_275 : decode cL_law 275 = .ok (.aload_n 0, 1) := by decide +kernel
theorem dL_law_276 : decode cL_law 276 = .ok (.iload 4, 2) := by decide +kernel
theorem dL_law_278 : decode cL_law 278 = .ok (.iconst 1, 1) := by decide +kernel
theorem dL_law_279 : decode cL_law 279 = .ok (.iadd, 1) := by decide +kernel
theorem dL_law_280 : decode cL_law 280 = .ok (.iaload, 1) := by decide +kernel
theorem dL_law_281 : decode cL_law 281 = .ok (.invokevirtual 45, 3) := by decide +kernel
theorem dL_law_284 : decode cL_law 284 = .ok (.if_icmp .eq 587, 3) := by decide +kernel
theorem dL_law_287 : decode cL_law 287 = .ok (.iconst 0, 1) := by decide +kernel
theorem dL_law_288 : decode cL_law 288 = .ok (.ireturn, 1) := by decide +kernel
theorem dL_law_289 : decode cL_law 289 = .ok (.aload_n 1, 1) := by decide +kernel
theorem dL_law_290 : decode cL_law 290 = .ok (.aload_n 0, 1) := by decide +kernel
theorem dL_law_291 : decode cL_law 291 = .ok (.iload 4, 2) := by decide +kernel
theorem dL_law_293 : decode cL_law 293 = .ok (.iconst 1, 1) := by decide +kernel
theorem dL_law_294 : decode cL_law 294 = .ok (.iadd, 1) := by decide +kernel
theorem dL_law_295 : decode cL_law 295 = .ok (.iaload, 1) := by decide +kernel
theorem dL_law_296 : decode cL_law 296 = .ok (.aload_n 0, 1) := by decide +kernel
theorem dL_law_297 : decode cL_law 297 = .ok (.iload 4, 2) := by decide +kernel
theorem dL_law_299 : decode cL_law 299 = .ok (.iconst 2, 1) := by decide +kernel
theorem dL_law_300 : decode cL_law 300 = .ok (.iadd, 1) := by decide +kernel
theorem dL_law_301 : decode cL_law 301 = .ok (.iaload, 1) := by decide +kernel
theorem dL_law_302 : decode cL_law 302 = .ok (.invokevirtual 46, 3) := by decide +kernel
theorem dL_law_305 : decode cL_law 305 = .ok (.aload_n 2, 1) := by decide +kernel
theorem dL_law_306 : decode cL_law 306 = .ok (.aload_n 0, 1) := by decide +kernel
theorem dL_law_307 : decode cL_law 307 = .ok (.iload 4, 2) := by decide +kernel
theorem dL_law_309 : decode cL_law 309 = .ok (.iconst 1, 1) := by decide +kernel
theorem dL_law_310 : decode cL_law 310 = .ok (.iadd, 1) := by decide +kernel
theorem dL_law_311 : decode cL_law 311 = .ok (.iaload, 1) := by decide +kernel
theorem dL_law_312 : decode cL_law 312 = .ok (.aload_n 0, 1) := by decide +kernel
theorem dL_law_313 : decode cL_law 313 = .ok (.iload 4, 2) := by decide +kernel
theorem dL_law_315 : decode cL_law 315 = .ok (.iconst 2, 1) := by decide +kernel
theorem dL_law_316 : decode cL_law 316 = .ok (.iadd, 1) := by decide +kernel
theorem dL_law_317 : decode cL_law 317 = .ok (.iaload, 1) := by decide +kernel
theorem dL_law_318 : decode cL_law 318 = .ok (.invokevirtual 49, 3) := by decide +kernel
theorem dL_law_321 : decode cL_law 321 = .ok (.if_icmp .eq 550, 3) := by decide +kernel
theorem dL_law_324 : decode cL_law 324 = .ok (.iconst 0, 1) := by decide +kernel
theorem dL_law_325 : decode cL_law 325 = .ok (.ireturn, 1) := by decide +kernel
theorem dL_law_326 : decode cL_law 326 = .ok (.aload_n 1, 1) := by decide +kernel
theorem dL_law_327 : decode cL_law 327 = .ok (.aload_n 0, 1) := by decide +kernel
theorem dL_law_328 : decode cL_law 328 = .ok (.iload 4, 2) := by decide +kernel
theorem dL_law_330 : decode cL_law 330 = .ok (.iconst 1, 1) := by decide +kernel
theorem dL_law_331 : decode cL_law 331 = .ok (.iadd, 1) := by decide +kernel
theorem dL_law_332 : decode cL_law 332 = .ok (.iaload, 1) := by decide +kernel
theorem dL_law_333 : decode cL_law 333 = .ok (.aload_n 0, 1) := by decide +kernel
theorem dL_law_334 : decode cL_law 334 = .ok (.iload 4, 2) := by decide +kernel
theorem dL_law_336 : decode cL_law 336 = .ok (.iconst 2, 1) := by decide +kernel
theorem dL_law_337 : decode cL_law 337 = .ok (.iadd, 1) := by decide +kernel
theorem dL_law_338 : decode cL_law 338 = .ok (.iaload, 1) := by decide +kernel
theorem dL_law_339 : decode cL_law 339 = .ok (.invokevirtual 50, 3) := by decide +kernel
theorem dL_law_342 : decode cL_law 342 = .ok (.aload_n 2, 1) := by decide +kernel
theorem dL_law_343 : decode cL_law 343 = .ok (.aload_n 0, 1) := by decide +kernel
theorem dL_law_344 : decode cL_law 344 = .ok (.iload 4, 2) := by decide +kernel
theorem dL_law_346 : decode cL_law 346 = .ok (.iconst 1, 1) := by decide +kernel
theorem dL_law_347 : decode cL_law 347 = .ok (.iadd, 1) := by decide +kernel
theorem dL_law_348 : decode cL_law 348 = .ok (.iaload, 1) := by decide +kernel
theorem dL_law_349 : decode cL_law 349 = .ok (.aload_n 0, 1) := by decide +kernel
theorem dL_law_350 : decode cL_law 350 = .ok (.iload 4, 2) := by decide +kernel
theorem dL_law_352 : decode cL_law 352 = .ok (.iconst 2, 1) := by decide +kernel
theorem dL_law_353 : decode cL_law 353 = .ok (.iadd, 1) := by decide +kernel
theorem dL_law_354 : decode cL_law 354 = .ok (.iaload, 1) := by decide +kernel
theorem dL_law_355 : decode cL_law 355 = .ok (.invokevirtual 53, 3) := by decide +kernel
theorem dL_law_358 : decode cL_law 358 = .ok (.if_icmp .eq 513, 3) := by decide +kernel
theorem dL_law_361 : decode cL_law 361 = .ok (.iconst 0, 1) := by decide +kernel
theorem dL_law_362 : decode cL_law 362 = .ok (.ireturn, 1) := by decide +kernel
theorem dL_law_363 : decode cL_law 363 = .ok (.aload_n 1, 1) := by decide +kernel
theorem dL_law_364 : decode cL_law 364 = .ok (.aload_n 0, 1) := by decide +kernel
theorem dL_law_365 : decode cL_law 365 = .ok (.iload 4, 2) := by decide +kernel
theorem dL_law_367 : decode cL_law 367 = .ok (.iconst 1, 1) := by decide +kernel
theorem dL_law_368 : decode cL_law 368 = .ok (.iadd, 1) := by decide +kernel
theorem dL_law_369 : decode cL_law 369 = .ok (.iaload, 1) := by decide +kernel
theorem dL_law_370 : decode cL_law 370 = .ok (.aload_n 0, 1) := by decide +kernel
theorem dL_law_371 : decode cL_law 371 = .ok (.iload 4, 2) := by decide +kernel
theorem dL_law_373 : decode cL_law 373 = .ok (.iconst 2, 1) := by decide +kernel
theorem dL_law_374 : decode cL_law 374 = .ok (.iadd, 1) := by decide +kernel
theorem dL_law_375 : decode cL_law 375 = .ok (.iaload, 1) := by decide +kernel
theorem dL_law_376 : decode cL_law 376 = .ok (.aload_n 3, 1) := by decide +kernel
theorem dL_law_377 : decode cL_law 377 = .ok (.invokestatic 54, 3) := by decide +kernel
theorem dL_law_380 : decode cL_law 380 = .ok (.istore 5, 2) := by decide +kernel
theorem dL_law_382 : decode cL_law 382 = .ok (.aload_n 2, 1) := by decide +kernel
theorem dL_law_383 : decode cL_law 383 = .ok (.aload_n 0, 1) := by decide +kernel
theorem dL_law_384 : decode cL_law 384 = .ok (.iload 4, 2) := by decide +kernel
theorem dL_law_386 : decode cL_law 386 = .ok (.iconst 1, 1) := by decide +kernel
theorem dL_law_387 : decode cL_law 387 = .ok (.iadd, 1) := by decide +kernel
theorem dL_law_388 : decode cL_law 388 = .ok (.iaload, 1) := by decide +kernel
theorem dL_law_389 : decode cL_law 389 = .ok (.aload_n 0, 1) := by decide +kernel
theorem dL_law_390 : decode cL_law 390 = .ok (.iload 4, 2) := by decide +kernel
theorem dL_law_392 : decode cL_law 392 = .ok (.iconst 2, 1) := by decide +kernel
theorem dL_law_393 : decode cL_law 393 = .ok (.iadd, 1) := by decide +kernel
theorem dL_law_394 : decode cL_law 394 = .ok (.iaload, 1) := by decide +kernel
theorem dL_law_395 : decode cL_law 395 = .ok (.invokevirtual 59, 3) := by decide +kernel
theorem dL_law_398 : decode cL_law 398 = .ok (.istore 6, 2) := by decide +kernel
theorem dL_law_400 : decode cL_law 400 = .ok (.aload_n 2, 1) := by decide +kernel
theorem dL_law_401 : decode cL_law 401 = .ok (.invokevirtual 60, 3) := by decide +kernel
theorem dL_law_404 : decode cL_law 404 = .ok (.iload 5, 2) := by decide +kernel
theorem dL_law_406 : decode cL_law 406 = .ok (.if_icmp .eq 5, 3) := by decide +kernel
theorem dL_law_409 : decode cL_law 409 = .ok (.iconst 0, 1) := by decide +kernel
theorem dL_law_410 : decode cL_law 410 = .ok (.ireturn, 1) := by decide +kernel
theorem dL_law_411 : decode cL_law 411 = .ok (.iload 5, 2) := by decide +kernel
theorem dL_law_413 : decode cL_law 413 = .ok (.ifCond .ne 15, 3) := by decide +kernel
theorem dL_law_416 : decode cL_law 416 = .ok (.aload_n 3, 1) := by decide +kernel
theorem dL_law_417 : decode cL_law 417 = .ok (.iconst 0, 1) := by decide +kernel
theorem dL_law_418 : decode cL_law 418 = .ok (.laload, 1) := by decide +kernel
theorem dL_law_419 : decode cL_law 419 = .ok (.iload 6, 2) := by decide +kernel
theorem dL_law_421 : decode cL_law 421 = .ok (.i2l, 1) := by decide +kernel
theorem dL_law_422 : decode cL_law 422 = .ok (.lcmp, 1) := by decide +kernel
theorem dL_law_423 : decode cL_law 423 = .ok (.ifCond .eq 5, 3) := by decide +kernel
theorem dL_law_426 : decode cL_law 426 = .ok (.iconst 0, 1) := by decide +kernel
theorem dL_law_427 : decode cL_law 427 = .ok (.ireturn, 1) := by decide +kernel
theorem dL_law_428 : decode cL_law 428 = .ok (.goto 443, 3) := by decide +kernel
theorem dL_law_431 : decode cL_law 431 = .ok (.aload_n 1, 1) := by decide +kernel
theorem dL_law_432 : decode cL_law 432 = .ok (.aload_n 0, 1) := by decide +kernel
theorem dL_law_433 : decode cL_law 433 = .ok (.iload 4, 2) := by decide +kernel
theorem dL_law_435 : decode cL_law 435 = .ok (.iconst 1, 1) := by decide +kernel
theorem dL_law_436 : decode cL_law 436 = .ok (.iadd, 1) := by decide +kernel
theorem dL_law_437 : decode cL_law 437 = .ok (.iaload, 1) := by decide +kernel
theorem dL_law_438 : decode cL_law 438 = .ok (.aload_n 0, 1) := by decide +kernel
theorem dL_law_439 : decode cL_law 439 = .ok (.iload 4, 2) := by decide +kernel
theorem dL_law_441 : decode cL_law 441 = .ok (.iconst 2, 1) := by decide +kernel
theorem dL_law_442 : decode cL_law 442 = .ok (.iadd, 1) := by decide +kernel
theorem dL_law_443 : decode cL_law 443 = .ok (.iaload, 1) := by decide +kernel
theorem dL_law_444 : decode cL_law 444 = .ok (.aload_n 3, 1) := by decide +kernel
theorem dL_law_445 : decode cL_law 445 = .ok (.invokestatic 63, 3) := by decide +kernel
theorem dL_law_448 : decode cL_law 448 = .ok (.istore 5, 2) := by decide +kernel
theorem dL_law_450 : decode cL_law 450 = .ok (.aload_n 2, 1) := by decide +kernel
theorem dL_law_451 : decode cL_law 451 = .ok (.aload_n 0, 1) := by decide +kernel
theorem dL_law_452 : decode cL_law 452 = .ok (.iload 4, 2) := by decide +kernel
theorem dL_law_454 : decode cL_law 454 = .ok (.iconst 1, 1) := by decide +kernel
theorem dL_law_455 : decode cL_law 455 = .ok (.iadd, 1) := by decide +kernel
theorem dL_law_456 : decode cL_law 456 = .ok (.iaload, 1) := by decide +kernel
theorem dL_law_457 : decode cL_law 457 = .ok (.aload_n 0, 1) := by decide +kernel
theorem dL_law_458 : decode cL_law 458 = .ok (.iload 4, 2) := by decide +kernel
theorem dL_law_460 : decode cL_law 460 = .ok (.iconst 2, 1) := by decide +kernel
theorem dL_law_461 : decode cL_law 461 = .ok (.iadd, 1) := by decide +kernel
theorem dL_law_462 : decode cL_law 462 = .ok (.iaload, 1) := by decide +kernel
theorem dL_law_463 : decode cL_law 463 = .ok (.invokevirtual 65, 3) := by decide +kernel
theorem dL_law_466 : decode cL_law 466 = .ok (.istore 6, 2) := by decide +kernel
theorem dL_law_468 : decode cL_law 468 = .ok (.aload_n 2, 1) := by decide +kernel
theorem dL_law_469 : decode cL_law 469 = .ok (.invokevirtual 60, 3) := by decide +kernel
theorem dL_law_472 : decode cL_law 472 = .ok (.iload 5, 2) := by decide +kernel
theorem dL_law_474 : decode cL_law 474 = .ok (.if_icmp .eq 5, 3) := by decide +kernel
theorem dL_law_477 : decode cL_law 477 = .ok (.iconst 0, 1) := by decide +kernel
theorem dL_law_478 : decode cL_law 478 = .ok (.ireturn, 1) := by decide +kernel
theorem dL_law_479 : decode cL_law 479 = .ok (.iload 5, 2) := by decide +kernel
theorem dL_law_481 : decode cL_law 481 = .ok (.ifCond .ne 15, 3) := by decide +kernel
theorem dL_law_484 : decode cL_law 484 = .ok (.aload_n 3, 1) := by decide +kernel
theorem dL_law_485 : decode cL_law 485 = .ok (.iconst 0, 1) := by decide +kernel
theorem dL_law_486 : decode cL_law 486 = .ok (.laload, 1) := by decide +kernel
theorem dL_law_487 : decode cL_law 487 = .ok (.iload 6, 2) := by decide +kernel
theorem dL_law_489 : decode cL_law 489 = .ok (.i2l, 1) := by decide +kernel
theorem dL_law_490 : decode cL_law 490 = .ok (.lcmp, 1) := by decide +kernel
theorem dL_law_491 : decode cL_law 491 = .ok (.ifCond .eq 5, 3) := by decide +kernel
theorem dL_law_494 : decode cL_law 494 = .ok (.iconst 0, 1) := by decide +kernel
theorem dL_law_495 : decode cL_law 495 = .ok (.ireturn, 1) := by decide +kernel
theorem dL_law_496 : decode cL_law 496 = .ok (.goto 375, 3) := by decide +kernel
theorem dL_law_499 : decode cL_law 499 = .ok (.aload_n 1, 1) := by decide +kernel
theorem dL_law_500 : decode cL_law 500 = .ok (.aload_n 0, 1) := by decide +kernel
theorem dL_law_501 : decode cL_law 501 = .ok (.iload 4, 2) := by decide +kernel
theorem dL_law_503 : decode cL_law 503 = .ok (.iconst 1, 1) := by decide +kernel
theorem dL_law_504 : decode cL_law 504 = .ok (.iadd, 1) := by decide +kernel
theorem dL_law_505 : decode cL_law 505 = .ok (.iaload, 1) := by decide +kernel
theorem dL_law_506 : decode cL_law 506 = .ok (.aload_n 0, 1) := by decide +kernel
theorem dL_law_507 : decode cL_law 507 = .ok (.iload 4, 2) := by decide +kernel
theorem dL_law_509 : decode cL_law 509 = .ok (.iconst 2, 1) := by decide +kernel
theorem dL_law_510 : decode cL_law 510 = .ok (.iadd, 1) := by decide +kernel
theorem dL_law_511 : decode cL_law 511 = .ok (.iaload, 1) := by decide +kernel
theorem dL_law_512 : decode cL_law 512 = .ok (.invokevirtual 66, 3) := by decide +kernel
theorem dL_law_515 : decode cL_law 515 = .ok (.aload_n 2, 1) := by decide +kernel
theorem dL_law_516 : decode cL_law 516 = .ok (.aload_n 0, 1) := by decide +kernel
theorem dL_law_517 : decode cL_law 517 = .ok (.iload 4, 2) := by decide +kernel
theorem dL_law_519 : decode cL_law 519 = .ok (.iconst 1, 1) := by decide +kernel
theorem dL_law_520 : decode cL_law 520 = .ok (.iadd, 1) := by decide +kernel
theorem dL_law_521 : decode cL_law 521 = .ok (.iaload, 1) := by decide +kernel
theorem dL_law_522 : decode cL_law 522 = .ok (.aload_n 0, 1) := by decide +kernel
theorem dL_law_523 : decode cL_law 523 = .ok (.iload 4, 2) := by decide +kernel
theorem dL_law_525 : decode cL_law 525 = .ok (.iconst 2, 1) := by decide +kernel
theorem dL_law_526 : decode cL_law 526 = .ok (.iadd, 1) := by decide +kernel
theorem dL_law_527 : decode cL_law 527 = .ok (.iaload, 1) := by decide +kernel
theorem dL_law_528 : decode cL_law 528 = .ok (.invokevirtual 69, 3) := by decide +kernel
theorem dL_law_531 : decode cL_law 531 = .ok (.if_icmp .eq 340, 3) := by decide +kernel
theorem dL_law_534 : decode cL_law 534 = .ok (.iconst 0, 1) := by decide +kernel
theorem dL_law_535 : decode cL_law 535 = .ok (.ireturn, 1) := by decide +kernel
theorem dL_law_536 : decode cL_law 536 = .ok (.aload_n 1, 1) := by decide +kernel
theorem dL_law_537 : decode cL_law 537 = .ok (.aload_n 0, 1) := by decide +kernel
theorem dL_law_538 : decode cL_law 538 = .ok (.iload 4, 2) := by decide +kernel
theorem dL_law_540 : decode cL_law 540 = .ok (.iconst 1, 1) := by decide +kernel
theorem dL_law_541 : decode cL_law 541 = .ok (.iadd, 1) := by decide +kernel
theorem dL_law_542 : decode cL_law 542 = .ok (.iaload, 1) := by decide +kernel
theorem dL_law_543 : decode cL_law 543 = .ok (.aload_n 0, 1) := by decide +kernel
theorem dL_law_544 : decode cL_law 544 = .ok (.iload 4, 2) := by decide +kernel
theorem dL_law_546 : decode cL_law 546 = .ok (.iconst 2, 1) := by decide +kernel
theorem dL_law_547 : decode cL_law 547 = .ok (.iadd, 1) := by decide +kernel
theorem dL_law_548 : decode cL_law 548 = .ok (.iaload, 1) := by decide +kernel
theorem dL_law_549 : decode cL_law 549 = .ok (.invokevirtual 70, 3) := by decide +kernel
theorem dL_law_552 : decode cL_law 552 = .ok (.aload_n 2, 1) := by decide +kernel
theorem dL_law_553 : decode cL_law 553 = .ok (.aload_n 0, 1) := by decide +kernel
theorem dL_law_554 : decode cL_law 554 = .ok (.iload 4, 2) := by decide +kernel
theorem dL_law_556 : decode cL_law 556 = .ok (.iconst 1, 1) := by decide +kernel
theorem dL_law_557 : decode cL_law 557 = .ok (.iadd, 1) := by decide +kernel
theorem dL_law_558 : decode cL_law 558 = .ok (.iaload, 1) := by decide +kernel
theorem dL_law_559 : decode cL_law 559 = .ok (.aload_n 0, 1) := by decide +kernel
theorem dL_law_560 : decode cL_law 560 = .ok (.iload 4, 2) := by decide +kernel
theorem dL_law_562 : decode cL_law 562 = .ok (.iconst 2, 1) := by decide +kernel
theorem dL_law_563 : decode cL_law 563 = .ok (.iadd, 1) := by decide +kernel
theorem dL_law_564 : decode cL_law 564 = .ok (.iaload, 1) := by decide +kernel
theorem dL_law_565 : decode cL_law 565 = .ok (.invokevirtual 73, 3) := by decide +kernel
theorem dL_law_568 : decode cL_law 568 = .ok (.if_icmp .eq 303, 3) := by decide +kernel
theorem dL_law_571 : decode cL_law 571 = .ok (.iconst 0, 1) := by decide +kernel
theorem dL_law_572 : decode cL_law 572 = .ok (.ireturn, 1) := by decide +kernel
theorem dL_law_573 : decode cL_law 573 = .ok (.aload_n 1, 1) := by decide +kernel
theorem dL_law_574 : decode cL_law 574 = .ok (.aload_n 0, 1) := by decide +kernel
theorem dL_law_575 : decode cL_law 575 = .ok (.iload 4, 2) := by decide +kernel
theorem dL_law_577 : decode cL_law 577 = .ok (.iconst 1, 1) := by decide +kernel
theorem dL_law_578 : decode cL_law 578 = .ok (.iadd, 1) := by decide +kernel
theorem dL_law_579 : decode cL_law 579 = .ok (.iaload, 1) := by decide +kernel
theorem dL_law_580 : decode cL_law 580 = .ok (.aload_n 0, 1) := by decide +kernel
theorem dL_law_581 : decode cL_law 581 = .ok (.iload 4, 2) := by decide +kernel
theorem dL_law_583 : decode cL_law 583 = .ok (.iconst 2, 1) := by decide +kernel
theorem dL_law_584 : decode cL_law 584 = .ok (.iadd, 1) := by decide +kernel
theorem dL_law_585 : decode cL_law 585 = .ok (.iaload, 1) := by decide +kernel
theorem dL_law_586 : decode cL_law 586 = .ok (.invokevirtual 74, 3) := by decide +kernel
theorem dL_law_589 : decode cL_law 589 = .ok (.aload_n 2, 1) := by decide +kernel
theorem dL_law_590 : decode cL_law 590 = .ok (.aload_n 0, 1) := by decide +kernel
theorem dL_law_591 : decode cL_law 591 = .ok (.iload 4, 2) := by decide +kernel
theorem dL_law_593 : decode cL_law 593 = .ok (.iconst 1, 1) := by decide +kernel
theorem dL_law_594 : decode cL_law 594 = .ok (.iadd, 1) := by decide +kernel
theorem dL_law_595 : decode cL_law 595 = .ok (.iaload, 1) := by decide +kernel
theorem dL_law_596 : decode cL_law 596 = .ok (.aload_n 0, 1) := by decide +kernel
theorem dL_law_597 : decode cL_law 597 = .ok (.iload 4, 2) := by decide +kernel
theorem dL_law_599 : decode cL_law 599 = .ok (.iconst 2, 1) := by decide +kernel
theorem dL_law_600 : decode cL_law 600 = .ok (.iadd, 1) := by decide +kernel
theorem dL_law_601 : decode cL_law 601 = .ok (.iaload, 1) := by decide +kernel
theorem dL_law_602 : decode cL_law 602 = .ok (.invokevirtual 77, 3) := by decide +kernel
theorem dL_law_605 : decode cL_law 605 = .ok (.if_icmp .eq 266, 3) := by decide +kernel
theorem dL_law_608 : decode cL_law 608 = .ok (.iconst 0, 1) := by decide +kernel
theorem dL_law_609 : decode cL_law 609 = .ok (.ireturn, 1) := by decide +kernel
theorem dL_law_610 : decode cL_law 610 = .ok (.aload_n 1, 1) := by decide +kernel
theorem dL_law_611 : decode cL_law 611 = .ok (.invokevirtual 78, 3) := by decide +kernel
theorem dL_law_614 : decode cL_law 614 = .ok (.aload_n 2, 1) := by decide +kernel
theorem dL_law_615 : decode cL_law 615 = .ok (.invokevirtual 81, 3) := by decide +kernel
theorem dL_law_618 : decode cL_law 618 = .ok (.if_icmp .eq 253, 3) := by decide +kernel
theorem dL_law_621 : decode cL_law 621 = .ok (.iconst 0, 1) := by decide +kernel
theorem dL_law_622 : decode cL_law 622 = .ok (.ireturn, 1) := by decide +kernel
theorem dL_law_623 : decode cL_law 623 = .ok (.aload_n 1, 1) := by decide +kernel
theorem dL_law_624 : decode cL_law 624 = .ok (.aload_n 0, 1) := by decide +kernel
theorem dL_law_625 : decode cL_law 625 = .ok (.iload 4, 2) := by decide +kernel
theorem dL_law_627 : decode cL_law 627 = .ok (.iconst 1, 1) := by decide +kernel
theorem dL_law_628 : decode cL_law 628 = .ok (.iadd, 1) := by decide +kernel
theorem dL_law_629 : decode cL_law 629 = .ok (.iaload, 1) := by decide +kernel
theorem dL_law_630 : decode cL_law 630 = .ok (.invokevirtual 82, 3) := by decide +kernel
theorem dL_law_633 : decode cL_law 633 = .ok (.aload_n 2, 1) := by decide +kernel
theorem dL_law_634 : decode cL_law 634 = .ok (.aload_n 0, 1) := by decide +kernel
theorem dL_law_635 : decode cL_law 635 = .ok (.iload 4, 2) := by decide +kernel
theorem dL_law_637 : decode cL_law 637 = .ok (.iconst 1, 1) := by decide +kernel
theorem dL_law_638 : decode cL_law 638 = .ok (.iadd, 1) := by decide +kernel
theorem dL_law_639 : decode cL_law 639 = .ok (.iaload, 1) := by decide +kernel
theorem dL_law_640 : decode cL_law 640 = .ok (.invokevirtual 85, 3) := by decide +kernel
theorem dL_law_643 : decode cL_law 643 = .ok (.if_icmp .eq 228, 3) := by decide +kernel
theorem dL_law_646 : decode cL_law 646 = .ok (.iconst 0, 1) := by decide +kernel
theorem dL_law_647 : decode cL_law 647 = .ok (.ireturn, 1) := by decide +kernel
theorem dL_law_648 : decode cL_law 648 = .ok (.aload_n 1, 1) := by decide +kernel
theorem dL_law_649 : decode cL_law 649 = .ok (.aload_n 0, 1) := by decide +kernel
theorem dL_law_650 : decode cL_law 650 = .ok (.iload 4, 2) := by decide +kernel
theorem dL_law_652 : decode cL_law 652 = .ok (.iconst 1, 1) := by decide +kernel
theorem dL_law_653 : decode cL_law 653 = .ok (.iadd, 1) := by decide +kernel
theorem dL_law_654 : decode cL_law 654 = .ok (.iaload, 1) := by decide +kernel
theorem dL_law_655 : decode cL_law 655 = .ok (.aload_n 0, 1) := by decide +kernel
theorem dL_law_656 : decode cL_law 656 = .ok (.iload 4, 2) := by decide +kernel
theorem dL_law_658 : decode cL_law 658 = .ok (.iconst 2, 1) := by decide +kernel
theorem dL_law_659 : decode cL_law 659 = .ok (.iadd, 1) := by decide +kernel
theorem dL_law_660 : decode cL_law 660 = .ok (.iaload, 1) := by decide +kernel
theorem dL_law_661 : decode cL_law 661 = .ok (.aload_n 0, 1) := by decide +kernel
theorem dL_law_662 : decode cL_law 662 = .ok (.iload 4, 2) := by decide +kernel
theorem dL_law_664 : decode cL_law 664 = .ok (.iconst 3, 1) := by decide +kernel
theorem dL_law_665 : decode cL_law 665 = .ok (.iadd, 1) := by decide +kernel
theorem dL_law_666 : decode cL_law 666 = .ok (.iaload, 1) := by decide +kernel
theorem dL_law_667 : decode cL_law 667 = .ok (.invokevirtual 86, 3) := by decide +kernel
theorem dL_law_670 : decode cL_law 670 = .ok (.aload_n 2, 1) := by decide +kernel
theorem dL_law_671 : decode cL_law 671 = .ok (.aload_n 0, 1) := by decide +kernel
theorem dL_law_672 : decode cL_law 672 = .ok (.iload 4, 2) := by decide +kernel
theorem dL_law_674 : decode cL_law 674 = .ok (.iconst 1, 1) := by decide +kernel
theorem dL_law_675 : decode cL_law 675 = .ok (.iadd, 1) := by decide +kernel
theorem dL_law_676 : decode cL_law 676 = .ok (.iaload, 1) := by decide +kernel
theorem dL_law_677 : decode cL_law 677 = .ok (.aload_n 0, 1) := by decide +kernel
theorem dL_law_678 : decode cL_law 678 = .ok (.iload 4, 2) := by decide +kernel
theorem dL_law_680 : decode cL_law 680 = .ok (.iconst 2, 1) := by decide +kernel
theorem dL_law_681 : decode cL_law 681 = .ok (.iadd, 1) := by decide +kernel
theorem dL_law_682 : decode cL_law 682 = .ok (.iaload, 1) := by decide +kernel
theorem dL_law_683 : decode cL_law 683 = .ok (.aload_n 0, 1) := by decide +kernel
theorem dL_law_684 : decode cL_law 684 = .ok (.iload 4, 2) := by decide +kernel
theorem dL_law_686 : decode cL_law 686 = .ok (.iconst 3, 1) := by decide +kernel
theorem dL_law_687 : decode cL_law 687 = .ok (.iadd, 1) := by decide +kernel
theorem dL_law_688 : decode cL_law 688 = .ok (.iaload, 1) := by decide +kernel
theorem dL_law_689 : decode cL_law 689 = .ok (.invokevirtual 90, 3) := by decide +kernel
theorem dL_law_692 : decode cL_law 692 = .ok (.if_icmp .eq 179, 3) := by decide +kernel
theorem dL_law_695 : decode cL_law 695 = .ok (.iconst 0, 1) := by decide +kernel
theorem dL_law_696 : decode cL_law 696 = .ok (.ireturn, 1) := by decide +kernel
theorem dL_law_697 : decode cL_law 697 = .ok (.aload_n 1, 1) := by decide +kernel
theorem dL_law_698 : decode cL_law 698 = .ok (.aload_n 0, 1) := by decide +kernel
theorem dL_law_699 : decode cL_law 699 = .ok (.iload 4, 2) := by decide +kernel
theorem dL_law_701 : decode cL_law 701 = .ok (.iconst 1, 1) := by decide +kernel
theorem dL_law_702 : decode cL_law 702 = .ok (.iadd, 1) := by decide +kernel
theorem dL_law_703 : decode cL_law 703 = .ok (.iaload, 1) := by decide +kernel
theorem dL_law_704 : decode cL_law 704 = .ok (.aload_n 0, 1) := by decide +kernel
theorem dL_law_705 : decode cL_law 705 = .ok (.iload 4, 2) := by decide +kernel
theorem dL_law_707 : decode cL_law 707 = .ok (.iconst 2, 1) := by decide +kernel
theorem dL_law_708 : decode cL_law 708 = .ok (.iadd, 1) := by decide +kernel
theorem dL_law_709 : decode cL_law 709 = .ok (.iaload, 1) := by decide +kernel
theorem dL_law_710 : decode cL_law 710 = .ok (.invokevirtual 91, 3) := by decide +kernel
theorem dL_law_713 : decode cL_law 713 = .ok (.aload_n 2, 1) := by decide +kernel
theorem dL_law_714 : decode cL_law 714 = .ok (.aload_n 0, 1) := by decide +kernel
theorem dL_law_715 : decode cL_law 715 = .ok (.iload 4, 2) := by decide +kernel
theorem dL_law_717 : decode cL_law 717 = .ok (.iconst 1, 1) := by decide +kernel
theorem dL_law_718 : decode cL_law 718 = .ok (.iadd, 1) := by decide +kernel
theorem dL_law_719 : decode cL_law 719 = .ok (.iaload, 1) := by decide +kernel
theorem dL_law_720 : decode cL_law 720 = .ok (.aload_n 0, 1) := by decide +kernel
theorem dL_law_721 : decode cL_law 721 = .ok (.iload 4, 2) := by decide +kernel
theorem dL_law_723 : decode cL_law 723 = .ok (.iconst 2, 1) := by decide +kernel
theorem dL_law_724 : decode cL_law 724 = .ok (.iadd, 1) := by decide +kernel
theorem dL_law_725 : decode cL_law 725 = .ok (.iaload, 1) := by decide +kernel
theorem dL_law_726 : decode cL_law 726 = .ok (.invokevirtual 94, 3) := by decide +kernel
theorem dL_law_729 : decode cL_law 729 = .ok (.if_icmp .eq 142, 3) := by decide +kernel
theorem dL_law_732 : decode cL_law 732 = .ok (.iconst 0, 1) := by decide +kernel
theorem dL_law_733 : decode cL_law 733 = .ok (.ireturn, 1) := by decide +kernel
theorem dL_law_734 : decode cL_law 734 = .ok (.aload_n 1, 1) := by decide +kernel
theorem dL_law_735 : decode cL_law 735 = .ok (.invokevirtual 95, 3) := by decide +kernel
theorem dL_law_738 : decode cL_law 738 = .ok (.aload_n 2, 1) := by decide +kernel
theorem dL_law_739 : decode cL_law 739 = .ok (.invokevirtual 98, 3) := by decide +kernel
theorem dL_law_742 : decode cL_law 742 = .ok (.if_icmp .eq 129, 3) := by decide +kernel
theorem dL_law_745 : decode cL_law 745 = .ok (.iconst 0, 1) := by decide +kernel
theorem dL_law_746 : decode cL_law 746 = .ok (.ireturn, 1) := by decide +kernel
theorem dL_law_747 : decode cL_law 747 = .ok (.aload_n 1, 1) := by decide +kernel
theorem dL_law_748 : decode cL_law 748 = .ok (.aload_n 0, 1) := by decide +kernel
theorem dL_law_749 : decode cL_law 749 = .ok (.iload 4, 2) := by decide +kernel
theorem dL_law_751 : decode cL_law 751 = .ok (.iconst 1, 1) := by decide +kernel
theorem dL_law_752 : decode cL_law 752 = .ok (.iadd, 1) := by decide +kernel
theorem dL_law_753 : decode cL_law 753 = .ok (.iaload, 1) := by decide +kernel
theorem dL_law_754 : decode cL_law 754 = .ok (.aload_n 0, 1) := by decide +kernel
theorem dL_law_755 : decode cL_law 755 = .ok (.iload 4, 2) := by decide +kernel
theorem dL_law_757 : decode cL_law 757 = .ok (.iconst 2, 1) := by decide +kernel
theorem dL_law_758 : decode cL_law 758 = .ok (.iadd, 1) := by decide +kernel
theorem dL_law_759 : decode cL_law 759 = .ok (.iaload, 1) := by decide +kernel
theorem dL_law_760 : decode cL_law 760 = .ok (.invokevirtual 99, 3) := by decide +kernel
theorem dL_law_763 : decode cL_law 763 = .ok (.aload_n 2, 1) := by decide +kernel
theorem dL_law_764 : decode cL_law 764 = .ok (.aload_n 0, 1) := by decide +kernel
theorem dL_law_765 : decode cL_law 765 = .ok (.iload 4, 2) := by decide +kernel
theorem dL_law_767 : decode cL_law 767 = .ok (.iconst 1, 1) := by decide +kernel
theorem dL_law_768 : decode cL_law 768 = .ok (.iadd, 1) := by decide +kernel
theorem dL_law_769 : decode cL_law 769 = .ok (.iaload, 1) := by decide +kernel
theorem dL_law_770 : decode cL_law 770 = .ok (.aload_n 0, 1) := by decide +kernel
theorem dL_law_771 : decode cL_law 771 = .ok (.iload 4, 2) := by decide +kernel
theorem dL_law_773 : decode cL_law 773 = .ok (.iconst 2, 1) := by decide +kernel
theorem dL_law_774 : decode cL_law 774 = .ok (.iadd, 1) := by decide +kernel
theorem dL_law_775 : decode cL_law 775 = .ok (.iaload, 1) := by decide +kernel
theorem dL_law_776 : decode cL_law 776 = .ok (.invokevirtual 102, 3) := by decide +kernel
theorem dL_law_779 : decode cL_law 779 = .ok (.if_icmp .eq 92, 3) := by decide +kernel
theorem dL_law_782 : decode cL_law 782 = .ok (.iconst 0, 1) := by decide +kernel
theorem dL_law_783 : decode cL_law 783 = .ok (.ireturn, 1) := by decide +kernel
theorem dL_law_784 : decode cL_law 784 = .ok (.aload_n 1, 1) := by decide +kernel
theorem dL_law_785 : decode cL_law 785 = .ok (.aload_n 0, 1) := by decide +kernel
theorem dL_law_786 : decode cL_law 786 = .ok (.iload 4, 2) := by decide +kernel
theorem dL_law_788 : decode cL_law 788 = .ok (.iconst 1, 1) := by decide +kernel
theorem dL_law_789 : decode cL_law 789 = .ok (.iadd, 1) := by decide +kernel
theorem dL_law_790 : decode cL_law 790 = .ok (.iaload, 1) := by decide +kernel
theorem dL_law_791 : decode cL_law 791 = .ok (.aload_n 0, 1) := by decide +kernel
theorem dL_law_792 : decode cL_law 792 = .ok (.iload 4, 2) := by decide +kernel
theorem dL_law_794 : decode cL_law 794 = .ok (.iconst 2, 1) := by decide +kernel
theorem dL_law_795 : decode cL_law 795 = .ok (.iadd, 1) := by decide +kernel
theorem dL_law_796 : decode cL_law 796 = .ok (.iaload, 1) := by decide +kernel
theorem dL_law_797 : decode cL_law 797 = .ok (.invokevirtual 103, 3) := by decide +kernel
theorem dL_law_800 : decode cL_law 800 = .ok (.aload_n 2, 1) := by decide +kernel
theorem dL_law_801 : decode cL_law 801 = .ok (.aload_n 0, 1) := by decide +kernel
theorem dL_law_802 : decode cL_law 802 = .ok (.iload 4, 2) := by decide +kernel
theorem dL_law_804 : decode cL_law 804 = .ok (.iconst 1, 1) := by decide +kernel
theorem dL_law_805 : decode cL_law 805 = .ok (.iadd, 1) := by decide +kernel
theorem dL_law_806 : decode cL_law 806 = .ok (.iaload, 1) := by decide +kernel
theorem dL_law_807 : decode cL_law 807 = .ok (.aload_n 0, 1) := by decide +kernel
theorem dL_law_808 : decode cL_law 808 = .ok (.iload 4, 2) := by decide +kernel
theorem dL_law_810 : decode cL_law 810 = .ok (.iconst 2, 1) := by decide +kernel
theorem dL_law_811 : decode cL_law 811 = .ok (.iadd, 1) := by decide +kernel
theorem dL_law_812 : decode cL_law 812 = .ok (.iaload, 1) := by decide +kernel
theorem dL_law_813 : decode cL_law 813 = .ok (.invokevirtual 106, 3) := by decide +kernel
theorem dL_law_816 : decode cL_law 816 = .ok (.if_icmp .eq 55, 3) := by decide +kernel
theorem dL_law_819 : decode cL_law 819 = .ok (.iconst 0, 1) := by decide +kernel
theorem dL_law_820 : decode cL_law 820 = .ok (.ireturn, 1) := by decide +kernel
theorem dL_law_821 : decode cL_law 821 = .ok (.aload_n 1, 1) := by decide +kernel
theorem dL_law_822 : decode cL_law 822 = .ok (.aload_n 0, 1) := by decide +kernel
theorem dL_law_823 : decode cL_law 823 = .ok (.iload 4, 2) := by decide +kernel
theorem dL_law_825 : decode cL_law 825 = .ok (.iconst 1, 1) := by decide +kernel
theorem dL_law_826 : decode cL_law 826 = .ok (.iadd, 1) := by decide +kernel
theorem dL_law_827 : decode cL_law 827 = .ok (.iaload, 1) := by decide +kernel
theorem dL_law_828 : decode cL_law 828 = .ok (.aload_n 0, 1) := by decide +kernel
theorem dL_law_829 : decode cL_law 829 = .ok (.iload 4, 2) := by decide +kernel
theorem dL_law_831 : decode cL_law 831 = .ok (.iconst 2, 1) := by decide +kernel
theorem dL_law_832 : decode cL_law 832 = .ok (.iadd, 1) := by decide +kernel
theorem dL_law_833 : decode cL_law 833 = .ok (.iaload, 1) := by decide +kernel
theorem dL_law_834 : decode cL_law 834 = .ok (.invokevirtual 107, 3) := by decide +kernel
theorem dL_law_837 : decode cL_law 837 = .ok (.aload_n 2, 1) := by decide +kernel
theorem dL_law_838 : decode cL_law 838 = .ok (.aload_n 0, 1) := by decide +kernel
theorem dL_law_839 : decode cL_law 839 = .ok (.iload 4, 2) := by decide +kernel
theorem dL_law_841 : decode cL_law 841 = .ok (.iconst 1, 1) := by decide +kernel
theorem dL_law_842 : decode cL_law 842 = .ok (.iadd, 1) := by decide +kernel
theorem dL_law_843 : decode cL_law 843 = .ok (.iaload, 1) := by decide +kernel
theorem dL_law_844 : decode cL_law 844 = .ok (.aload_n 0, 1) := by decide +kernel
theorem dL_law_845 : decode cL_law 845 = .ok (.iload 4, 2) := by decide +kernel
theorem dL_law_847 : decode cL_law 847 = .ok (.iconst 2, 1) := by decide +kernel
theorem dL_law_848 : decode cL_law 848 = .ok (.iadd, 1) := by decide +kernel
theorem dL_law_849 : decode cL_law 849 = .ok (.iaload, 1) := by decide +kernel
theorem dL_law_850 : decode cL_law 850 = .ok (.invokevirtual 110, 3) := by decide +kernel
theorem dL_law_853 : decode cL_law 853 = .ok (.if_icmp .eq 18, 3) := by decide +kernel
theorem dL_law_856 : decode cL_law 856 = .ok (.iconst 0, 1) := by decide +kernel
theorem dL_law_857 : decode cL_law 857 = .ok (.ireturn, 1) := by decide +kernel
theorem dL_law_858 : decode cL_law 858 = .ok (.aload_n 1, 1) := by decide +kernel
theorem dL_law_859 : decode cL_law 859 = .ok (.invokevirtual 111, 3) := by decide +kernel
theorem dL_law_862 : decode cL_law 862 = .ok (.aload_n 2, 1) := by decide +kernel
theorem dL_law_863 : decode cL_law 863 = .ok (.invokevirtual 114, 3) := by decide +kernel
theorem dL_law_866 : decode cL_law 866 = .ok (.if_icmp .eq 5, 3) := by decide +kernel
theorem dL_law_869 : decode cL_law 869 = .ok (.iconst 0, 1) := by decide +kernel
theorem dL_law_870 : decode cL_law 870 = .ok (.ireturn, 1) := by decide +kernel
theorem dL_law_871 : decode cL_law 871 = .ok (.iinc 4 6, 3) := by decide +kernel
theorem dL_law_874 : decode cL_law 874 = .ok (.goto (-851), 3) := by decide +kernel
theorem dL_law_877 : decode cL_law 877 = .ok (.iconst 1, 1) := by decide +kernel
theorem dL_law_878 : decode cL_law 878 = .ok (.ireturn, 1) := by decide +kernel
end
section
/-! pure values, the typed memory, its layout (made by wip/whole/gen_core.py) -/
def pm_tags : List (Nat × Nat) := [(10000900, 2), (10001901, 1), (10002902, 2), (10003903, 2), (10004904, 1), (10005905, 1), (10006906, 1), (10007907, 1), (10008908, 1), (10009909, 1), (20012006, 2), (20012007, 2), (20004008, 2), (20004009, 2), (20016010, 2), (20016011, 2), (20016012, 2), (20016013, 2), (20016014, 2), (20016015, 2), (20016016, 2), (20200017, 2), (20200018, 2), (20012040, 1), (20012041, 1), (20012042, 1), (20016084, 2), (20016085, 2), (20016086, 2), (20016087, 2), (50016088, 2), (20016488, 32), (20016089, 2), (20016090, 2), (20016091, 2), (50016092, 2), (20016492, 32), (20016094, 2), (20016095, 2), (20016120, 2), (20016121, 2), (40016122, 2), (20003166, 1), (20016201, 1), (20016202, 1), (20016203, 1), (20016204, 1), (50016205, 1), (20016605, 16), (50016206, 1), (20016606, 16), (50012207, 1), (20012607, 12), (50016208, 1), (20012608, 16), (20016209, 1), (20016210, 1), (20016211, 1), (20288213, 1), (20288214, 1), (20288215, 1), (30840280, 1), (20840361, 1), (20869371, 1), (20869372, 1), (20432373, 1), (20017375, 1), (20017376, 1), (20016377, 1), (20016378, 1), (20016379, 1), (20017380, 1), (20289381, 1), (20017382, 1), (20017383, 1), (40017384, 1), (40017385, 1), (21000389, 1), (40001990, 1)]
def pm_tn (t : Nat) : Nat := (pm_tags.lookup t).getD 0
def pm_fN (ci : Nat) : Nat := [19, 4, 16, 4, 12, 16, 6, 2, 9, 31].getD ci 0
def pm_fk0 : List (Nat × Nat × Nat) := [(0, 0, 0), (0, 0, 0), (0, 0, 0), (0, 0, 0), (0, 0, 0), (0, 0, 0), (2, 20012006, 0), (2, 20012007, 0), (2, 20004008, 0), (2, 20004009, 0), (2, 20016010, 0), (2, 20016011, 0), (2, 20016012, 0), (2, 20016013, 0), (2, 20016014, 0), (2, 20016015, 0), (2, 20016016, 0), (2, 20200017, 0), (2, 20200018, 0)]
def pm_fk1 : List (Nat × Nat × Nat) := [(2, 20012040, 0), (2, 20012041, 0), (2, 20012042, 0), (0, 0, 0)]
def pm_fk2 : List (Nat × Nat × Nat) := [(2, 10003903, 0), (3, 10000900, 0), (3, 10005905, 0), (0, 0, 0), (2, 20016084, 0), (2, 20016085, 0), (2, 20016086, 0), (2, 20016087, 0), (2, 50016088, 0), (2, 20016089, 0), (2, 20016090, 0), (2, 20016091, 0), (2, 50016092, 0), (0, 0, 0), (2, 20016094, 0), (2, 20016095, 0)]
def pm_fk3 : List (Nat × Nat × Nat) := [(2, 20016120, 0), (2, 20016121, 0), (2, 40016122, 0), (0, 0, 0)]
def pm_fk4 : List (Nat × Nat × Nat) := [(2, 10006906, 0), (3, 10000900, 0), (0, 0, 0), (0, 0, 0), (0, 0, 0), (0, 0, 0), (2, 20003166, 0), (0, 0, 0), (0, 0, 0), (0, 0, 0), (0, 0, 0), (0, 0, 0)]
def pm_fk5 : List (Nat × Nat × Nat) := [(3, 10000900, 0), (2, 20016201, 0), (2, 20016202, 0), (2, 20016203, 0), (2, 20016204, 0), (2, 50016205, 0), (2, 50016206, 0), (2, 50012207, 0), (2, 50016208, 0), (2, 20016209, 0), (2, 20016210, 0), (2, 20016211, 0), (0, 0, 0), (2, 20288213, 0), (2, 20288214, 0), (2, 20288215, 0)]
def pm_fk6 : List (Nat × Nat × Nat) := [(2, 10007907, 0), (0, 0, 0), (0, 0, 0), (0, 0, 0), (0, 0, 0), (0, 0, 0)]
def pm_fk7 : List (Nat × Nat × Nat) := [(2, 30840280, 0), (0, 0, 0)]
def pm_fk8 : List (Nat × Nat × Nat) := [(2, 10007907, 0), (2, 10004904, 0), (2, 10005905, 0), (2, 10002902, 0), (2, 10002902, 1), (2, 10001901, 0), (3, 10000900, 0), (3, 10000900, 0), (0, 0, 0)]
def pm_fk9 : List (Nat × Nat × Nat) := [(0, 0, 0), (2, 20840361, 0), (0, 0, 0), (0, 0, 0), (0, 0, 0), (0, 0, 0), (0, 0, 0), (0, 0, 0), (0, 0, 0), (0, 0, 0), (1, 0, 0), (2, 20869371, 0), (2, 20869372, 0), (2, 20432373, 0), (0, 0, 0), (2, 20017375, 0), (2, 20017376, 0), (2, 20016377, 0), (2, 20016378, 0), (2, 20016379, 0), (2, 20017380, 0), (2, 20289381, 0), (2, 20017382, 0), (2, 20017383, 0), (2, 40017384, 0), (2, 40017385, 0), (0, 0, 0), (0, 0, 0), (0, 0, 0), (2, 21000389, 0), (0, 0, 0)]
def pm_fk (t k : Nat) : Nat × Nat × Nat := (match t with
  | 10000900 => pm_fk0
  | 10001901 => pm_fk1
  | 10002902 => pm_fk2
  | 10003903 => pm_fk3
  | 10004904 => pm_fk4
  | 10005905 => pm_fk5
  | 10006906 => pm_fk6
  | 10007907 => pm_fk7
  | 10008908 => pm_fk8
  | 10009909 => pm_fk9
  | _ => []).getD k (9, 0, 0)
def pm_rt (t : Nat) : Nat := match t with
  | 50016088 => 20016488
  | 50016092 => 20016492
  | 50016205 => 20016605
  | 50016206 => 20016606
  | 50012207 => 20012607
  | 50016208 => 20012608
  | _ => 0
abbrev pm_v : Type := Int32 ⊕ (Int64 ⊕ Option (Nat × Nat))
abbrev pI (x : Int32) : pm_v := Sum.inl x
abbrev pJ (x : Int64) : pm_v := Sum.inr (Sum.inl x)
abbrev pR (t i : Nat) : pm_v := Sum.inr (Sum.inr (some (t, i)))
abbrev pN : pm_v := Sum.inr (Sum.inr none)
abbrev pm_M : Type := (Nat → Nat → Nat → Int32) × (Nat → Nat → Nat → Int64) × (Nat → Nat → Nat → Option Nat)
abbrev pm_A : Type := Nat → Nat → Nat
def pm_mv (ad : pm_A) (v : pm_v) : Value := match v with
  | .inl x => .int x
  | .inr (.inl x) => .long x
  | .inr (.inr none) => .null
  | .inr (.inr (some q)) => .ref (ad q.1 q.2)
/-- tag 99: String constants -/
def pm_ok (v : pm_v) : Prop := match v with
  | .inr (.inr (some q)) => q.1 = 99 ∨ q.2 < pm_tn q.1
  | _ => True
def pm_oks : List pm_v → Prop
  | [] => True
  | v :: r => pm_ok v ∧ pm_oks r
def pm_cat (v : pm_v) : Nat := match v with
  | .inr (.inl _) => 2
  | _ => 1
theorem pm_mv_cat (ad : pm_A) (v : pm_v) : (pm_mv ad v).category = pm_cat v := by rcases v with x | x | _ | q <;> rfl
theorem pm_oks_app {a b : List pm_v} (h : pm_oks (a ++ b)) : pm_oks a ∧ pm_oks b := by
  induction a with
  | nil => exact ⟨trivial, h⟩
  | cons v r ih => exact ⟨⟨h.1, (ih h.2).1⟩, (ih h.2).2⟩
theorem pm_oks_join {a b : List pm_v} (h : pm_oks a) (h2 : pm_oks b) : pm_oks (a ++ b) := by
  induction a with
  | nil => exact h2
  | cons v r ih => exact ⟨h.1, ih h.2⟩
theorem pm_oks_rev {a : List pm_v} (h : pm_oks a) : pm_oks a.reverse := by
  induction a with
  | nil => exact trivial
  | cons v r ih => rw [List.reverse_cons]; exact pm_oks_join (ih h.2) ⟨h.1, trivial⟩
theorem pm_oks_mem {a : List pm_v} (h : pm_oks a) {v : pm_v} (hv : v ∈ a) : pm_ok v := by
  induction a with
  | nil => cases hv
  | cons u r ih =>
    rcases List.mem_cons.mp hv with e | e
    · rw [e]; exact h.1
    · exact ih h.2 e
/-- a field's value -/
def pm_fv (mem : pm_M) (t i k : Nat) : pm_v :=
  if (pm_fk t k).1 = 0 then pI (mem.1 t i k) else if (pm_fk t k).1 = 1 then pJ (mem.2.1 t i k)
  else if (pm_fk t k).1 = 2 then pR (pm_fk t k).2.1 (i + (pm_fk t k).2.2)
  else match mem.2.2 t i k with
    | none => pN
    | some j => pR (pm_fk t k).2.1 j
def pm_fs (ad : pm_A) (mem : pm_M) (t i : Nat) : List Value := (List.range (pm_fN (t / 1000 % 10000))).map (fun k => pm_mv ad (pm_fv mem t i k))
/-- a cell's contents -/
def pm_ce (ad : pm_A) (cs : Nat → ClassId) (mem : pm_M) (t i : Nat) : va_E :=
  if t / 10000000 = 1 then .inr (t / 1000 % 10000, pm_fs ad mem t i)
  else if t / 10000000 = 2 then .inl (cs 0, t / 1000 % 10000, .inl (mem.1 t i))
  else if t / 10000000 = 3 then .inl (cs 1, t / 1000 % 10000, .inl (mem.1 t i))
  else if t / 10000000 = 4 then .inl (cs 2, t / 1000 % 10000, .inr (.inl (mem.2.1 t i)))
  else .inl (cs 3, t / 1000 % 10000, .inr (.inr (.inr (.inr (fun j => some (ad (pm_rt t) (t / 1000 % 10000 * i + j)))))))
/-- the heap holds the memory -/
def pm_H (ad : pm_A) (D : va_G) (cs : Nat → ClassId) (mem : pm_M) (H : Heap) : Prop :=
  (∀ t i, i < pm_tn t → va_at D vwCl (ad t i, pm_ce ad cs mem t i) H) ∧ ∀ t i k j, i < pm_tn t → (pm_fk t k).1 = 3 → mem.2.2 t i k = some j → j < pm_tn (pm_fk t k).2.1
/-- String constants that the class loads: class, entry of its pool -/
def pm_str : List (String × Nat) := [(RX6, 63), (RX6, 69), (RX6, 71), (RX6, 73), (RX6, 75), (RX6, 77), (RX6, 79), (RX6, 81), (RX6, 83), (RX8, 165), (RX8, 194), (RX8, 196), (RX8, 225)]
/-- what holds of the law's start, once for all -/
def pm_G (l : Launch) (S0 : State) (a0 : Array Value) (ad : pm_A) (D : va_G) (cs : Nat → ClassId) : Prop :=
  l.flags = flags0 ∧ (∀ w ∈ lw_tbl, w.before a0 S0 = true) ∧ va_K D vwCl [(cs 0, .int), (cs 1, .byte), (cs 2, .long), (cs 3, .array .int)] S0 ∧
  (∀ t i t' i', i < pm_tn t → i' < pm_tn t' → ad t i = ad t' i' → t = t' ∧ i = i') ∧ (∀ t i, i < pm_tn t → S0.heap.size ≤ ad t i) ∧
  (Jvm.Cond.and given_1 narrow_1).before a0 S0 = true ∧ ∀ (k : Nat) (q : String × Nat), pm_str[k]? = some q → (Term.string q.1 q.2).eval a0 S0 none [] S0 = some (.ref (ad 99 k))
/-- a later state: the tables are warmer, what was there at the start is as it was -/
def pm_D (S0 U : State) : Prop := S0.WarmedH U.vm ∧ S0.heap.size ≤ U.heap.size ∧ ∀ q : Nat, q < S0.heap.size → U.heap[q]? = S0.heap[q]?
theorem pm_D.rf (S0 : State) : pm_D S0 S0 := ⟨State.WarmedH.refl S0, Nat.le_refl _, fun _ _ => rfl⟩
theorem pm_word {l : Launch} {S0 U : State} {a0 : Array Value} {ad : pm_A} {D : va_G} {cs : Nat → ClassId} (hG : pm_G l S0 a0 ad D cs) (hD : pm_D S0 U) (a : Array Value) {w : Cond} (hg : goodWord w = true) (hw : w ∈ lw_tbl) : w.before a U = true :=
  word_at hD.1 (good_of_word hg) (hG.2.1 w hw)
theorem pm_D.step {S0 s U : State} (h : pm_D S0 s) (hW : s.WarmedH U.vm) (hs : s.heap.size ≤ U.heap.size) (hq : ∀ q : Nat, q < S0.heap.size → U.heap[q]? = s.heap[q]?) : pm_D S0 U :=
  ⟨h.1.trans hW, Nat.le_trans h.2.1 hs, fun q hl => (hq q hl).trans (h.2.2 q hl)⟩
/-- locals -/
def pm_L (ad : pm_A) (nL : Nat) (la : Array Slot) (ls : List (Option pm_v)) : Prop :=
  la.size = nL ∧ lv_wf la ∧ ls.length = nL ∧ ∀ (k : Nat) (v : pm_v), ls[k]? = some (some v) → la[k]? = some (.val (pm_mv ad v)) ∧ pm_ok v
section PMX
variable {p : Program} {l : Launch} {e : Env} {R : Room} {s : State} {m : MethodId} {args : Array Value} {below : List Frame} {meth : Method} {c : Code} {cells slots : Nat} {Q : State → Prop} {S0 : State} {a0 : Array Value} {ad : pm_A} {D : va_G} {cs : Nat → ClassId}
/-- a method's surroundings -/
def pm_C (cc : ByteArray) (own : String) (nL fr lo : Nat) (p : Program) (l : Launch) (R : Room) (s : State) (m : MethodId) (c : Code) (cells slots : Nat) (S0 : State) (a0 : Array Value) (ad : pm_A) (D : va_G) (cs : Nat → ClassId) : Prop :=
  p.tables.exec = Jvm.exec ∧ c.code = cc ∧ c.maxLocals = nL ∧ s.vm.findClass own = some m.cls ∧ pm_G l S0 a0 ad D cs ∧ pm_D S0 s ∧ fr ≤ R.frames ∧ lo ≤ R.locals ∧ cells ≤ R.cells ∧ slots ≤ R.slots
/-- the machine at a picture -/
def pm_W (nL : Nat) (p : Program) (l : Launch) (e : Env) (R : Room) (s : State) (m : MethodId) (args : Array Value) (below : List Frame) (meth : Method) (c : Code) (cells slots : Nat) (Q : State → Prop) (S0 : State) (ad : pm_A) (D : va_G) (cs : Nat → ClassId) (pc : Nat) (ls : List (Option pm_v)) (st : List pm_v) (mem : pm_M) : Prop :=
  ∀ (H : Heap) (locs : List Loc) (la : Array Slot), pm_L ad nL la ls → pm_oks st → pm_H ad D cs mem H → va_S (fun q => S0.heap.size ≤ q) s.heap H locs →
    W p l e R s m args below meth c H locs cells slots Q (F0 m pc la (st.map (pm_mv ad)))
end PMX
/-- from a picture the method comes to one of X -/
def PR (cc : ByteArray) (own : String) (nL fr lo : Nat) (pc : Nat) (ls : List (Option pm_v)) (st : List pm_v) (mem : pm_M) (X : Nat → List (Option pm_v) → List pm_v → pm_M → Prop) : Prop :=
  ∀ (p : Program) (l : Launch) (e : Env) (R : Room) (s : State) (m : MethodId) (args : Array Value) (below : List Frame) (meth : Method) (c : Code) (cells slots : Nat) (Q : State → Prop) (S0 : State) (a0 : Array Value) (ad : pm_A) (D : va_G) (cs : Nat → ClassId),
    pm_C cc own nL fr lo p l R s m c cells slots S0 a0 ad D cs →
    (∀ pc' ls' st' mem', X pc' ls' st' mem' → pm_W nL p l e R s m args below meth c cells slots Q S0 ad D cs pc' ls' st' mem') →
    pm_W nL p l e R s m args below meth c cells slots Q S0 ad D cs pc ls st mem
section PRS
variable {cc : ByteArray} {own : String} {nL fr lo pc : Nat} {ls : List (Option pm_v)} {st : List pm_v} {mem : pm_M} {X : Nat → List (Option pm_v) → List pm_v → pm_M → Prop}
theorem PR.done (h : X pc ls st mem) : PR cc own nL fr lo pc ls st mem X := fun _ _ _ _ _ _ _ _ _ _ _ _ _ _ _ _ _ _ _ hK => hK _ _ _ _ h
theorem PR.mono {Y : Nat → List (Option pm_v) → List pm_v → pm_M → Prop} (h : PR cc own nL fr lo pc ls st mem X) (hXY : ∀ a b c d, X a b c d → PR cc own nL fr lo a b c d Y) : PR cc own nL fr lo pc ls st mem Y :=
  fun p l e R s m args below meth c cells slots Q S0 a0 ad D cs hC hK => h p l e R s m args below meth c cells slots Q S0 a0 ad D cs hC (fun a b c' d hx => hXY a b c' d hx p l e R s m args below meth c cells slots Q S0 a0 ad D cs hC hK)
/-- one step, as W has it -/
theorem PR.step1 {q : Nat} {ls' : List (Option pm_v)} {st' : List pm_v}
    (h : ∀ {p : Program} {l : Launch} {e : Env} {R : Room} {s : State} {m : MethodId} {args : Array Value} {below : List Frame} {meth : Method} {c : Code} {cells slots : Nat} {Q : State → Prop} {S0 : State} {a0 : Array Value} {ad : pm_A} {D : va_G} {cs : Nat → ClassId} (H : Heap) (locs : List Loc) (la : Array Slot),
      pm_C cc own nL fr lo p l R s m c cells slots S0 a0 ad D cs → pm_L ad nL la ls → pm_oks st → pm_H ad D cs mem H → va_S (fun q => S0.heap.size ≤ q) s.heap H locs →
      (∀ la', pm_L ad nL la' ls' → pm_oks st' → W p l e R s m args below meth c H locs cells slots Q (F0 m q la' (st'.map (pm_mv ad)))) → W p l e R s m args below meth c H locs cells slots Q (F0 m pc la (st.map (pm_mv ad))))
    (k : PR cc own nL fr lo q ls' st' mem X) : PR cc own nL fr lo pc ls st mem X := by
  intro p l e R s m args below meth c cells slots Q S0 a0 ad D cs hC hK H locs la hl hs hH hS
  exact h H locs la hC hl hs hH hS (fun la' hl' hs' => k p l e R s m args below meth c cells slots Q S0 a0 ad D cs hC hK H locs la' hl' hs' hH hS)
end PRS
end
section
section PRT
variable {cc : ByteArray} {own : String} {nL fr lo pc : Nat} {ls : List (Option pm_v)} {st : List pm_v} {mem : pm_M} {X : Nat → List (Option pm_v) → List pm_v → pm_M → Prop}
theorem pr_iconst {n : Int} (v : Int32) (q : Nat) (hd : decode cc pc = .ok (.iconst n, 1)) (hv : Int32.ofInt n = v) (hq : pc + 1 = q) (k : PR cc own nL fr lo q ls (pI v :: st) mem X) : PR cc own nL fr lo pc ls st mem X := by
  subst hq
  refine PR.step1 (fun H locs la hC hl hs hH hS kk => ?_) k
  exact lv_iconst hC.1 hC.2.1 hd hv (kk la hl ⟨trivial, hs⟩)
theorem pr_bipush {n : Int} (v : Int32) (q : Nat) (hd : decode cc pc = .ok (.bipush n, 2)) (hv : (Int8.ofInt n).toInt32 = v) (hq : pc + 2 = q) (k : PR cc own nL fr lo q ls (pI v :: st) mem X) : PR cc own nL fr lo pc ls st mem X := by
  subst hq
  refine PR.step1 (fun H locs la hC hl hs hH hS kk => ?_) k
  exact lv_bipush hC.1 hC.2.1 hd hv (kk la hl ⟨trivial, hs⟩)
theorem pr_sipush {n : Int} (v : Int32) (q : Nat) (hd : decode cc pc = .ok (.sipush n, 3)) (hv : (Int16.ofInt n).toInt32 = v) (hq : pc + 3 = q) (k : PR cc own nL fr lo q ls (pI v :: st) mem X) : PR cc own nL fr lo pc ls st mem X := by
  subst hq
  refine PR.step1 (fun H locs la hC hl hs hH hS kk => ?_) k
  exact lv_sipush hC.1 hC.2.1 hd hv (kk la hl ⟨trivial, hs⟩)
theorem pr_lconst {n : Fin 2} (v : Int64) (q : Nat) (hd : decode cc pc = .ok (.lconst n, 1)) (hv : Int64.ofNat (n : Nat) = v) (hq : pc + 1 = q) (k : PR cc own nL fr lo q ls (pJ v :: st) mem X) : PR cc own nL fr lo pc ls st mem X := by
  subst hq
  refine PR.step1 (fun H locs la hC hl hs hH hS kk => ?_) k
  exact lv_lconst hC.1 hC.2.1 hd hv (kk la hl ⟨trivial, hs⟩)
theorem pr_ldc2 {idx : Nat} (v : Int64) (q : Nat) (hd : decode cc pc = .ok (.ldc2_w idx, 3)) (hw : Cond.constantLong own idx v ∈ lw_tbl) (hq : pc + 3 = q) (k : PR cc own nL fr lo q ls (pJ v :: st) mem X) : PR cc own nL fr lo pc ls st mem X := by
  subst hq
  refine PR.step1 (fun H locs la hC hl hs hH hS kk => ?_) k
  exact lv_ldc2 hC.1 hC.2.1 hC.2.2.2.1 (pm_word hC.2.2.2.2.1 hC.2.2.2.2.2.1 _ rfl hw) hd (kk la hl ⟨trivial, hs⟩)
theorem pr_iload_n {k4 : Fin 4} {i : Nat} {x : Int32} (q : Nat) (hd : decode cc pc = .ok (.iload_n k4, 1)) (hi : (k4 : Nat) = i) (hx : ls[i]? = some (some (pI x))) (hq : pc + 1 = q) (k : PR cc own nL fr lo q ls (pI x :: st) mem X) : PR cc own nL fr lo pc ls st mem X := by
  subst hq
  refine PR.step1 (fun H locs la hC hl hs hH hS kk => ?_) k
  exact lv_iload_n hC.1 hC.2.1 hd hi (hl.2.2.2 _ _ hx).1 (kk la hl ⟨trivial, hs⟩)
theorem pr_iload {i : Nat} {x : Int32} (q : Nat) (hd : decode cc pc = .ok (.iload i, 2)) (hx : ls[i]? = some (some (pI x))) (hq : pc + 2 = q) (k : PR cc own nL fr lo q ls (pI x :: st) mem X) : PR cc own nL fr lo pc ls st mem X := by
  subst hq
  refine PR.step1 (fun H locs la hC hl hs hH hS kk => ?_) k
  exact lv_iload hC.1 hC.2.1 hd (hl.2.2.2 _ _ hx).1 (kk la hl ⟨trivial, hs⟩)
theorem pr_lload_n {k4 : Fin 4} {i : Nat} {x : Int64} (q : Nat) (hd : decode cc pc = .ok (.lload_n k4, 1)) (hi : (k4 : Nat) = i) (hx : ls[i]? = some (some (pJ x))) (hq : pc + 1 = q) (k : PR cc own nL fr lo q ls (pJ x :: st) mem X) : PR cc own nL fr lo pc ls st mem X := by
  subst hq
  refine PR.step1 (fun H locs la hC hl hs hH hS kk => ?_) k
  exact lv_lload_n hC.1 hC.2.1 hd hi (hl.2.2.2 _ _ hx).1 (kk la hl ⟨trivial, hs⟩)
theorem pr_lload {i : Nat} {x : Int64} (q : Nat) (hd : decode cc pc = .ok (.lload i, 2)) (hx : ls[i]? = some (some (pJ x))) (hq : pc + 2 = q) (k : PR cc own nL fr lo q ls (pJ x :: st) mem X) : PR cc own nL fr lo pc ls st mem X := by
  subst hq
  refine PR.step1 (fun H locs la hC hl hs hH hS kk => ?_) k
  exact lv_lload hC.1 hC.2.1 hd (hl.2.2.2 _ _ hx).1 (kk la hl ⟨trivial, hs⟩)
theorem pr_aload_n {k4 : Fin 4} {i t j : Nat} (q : Nat) (hd : decode cc pc = .ok (.aload_n k4, 1)) (hi : (k4 : Nat) = i) (hx : ls[i]? = some (some (pR t j))) (hq : pc + 1 = q) (k : PR cc own nL fr lo q ls (pR t j :: st) mem X) : PR cc own nL fr lo pc ls st mem X := by
  subst hq
  refine PR.step1 (fun H locs la hC hl hs hH hS kk => ?_) k
  exact lv_aload_n hC.1 hC.2.1 hd hi (hl.2.2.2 _ _ hx).1 (kk la hl ⟨(hl.2.2.2 _ _ hx).2, hs⟩)
theorem pr_aload {i t j : Nat} (q : Nat) (hd : decode cc pc = .ok (.aload i, 2)) (hx : ls[i]? = some (some (pR t j))) (hq : pc + 2 = q) (k : PR cc own nL fr lo q ls (pR t j :: st) mem X) : PR cc own nL fr lo pc ls st mem X := by
  subst hq
  refine PR.step1 (fun H locs la hC hl hs hH hS kk => ?_) k
  exact lv_aload hC.1 hC.2.1 hd (hl.2.2.2 _ _ hx).1 (kk la hl ⟨(hl.2.2.2 _ _ hx).2, hs⟩)
theorem pr_iadd {x y : Int32} (q : Nat) (hd : decode cc pc = .ok (.iadd, 1)) (hq : pc + 1 = q) (k : PR cc own nL fr lo q ls (pI (x + y) :: st) mem X) : PR cc own nL fr lo pc ls (pI y :: pI x :: st) mem X := by
  subst hq
  refine PR.step1 (fun H locs la hC hl hs hH hS kk => ?_) k
  exact lv_iadd hC.1 hC.2.1 hd (kk la hl ⟨trivial, hs.2.2⟩)
theorem pr_isub {x y : Int32} (q : Nat) (hd : decode cc pc = .ok (.isub, 1)) (hq : pc + 1 = q) (k : PR cc own nL fr lo q ls (pI (x - y) :: st) mem X) : PR cc own nL fr lo pc ls (pI y :: pI x :: st) mem X := by
  subst hq
  refine PR.step1 (fun H locs la hC hl hs hH hS kk => ?_) k
  exact lv_isub hC.1 hC.2.1 hd (kk la hl ⟨trivial, hs.2.2⟩)
theorem pr_imul {x y : Int32} (q : Nat) (hd : decode cc pc = .ok (.imul, 1)) (hq : pc + 1 = q) (k : PR cc own nL fr lo q ls (pI (x * y) :: st) mem X) : PR cc own nL fr lo pc ls (pI y :: pI x :: st) mem X := by
  subst hq
  refine PR.step1 (fun H locs la hC hl hs hH hS kk => ?_) k
  exact lv_imul hC.1 hC.2.1 hd (kk la hl ⟨trivial, hs.2.2⟩)
theorem pr_iand {x y : Int32} (q : Nat) (hd : decode cc pc = .ok (.iand, 1)) (hq : pc + 1 = q) (k : PR cc own nL fr lo q ls (pI (x &&& y) :: st) mem X) : PR cc own nL fr lo pc ls (pI y :: pI x :: st) mem X := by
  subst hq
  refine PR.step1 (fun H locs la hC hl hs hH hS kk => ?_) k
  exact lv_iand hC.1 hC.2.1 hd (kk la hl ⟨trivial, hs.2.2⟩)
theorem pr_ior {x y : Int32} (q : Nat) (hd : decode cc pc = .ok (.ior, 1)) (hq : pc + 1 = q) (k : PR cc own nL fr lo q ls (pI (x ||| y) :: st) mem X) : PR cc own nL fr lo pc ls (pI y :: pI x :: st) mem X := by
  subst hq
  refine PR.step1 (fun H locs la hC hl hs hH hS kk => ?_) k
  exact lv_ior hC.1 hC.2.1 hd (kk la hl ⟨trivial, hs.2.2⟩)
theorem pr_ixor {x y : Int32} (q : Nat) (hd : decode cc pc = .ok (.ixor, 1)) (hq : pc + 1 = q) (k : PR cc own nL fr lo q ls (pI (x ^^^ y) :: st) mem X) : PR cc own nL fr lo pc ls (pI y :: pI x :: st) mem X := by
  subst hq
  refine PR.step1 (fun H locs la hC hl hs hH hS kk => ?_) k
  exact lv_ixor hC.1 hC.2.1 hd (kk la hl ⟨trivial, hs.2.2⟩)
theorem pr_ishl {x y : Int32} (q : Nat) (hd : decode cc pc = .ok (.ishl, 1)) (hq : pc + 1 = q) (k : PR cc own nL fr lo q ls (pI (x <<< (y &&& 31)) :: st) mem X) : PR cc own nL fr lo pc ls (pI y :: pI x :: st) mem X := by
  subst hq
  refine PR.step1 (fun H locs la hC hl hs hH hS kk => ?_) k
  exact lv_ishl hC.1 hC.2.1 hd (kk la hl ⟨trivial, hs.2.2⟩)
theorem pr_ishr {x y : Int32} (q : Nat) (hd : decode cc pc = .ok (.ishr, 1)) (hq : pc + 1 = q) (k : PR cc own nL fr lo q ls (pI (x >>> (y &&& 31)) :: st) mem X) : PR cc own nL fr lo pc ls (pI y :: pI x :: st) mem X := by
  subst hq
  refine PR.step1 (fun H locs la hC hl hs hH hS kk => ?_) k
  exact lv_ishr hC.1 hC.2.1 hd (kk la hl ⟨trivial, hs.2.2⟩)
theorem pr_iushr {x y : Int32} (q : Nat) (hd : decode cc pc = .ok (.iushr, 1)) (hq : pc + 1 = q) (k : PR cc own nL fr lo q ls (pI ((x.toUInt32 >>> (y.toUInt32 &&& Int32.toUInt32 31)).toInt32) :: st) mem X) : PR cc own nL fr lo pc ls (pI y :: pI x :: st) mem X := by
  subst hq
  refine PR.step1 (fun H locs la hC hl hs hH hS kk => ?_) k
  exact lv_iushr hC.1 hC.2.1 hd rfl (kk la hl ⟨trivial, hs.2.2⟩)
theorem pr_idiv {x y : Int32} (hne : ¬ y = 0) (q : Nat) (hd : decode cc pc = .ok (.idiv, 1)) (hq : pc + 1 = q) (k : PR cc own nL fr lo q ls (pI (x / y) :: st) mem X) : PR cc own nL fr lo pc ls (pI y :: pI x :: st) mem X := by
  subst hq
  refine PR.step1 (fun H locs la hC hl hs hH hS kk => ?_) k
  exact lv_idiv hC.1 hC.2.1 hd hne (kk la hl ⟨trivial, hs.2.2⟩)
theorem pr_irem {x y : Int32} (hne : ¬ y = 0) (q : Nat) (hd : decode cc pc = .ok (.irem, 1)) (hq : pc + 1 = q) (k : PR cc own nL fr lo q ls (pI (x - x / y * y) :: st) mem X) : PR cc own nL fr lo pc ls (pI y :: pI x :: st) mem X := by
  subst hq
  refine PR.step1 (fun H locs la hC hl hs hH hS kk => ?_) k
  exact lv_irem hC.1 hC.2.1 hd hne (kk la hl ⟨trivial, hs.2.2⟩)
theorem pr_ineg {x : Int32} (q : Nat) (hd : decode cc pc = .ok (.ineg, 1)) (hq : pc + 1 = q) (k : PR cc own nL fr lo q ls (pI (-x) :: st) mem X) : PR cc own nL fr lo pc ls (pI x :: st) mem X := by
  subst hq
  refine PR.step1 (fun H locs la hC hl hs hH hS kk => ?_) k
  exact lv_ineg hC.1 hC.2.1 hd (kk la hl ⟨trivial, hs.2⟩)
theorem pr_ladd {x y : Int64} (q : Nat) (hd : decode cc pc = .ok (.ladd, 1)) (hq : pc + 1 = q) (k : PR cc own nL fr lo q ls (pJ (x + y) :: st) mem X) : PR cc own nL fr lo pc ls (pJ y :: pJ x :: st) mem X := by
  subst hq
  refine PR.step1 (fun H locs la hC hl hs hH hS kk => ?_) k
  exact lv_ladd hC.1 hC.2.1 hd (kk la hl ⟨trivial, hs.2.2⟩)
theorem pr_lsub {x y : Int64} (q : Nat) (hd : decode cc pc = .ok (.lsub, 1)) (hq : pc + 1 = q) (k : PR cc own nL fr lo q ls (pJ (x - y) :: st) mem X) : PR cc own nL fr lo pc ls (pJ y :: pJ x :: st) mem X := by
  subst hq
  refine PR.step1 (fun H locs la hC hl hs hH hS kk => ?_) k
  exact lv_lsub hC.1 hC.2.1 hd (kk la hl ⟨trivial, hs.2.2⟩)
theorem pr_lmul {x y : Int64} (q : Nat) (hd : decode cc pc = .ok (.lmul, 1)) (hq : pc + 1 = q) (k : PR cc own nL fr lo q ls (pJ (x * y) :: st) mem X) : PR cc own nL fr lo pc ls (pJ y :: pJ x :: st) mem X := by
  subst hq
  refine PR.step1 (fun H locs la hC hl hs hH hS kk => ?_) k
  exact lv_lmul hC.1 hC.2.1 hd (kk la hl ⟨trivial, hs.2.2⟩)
theorem pr_ldiv {x y : Int64} (hne : ¬ y = 0) (q : Nat) (hd : decode cc pc = .ok (.ldiv, 1)) (hq : pc + 1 = q) (k : PR cc own nL fr lo q ls (pJ (x / y) :: st) mem X) : PR cc own nL fr lo pc ls (pJ y :: pJ x :: st) mem X := by
  subst hq
  refine PR.step1 (fun H locs la hC hl hs hH hS kk => ?_) k
  exact lv_ldiv hC.1 hC.2.1 hd hne (kk la hl ⟨trivial, hs.2.2⟩)
theorem pr_lrem {x y : Int64} (hne : ¬ y = 0) (q : Nat) (hd : decode cc pc = .ok (.lrem, 1)) (hq : pc + 1 = q) (k : PR cc own nL fr lo q ls (pJ (x - x / y * y) :: st) mem X) : PR cc own nL fr lo pc ls (pJ y :: pJ x :: st) mem X := by
  subst hq
  refine PR.step1 (fun H locs la hC hl hs hH hS kk => ?_) k
  exact lv_lrem hC.1 hC.2.1 hd hne (kk la hl ⟨trivial, hs.2.2⟩)
theorem pr_lcmp {x y : Int64} (q : Nat) (hd : decode cc pc = .ok (.lcmp, 1)) (hq : pc + 1 = q) (k : PR cc own nL fr lo q ls (pI (lg_cmp x y) :: st) mem X) : PR cc own nL fr lo pc ls (pJ y :: pJ x :: st) mem X := by
  subst hq
  refine PR.step1 (fun H locs la hC hl hs hH hS kk => ?_) k
  exact W.lcmp hC.1 hC.2.1 hd (kk la hl ⟨trivial, hs.2.2⟩)
theorem pr_i2l {x : Int32} (q : Nat) (hd : decode cc pc = .ok (.i2l, 1)) (hq : pc + 1 = q) (k : PR cc own nL fr lo q ls (pJ x.toInt64 :: st) mem X) : PR cc own nL fr lo pc ls (pI x :: st) mem X := by
  subst hq
  refine PR.step1 (fun H locs la hC hl hs hH hS kk => ?_) k
  exact lv_i2l hC.1 hC.2.1 hd rfl (kk la hl ⟨trivial, hs.2⟩)
theorem pr_l2i {x : Int64} (q : Nat) (hd : decode cc pc = .ok (.l2i, 1)) (hq : pc + 1 = q) (k : PR cc own nL fr lo q ls (pI x.toInt32 :: st) mem X) : PR cc own nL fr lo pc ls (pJ x :: st) mem X := by
  subst hq
  refine PR.step1 (fun H locs la hC hl hs hH hS kk => ?_) k
  exact lv_l2i hC.1 hC.2.1 hd rfl (kk la hl ⟨trivial, hs.2⟩)
theorem pr_i2b {x : Int32} (q : Nat) (hd : decode cc pc = .ok (.i2b, 1)) (hq : pc + 1 = q) (k : PR cc own nL fr lo q ls (pI x.toInt8.toInt32 :: st) mem X) : PR cc own nL fr lo pc ls (pI x :: st) mem X := by
  subst hq
  refine PR.step1 (fun H locs la hC hl hs hH hS kk => ?_) k
  exact lv_i2b hC.1 hC.2.1 hd rfl (kk la hl ⟨trivial, hs.2⟩)
theorem pr_dup {v : pm_v} (hv : pm_cat v = 1) (q : Nat) (hd : decode cc pc = .ok (.dup, 1)) (hq : pc + 1 = q) (k : PR cc own nL fr lo q ls (v :: v :: st) mem X) : PR cc own nL fr lo pc ls (v :: st) mem X := by
  subst hq
  refine PR.step1 (fun H locs la hC hl hs hH hS kk => ?_) k
  exact lv_dup hC.1 hC.2.1 hd (by rw [pm_mv_cat]; exact hv) (kk la hl ⟨hs.1, hs⟩)
theorem pr_pop {v : pm_v} (hv : pm_cat v = 1) (q : Nat) (hd : decode cc pc = .ok (.pop, 1)) (hq : pc + 1 = q) (k : PR cc own nL fr lo q ls (st) mem X) : PR cc own nL fr lo pc ls (v :: st) mem X := by
  subst hq
  refine PR.step1 (fun H locs la hC hl hs hH hS kk => ?_) k
  exact lv_pop hC.1 hC.2.1 hd (by rw [pm_mv_cat]; exact hv) (kk la hl hs.2)
theorem pr_dup2 {u v : pm_v} (hu : pm_cat u = 1) (hv : pm_cat v = 1) (q : Nat) (hd : decode cc pc = .ok (.dup2, 1)) (hq : pc + 1 = q) (k : PR cc own nL fr lo q ls (u :: v :: u :: v :: st) mem X) : PR cc own nL fr lo pc ls (u :: v :: st) mem X := by
  subst hq
  refine PR.step1 (fun H locs la hC hl hs hH hS kk => ?_) k
  exact lv_dup2_11 hC.1 hC.2.1 hd (by rw [pm_mv_cat]; exact hu) (by rw [pm_mv_cat]; exact hv) (kk la hl ⟨hs.1, hs.2.1, hs⟩)
theorem pr_dup2l {x : Int64} (q : Nat) (hd : decode cc pc = .ok (.dup2, 1)) (hq : pc + 1 = q) (k : PR cc own nL fr lo q ls (pJ x :: pJ x :: st) mem X) : PR cc own nL fr lo pc ls (pJ x :: st) mem X := by
  subst hq
  refine PR.step1 (fun H locs la hC hl hs hH hS kk => ?_) k
  exact lv_dup2_2 hC.1 hC.2.1 hd rfl (kk la hl ⟨trivial, hs⟩)
theorem pr_goto {off : Int} (q : Nat) (hd : decode cc pc = .ok (.goto off, 3)) (hq : (pc : Int) + off = (q : Int)) (k : PR cc own nL fr lo q ls st mem X) : PR cc own nL fr lo pc ls st mem X := by
  refine PR.step1 (fun H locs la hC hl hs hH hS kk => ?_) k
  exact lv_goto hC.1 hC.2.1 hd hq (kk la hl hs)
theorem PR.branch {q t : Nat} {st' : List pm_v} {C : Prop}
    (h : ∀ {p : Program} {l : Launch} {e : Env} {R : Room} {s : State} {m : MethodId} {args : Array Value} {below : List Frame} {meth : Method} {c : Code} {cells slots : Nat} {Q : State → Prop} {S0 : State} {a0 : Array Value} {ad : pm_A} {D : va_G} {cs : Nat → ClassId} (H : Heap) (locs : List Loc) (la : Array Slot),
      pm_C cc own nL fr lo p l R s m c cells slots S0 a0 ad D cs → pm_oks st →
      (C → pm_oks st' → W p l e R s m args below meth c H locs cells slots Q (F0 m t la (st'.map (pm_mv ad)))) → (¬ C → pm_oks st' → W p l e R s m args below meth c H locs cells slots Q (F0 m q la (st'.map (pm_mv ad)))) → W p l e R s m args below meth c H locs cells slots Q (F0 m pc la (st.map (pm_mv ad))))
    (kt : C → PR cc own nL fr lo t ls st' mem X) (kf : ¬ C → PR cc own nL fr lo q ls st' mem X) : PR cc own nL fr lo pc ls st mem X := by
  intro p l e R s m args below meth c cells slots Q S0 a0 ad D cs hC hK H locs la hl hs hH hS
  exact h H locs la hC hs (fun hc hs' => kt hc p l e R s m args below meth c cells slots Q S0 a0 ad D cs hC hK H locs la hl hs' hH hS) (fun hc hs' => kf hc p l e R s m args below meth c cells slots Q S0 a0 ad D cs hC hK H locs la hl hs' hH hS)
theorem pr_if_eq {x : Int32} {off : Int} (t q : Nat) (hd : decode cc pc = .ok (.ifCond .eq off, 3)) (ht : (pc : Int) + off = (t : Int)) (hq : pc + 3 = q) (kt : x = 0 → PR cc own nL fr lo t ls st mem X) (kf : ¬ (x = 0) → PR cc own nL fr lo q ls st mem X) : PR cc own nL fr lo pc ls (pI x :: st) mem X := by
  subst hq
  exact PR.branch (fun H locs la hC hs k1 k2 => lv_if_eq hC.1 hC.2.1 hd ht (fun hc => k1 hc hs.2) (fun hc => k2 hc hs.2)) kt kf
theorem pr_icmp_eq {x y : Int32} {off : Int} (t q : Nat) (hd : decode cc pc = .ok (.if_icmp .eq off, 3)) (ht : (pc : Int) + off = (t : Int)) (hq : pc + 3 = q) (kt : x = y → PR cc own nL fr lo t ls st mem X) (kf : ¬ (x = y) → PR cc own nL fr lo q ls st mem X) : PR cc own nL fr lo pc ls (pI y :: pI x :: st) mem X := by
  subst hq
  exact PR.branch (fun H locs la hC hs k1 k2 => lv_icmp_eq hC.1 hC.2.1 hd ht (fun hc => k1 hc hs.2.2) (fun hc => k2 hc hs.2.2)) kt kf
theorem pr_if_ne {x : Int32} {off : Int} (t q : Nat) (hd : decode cc pc = .ok (.ifCond .ne off, 3)) (ht : (pc : Int) + off = (t : Int)) (hq : pc + 3 = q) (kt : ¬ x = 0 → PR cc own nL fr lo t ls st mem X) (kf : x = 0 → PR cc own nL fr lo q ls st mem X) : PR cc own nL fr lo pc ls (pI x :: st) mem X := by
  subst hq
  exact PR.branch (fun H locs la hC hs k1 k2 => lv_if_ne hC.1 hC.2.1 hd ht (fun hc => k1 hc hs.2) (fun hc => k2 (fun z => z hc) hs.2)) kt (fun hc => kf (Decidable.not_not.mp hc))
theorem pr_icmp_ne {x y : Int32} {off : Int} (t q : Nat) (hd : decode cc pc = .ok (.if_icmp .ne off, 3)) (ht : (pc : Int) + off = (t : Int)) (hq : pc + 3 = q) (kt : ¬ x = y → PR cc own nL fr lo t ls st mem X) (kf : x = y → PR cc own nL fr lo q ls st mem X) : PR cc own nL fr lo pc ls (pI y :: pI x :: st) mem X := by
  subst hq
  exact PR.branch (fun H locs la hC hs k1 k2 => lv_icmp_ne hC.1 hC.2.1 hd ht (fun hc => k1 hc hs.2.2) (fun hc => k2 (fun z => z hc) hs.2.2)) kt (fun hc => kf (Decidable.not_not.mp hc))
theorem pr_if_lt {x : Int32} {off : Int} (t q : Nat) (hd : decode cc pc = .ok (.ifCond .lt off, 3)) (ht : (pc : Int) + off = (t : Int)) (hq : pc + 3 = q) (kt : x < 0 → PR cc own nL fr lo t ls st mem X) (kf : ¬ (x < 0) → PR cc own nL fr lo q ls st mem X) : PR cc own nL fr lo pc ls (pI x :: st) mem X := by
  subst hq
  exact PR.branch (fun H locs la hC hs k1 k2 => lv_if_lt hC.1 hC.2.1 hd ht (fun hc => k1 hc hs.2) (fun hc => k2 hc hs.2)) kt kf
theorem pr_icmp_lt {x y : Int32} {off : Int} (t q : Nat) (hd : decode cc pc = .ok (.if_icmp .lt off, 3)) (ht : (pc : Int) + off = (t : Int)) (hq : pc + 3 = q) (kt : x < y → PR cc own nL fr lo t ls st mem X) (kf : ¬ (x < y) → PR cc own nL fr lo q ls st mem X) : PR cc own nL fr lo pc ls (pI y :: pI x :: st) mem X := by
  subst hq
  exact PR.branch (fun H locs la hC hs k1 k2 => lv_icmp_lt hC.1 hC.2.1 hd ht (fun hc => k1 hc hs.2.2) (fun hc => k2 hc hs.2.2)) kt kf
theorem pr_if_ge {x : Int32} {off : Int} (t q : Nat) (hd : decode cc pc = .ok (.ifCond .ge off, 3)) (ht : (pc : Int) + off = (t : Int)) (hq : pc + 3 = q) (kt : 0 ≤ x → PR cc own nL fr lo t ls st mem X) (kf : ¬ (0 ≤ x) → PR cc own nL fr lo q ls st mem X) : PR cc own nL fr lo pc ls (pI x :: st) mem X := by
  subst hq
  exact PR.branch (fun H locs la hC hs k1 k2 => lv_if_ge hC.1 hC.2.1 hd ht (fun hc => k1 hc hs.2) (fun hc => k2 hc hs.2)) kt kf
theorem pr_icmp_ge {x y : Int32} {off : Int} (t q : Nat) (hd : decode cc pc = .ok (.if_icmp .ge off, 3)) (ht : (pc : Int) + off = (t : Int)) (hq : pc + 3 = q) (kt : y ≤ x → PR cc own nL fr lo t ls st mem X) (kf : ¬ (y ≤ x) → PR cc own nL fr lo q ls st mem X) : PR cc own nL fr lo pc ls (pI y :: pI x :: st) mem X := by
  subst hq
  exact PR.branch (fun H locs la hC hs k1 k2 => lv_icmp_ge hC.1 hC.2.1 hd ht (fun hc => k1 hc hs.2.2) (fun hc => k2 hc hs.2.2)) kt kf
theorem pr_if_gt {x : Int32} {off : Int} (t q : Nat) (hd : decode cc pc = .ok (.ifCond .gt off, 3)) (ht : (pc : Int) + off = (t : Int)) (hq : pc + 3 = q) (kt : 0 < x → PR cc own nL fr lo t ls st mem X) (kf : ¬ (0 < x) → PR cc own nL fr lo q ls st mem X) : PR cc own nL fr lo pc ls (pI x :: st) mem X := by
  subst hq
  exact PR.branch (fun H locs la hC hs k1 k2 => lv_if_gt hC.1 hC.2.1 hd ht (fun hc => k1 hc hs.2) (fun hc => k2 hc hs.2)) kt kf
theorem pr_icmp_gt {x y : Int32} {off : Int} (t q : Nat) (hd : decode cc pc = .ok (.if_icmp .gt off, 3)) (ht : (pc : Int) + off = (t : Int)) (hq : pc + 3 = q) (kt : y < x → PR cc own nL fr lo t ls st mem X) (kf : ¬ (y < x) → PR cc own nL fr lo q ls st mem X) : PR cc own nL fr lo pc ls (pI y :: pI x :: st) mem X := by
  subst hq
  exact PR.branch (fun H locs la hC hs k1 k2 => lv_icmp_gt hC.1 hC.2.1 hd ht (fun hc => k1 hc hs.2.2) (fun hc => k2 hc hs.2.2)) kt kf
theorem pr_if_le {x : Int32} {off : Int} (t q : Nat) (hd : decode cc pc = .ok (.ifCond .le off, 3)) (ht : (pc : Int) + off = (t : Int)) (hq : pc + 3 = q) (kt : x ≤ 0 → PR cc own nL fr lo t ls st mem X) (kf : ¬ (x ≤ 0) → PR cc own nL fr lo q ls st mem X) : PR cc own nL fr lo pc ls (pI x :: st) mem X := by
  subst hq
  exact PR.branch (fun H locs la hC hs k1 k2 => lv_if_le hC.1 hC.2.1 hd ht (fun hc => k1 hc hs.2) (fun hc => k2 hc hs.2)) kt kf
theorem pr_icmp_le {x y : Int32} {off : Int} (t q : Nat) (hd : decode cc pc = .ok (.if_icmp .le off, 3)) (ht : (pc : Int) + off = (t : Int)) (hq : pc + 3 = q) (kt : x ≤ y → PR cc own nL fr lo t ls st mem X) (kf : ¬ (x ≤ y) → PR cc own nL fr lo q ls st mem X) : PR cc own nL fr lo pc ls (pI y :: pI x :: st) mem X := by
  subst hq
  exact PR.branch (fun H locs la hC hs k1 k2 => lv_icmp_le hC.1 hC.2.1 hd ht (fun hc => k1 hc hs.2.2) (fun hc => k2 hc hs.2.2)) kt kf
theorem pr_table {dflt l0 hi : Int} {offs : Array Int} {len : Nat} {x : Int32} (q : Nat) (hd : decode cc pc = .ok (.tableswitch dflt l0 hi offs, len)) (hx : ((x.toInt < l0 ∨ hi < x.toInt) ∧ (pc : Int) + dflt = (q : Int)) ∨ (¬ x.toInt < l0 ∧ ¬ hi < x.toInt ∧ ∃ off, offs[(x.toInt - l0).toNat]? = some off ∧ (pc : Int) + off = (q : Int))) (kk : PR cc own nL fr lo q ls st mem X) : PR cc own nL fr lo pc ls (pI x :: st) mem X := by
  refine PR.step1 (fun H locs la hC hl hs hH hS kk => ?_) kk
  rcases hx with ⟨h1, h2⟩ | ⟨h1, h2, off, h3, h4⟩
  · exact lv_tableOut hC.1 hC.2.1 hd h1 h2 (kk la hl hs.2)
  · exact lv_tableIn hC.1 hC.2.1 hd h1 h2 h3 h4 (kk la hl hs.2)
theorem pr_lookup {dflt : Int} {ps : Array (Int × Int)} {len : Nat} {x : Int32} {off : Int} (q : Nat) (hd : decode cc pc = .ok (.lookupswitch dflt ps, len)) (hp : (ps.toList.zip (ps.toList.drop 1)).all (fun (a, next) => a.1 < next.1) = true) (ho : Op.lookupswitch.offset ps.toList dflt x.toInt = off) (ht : (pc : Int) + off = (q : Int)) (kk : PR cc own nL fr lo q ls st mem X) : PR cc own nL fr lo pc ls (pI x :: st) mem X := by
  refine PR.step1 (fun H locs la hC hl hs hH hS kk => ?_) kk
  exact lv_lookup hC.1 hC.2.1 hd hp ho ht (kk la hl hs.2)
def pm_al (ad : pm_A) (ls : List (Option pm_v)) : List (Nat × Value) := (List.range ls.length).filterMap (fun k => (ls[k]?).bind (fun o => o.map (fun v => (k, pm_mv ad v))))
theorem pm_al_in {ad : pm_A} {ls : List (Option pm_v)} {k : Nat} {v : pm_v} (h : ls[k]? = some (some v)) : (k, pm_mv ad v) ∈ pm_al ad ls := by
  have hk : k < ls.length := (List.getElem?_eq_some_iff.mp h).1
  refine List.mem_filterMap.mpr ⟨k, List.mem_range.mpr hk, ?_⟩
  rw [h]; rfl
theorem pm_L.has {ad : pm_A} {nL : Nat} {la : Array Slot} (h : pm_L ad nL la ls) : lv_has la nL (pm_al ad ls) := by
  refine ⟨h.1, h.2.1, fun q hq => ?_⟩
  obtain ⟨k, -, hk⟩ := List.mem_filterMap.mp hq
  obtain ⟨o, ho, hk⟩ := Option.bind_eq_some_iff.mp hk
  obtain ⟨v, hv, hk2⟩ := Option.map_eq_some_iff.mp hk
  subst hv
  rw [← hk2]
  exact (h.2.2.2 k v ho).1
/-- what holds of the locals behind a store -/
def pm_st (ls ls' : List (Option pm_v)) (i : Nat) (v : pm_v) : Prop := ls'.length = ls.length ∧ i + pm_cat v ≤ ls.length ∧ ∀ (k : Nat) (u : pm_v), ls'[k]? = some (some u) → (k = i ∧ u = v) ∨ (¬ k = i ∧ ¬ (pm_cat v = 2 ∧ k = i + 1) ∧ ¬ (k + 1 = i ∧ pm_cat u = 2) ∧ ls[k]? = some (some u))
theorem pm_st.to1 {ls' : List (Option pm_v)} {i : Nat} {v : pm_v} (h : pm_st ls ls' i v) (hv : pm_cat v = 1) (hok : pm_ok v) {ad : pm_A} {nL : Nat} {la la' : Array Slot} (hl : pm_L ad nL la ls) (hla : lv_has la' nL ((i, pm_mv ad v) :: (pm_al ad ls).filter (fun q => !(q.1 == i) && !(q.1 + 1 == i && q.2.category == 2)))) : pm_L ad nL la' ls' := by
  refine ⟨hla.1, hla.2.1, h.1.trans hl.2.2.1, fun k u hk => ?_⟩
  rcases h.2.2 k u hk with ⟨e1, e2⟩ | ⟨e1, -, e3, e4⟩
  · subst e1; subst e2
    exact ⟨hla.2.2 _ List.mem_cons_self, hok⟩
  · refine ⟨hla.2.2 (k, pm_mv ad u) (List.mem_cons_of_mem _ (List.mem_filter.mpr ⟨pm_al_in e4, ?_⟩)), (hl.2.2.2 k u e4).2⟩
    simp only [pm_mv_cat]
    by_cases e5 : k + 1 = i
    · have : ¬ pm_cat u = 2 := fun z => e3 ⟨e5, z⟩
      simp [e1, this]
    · simp [e1, e5]
theorem pm_st.to2 {ls' : List (Option pm_v)} {i : Nat} {v : pm_v} (h : pm_st ls ls' i v) (hv : pm_cat v = 2) (hok : pm_ok v) {ad : pm_A} {nL : Nat} {la la' : Array Slot} (hl : pm_L ad nL la ls) (hla : lv_has la' nL ((i, pm_mv ad v) :: (pm_al ad ls).filter (fun q => !(q.1 == i) && (!(q.1 == i + 1) && !(q.1 + 1 == i && q.2.category == 2))))) : pm_L ad nL la' ls' := by
  refine ⟨hla.1, hla.2.1, h.1.trans hl.2.2.1, fun k u hk => ?_⟩
  rcases h.2.2 k u hk with ⟨e1, e2⟩ | ⟨e1, e2, e3, e4⟩
  · subst e1; subst e2
    exact ⟨hla.2.2 _ List.mem_cons_self, hok⟩
  · refine ⟨hla.2.2 (k, pm_mv ad u) (List.mem_cons_of_mem _ (List.mem_filter.mpr ⟨pm_al_in e4, ?_⟩)), (hl.2.2.2 k u e4).2⟩
    simp only [pm_mv_cat]
    have e6 : ¬ k = i + 1 := fun z => e2 ⟨hv, z⟩
    by_cases e5 : k + 1 = i
    · have : ¬ pm_cat u = 2 := fun z => e3 ⟨e5, z⟩
      simp [e1, e6, this]
    · simp [e1, e5, e6]
def pm_nl (o : Option pm_v) : Bool := match o with
  | some (.inr (.inl _)) => false
  | _ => true
theorem pm_nl_cat {u : pm_v} (h : pm_nl (some u) = true) : ¬ pm_cat u = 2 := by
  rcases u with x | x | _ | q
  · intro z; cases z
  · cases h
  · intro z; cases z
  · intro z; cases z
theorem pr_istore_n {k4 : Fin 4} {i : Nat} {x : Int32} {ls' : List (Option pm_v)} (q : Nat) (hd : decode cc pc = .ok (.istore_n k4, 1)) (hi : (k4 : Nat) = i) (hst : pm_st ls ls' i (pI x)) (hq : pc + 1 = q) (k : PR cc own nL fr lo q ls' st mem X) : PR cc own nL fr lo pc ls (pI x :: st) mem X := by
  subst hq
  refine PR.step1 (fun H locs la hC hl hs hH hS kk => ?_) k
  exact lv_istore_n hC.1 hC.2.1 hd hi hl.has (by have := hl.2.2.1; have := hst.2.1; simp only [pm_cat] at this; omega) rfl (fun la' hla => kk la' (hst.to1 rfl hs.1 hl hla) hs.2)
theorem pr_istore {i : Nat} {x : Int32} {ls' : List (Option pm_v)} (q : Nat) (hd : decode cc pc = .ok (.istore i, 2)) (hst : pm_st ls ls' i (pI x)) (hq : pc + 2 = q) (k : PR cc own nL fr lo q ls' st mem X) : PR cc own nL fr lo pc ls (pI x :: st) mem X := by
  subst hq
  refine PR.step1 (fun H locs la hC hl hs hH hS kk => ?_) k
  exact lv_istore hC.1 hC.2.1 hd hl.has (by have := hl.2.2.1; have := hst.2.1; simp only [pm_cat] at this; omega) rfl (fun la' hla => kk la' (hst.to1 rfl hs.1 hl hla) hs.2)
theorem pr_astore_n {k4 : Fin 4} {i : Nat} {t j : Nat} {ls' : List (Option pm_v)} (q : Nat) (hd : decode cc pc = .ok (.astore_n k4, 1)) (hi : (k4 : Nat) = i) (hst : pm_st ls ls' i (pR t j)) (hq : pc + 1 = q) (k : PR cc own nL fr lo q ls' st mem X) : PR cc own nL fr lo pc ls (pR t j :: st) mem X := by
  subst hq
  refine PR.step1 (fun H locs la hC hl hs hH hS kk => ?_) k
  exact lv_astore_n hC.1 hC.2.1 hd hi hl.has (by have := hl.2.2.1; have := hst.2.1; simp only [pm_cat] at this; omega) rfl (fun la' hla => kk la' (hst.to1 rfl hs.1 hl hla) hs.2)
theorem pr_astore {i : Nat} {t j : Nat} {ls' : List (Option pm_v)} (q : Nat) (hd : decode cc pc = .ok (.astore i, 2)) (hst : pm_st ls ls' i (pR t j)) (hq : pc + 2 = q) (k : PR cc own nL fr lo q ls' st mem X) : PR cc own nL fr lo pc ls (pR t j :: st) mem X := by
  subst hq
  refine PR.step1 (fun H locs la hC hl hs hH hS kk => ?_) k
  exact lv_astore hC.1 hC.2.1 hd hl.has (by have := hl.2.2.1; have := hst.2.1; simp only [pm_cat] at this; omega) rfl (fun la' hla => kk la' (hst.to1 rfl hs.1 hl hla) hs.2)
theorem pr_lstore_n {k4 : Fin 4} {i : Nat} {x : Int64} {ls' : List (Option pm_v)} (q : Nat) (hd : decode cc pc = .ok (.lstore_n k4, 1)) (hi : (k4 : Nat) = i) (hst : pm_st ls ls' i (pJ x)) (hq : pc + 1 = q) (k : PR cc own nL fr lo q ls' st mem X) : PR cc own nL fr lo pc ls (pJ x :: st) mem X := by
  subst hq
  refine PR.step1 (fun H locs la hC hl hs hH hS kk => ?_) k
  exact lv_lstore_n hC.1 hC.2.1 hd hi hl.has (by have := hl.2.2.1; have := hst.2.1; simp only [pm_cat] at this; omega) rfl (fun la' hla => kk la' (hst.to2 rfl hs.1 hl hla) hs.2)
theorem pr_lstore {i : Nat} {x : Int64} {ls' : List (Option pm_v)} (q : Nat) (hd : decode cc pc = .ok (.lstore i, 2)) (hst : pm_st ls ls' i (pJ x)) (hq : pc + 2 = q) (k : PR cc own nL fr lo q ls' st mem X) : PR cc own nL fr lo pc ls (pJ x :: st) mem X := by
  subst hq
  refine PR.step1 (fun H locs la hC hl hs hH hS kk => ?_) k
  exact lv_lstore hC.1 hC.2.1 hd hl.has (by have := hl.2.2.1; have := hst.2.1; simp only [pm_cat] at this; omega) rfl (fun la' hla => kk la' (hst.to2 rfl hs.1 hl hla) hs.2)
theorem pr_iinc {i : Nat} {n : Int} {x v : Int32} {ls' : List (Option pm_v)} (q : Nat) (hd : decode cc pc = .ok (.iinc i n, 3)) (hx : ls[i]? = some (some (pI x))) (hv : x + Int32.ofInt n = v) (hst : pm_st ls ls' i (pI v)) (hq : pc + 3 = q) (k : PR cc own nL fr lo q ls' st mem X) : PR cc own nL fr lo pc ls st mem X := by
  subst hq
  refine PR.step1 (fun H locs la hC hl hs hH hS kk => ?_) k
  obtain ⟨kx, hkx⟩ := List.mem_iff_getElem?.mp (pm_al_in (ad := _) hx)
  exact lv_iinc hC.1 hC.2.1 hd hl.has hkx hv (by have := hl.2.2.1; have := hst.2.1; simp only [pm_cat] at this; omega) rfl (fun la' hla => kk la' (hst.to1 rfl trivial hl hla) hs)
theorem pm_st_0 {a0 : Option pm_v} {r : List (Option pm_v)} {v : pm_v} (hv : pm_cat v = 1) : pm_st (a0 :: r) (some v :: r) 0 v := by
  refine ⟨rfl, by rw [hv]; simp only [List.length_cons]; omega, fun k u hk => ?_⟩
  by_cases e : k = 0
  · subst e; exact Or.inl ⟨rfl, (Option.some.inj (Option.some.inj hk)).symm⟩
  · refine Or.inr ⟨e, by omega, by omega, ?_⟩
    obtain ⟨k, rfl⟩ : ∃ j, k = j + 1 := ⟨k - 1, by omega⟩
    exact hk
theorem pm_st_1 {a0 a1 : Option pm_v} {r : List (Option pm_v)} {v : pm_v} (hv : pm_cat v = 1) (hn : pm_nl a0 = true) : pm_st (a0 :: a1 :: r) (a0 :: some v :: r) 1 v := by
  refine ⟨rfl, by rw [hv]; simp only [List.length_cons]; omega, fun k u hk => ?_⟩
  by_cases e : k = 1
  · subst e; exact Or.inl ⟨rfl, (Option.some.inj (Option.some.inj hk)).symm⟩
  · have hk2 : (a0 :: a1 :: r)[k]? = some (some u) := by
      rcases Nat.lt_or_ge k 1 with z | z
      · match k, z, hk with
        | 0, _, hk => exact hk
      · obtain ⟨k, rfl⟩ : ∃ j, k = j + 2 := ⟨k - 2, by omega⟩
        exact hk
    refine Or.inr ⟨e, by rw [hv]; omega, ?_, hk2⟩
    rintro ⟨z1, z2⟩
    obtain rfl : k = 0 := by omega
    have z3 : a0 = some u := Option.some.inj hk2
    rw [z3] at hn
    exact pm_nl_cat hn z2
theorem pm_st_2 {a0 a1 a2 : Option pm_v} {r : List (Option pm_v)} {v : pm_v} (hv : pm_cat v = 1) (hn : pm_nl a1 = true) : pm_st (a0 :: a1 :: a2 :: r) (a0 :: a1 :: some v :: r) 2 v := by
  refine ⟨rfl, by rw [hv]; simp only [List.length_cons]; omega, fun k u hk => ?_⟩
  by_cases e : k = 2
  · subst e; exact Or.inl ⟨rfl, (Option.some.inj (Option.some.inj hk)).symm⟩
  · have hk2 : (a0 :: a1 :: a2 :: r)[k]? = some (some u) := by
      rcases Nat.lt_or_ge k 2 with z | z
      · match k, z, hk with
        | 0, _, hk => exact hk
        | 1, _, hk => exact hk
      · obtain ⟨k, rfl⟩ : ∃ j, k = j + 3 := ⟨k - 3, by omega⟩
        exact hk
    refine Or.inr ⟨e, by rw [hv]; omega, ?_, hk2⟩
    rintro ⟨z1, z2⟩
    obtain rfl : k = 1 := by omega
    have z3 : a1 = some u := Option.some.inj hk2
    rw [z3] at hn
    exact pm_nl_cat hn z2
theorem pm_st_3 {a0 a1 a2 a3 : Option pm_v} {r : List (Option pm_v)} {v : pm_v} (hv : pm_cat v = 1) (hn : pm_nl a2 = true) : pm_st (a0 :: a1 :: a2 :: a3 :: r) (a0 :: a1 :: a2 :: some v :: r) 3 v := by
  refine ⟨rfl, by rw [hv]; simp only [List.length_cons]; omega, fun k u hk => ?_⟩
  by_cases e : k = 3
  · subst e; exact Or.inl ⟨rfl, (Option.some.inj (Option.some.inj hk)).symm⟩
  · have hk2 : (a0 :: a1 :: a2 :: a3 :: r)[k]? = some (some u) := by
      rcases Nat.lt_or_ge k 3 with z | z
      · match k, z, hk with
        | 0, _, hk => exact hk
        | 1, _, hk => exact hk
        | 2, _, hk => exact hk
      · obtain ⟨k, rfl⟩ : ∃ j, k = j + 4 := ⟨k - 4, by omega⟩
        exact hk
    refine Or.inr ⟨e, by rw [hv]; omega, ?_, hk2⟩
    rintro ⟨z1, z2⟩
    obtain rfl : k = 2 := by omega
    have z3 : a2 = some u := Option.some.inj hk2
    rw [z3] at hn
    exact pm_nl_cat hn z2
theorem pm_st_4 {a0 a1 a2 a3 a4 : Option pm_v} {r : List (Option pm_v)} {v : pm_v} (hv : pm_cat v = 1) (hn : pm_nl a3 = true) : pm_st (a0 :: a1 :: a2 :: a3 :: a4 :: r) (a0 :: a1 :: a2 :: a3 :: some v :: r) 4 v := by
  refine ⟨rfl, by rw [hv]; simp only [List.length_cons]; omega, fun k u hk => ?_⟩
  by_cases e : k = 4
  · subst e; exact Or.inl ⟨rfl, (Option.some.inj (Option.some.inj hk)).symm⟩
  · have hk2 : (a0 :: a1 :: a2 :: a3 :: a4 :: r)[k]? = some (some u) := by
      rcases Nat.lt_or_ge k 4 with z | z
      · match k, z, hk with
        | 0, _, hk => exact hk
        | 1, _, hk => exact hk
        | 2, _, hk => exact hk
        | 3, _, hk => exact hk
      · obtain ⟨k, rfl⟩ : ∃ j, k = j + 5 := ⟨k - 5, by omega⟩
        exact hk
    refine Or.inr ⟨e, by rw [hv]; omega, ?_, hk2⟩
    rintro ⟨z1, z2⟩
    obtain rfl : k = 3 := by omega
    have z3 : a3 = some u := Option.some.inj hk2
    rw [z3] at hn
    exact pm_nl_cat hn z2
theorem pm_st_5 {a0 a1 a2 a3 a4 a5 : Option pm_v} {r : List (Option pm_v)} {v : pm_v} (hv : pm_cat v = 1) (hn : pm_nl a4 = true) : pm_st (a0 :: a1 :: a2 :: a3 :: a4 :: a5 :: r) (a0 :: a1 :: a2 :: a3 :: a4 :: some v :: r) 5 v := by
  refine ⟨rfl, by rw [hv]; simp only [List.length_cons]; omega, fun k u hk => ?_⟩
  by_cases e : k = 5
  · subst e; exact Or.inl ⟨rfl, (Option.some.inj (Option.some.inj hk)).symm⟩
  · have hk2 : (a0 :: a1 :: a2 :: a3 :: a4 :: a5 :: r)[k]? = some (some u) := by
      rcases Nat.lt_or_ge k 5 with z | z
      · match k, z, hk with
        | 0, _, hk => exact hk
        | 1, _, hk => exact hk
        | 2, _, hk => exact hk
        | 3, _, hk => exact hk
        | 4, _, hk => exact hk
      · obtain ⟨k, rfl⟩ : ∃ j, k = j + 6 := ⟨k - 6, by omega⟩
        exact hk
    refine Or.inr ⟨e, by rw [hv]; omega, ?_, hk2⟩
    rintro ⟨z1, z2⟩
    obtain rfl : k = 4 := by omega
    have z3 : a4 = some u := Option.some.inj hk2
    rw [z3] at hn
    exact pm_nl_cat hn z2
theorem pm_st_6 {a0 a1 a2 a3 a4 a5 a6 : Option pm_v} {r : List (Option pm_v)} {v : pm_v} (hv : pm_cat v = 1) (hn : pm_nl a5 = true) : pm_st (a0 :: a1 :: a2 :: a3 :: a4 :: a5 :: a6 :: r) (a0 :: a1 :: a2 :: a3 :: a4 :: a5 :: some v :: r) 6 v := by
  refine ⟨rfl, by rw [hv]; simp only [List.length_cons]; omega, fun k u hk => ?_⟩
  by_cases e : k = 6
  · subst e; exact Or.inl ⟨rfl, (Option.some.inj (Option.some.inj hk)).symm⟩
  · have hk2 : (a0 :: a1 :: a2 :: a3 :: a4 :: a5 :: a6 :: r)[k]? = some (some u) := by
      rcases Nat.lt_or_ge k 6 with z | z
      · match k, z, hk with
        | 0, _, hk => exact hk
        | 1, _, hk => exact hk
        | 2, _, hk => exact hk
        | 3, _, hk => exact hk
        | 4, _, hk => exact hk
        | 5, _, hk => exact hk
      · obtain ⟨k, rfl⟩ : ∃ j, k = j + 7 := ⟨k - 7, by omega⟩
        exact hk
    refine Or.inr ⟨e, by rw [hv]; omega, ?_, hk2⟩
    rintro ⟨z1, z2⟩
    obtain rfl : k = 5 := by omega
    have z3 : a5 = some u := Option.some.inj hk2
    rw [z3] at hn
    exact pm_nl_cat hn z2
theorem pm_st_7 {a0 a1 a2 a3 a4 a5 a6 a7 : Option pm_v} {r : List (Option pm_v)} {v : pm_v} (hv : pm_cat v = 1) (hn : pm_nl a6 = true) : pm_st (a0 :: a1 :: a2 :: a3 :: a4 :: a5 :: a6 :: a7 :: r) (a0 :: a1 :: a2 :: a3 :: a4 :: a5 :: a6 :: some v :: r) 7 v := by
  refine ⟨rfl, by rw [hv]; simp only [List.length_cons]; omega, fun k u hk => ?_⟩
  by_cases e : k = 7
  · subst e; exact Or.inl ⟨rfl, (Option.some.inj (Option.some.inj hk)).symm⟩
  · have hk2 : (a0 :: a1 :: a2 :: a3 :: a4 :: a5 :: a6 :: a7 :: r)[k]? = some (some u) := by
      rcases Nat.lt_or_ge k 7 with z | z
      · match k, z, hk with
        | 0, _, hk => exact hk
        | 1, _, hk => exact hk
        | 2, _, hk => exact hk
        | 3, _, hk => exact hk
        | 4, _, hk => exact hk
        | 5, _, hk => exact hk
        | 6, _, hk => exact hk
      · obtain ⟨k, rfl⟩ : ∃ j, k = j + 8 := ⟨k - 8, by omega⟩
        exact hk
    refine Or.inr ⟨e, by rw [hv]; omega, ?_, hk2⟩
    rintro ⟨z1, z2⟩
    obtain rfl : k = 6 := by omega
    have z3 : a6 = some u := Option.some.inj hk2
    rw [z3] at hn
    exact pm_nl_cat hn z2
theorem pm_st_8 {a0 a1 a2 a3 a4 a5 a6 a7 a8 : Option pm_v} {r : List (Option pm_v)} {v : pm_v} (hv : pm_cat v = 1) (hn : pm_nl a7 = true) : pm_st (a0 :: a1 :: a2 :: a3 :: a4 :: a5 :: a6 :: a7 :: a8 :: r) (a0 :: a1 :: a2 :: a3 :: a4 :: a5 :: a6 :: a7 :: some v :: r) 8 v := by
  refine ⟨rfl, by rw [hv]; simp only [List.length_cons]; omega, fun k u hk => ?_⟩
  by_cases e : k = 8
  · subst e; exact Or.inl ⟨rfl, (Option.some.inj (Option.some.inj hk)).symm⟩
  · have hk2 : (a0 :: a1 :: a2 :: a3 :: a4 :: a5 :: a6 :: a7 :: a8 :: r)[k]? = some (some u) := by
      rcases Nat.lt_or_ge k 8 with z | z
      · match k, z, hk with
        | 0, _, hk => exact hk
        | 1, _, hk => exact hk
        | 2, _, hk => exact hk
        | 3, _, hk => exact hk
        | 4, _, hk => exact hk
        | 5, _, hk => exact hk
        | 6, _, hk => exact hk
        | 7, _, hk => exact hk
      · obtain ⟨k, rfl⟩ : ∃ j, k = j + 9 := ⟨k - 9, by omega⟩
        exact hk
    refine Or.inr ⟨e, by rw [hv]; omega, ?_, hk2⟩
    rintro ⟨z1, z2⟩
    obtain rfl : k = 7 := by omega
    have z3 : a7 = some u := Option.some.inj hk2
    rw [z3] at hn
    exact pm_nl_cat hn z2
theorem pm_st_9 {a0 a1 a2 a3 a4 a5 a6 a7 a8 a9 : Option pm_v} {r : List (Option pm_v)} {v : pm_v} (hv : pm_cat v = 1) (hn : pm_nl a8 = true) : pm_st (a0 :: a1 :: a2 :: a3 :: a4 :: a5 :: a6 :: a7 :: a8 :: a9 :: r) (a0 :: a1 :: a2 :: a3 :: a4 :: a5 :: a6 :: a7 :: a8 :: some v :: r) 9 v := by
  refine ⟨rfl, by rw [hv]; simp only [List.length_cons]; omega, fun k u hk => ?_⟩
  by_cases e : k = 9
  · subst e; exact Or.inl ⟨rfl, (Option.some.inj (Option.some.inj hk)).symm⟩
  · have hk2 : (a0 :: a1 :: a2 :: a3 :: a4 :: a5 :: a6 :: a7 :: a8 :: a9 :: r)[k]? = some (some u) := by
      rcases Nat.lt_or_ge k 9 with z | z
      · match k, z, hk with
        | 0, _, hk => exact hk
        | 1, _, hk => exact hk
        | 2, _, hk => exact hk
        | 3, _, hk => exact hk
        | 4, _, hk => exact hk
        | 5, _, hk => exact hk
        | 6, _, hk => exact hk
        | 7, _, hk => exact hk
        | 8, _, hk => exact hk
      · obtain ⟨k, rfl⟩ : ∃ j, k = j + 10 := ⟨k - 10, by omega⟩
        exact hk
    refine Or.inr ⟨e, by rw [hv]; omega, ?_, hk2⟩
    rintro ⟨z1, z2⟩
    obtain rfl : k = 8 := by omega
    have z3 : a8 = some u := Option.some.inj hk2
    rw [z3] at hn
    exact pm_nl_cat hn z2
theorem pm_st_10 {a0 a1 a2 a3 a4 a5 a6 a7 a8 a9 a10 : Option pm_v} {r : List (Option pm_v)} {v : pm_v} (hv : pm_cat v = 1) (hn : pm_nl a9 = true) : pm_st (a0 :: a1 :: a2 :: a3 :: a4 :: a5 :: a6 :: a7 :: a8 :: a9 :: a10 :: r) (a0 :: a1 :: a2 :: a3 :: a4 :: a5 :: a6 :: a7 :: a8 :: a9 :: some v :: r) 10 v := by
  refine ⟨rfl, by rw [hv]; simp only [List.length_cons]; omega, fun k u hk => ?_⟩
  by_cases e : k = 10
  · subst e; exact Or.inl ⟨rfl, (Option.some.inj (Option.some.inj hk)).symm⟩
  · have hk2 : (a0 :: a1 :: a2 :: a3 :: a4 :: a5 :: a6 :: a7 :: a8 :: a9 :: a10 :: r)[k]? = some (some u) := by
      rcases Nat.lt_or_ge k 10 with z | z
      · match k, z, hk with
        | 0, _, hk => exact hk
        | 1, _, hk => exact hk
        | 2, _, hk => exact hk
        | 3, _, hk => exact hk
        | 4, _, hk => exact hk
        | 5, _, hk => exact hk
        | 6, _, hk => exact hk
        | 7, _, hk => exact hk
        | 8, _, hk => exact hk
        | 9, _, hk => exact hk
      · obtain ⟨k, rfl⟩ : ∃ j, k = j + 11 := ⟨k - 11, by omega⟩
        exact hk
    refine Or.inr ⟨e, by rw [hv]; omega, ?_, hk2⟩
    rintro ⟨z1, z2⟩
    obtain rfl : k = 9 := by omega
    have z3 : a9 = some u := Option.some.inj hk2
    rw [z3] at hn
    exact pm_nl_cat hn z2
theorem pm_st_11 {a0 a1 a2 a3 a4 a5 a6 a7 a8 a9 a10 a11 : Option pm_v} {r : List (Option pm_v)} {v : pm_v} (hv : pm_cat v = 1) (hn : pm_nl a10 = true) : pm_st (a0 :: a1 :: a2 :: a3 :: a4 :: a5 :: a6 :: a7 :: a8 :: a9 :: a10 :: a11 :: r) (a0 :: a1 :: a2 :: a3 :: a4 :: a5 :: a6 :: a7 :: a8 :: a9 :: a10 :: some v :: r) 11 v := by
  refine ⟨rfl, by rw [hv]; simp only [List.length_cons]; omega, fun k u hk => ?_⟩
  by_cases e : k = 11
  · subst e; exact Or.inl ⟨rfl, (Option.some.inj (Option.some.inj hk)).symm⟩
  · have hk2 : (a0 :: a1 :: a2 :: a3 :: a4 :: a5 :: a6 :: a7 :: a8 :: a9 :: a10 :: a11 :: r)[k]? = some (some u) := by
      rcases Nat.lt_or_ge k 11 with z | z
      · match k, z, hk with
        | 0, _, hk => exact hk
        | 1, _, hk => exact hk
        | 2, _, hk => exact hk
        | 3, _, hk => exact hk
        | 4, _, hk => exact hk
        | 5, _, hk => exact hk
        | 6, _, hk => exact hk
        | 7, _, hk => exact hk
        | 8, _, hk => exact hk
        | 9, _, hk => exact hk
        | 10, _, hk => exact hk
      · obtain ⟨k, rfl⟩ : ∃ j, k = j + 12 := ⟨k - 12, by omega⟩
        exact hk
    refine Or.inr ⟨e, by rw [hv]; omega, ?_, hk2⟩
    rintro ⟨z1, z2⟩
    obtain rfl : k = 10 := by omega
    have z3 : a10 = some u := Option.some.inj hk2
    rw [z3] at hn
    exact pm_nl_cat hn z2
theorem pm_st_12 {a0 a1 a2 a3 a4 a5 a6 a7 a8 a9 a10 a11 a12 : Option pm_v} {r : List (Option pm_v)} {v : pm_v} (hv : pm_cat v = 1) (hn : pm_nl a11 = true) : pm_st (a0 :: a1 :: a2 :: a3 :: a4 :: a5 :: a6 :: a7 :: a8 :: a9 :: a10 :: a11 :: a12 :: r) (a0 :: a1 :: a2 :: a3 :: a4 :: a5 :: a6 :: a7 :: a8 :: a9 :: a10 :: a11 :: some v :: r) 12 v := by
  refine ⟨rfl, by rw [hv]; simp only [List.length_cons]; omega, fun k u hk => ?_⟩
  by_cases e : k = 12
  · subst e; exact Or.inl ⟨rfl, (Option.some.inj (Option.some.inj hk)).symm⟩
  · have hk2 : (a0 :: a1 :: a2 :: a3 :: a4 :: a5 :: a6 :: a7 :: a8 :: a9 :: a10 :: a11 :: a12 :: r)[k]? = some (some u) := by
      rcases Nat.lt_or_ge k 12 with z | z
      · match k, z, hk with
        | 0, _, hk => exact hk
        | 1, _, hk => exact hk
        | 2, _, hk => exact hk
        | 3, _, hk => exact hk
        | 4, _, hk => exact hk
        | 5, _, hk => exact hk
        | 6, _, hk => exact hk
        | 7, _, hk => exact hk
        | 8, _, hk => exact hk
        | 9, _, hk => exact hk
        | 10, _, hk => exact hk
        | 11, _, hk => exact hk
      · obtain ⟨k, rfl⟩ : ∃ j, k = j + 13 := ⟨k - 13, by omega⟩
        exact hk
    refine Or.inr ⟨e, by rw [hv]; omega, ?_, hk2⟩
    rintro ⟨z1, z2⟩
    obtain rfl : k = 11 := by omega
    have z3 : a11 = some u := Option.some.inj hk2
    rw [z3] at hn
    exact pm_nl_cat hn z2
theorem pm_st2_0 {a0 a1 : Option pm_v} {r : List (Option pm_v)} {x : Int64} : pm_st (a0 :: a1 :: r) (some (pJ x) :: none :: r) 0 (pJ x) := by
  refine ⟨rfl, by show 0 + 2 ≤ _; simp only [List.length_cons]; omega, fun k u hk => ?_⟩
  by_cases e : k = 0
  · subst e; exact Or.inl ⟨rfl, (Option.some.inj (Option.some.inj hk)).symm⟩
  · by_cases e1 : k = 1
    · subst e1; cases hk
    · have hk2 : (a0 :: a1 :: r)[k]? = some (some u) := by
        rcases Nat.lt_or_ge k 0 with z | z
        · omega
        · obtain ⟨k, rfl⟩ : ∃ j, k = j + 2 := ⟨k - 2, by omega⟩
          exact hk
      refine Or.inr ⟨e, by omega, ?_, hk2⟩
      omega
theorem pm_st2_1 {a0 a1 a2 : Option pm_v} {r : List (Option pm_v)} {x : Int64} (hn : pm_nl a0 = true) : pm_st (a0 :: a1 :: a2 :: r) (a0 :: some (pJ x) :: none :: r) 1 (pJ x) := by
  refine ⟨rfl, by show 1 + 2 ≤ _; simp only [List.length_cons]; omega, fun k u hk => ?_⟩
  by_cases e : k = 1
  · subst e; exact Or.inl ⟨rfl, (Option.some.inj (Option.some.inj hk)).symm⟩
  · by_cases e1 : k = 2
    · subst e1; cases hk
    · have hk2 : (a0 :: a1 :: a2 :: r)[k]? = some (some u) := by
        rcases Nat.lt_or_ge k 1 with z | z
        · match k, z, hk with
          | 0, _, hk => exact hk
        · obtain ⟨k, rfl⟩ : ∃ j, k = j + 3 := ⟨k - 3, by omega⟩
          exact hk
      refine Or.inr ⟨e, by omega, ?_, hk2⟩
      rintro ⟨z1, z2⟩
      obtain rfl : k = 0 := by omega
      have z3 : a0 = some u := Option.some.inj hk2
      rw [z3] at hn
      exact pm_nl_cat hn z2
theorem pm_st2_2 {a0 a1 a2 a3 : Option pm_v} {r : List (Option pm_v)} {x : Int64} (hn : pm_nl a1 = true) : pm_st (a0 :: a1 :: a2 :: a3 :: r) (a0 :: a1 :: some (pJ x) :: none :: r) 2 (pJ x) := by
  refine ⟨rfl, by show 2 + 2 ≤ _; simp only [List.length_cons]; omega, fun k u hk => ?_⟩
  by_cases e : k = 2
  · subst e; exact Or.inl ⟨rfl, (Option.some.inj (Option.some.inj hk)).symm⟩
  · by_cases e1 : k = 3
    · subst e1; cases hk
    · have hk2 : (a0 :: a1 :: a2 :: a3 :: r)[k]? = some (some u) := by
        rcases Nat.lt_or_ge k 2 with z | z
        · match k, z, hk with
          | 0, _, hk => exact hk
          | 1, _, hk => exact hk
        · obtain ⟨k, rfl⟩ : ∃ j, k = j + 4 := ⟨k - 4, by omega⟩
          exact hk
      refine Or.inr ⟨e, by omega, ?_, hk2⟩
      rintro ⟨z1, z2⟩
      obtain rfl : k = 1 := by omega
      have z3 : a1 = some u := Option.some.inj hk2
      rw [z3] at hn
      exact pm_nl_cat hn z2
theorem pm_st2_3 {a0 a1 a2 a3 a4 : Option pm_v} {r : List (Option pm_v)} {x : Int64} (hn : pm_nl a2 = true) : pm_st (a0 :: a1 :: a2 :: a3 :: a4 :: r) (a0 :: a1 :: a2 :: some (pJ x) :: none :: r) 3 (pJ x) := by
  refine ⟨rfl, by show 3 + 2 ≤ _; simp only [List.length_cons]; omega, fun k u hk => ?_⟩
  by_cases e : k = 3
  · subst e; exact Or.inl ⟨rfl, (Option.some.inj (Option.some.inj hk)).symm⟩
  · by_cases e1 : k = 4
    · subst e1; cases hk
    · have hk2 : (a0 :: a1 :: a2 :: a3 :: a4 :: r)[k]? = some (some u) := by
        rcases Nat.lt_or_ge k 3 with z | z
        · match k, z, hk with
          | 0, _, hk => exact hk
          | 1, _, hk => exact hk
          | 2, _, hk => exact hk
        · obtain ⟨k, rfl⟩ : ∃ j, k = j + 5 := ⟨k - 5, by omega⟩
          exact hk
      refine Or.inr ⟨e, by omega, ?_, hk2⟩
      rintro ⟨z1, z2⟩
      obtain rfl : k = 2 := by omega
      have z3 : a2 = some u := Option.some.inj hk2
      rw [z3] at hn
      exact pm_nl_cat hn z2
theorem pm_st2_4 {a0 a1 a2 a3 a4 a5 : Option pm_v} {r : List (Option pm_v)} {x : Int64} (hn : pm_nl a3 = true) : pm_st (a0 :: a1 :: a2 :: a3 :: a4 :: a5 :: r) (a0 :: a1 :: a2 :: a3 :: some (pJ x) :: none :: r) 4 (pJ x) := by
  refine ⟨rfl, by show 4 + 2 ≤ _; simp only [List.length_cons]; omega, fun k u hk => ?_⟩
  by_cases e : k = 4
  · subst e; exact Or.inl ⟨rfl, (Option.some.inj (Option.some.inj hk)).symm⟩
  · by_cases e1 : k = 5
    · subst e1; cases hk
    · have hk2 : (a0 :: a1 :: a2 :: a3 :: a4 :: a5 :: r)[k]? = some (some u) := by
        rcases Nat.lt_or_ge k 4 with z | z
        · match k, z, hk with
          | 0, _, hk => exact hk
          | 1, _, hk => exact hk
          | 2, _, hk => exact hk
          | 3, _, hk => exact hk
        · obtain ⟨k, rfl⟩ : ∃ j, k = j + 6 := ⟨k - 6, by omega⟩
          exact hk
      refine Or.inr ⟨e, by omega, ?_, hk2⟩
      rintro ⟨z1, z2⟩
      obtain rfl : k = 3 := by omega
      have z3 : a3 = some u := Option.some.inj hk2
      rw [z3] at hn
      exact pm_nl_cat hn z2
theorem pm_st2_5 {a0 a1 a2 a3 a4 a5 a6 : Option pm_v} {r : List (Option pm_v)} {x : Int64} (hn : pm_nl a4 = true) : pm_st (a0 :: a1 :: a2 :: a3 :: a4 :: a5 :: a6 :: r) (a0 :: a1 :: a2 :: a3 :: a4 :: some (pJ x) :: none :: r) 5 (pJ x) := by
  refine ⟨rfl, by show 5 + 2 ≤ _; simp only [List.length_cons]; omega, fun k u hk => ?_⟩
  by_cases e : k = 5
  · subst e; exact Or.inl ⟨rfl, (Option.some.inj (Option.some.inj hk)).symm⟩
  · by_cases e1 : k = 6
    · subst e1; cases hk
    · have hk2 : (a0 :: a1 :: a2 :: a3 :: a4 :: a5 :: a6 :: r)[k]? = some (some u) := by
        rcases Nat.lt_or_ge k 5 with z | z
        · match k, z, hk with
          | 0, _, hk => exact hk
          | 1, _, hk => exact hk
          | 2, _, hk => exact hk
          | 3, _, hk => exact hk
          | 4, _, hk => exact hk
        · obtain ⟨k, rfl⟩ : ∃ j, k = j + 7 := ⟨k - 7, by omega⟩
          exact hk
      refine Or.inr ⟨e, by omega, ?_, hk2⟩
      rintro ⟨z1, z2⟩
      obtain rfl : k = 4 := by omega
      have z3 : a4 = some u := Option.some.inj hk2
      rw [z3] at hn
      exact pm_nl_cat hn z2
theorem pm_st2_6 {a0 a1 a2 a3 a4 a5 a6 a7 : Option pm_v} {r : List (Option pm_v)} {x : Int64} (hn : pm_nl a5 = true) : pm_st (a0 :: a1 :: a2 :: a3 :: a4 :: a5 :: a6 :: a7 :: r) (a0 :: a1 :: a2 :: a3 :: a4 :: a5 :: some (pJ x) :: none :: r) 6 (pJ x) := by
  refine ⟨rfl, by show 6 + 2 ≤ _; simp only [List.length_cons]; omega, fun k u hk => ?_⟩
  by_cases e : k = 6
  · subst e; exact Or.inl ⟨rfl, (Option.some.inj (Option.some.inj hk)).symm⟩
  · by_cases e1 : k = 7
    · subst e1; cases hk
    · have hk2 : (a0 :: a1 :: a2 :: a3 :: a4 :: a5 :: a6 :: a7 :: r)[k]? = some (some u) := by
        rcases Nat.lt_or_ge k 6 with z | z
        · match k, z, hk with
          | 0, _, hk => exact hk
          | 1, _, hk => exact hk
          | 2, _, hk => exact hk
          | 3, _, hk => exact hk
          | 4, _, hk => exact hk
          | 5, _, hk => exact hk
        · obtain ⟨k, rfl⟩ : ∃ j, k = j + 8 := ⟨k - 8, by omega⟩
          exact hk
      refine Or.inr ⟨e, by omega, ?_, hk2⟩
      rintro ⟨z1, z2⟩
      obtain rfl : k = 5 := by omega
      have z3 : a5 = some u := Option.some.inj hk2
      rw [z3] at hn
      exact pm_nl_cat hn z2
theorem pm_st2_7 {a0 a1 a2 a3 a4 a5 a6 a7 a8 : Option pm_v} {r : List (Option pm_v)} {x : Int64} (hn : pm_nl a6 = true) : pm_st (a0 :: a1 :: a2 :: a3 :: a4 :: a5 :: a6 :: a7 :: a8 :: r) (a0 :: a1 :: a2 :: a3 :: a4 :: a5 :: a6 :: some (pJ x) :: none :: r) 7 (pJ x) := by
  refine ⟨rfl, by show 7 + 2 ≤ _; simp only [List.length_cons]; omega, fun k u hk => ?_⟩
  by_cases e : k = 7
  · subst e; exact Or.inl ⟨rfl, (Option.some.inj (Option.some.inj hk)).symm⟩
  · by_cases e1 : k = 8
    · subst e1; cases hk
    · have hk2 : (a0 :: a1 :: a2 :: a3 :: a4 :: a5 :: a6 :: a7 :: a8 :: r)[k]? = some (some u) := by
        rcases Nat.lt_or_ge k 7 with z | z
        · match k, z, hk with
          | 0, _, hk => exact hk
          | 1, _, hk => exact hk
          | 2, _, hk => exact hk
          | 3, _, hk => exact hk
          | 4, _, hk => exact hk
          | 5, _, hk => exact hk
          | 6, _, hk => exact hk
        · obtain ⟨k, rfl⟩ : ∃ j, k = j + 9 := ⟨k - 9, by omega⟩
          exact hk
      refine Or.inr ⟨e, by omega, ?_, hk2⟩
      rintro ⟨z1, z2⟩
      obtain rfl : k = 6 := by omega
      have z3 : a6 = some u := Option.some.inj hk2
      rw [z3] at hn
      exact pm_nl_cat hn z2
theorem pm_st2_8 {a0 a1 a2 a3 a4 a5 a6 a7 a8 a9 : Option pm_v} {r : List (Option pm_v)} {x : Int64} (hn : pm_nl a7 = true) : pm_st (a0 :: a1 :: a2 :: a3 :: a4 :: a5 :: a6 :: a7 :: a8 :: a9 :: r) (a0 :: a1 :: a2 :: a3 :: a4 :: a5 :: a6 :: a7 :: some (pJ x) :: none :: r) 8 (pJ x) := by
  refine ⟨rfl, by show 8 + 2 ≤ _; simp only [List.length_cons]; omega, fun k u hk => ?_⟩
  by_cases e : k = 8
  · subst e; exact Or.inl ⟨rfl, (Option.some.inj (Option.some.inj hk)).symm⟩
  · by_cases e1 : k = 9
    · subst e1; cases hk
    · have hk2 : (a0 :: a1 :: a2 :: a3 :: a4 :: a5 :: a6 :: a7 :: a8 :: a9 :: r)[k]? = some (some u) := by
        rcases Nat.lt_or_ge k 8 with z | z
        · match k, z, hk with
          | 0, _, hk => exact hk
          | 1, _, hk => exact hk
          | 2, _, hk => exact hk
          | 3, _, hk => exact hk
          | 4, _, hk => exact hk
          | 5, _, hk => exact hk
          | 6, _, hk => exact hk
          | 7, _, hk => exact hk
        · obtain ⟨k, rfl⟩ : ∃ j, k = j + 10 := ⟨k - 10, by omega⟩
          exact hk
      refine Or.inr ⟨e, by omega, ?_, hk2⟩
      rintro ⟨z1, z2⟩
      obtain rfl : k = 7 := by omega
      have z3 : a7 = some u := Option.some.inj hk2
      rw [z3] at hn
      exact pm_nl_cat hn z2
theorem pm_st2_9 {a0 a1 a2 a3 a4 a5 a6 a7 a8 a9 a10 : Option pm_v} {r : List (Option pm_v)} {x : Int64} (hn : pm_nl a8 = true) : pm_st (a0 :: a1 :: a2 :: a3 :: a4 :: a5 :: a6 :: a7 :: a8 :: a9 :: a10 :: r) (a0 :: a1 :: a2 :: a3 :: a4 :: a5 :: a6 :: a7 :: a8 :: some (pJ x) :: none :: r) 9 (pJ x) := by
  refine ⟨rfl, by show 9 + 2 ≤ _; simp only [List.length_cons]; omega, fun k u hk => ?_⟩
  by_cases e : k = 9
  · subst e; exact Or.inl ⟨rfl, (Option.some.inj (Option.some.inj hk)).symm⟩
  · by_cases e1 : k = 10
    · subst e1; cases hk
    · have hk2 : (a0 :: a1 :: a2 :: a3 :: a4 :: a5 :: a6 :: a7 :: a8 :: a9 :: a10 :: r)[k]? = some (some u) := by
        rcases Nat.lt_or_ge k 9 with z | z
        · match k, z, hk with
          | 0, _, hk => exact hk
          | 1, _, hk => exact hk
          | 2, _, hk => exact hk
          | 3, _, hk => exact hk
          | 4, _, hk => exact hk
          | 5, _, hk => exact hk
          | 6, _, hk => exact hk
          | 7, _, hk => exact hk
          | 8, _, hk => exact hk
        · obtain ⟨k, rfl⟩ : ∃ j, k = j + 11 := ⟨k - 11, by omega⟩
          exact hk
      refine Or.inr ⟨e, by omega, ?_, hk2⟩
      rintro ⟨z1, z2⟩
      obtain rfl : k = 8 := by omega
      have z3 : a8 = some u := Option.some.inj hk2
      rw [z3] at hn
      exact pm_nl_cat hn z2
theorem pm_st2_10 {a0 a1 a2 a3 a4 a5 a6 a7 a8 a9 a10 a11 : Option pm_v} {r : List (Option pm_v)} {x : Int64} (hn : pm_nl a9 = true) : pm_st (a0 :: a1 :: a2 :: a3 :: a4 :: a5 :: a6 :: a7 :: a8 :: a9 :: a10 :: a11 :: r) (a0 :: a1 :: a2 :: a3 :: a4 :: a5 :: a6 :: a7 :: a8 :: a9 :: some (pJ x) :: none :: r) 10 (pJ x) := by
  refine ⟨rfl, by show 10 + 2 ≤ _; simp only [List.length_cons]; omega, fun k u hk => ?_⟩
  by_cases e : k = 10
  · subst e; exact Or.inl ⟨rfl, (Option.some.inj (Option.some.inj hk)).symm⟩
  · by_cases e1 : k = 11
    · subst e1; cases hk
    · have hk2 : (a0 :: a1 :: a2 :: a3 :: a4 :: a5 :: a6 :: a7 :: a8 :: a9 :: a10 :: a11 :: r)[k]? = some (some u) := by
        rcases Nat.lt_or_ge k 10 with z | z
        · match k, z, hk with
          | 0, _, hk => exact hk
          | 1, _, hk => exact hk
          | 2, _, hk => exact hk
          | 3, _, hk => exact hk
          | 4, _, hk => exact hk
          | 5, _, hk => exact hk
          | 6, _, hk => exact hk
          | 7, _, hk => exact hk
          | 8, _, hk => exact hk
          | 9, _, hk => exact hk
        · obtain ⟨k, rfl⟩ : ∃ j, k = j + 12 := ⟨k - 12, by omega⟩
          exact hk
      refine Or.inr ⟨e, by omega, ?_, hk2⟩
      rintro ⟨z1, z2⟩
      obtain rfl : k = 9 := by omega
      have z3 : a9 = some u := Option.some.inj hk2
      rw [z3] at hn
      exact pm_nl_cat hn z2
theorem pm_st2_11 {a0 a1 a2 a3 a4 a5 a6 a7 a8 a9 a10 a11 a12 : Option pm_v} {r : List (Option pm_v)} {x : Int64} (hn : pm_nl a10 = true) : pm_st (a0 :: a1 :: a2 :: a3 :: a4 :: a5 :: a6 :: a7 :: a8 :: a9 :: a10 :: a11 :: a12 :: r) (a0 :: a1 :: a2 :: a3 :: a4 :: a5 :: a6 :: a7 :: a8 :: a9 :: a10 :: some (pJ x) :: none :: r) 11 (pJ x) := by
  refine ⟨rfl, by show 11 + 2 ≤ _; simp only [List.length_cons]; omega, fun k u hk => ?_⟩
  by_cases e : k = 11
  · subst e; exact Or.inl ⟨rfl, (Option.some.inj (Option.some.inj hk)).symm⟩
  · by_cases e1 : k = 12
    · subst e1; cases hk
    · have hk2 : (a0 :: a1 :: a2 :: a3 :: a4 :: a5 :: a6 :: a7 :: a8 :: a9 :: a10 :: a11 :: a12 :: r)[k]? = some (some u) := by
        rcases Nat.lt_or_ge k 11 with z | z
        · match k, z, hk with
          | 0, _, hk => exact hk
          | 1, _, hk => exact hk
          | 2, _, hk => exact hk
          | 3, _, hk => exact hk
          | 4, _, hk => exact hk
          | 5, _, hk => exact hk
          | 6, _, hk => exact hk
          | 7, _, hk => exact hk
          | 8, _, hk => exact hk
          | 9, _, hk => exact hk
          | 10, _, hk => exact hk
        · obtain ⟨k, rfl⟩ : ∃ j, k = j + 13 := ⟨k - 13, by omega⟩
          exact hk
      refine Or.inr ⟨e, by omega, ?_, hk2⟩
      rintro ⟨z1, z2⟩
      obtain rfl : k = 10 := by omega
      have z3 : a10 = some u := Option.some.inj hk2
      rw [z3] at hn
      exact pm_nl_cat hn z2
end PRT
end
section
theorem pm_t1 {w : Cond} (i : Nat) (h : tables_1_1[i]? = some w) : w ∈ lw_tbl := by
  have h := List.mem_of_getElem? h
  exact List.mem_append_right _ (List.mem_append_left _ h)
theorem pm_t2 {w : Cond} (i : Nat) (h : tables_1_2[i]? = some w) : w ∈ lw_tbl := by
  have h := List.mem_of_getElem? h
  exact List.mem_append_right _ (List.mem_append_right _ (List.mem_append_left _ h))
theorem pm_t3 {w : Cond} (i : Nat) (h : tables_1_3[i]? = some w) : w ∈ lw_tbl := by
  have h := List.mem_of_getElem? h
  exact List.mem_append_right _ (List.mem_append_right _ (List.mem_append_right _ (List.mem_append_left _ h)))
theorem pm_t4 {w : Cond} (i : Nat) (h : tables_1_4[i]? = some w) : w ∈ lw_tbl := by
  have h := List.mem_of_getElem? h
  exact List.mem_append_right _ (List.mem_append_right _ (List.mem_append_right _ (List.mem_append_right _ (List.mem_append_left _ h))))
theorem pm_t5 {w : Cond} (i : Nat) (h : tables_1_5[i]? = some w) : w ∈ lw_tbl := by
  have h := List.mem_of_getElem? h
  exact List.mem_append_right _ (List.mem_append_right _ (List.mem_append_right _ (List.mem_append_right _ (List.mem_append_right _ (List.mem_append_left _ h)))))
theorem pm_t6 {w : Cond} (i : Nat) (h : tables_1_6[i]? = some w) : w ∈ lw_tbl := by
  have h := List.mem_of_getElem? h
  exact List.mem_append_right _ (List.mem_append_right _ (List.mem_append_right _ (List.mem_append_right _ (List.mem_append_right _ (List.mem_append_right _ h)))))
theorem pm_uws {C : String} {T : u_T} {N : Nat} (h : ∀ k, k < N → u_lay C T k ∈ lw_tbl) : ∀ w ∈ u_ws C T N, w ∈ lw_tbl := by
  intro w hw
  obtain ⟨k, hk, e⟩ := List.mem_map.mp hw
  rw [← e]
  exact h k (List.mem_range.mp hk)
theorem pm_uw0 : ∀ k, k < 19 → u_lay RX0 TX0 k ∈ lw_tbl := fun k hk => match k, hk with
  | 0, _ => pm_t2 128 rfl
  | 1, _ => pm_t2 130 rfl
  | 2, _ => pm_t2 132 rfl
  | 3, _ => pm_t2 134 rfl
  | 4, _ => pm_t2 136 rfl
  | 5, _ => pm_t2 138 rfl
  | 6, _ => pm_t2 140 rfl
  | 7, _ => pm_t2 142 rfl
  | 8, _ => pm_t2 144 rfl
  | 9, _ => pm_t2 146 rfl
  | 10, _ => pm_t2 148 rfl
  | 11, _ => pm_t2 150 rfl
  | 12, _ => pm_t2 152 rfl
  | 13, _ => pm_t2 154 rfl
  | 14, _ => pm_t2 156 rfl
  | 15, _ => pm_t2 158 rfl
  | 16, _ => pm_t2 160 rfl
  | 17, _ => pm_t2 162 rfl
  | 18, _ => pm_t2 164 rfl
  | k + 19, hk => absurd hk (by omega)
theorem pm_uw1 : ∀ k, k < 4 → u_lay RX1 TX1 k ∈ lw_tbl := fun k hk => match k, hk with
  | 0, _ => pm_t2 56 rfl
  | 1, _ => pm_t2 58 rfl
  | 2, _ => pm_t2 60 rfl
  | 3, _ => pm_t2 62 rfl
  | k + 4, hk => absurd hk (by omega)
theorem pm_uw2 : ∀ k, k < 16 → u_lay RX2 TX2 k ∈ lw_tbl := fun k hk => match k, hk with
  | 0, _ => pm_t2 9 rfl
  | 1, _ => pm_t2 11 rfl
  | 2, _ => pm_t2 13 rfl
  | 3, _ => pm_t2 15 rfl
  | 4, _ => pm_t2 17 rfl
  | 5, _ => pm_t2 19 rfl
  | 6, _ => pm_t2 21 rfl
  | 7, _ => pm_t2 23 rfl
  | 8, _ => pm_t2 25 rfl
  | 9, _ => pm_t2 27 rfl
  | 10, _ => pm_t2 29 rfl
  | 11, _ => pm_t2 31 rfl
  | 12, _ => pm_t2 33 rfl
  | 13, _ => pm_t2 35 rfl
  | 14, _ => pm_t2 37 rfl
  | 15, _ => pm_t2 39 rfl
  | k + 16, hk => absurd hk (by omega)
theorem pm_uw3 : ∀ k, k < 4 → u_lay RX3 TX3 k ∈ lw_tbl := fun k hk => match k, hk with
  | 0, _ => pm_t1 211 rfl
  | 1, _ => pm_t1 213 rfl
  | 2, _ => pm_t1 215 rfl
  | 3, _ => pm_t1 217 rfl
  | k + 4, hk => absurd hk (by omega)
theorem pm_uw4 : ∀ k, k < 12 → u_lay RX4 TX4 k ∈ lw_tbl := fun k hk => match k, hk with
  | 0, _ => pm_t1 94 rfl
  | 1, _ => pm_t1 96 rfl
  | 2, _ => pm_t1 98 rfl
  | 3, _ => pm_t1 100 rfl
  | 4, _ => pm_t1 102 rfl
  | 5, _ => pm_t1 104 rfl
  | 6, _ => pm_t1 106 rfl
  | 7, _ => pm_t1 108 rfl
  | 8, _ => pm_t1 110 rfl
  | 9, _ => pm_t1 112 rfl
  | 10, _ => pm_t1 114 rfl
  | 11, _ => pm_t1 116 rfl
  | k + 12, hk => absurd hk (by omega)
theorem pm_uw5 : ∀ k, k < 16 → u_lay RX5 TX5 k ∈ lw_tbl := fun k hk => match k, hk with
  | 0, _ => pm_t1 160 rfl
  | 1, _ => pm_t1 162 rfl
  | 2, _ => pm_t1 164 rfl
  | 3, _ => pm_t1 166 rfl
  | 4, _ => pm_t1 168 rfl
  | 5, _ => pm_t1 170 rfl
  | 6, _ => pm_t1 172 rfl
  | 7, _ => pm_t1 174 rfl
  | 8, _ => pm_t1 176 rfl
  | 9, _ => pm_t1 178 rfl
  | 10, _ => pm_t1 180 rfl
  | 11, _ => pm_t1 182 rfl
  | 12, _ => pm_t1 184 rfl
  | 13, _ => pm_t1 186 rfl
  | 14, _ => pm_t1 188 rfl
  | 15, _ => pm_t1 190 rfl
  | k + 16, hk => absurd hk (by omega)
theorem pm_uw6 : ∀ k, k < 6 → u_lay RX6 TX6 k ∈ lw_tbl := fun k hk => match k, hk with
  | 0, _ => pm_t1 65 rfl
  | 1, _ => pm_t1 67 rfl
  | 2, _ => pm_t1 69 rfl
  | 3, _ => pm_t1 71 rfl
  | 4, _ => pm_t1 73 rfl
  | 5, _ => pm_t1 75 rfl
  | k + 6, hk => absurd hk (by omega)
theorem pm_uw7 : ∀ k, k < 2 → u_lay RX7 TX7 k ∈ lw_tbl := fun k hk => match k, hk with
  | 0, _ => pm_t1 38 rfl
  | 1, _ => pm_t1 40 rfl
  | k + 2, hk => absurd hk (by omega)
theorem pm_uw8 : ∀ k, k < 9 → u_lay RX8 TX8 k ∈ lw_tbl := fun k hk => match k, hk with
  | 0, _ => pm_t2 176 rfl
  | 1, _ => pm_t2 178 rfl
  | 2, _ => pm_t2 180 rfl
  | 3, _ => pm_t2 182 rfl
  | 4, _ => pm_t2 184 rfl
  | 5, _ => pm_t2 186 rfl
  | 6, _ => pm_t2 188 rfl
  | 7, _ => pm_t2 190 rfl
  | 8, _ => pm_t2 192 rfl
  | k + 9, hk => absurd hk (by omega)
theorem pm_uw9 : ∀ k, k < 31 → u_lay RX9 TX9 k ∈ lw_tbl := fun k hk => match k, hk with
  | 0, _ => pm_t5 56 rfl
  | 1, _ => pm_t5 58 rfl
  | 2, _ => pm_t5 60 rfl
  | 3, _ => pm_t5 62 rfl
  | 4, _ => pm_t5 64 rfl
  | 5, _ => pm_t5 66 rfl
  | 6, _ => pm_t5 68 rfl
  | 7, _ => pm_t5 70 rfl
  | 8, _ => pm_t5 72 rfl
  | 9, _ => pm_t5 74 rfl
  | 10, _ => pm_t5 76 rfl
  | 11, _ => pm_t5 78 rfl
  | 12, _ => pm_t5 80 rfl
  | 13, _ => pm_t5 82 rfl
  | 14, _ => pm_t5 84 rfl
  | 15, _ => pm_t5 86 rfl
  | 16, _ => pm_t5 88 rfl
  | 17, _ => pm_t5 90 rfl
  | 18, _ => pm_t5 92 rfl
  | 19, _ => pm_t5 94 rfl
  | 20, _ => pm_t5 96 rfl
  | 21, _ => pm_t5 98 rfl
  | 22, _ => pm_t5 100 rfl
  | 23, _ => pm_t5 102 rfl
  | 24, _ => pm_t5 104 rfl
  | 25, _ => pm_t5 106 rfl
  | 26, _ => pm_t5 108 rfl
  | 27, _ => pm_t5 110 rfl
  | 28, _ => pm_t5 112 rfl
  | 29, _ => pm_t5 114 rfl
  | 30, _ => pm_t5 116 rfl
  | k + 31, hk => absurd hk (by omega)
/-! rules over the memory: fields, arrays -/
def pm_uI (mem : pm_M) (t i k : Nat) (x : Int32) : pm_M := (fun t' i' k' => if t' = t ∧ i' = i ∧ k' = k then x else mem.1 t' i' k', mem.2.1, mem.2.2)
def pm_uJ (mem : pm_M) (t i k : Nat) (x : Int64) : pm_M := (mem.1, fun t' i' k' => if t' = t ∧ i' = i ∧ k' = k then x else mem.2.1 t' i' k', mem.2.2)
def pm_uP (mem : pm_M) (t i k : Nat) (x : Option Nat) : pm_M := (mem.1, mem.2.1, fun t' i' k' => if t' = t ∧ i' = i ∧ k' = k then x else mem.2.2 t' i' k')
theorem pm_ce_congr {ad : pm_A} {cs : Nat → ClassId} {mem mem' : pm_M} {t i : Nat} (h1 : mem'.1 t i = mem.1 t i) (h2 : mem'.2.1 t i = mem.2.1 t i) (h3 : mem'.2.2 t i = mem.2.2 t i) : pm_ce ad cs mem' t i = pm_ce ad cs mem t i := by
  unfold pm_ce pm_fs pm_fv
  rw [h1, h2, h3]
/-- the memories agree but at one cell -/
def pm_but (mem mem' : pm_M) (t i : Nat) : Prop := ∀ t' i', ¬ (t' = t ∧ i' = i) → mem'.1 t' i' = mem.1 t' i' ∧ mem'.2.1 t' i' = mem.2.1 t' i' ∧ mem'.2.2 t' i' = mem.2.2 t' i'
theorem pm_but_I (mem : pm_M) (t i k : Nat) (x : Int32) : pm_but mem (pm_uI mem t i k x) t i := fun t' i' h => ⟨funext fun k' => if_neg (fun z => h ⟨z.1, z.2.1⟩), rfl, rfl⟩
theorem pm_but_J (mem : pm_M) (t i k : Nat) (x : Int64) : pm_but mem (pm_uJ mem t i k x) t i := fun t' i' h => ⟨rfl, funext fun k' => if_neg (fun z => h ⟨z.1, z.2.1⟩), rfl⟩
theorem pm_but_P (mem : pm_M) (t i k : Nat) (x : Option Nat) : pm_but mem (pm_uP mem t i k x) t i := fun t' i' h => ⟨rfl, rfl, funext fun k' => if_neg (fun z => h ⟨z.1, z.2.1⟩)⟩
def pm_val (mem : pm_M) : Prop := ∀ t i k j, i < pm_tn t → (pm_fk t k).1 = 3 → mem.2.2 t i k = some j → j < pm_tn (pm_fk t k).2.1
section PMH
variable {l : Launch} {S0 : State} {a0 : Array Value} {ad : pm_A} {D : va_G} {cs : Nat → ClassId} {mem mem' : pm_M} {H H1 : Heap} {t i : Nat}
theorem pm_H.upd (hG : pm_G l S0 a0 ad D cs) (hH : pm_H ad D cs mem H) (hi : i < pm_tn t) (hb : pm_but mem mem' t i) (hv : pm_val mem') (he : va_at D vwCl (ad t i, pm_ce ad cs mem' t i) H1) (ho : ∀ q : Nat, q ≠ ad t i → H1[q]? = H[q]?) : pm_H ad D cs mem' H1 := by
  refine ⟨fun t' i' hi' => ?_, hv⟩
  by_cases h : t' = t ∧ i' = i
  · obtain ⟨rfl, rfl⟩ := h
    exact he
  · obtain ⟨h1, h2, h3⟩ := hb t' i' h
    rw [pm_ce_congr h1 h2 h3]
    exact (hH.1 t' i' hi').kept (ho _ (fun z => h (hG.2.2.2.1 t' i' t i hi' hi z)))
end PMH
theorem pm_tn_mem {t i : Nat} (h : i < pm_tn t) : (t, pm_tn t) ∈ pm_tags := by
  unfold pm_tn at h ⊢
  cases hl : pm_tags.lookup t with
  | none => rw [hl] at h; exact absurd h (Nat.not_lt_zero _)
  | some n =>
    have : ∀ (L : List (Nat × Nat)) (n : Nat), L.lookup t = some n → (t, n) ∈ L := by
      intro L
      induction L with
      | nil => intro n h; cases h
      | cons a r ih =>
        intro n h
        obtain ⟨x, y⟩ := a
        rw [List.lookup_cons] at h
        by_cases e : t == x
        · rw [e] at h
          have e1 : t = x := by simpa using e
          cases h
          rw [e1]; exact List.mem_cons_self
        · have e2 : (t == x) = false := by simpa using e
          rw [e2] at h
          exact List.mem_cons_of_mem _ (ih n h)
    exact this _ _ hl
theorem pm_tab1 : ∀ q ∈ pm_tags, ∀ k, k < 31 → (pm_fk q.1 k).1 = 2 → ∀ i, i < q.2 → i + (pm_fk q.1 k).2.2 < pm_tn (pm_fk q.1 k).2.1 := by decide +kernel
theorem pm_tab2 : ∀ q ∈ pm_tags, q.1 / 10000000 = 5 → ∀ i, i < q.2 → ∀ j, j < q.1 / 1000 % 10000 → q.1 / 1000 % 10000 * i + j < pm_tn (pm_rt q.1) := by decide +kernel
theorem pm_tab3 : ∀ ci, ci < 10 → pm_fN ci ≤ 31 := by decide +kernel
/-- a class: its fields' words stand in the tables, types and names as they must -/
theorem pm_cls : ∀ (ci : Nat) (q : vw_C), vwCl[ci]? = some q → pm_fN ci = q.2.2 ∧ (∀ w ∈ u_ws q.1 q.2.1 q.2.2, w ∈ lw_tbl) ∧ ∃ ty : Nat → FieldType, (∀ k, k < q.2.2 → parseFieldDescriptor (q.2.1 k).2.2.1 = some (ty k)) ∧ ∀ a, a < q.2.2 → ∀ b, b < q.2.2 → a ≠ b → (q.2.1 a).2.1 ≠ (q.2.1 b).2.1 := by
  intro ci q h
  match ci, h with
  | 0, h => cases h; exact ⟨rfl, pm_uws pm_uw0, tyX0, tyX0_ok, nmX0⟩
  | 1, h => cases h; exact ⟨rfl, pm_uws pm_uw1, tyX1, tyX1_ok, nmX1⟩
  | 2, h => cases h; exact ⟨rfl, pm_uws pm_uw2, tyX2, tyX2_ok, nmX2⟩
  | 3, h => cases h; exact ⟨rfl, pm_uws pm_uw3, tyX3, tyX3_ok, nmX3⟩
  | 4, h => cases h; exact ⟨rfl, pm_uws pm_uw4, tyX4, tyX4_ok, nmX4⟩
  | 5, h => cases h; exact ⟨rfl, pm_uws pm_uw5, tyX5, tyX5_ok, nmX5⟩
  | 6, h => cases h; exact ⟨rfl, pm_uws pm_uw6, tyX6, tyX6_ok, nmX6⟩
  | 7, h => cases h; exact ⟨rfl, pm_uws pm_uw7, tyX7, tyX7_ok, nmX7⟩
  | 8, h => cases h; exact ⟨rfl, pm_uws pm_uw8, tyX8, tyX8_ok, nmX8⟩
  | 9, h => cases h; exact ⟨rfl, pm_uws pm_uw9, tyX9, tyX9_ok, nmX9⟩
  | ci + 10, h => simp [vwCl] at h
theorem pm_uw {q : vw_C} {w : Cond} (h : w ∈ u_ws q.1 q.2.1 q.2.2) : goodWord w = true := by
  obtain ⟨k, -, hk⟩ := List.mem_map.mp h
  rw [← hk]
  unfold u_lay
  split <;> rfl
/-- a field by an entry of a class's pool: of ints, of longs, a reference that stays, one that changes -/
def pm_FI (own : String) (idx t k : Nat) : Prop := t / 10000000 = 1 ∧ pm_fk t k = (0, 0, 0) ∧ ∃ q : vw_C, vwCl[t / 1000 % 10000]? = some q ∧ k < q.2.2 ∧ (q.2.1 k).2.2 = ("I", false) ∧ Cond.fieldLink own idx (q.2.1 k).1 (q.2.1 k).2.1 (q.2.1 k).2.2.1 ∈ lw_tbl
def pm_FJ (own : String) (idx t k : Nat) : Prop := t / 10000000 = 1 ∧ pm_fk t k = (1, 0, 0) ∧ ∃ q : vw_C, vwCl[t / 1000 % 10000]? = some q ∧ k < q.2.2 ∧ (q.2.1 k).2.2 = ("J", false) ∧ Cond.fieldLink own idx (q.2.1 k).1 (q.2.1 k).2.1 (q.2.1 k).2.2.1 ∈ lw_tbl
def pm_FR (own : String) (idx t k t2 o2 : Nat) : Prop := t / 10000000 = 1 ∧ pm_fk t k = (2, t2, o2) ∧ ∃ q : vw_C, vwCl[t / 1000 % 10000]? = some q ∧ k < q.2.2 ∧ Cond.fieldLink own idx (q.2.1 k).1 (q.2.1 k).2.1 (q.2.1 k).2.2.1 ∈ lw_tbl
def pm_FP (own : String) (idx t k t2 : Nat) : Prop := t / 10000000 = 1 ∧ pm_fk t k = (3, t2, 0) ∧ ∃ q : vw_C, vwCl[t / 1000 % 10000]? = some q ∧ k < q.2.2 ∧ ((q.2.1 k).2.2.2 = false ∧ ∃ C, parseFieldDescriptor (q.2.1 k).2.2.1 = some (.object C)) ∧ Cond.fieldLink own idx (q.2.1 k).1 (q.2.1 k).2.1 (q.2.1 k).2.2.1 ∈ lw_tbl
section PRH
variable {cc : ByteArray} {own : String} {nL fr lo pc : Nat} {ls : List (Option pm_v)} {st : List pm_v} {mem : pm_M} {X : Nat → List (Option pm_v) → List pm_v → pm_M → Prop}
theorem pm_fs_get {ad : pm_A} {t i k : Nat} (hk : k < pm_fN (t / 1000 % 10000)) : (pm_fs ad mem t i)[k]? = some (pm_mv ad (pm_fv mem t i k)) := by
  unfold pm_fs
  rw [List.getElem?_map, List.getElem?_range hk]
  rfl
theorem pm_ok_lt {t i d : Nat} (h1 : t / 10000000 = d) (h0 : ¬ d = 0) (h : pm_ok (pR t i)) : i < pm_tn t := by
  rcases h with h | h
  · exfalso
    have h : t = 99 := h
    rw [h] at h1
    exact h0 h1.symm
  · exact h
theorem pr_getf {idx t i k : Nat} {v : pm_v} {w : vw_C} (q : Nat) (hd : decode cc pc = .ok (.getfield idx, 3)) (h1 : t / 10000000 = 1) (hw : vwCl[t / 1000 % 10000]? = some w) (hk : k < w.2.2) (hlk : Cond.fieldLink own idx (w.2.1 k).1 (w.2.1 k).2.1 (w.2.1 k).2.2.1 ∈ lw_tbl)
    (hv : pm_fv mem t i k = v) (hok : i < pm_tn t → pm_val mem → pm_ok v) (hq : pc + 3 = q) (kk : PR cc own nL fr lo q ls (v :: st) mem X) : PR cc own nL fr lo pc ls (pR t i :: st) mem X := by
  subst hq
  refine PR.step1 (fun {p l e R s m args below meth c cells slots Q S0 a0 ad D cs} H locs la hC hl hs hH hS kk => ?_) kk
  obtain ⟨hx, hb, -, hown, hG, hD, -⟩ := hC
  have hi := pm_ok_lt h1 (by decide) hs.1
  obtain ⟨hN, hu, -⟩ := pm_cls _ _ hw
  have hP : va_P D vwCl [(ad t i, .inr (t / 1000 % 10000, pm_fs ad mem t i))] H := by
    intro n z hz
    have hn : n = 0 := by
      have := (List.getElem?_eq_some_iff.mp hz).1
      simpa using this
    subst hn
    cases hz
    have := hH.1 t i hi
    unfold pm_ce at this
    rw [if_pos h1] at this
    exact this
  refine va_get (D := D) (cl := vwCl) (ci := t / 1000 % 10000) (C := w.1) (T := w.2.1) (N := w.2.2) (v := pm_mv ad v) (Ts := u_ws w.1 w.2.1 w.2.2) hx hb (fun w' hw' => pm_word hG hD _ (pm_uw hw') (hu w' hw')) (fun _ h => h) hown (va_K.moved hD.1.alike hG.2.2.1) hP 0 rfl hw k hk (pm_word hG hD _ rfl hlk) (fun _ h => h) ?_ hd (kk la hl ⟨hok hi hH.2, hs.2⟩)
  rw [pm_fs_get (by rw [hN]; exact hk), hv]
theorem pr_getI {idx t i k : Nat} (q : Nat) (hd : decode cc pc = .ok (.getfield idx, 3)) (hf : pm_FI own idx t k) (hq : pc + 3 = q) (kk : PR cc own nL fr lo q ls (pI (mem.1 t i k) :: st) mem X) : PR cc own nL fr lo pc ls (pR t i :: st) mem X := by
  obtain ⟨h1, h2, w, hw, hk, -, hlk⟩ := hf
  exact pr_getf (v := pI (mem.1 t i k)) q hd h1 hw hk hlk (by simp [pm_fv, h2]) (fun _ _ => trivial) hq kk
theorem pr_getJ {idx t i k : Nat} (q : Nat) (hd : decode cc pc = .ok (.getfield idx, 3)) (hf : pm_FJ own idx t k) (hq : pc + 3 = q) (kk : PR cc own nL fr lo q ls (pJ (mem.2.1 t i k) :: st) mem X) : PR cc own nL fr lo pc ls (pR t i :: st) mem X := by
  obtain ⟨h1, h2, w, hw, hk, -, hlk⟩ := hf
  exact pr_getf (v := pJ (mem.2.1 t i k)) q hd h1 hw hk hlk (by simp [pm_fv, h2]) (fun _ _ => trivial) hq kk
theorem pr_getR {idx t i k t2 o2 : Nat} (q : Nat) (hd : decode cc pc = .ok (.getfield idx, 3)) (hf : pm_FR own idx t k t2 o2) (hq : pc + 3 = q) (kk : PR cc own nL fr lo q ls (pR t2 (i + o2) :: st) mem X) : PR cc own nL fr lo pc ls (pR t i :: st) mem X := by
  obtain ⟨h1, h2, w, hw, hk, hlk⟩ := hf
  refine pr_getf q hd h1 hw hk hlk (v := pR t2 (i + o2)) (by simp [pm_fv, h2]) (fun hi _ => Or.inr ?_) hq kk
  have hc : t / 1000 % 10000 < 10 := by
    have := (List.getElem?_eq_some_iff.mp hw).1
    simpa [vwCl] using this
  have hN := (pm_cls _ _ hw).1
  have := pm_tab1 _ (pm_tn_mem hi) k (by have := pm_tab3 _ hc; omega) (by rw [h2]) i hi
  rw [h2] at this
  exact this
theorem pr_getR0 {idx t i k t2 : Nat} (q : Nat) (hd : decode cc pc = .ok (.getfield idx, 3)) (hf : pm_FR own idx t k t2 0) (hq : pc + 3 = q) (kk : PR cc own nL fr lo q ls (pR t2 i :: st) mem X) : PR cc own nL fr lo pc ls (pR t i :: st) mem X := pr_getR q hd hf hq kk
theorem pr_getRo {idx t i k t2 o2 : Nat} (j q : Nat) (hd : decode cc pc = .ok (.getfield idx, 3)) (hf : pm_FR own idx t k t2 o2) (hj : i + o2 = j) (hq : pc + 3 = q) (kk : PR cc own nL fr lo q ls (pR t2 j :: st) mem X) : PR cc own nL fr lo pc ls (pR t i :: st) mem X := by
  subst hj
  exact pr_getR q hd hf hq kk
theorem pr_getP {idx t i k t2 : Nat} (j : Nat) (q : Nat) (hd : decode cc pc = .ok (.getfield idx, 3)) (hf : pm_FP own idx t k t2) (hj : mem.2.2 t i k = some j) (hq : pc + 3 = q) (kk : PR cc own nL fr lo q ls (pR t2 j :: st) mem X) : PR cc own nL fr lo pc ls (pR t i :: st) mem X := by
  obtain ⟨h1, h2, w, hw, hk, -, hlk⟩ := hf
  refine pr_getf q hd h1 hw hk hlk (v := pR t2 j) (by simp [pm_fv, h2, hj]) (fun hi hv => Or.inr ?_) hq kk
  have := hv t i k j hi (by rw [h2]) hj
  rw [h2] at this
  exact this
/-- a step that changes the memory at one cell -/
theorem PR.stepM {q t i : Nat} {st' : List pm_v} {mem' : pm_M} (hb : pm_but mem mem' t i)
    (h : ∀ {p : Program} {l : Launch} {e : Env} {R : Room} {s : State} {m : MethodId} {args : Array Value} {below : List Frame} {meth : Method} {c : Code} {cells slots : Nat} {Q : State → Prop} {S0 : State} {a0 : Array Value} {ad : pm_A} {D : va_G} {cs : Nat → ClassId} (H : Heap) (locs : List Loc) (la : Array Slot),
      pm_C cc own nL fr lo p l R s m c cells slots S0 a0 ad D cs → pm_oks st → pm_H ad D cs mem H →
      (∀ (H1 : Heap) (k : Nat), pm_oks st' → i < pm_tn t → pm_val mem' → va_at D vwCl (ad t i, pm_ce ad cs mem' t i) H1 → H1.size = H.size → (∀ q : Nat, q ≠ ad t i → H1[q]? = H[q]?) → W p l e R s m args below meth c H1 (locs ++ [⟨ad t i, k⟩]) cells slots Q (F0 m q la (st'.map (pm_mv ad)))) →
      W p l e R s m args below meth c H locs cells slots Q (F0 m pc la (st.map (pm_mv ad))))
    (k : PR cc own nL fr lo q ls st' mem' X) : PR cc own nL fr lo pc ls st mem X := by
  intro p l e R s m args below meth c cells slots Q S0 a0 ad D cs hC hK H locs la hl hs hH hS
  refine h H locs la hC hs hH (fun H1 k1 hs' hi hv he hz ho => ?_)
  have hG := hC.2.2.2.2.1
  exact k p l e R s m args below meth c cells slots Q S0 a0 ad D cs hC hK H1 _ la hl hs' (hH.upd hG hi hb hv he ho) (hS.put hz ho (hG.2.2.2.2.1 t i hi))
theorem pm_objP {ad : pm_A} {D : va_G} {cs : Nat → ClassId} {H : Heap} {t i : Nat} (h1 : t / 10000000 = 1) (hi : i < pm_tn t) (hH : pm_H ad D cs mem H) : va_at D vwCl (ad t i, .inr (t / 1000 % 10000, pm_fs ad mem t i)) H := by
  have := hH.1 t i hi
  unfold pm_ce at this
  rw [if_pos h1] at this
  exact this
/-- a field is written: the memory behind it has the value there, and nothing else is other -/
theorem pr_putf {idx t i k : Nat} {v : pm_v} {w : vw_C} {mem' : pm_M} {ty : FieldType} (q : Nat) (hd : decode cc pc = .ok (.putfield idx, 3)) (h1 : t / 10000000 = 1) (hw : vwCl[t / 1000 % 10000]? = some w) (hk : k < w.2.2) (hlk : Cond.fieldLink own idx (w.2.1 k).1 (w.2.1 k).2.1 (w.2.1 k).2.2.1 ∈ lw_tbl)
    (hfin : (w.2.1 k).2.2.2 = false) (hdesc : parseFieldDescriptor (w.2.1 k).2.2.1 = some ty) (hnar : ∀ ad, narrow ty (pm_mv ad v) = pm_mv ad v) (hfit : ∀ ad, fits ty (pm_mv ad v) = true)
    (hb : pm_but mem mem' t i) (hv : pm_fv mem' t i k = v) (ho : ∀ j, ¬ j = k → pm_fv mem' t i j = pm_fv mem t i j) (hval : i < pm_tn t → pm_ok v → pm_val mem → pm_val mem') (hq : pc + 3 = q) (kk : PR cc own nL fr lo q ls st mem' X) : PR cc own nL fr lo pc ls (v :: pR t i :: st) mem X := by
  subst hq
  refine PR.stepM hb (fun {p l e R s m args below meth c cells slots Q S0 a0 ad D cs} H locs la hC hs hH kk => ?_) kk
  obtain ⟨hx, hb2, -, hown, hG, hD, -⟩ := hC
  have hi := pm_ok_lt h1 (by decide) hs.2.1
  obtain ⟨hN, hu, ty0, hty, hnm⟩ := pm_cls _ _ hw
  have hts : ∀ z ∈ u_ws w.1 w.2.1 w.2.2, z.before args s = true := fun w' hw' => pm_word hG hD _ (pm_uw hw') (hu w' hw')
  have hK : va_K D vwCl [(cs 0, .int), (cs 1, .byte), (cs 2, .long), (cs 3, .array .int)] s := va_K.moved hD.1.alike hG.2.2.1
  have hap := va_apart (own := own) hts (fun _ h => h) ty0 hty hnm hK hw
  obtain ⟨r, hr1, cell, q1, q2, q3, q4⟩ := pm_objP (cs := cs) h1 hi hH
  have hr : r = w := Option.some.inj (hr1.symm.trans hw)
  subst hr
  obtain ⟨hS, hfc, kC, hkC, hkind⟩ := hK.1 _ _ hw
  obtain ⟨cf, kf, fi, f, hfi, hsl⟩ := hS k hk
  have hlay := hts _ (u_in_lay hk)
  unfold u_lay at hlay
  rw [if_neg (by rw [hfin]; decide)] at hlay
  have hst := (u_facts hfc hkC (u_lays hts (fun _ h => h) hk) hfi).1
  have h6 := u_store hfc hkC hkind hlay hfi hdesc (hnar ad) (hfit ad)
  refine W.putK hx hb2 (f := f) ⟨hown, pm_word hG hD _ rfl hlk, ⟨_, _, _, hfi⟩, hst⟩ (by rw [q2]; exact h6) q1 q3 (by rw [hsl]; exact k2_hasslot (q4 k hk)) rfl rfl hd fun H' e1 e2 e3 => ?_
  rw [hsl] at e1 ⊢
  refine kk H' _ hs.2.2 hi (hval hi hs.1 hH.2) ?_ e2 e3
  unfold pm_ce
  rw [if_pos h1]
  refine ⟨_, hw, t_OB.to (V := updV (vp_V (pm_fs ad mem t i)) k (pm_mv ad v)) ⟨_, e1, q2, q3, t_set q4 hap hk (pm_mv ad v)⟩ (fun j hj => ?_)⟩
  have hj2 : j < pm_fN (t / 1000 % 10000) := by rw [hN]; exact hj
  unfold updV vp_V
  rw [List.getD_eq_getElem?_getD, List.getD_eq_getElem?_getD, pm_fs_get (mem := mem) hj2, pm_fs_get (mem := mem') hj2]
  by_cases e : j = k
  · subst e
    rw [if_pos rfl, hv]
    rfl
  · rw [if_neg e, ho j e]
theorem pr_putI {idx t i k : Nat} {x : Int32} (q : Nat) (hd : decode cc pc = .ok (.putfield idx, 3)) (hf : pm_FI own idx t k) (hq : pc + 3 = q) (kk : PR cc own nL fr lo q ls st (pm_uI mem t i k x) X) : PR cc own nL fr lo pc ls (pI x :: pR t i :: st) mem X := by
  obtain ⟨h1, h2, w, hw, hk, hde, hlk⟩ := hf
  refine pr_putf (ty := .int) q hd h1 hw hk hlk (by rw [hde]) (by rw [hde]; decide +kernel) (fun _ => rfl) (fun _ => rfl) (pm_but_I mem t i k x) (by simp [pm_fv, h2, pm_uI]) (fun j hj => ?_) (fun _ _ h => h) hq kk
  simp [pm_fv, pm_uI, hj]
theorem pr_putJ {idx t i k : Nat} {x : Int64} (q : Nat) (hd : decode cc pc = .ok (.putfield idx, 3)) (hf : pm_FJ own idx t k) (hq : pc + 3 = q) (kk : PR cc own nL fr lo q ls st (pm_uJ mem t i k x) X) : PR cc own nL fr lo pc ls (pJ x :: pR t i :: st) mem X := by
  obtain ⟨h1, h2, w, hw, hk, hde, hlk⟩ := hf
  refine pr_putf (ty := .long) q hd h1 hw hk hlk (by rw [hde]) (by rw [hde]; decide +kernel) (fun _ => rfl) (fun _ => rfl) (pm_but_J mem t i k x) (by simp [pm_fv, h2, pm_uJ]) (fun j hj => ?_) (fun _ _ h => h) hq kk
  simp [pm_fv, pm_uJ, hj]
theorem pr_putP {idx t i k t2 j : Nat} (q : Nat) (hd : decode cc pc = .ok (.putfield idx, 3)) (hf : pm_FP own idx t k t2) (h99 : (t2 == 99) = false) (hq : pc + 3 = q) (kk : PR cc own nL fr lo q ls st (pm_uP mem t i k (some j)) X) : PR cc own nL fr lo pc ls (pR t2 j :: pR t i :: st) mem X := by
  obtain ⟨h1, h2, w, hw, hk, ⟨hde, C, hC⟩, hlk⟩ := hf
  refine pr_putf (v := pR t2 j) (ty := .object C) q hd h1 hw hk hlk hde hC (fun _ => rfl) (fun _ => rfl) (pm_but_P mem t i k (some j)) (by simp [pm_fv, h2, pm_uP]) (fun n hn => ?_) (fun hi hok hv => ?_) hq kk
  · simp [pm_fv, pm_uP, hn]
  · intro t' i' k' j' hi' hk' hj'
    unfold pm_uP at hj'
    by_cases z : t' = t ∧ i' = i ∧ k' = k
    · obtain ⟨rfl, rfl, rfl⟩ := z
      simp at hj'
      subst hj'
      rw [h2]
      rcases hok with e | e
      · have e : t2 = 99 := e
        rw [e] at h99
        cases h99
      · exact e
    · simp only [if_neg z] at hj'
      exact hv t' i' k' j' hi' hk' hj'
end PRH
end
section
theorem fX8_102 : pm_FI RX8 102 10000900 3 := ⟨rfl, rfl, (RX0, TX0, 19), rfl, Nat.le_of_ble_eq_true rfl, rfl, pm_t2 86 rfl⟩
theorem fX8_105 : pm_FI RX8 105 10000900 4 := ⟨rfl, rfl, (RX0, TX0, 19), rfl, Nat.le_of_ble_eq_true rfl, rfl, pm_t2 91 rfl⟩
theorem fX8_108 : pm_FR RX8 108 10000900 9 20004009 0 := ⟨rfl, rfl, (RX0, TX0, 19), rfl, Nat.le_of_ble_eq_true rfl, pm_t2 99 rfl⟩
theorem fX8_116 : pm_FR RX8 116 10002902 15 20016095 0 := ⟨rfl, rfl, (RX2, TX2, 16), rfl, Nat.le_of_ble_eq_true rfl, pm_t2 8 rfl⟩
theorem fX8_119 : pm_FI RX8 119 10002902 13 := ⟨rfl, rfl, (RX2, TX2, 16), rfl, Nat.le_of_ble_eq_true rfl, rfl, pm_t2 4 rfl⟩
theorem fX8_12 : pm_FR RX8 12 10008908 0 10007907 0 := ⟨rfl, rfl, (RX8, TX8, 9), rfl, Nat.le_of_ble_eq_true rfl, pm_t2 167 rfl⟩
theorem fX8_126 : pm_FI RX8 126 10005905 12 := ⟨rfl, rfl, (RX5, TX5, 16), rfl, Nat.le_of_ble_eq_true rfl, rfl, pm_t1 153 rfl⟩
theorem fX8_137 : pm_FR RX8 137 10000900 8 20004008 0 := ⟨rfl, rfl, (RX0, TX0, 19), rfl, Nat.le_of_ble_eq_true rfl, pm_t2 97 rfl⟩
theorem fX8_144 : pm_FR RX8 144 10005905 1 20016201 0 := ⟨rfl, rfl, (RX5, TX5, 16), rfl, Nat.le_of_ble_eq_true rfl, pm_t1 130 rfl⟩
theorem fX8_151 : pm_FR RX8 151 10005905 2 20016202 0 := ⟨rfl, rfl, (RX5, TX5, 16), rfl, Nat.le_of_ble_eq_true rfl, pm_t1 132 rfl⟩
theorem fX8_160 : pm_FR RX8 160 10002902 6 20016086 0 := ⟨rfl, rfl, (RX2, TX2, 16), rfl, Nat.le_of_ble_eq_true rfl, pm_t1 230 rfl⟩
theorem fX8_170 : pm_FR RX8 170 10000900 10 20016010 0 := ⟨rfl, rfl, (RX0, TX0, 19), rfl, Nat.le_of_ble_eq_true rfl, pm_t2 103 rfl⟩
theorem fX8_173 : pm_FR RX8 173 10000900 11 20016011 0 := ⟨rfl, rfl, (RX0, TX0, 19), rfl, Nat.le_of_ble_eq_true rfl, pm_t2 106 rfl⟩
theorem fX8_176 : pm_FR RX8 176 10000900 12 20016012 0 := ⟨rfl, rfl, (RX0, TX0, 19), rfl, Nat.le_of_ble_eq_true rfl, pm_t2 110 rfl⟩
theorem fX8_188 : pm_FR RX8 188 10005905 10 20016210 0 := ⟨rfl, rfl, (RX5, TX5, 16), rfl, Nat.le_of_ble_eq_true rfl, pm_t1 149 rfl⟩
theorem fX8_191 : pm_FR RX8 191 10005905 9 20016209 0 := ⟨rfl, rfl, (RX5, TX5, 16), rfl, Nat.le_of_ble_eq_true rfl, pm_t1 147 rfl⟩
theorem fX8_198 : pm_FR RX8 198 10000900 13 20016013 0 := ⟨rfl, rfl, (RX0, TX0, 19), rfl, Nat.le_of_ble_eq_true rfl, pm_t2 115 rfl⟩
theorem fX8_201 : pm_FR RX8 201 10000900 14 20016014 0 := ⟨rfl, rfl, (RX0, TX0, 19), rfl, Nat.le_of_ble_eq_true rfl, pm_t2 118 rfl⟩
theorem fX8_204 : pm_FR RX8 204 10005905 4 20016204 0 := ⟨rfl, rfl, (RX5, TX5, 16), rfl, Nat.le_of_ble_eq_true rfl, pm_t1 137 rfl⟩
theorem fX8_207 : pm_FR RX8 207 10002902 9 20016089 0 := ⟨rfl, rfl, (RX2, TX2, 16), rfl, Nat.le_of_ble_eq_true rfl, pm_t1 236 rfl⟩
theorem fX8_21 : pm_FR RX8 21 10008908 1 10004904 0 := ⟨rfl, rfl, (RX8, TX8, 9), rfl, Nat.le_of_ble_eq_true rfl, pm_t2 168 rfl⟩
theorem fX8_210 : pm_FR RX8 210 10002902 7 20016087 0 := ⟨rfl, rfl, (RX2, TX2, 16), rfl, Nat.le_of_ble_eq_true rfl, pm_t1 232 rfl⟩
theorem fX8_213 : pm_FR RX8 213 10002902 11 20016091 0 := ⟨rfl, rfl, (RX2, TX2, 16), rfl, Nat.le_of_ble_eq_true rfl, pm_t2 0 rfl⟩
theorem fX8_216 : pm_FR RX8 216 10002902 10 20016090 0 := ⟨rfl, rfl, (RX2, TX2, 16), rfl, Nat.le_of_ble_eq_true rfl, pm_t1 238 rfl⟩
theorem fX8_219 : pm_FR RX8 219 10000900 15 20016015 0 := ⟨rfl, rfl, (RX0, TX0, 19), rfl, Nat.le_of_ble_eq_true rfl, pm_t2 121 rfl⟩
theorem fX8_222 : pm_FR RX8 222 10005905 3 20016203 0 := ⟨rfl, rfl, (RX5, TX5, 16), rfl, Nat.le_of_ble_eq_true rfl, pm_t1 134 rfl⟩
theorem fX8_227 : pm_FR RX8 227 10002902 14 20016094 0 := ⟨rfl, rfl, (RX2, TX2, 16), rfl, Nat.le_of_ble_eq_true rfl, pm_t2 6 rfl⟩
theorem fX8_230 : pm_FR RX8 230 10002902 12 50016092 0 := ⟨rfl, rfl, (RX2, TX2, 16), rfl, Nat.le_of_ble_eq_true rfl, pm_t2 2 rfl⟩
theorem fX8_234 : pm_FR RX8 234 10005905 13 20288213 0 := ⟨rfl, rfl, (RX5, TX5, 16), rfl, Nat.le_of_ble_eq_true rfl, pm_t1 155 rfl⟩
theorem fX8_237 : pm_FR RX8 237 10005905 14 20288214 0 := ⟨rfl, rfl, (RX5, TX5, 16), rfl, Nat.le_of_ble_eq_true rfl, pm_t1 157 rfl⟩
theorem fX8_240 : pm_FR RX8 240 10005905 15 20288215 0 := ⟨rfl, rfl, (RX5, TX5, 16), rfl, Nat.le_of_ble_eq_true rfl, pm_t1 159 rfl⟩
theorem fX8_243 : pm_FR RX8 243 10005905 7 50012207 0 := ⟨rfl, rfl, (RX5, TX5, 16), rfl, Nat.le_of_ble_eq_true rfl, pm_t1 143 rfl⟩
theorem fX8_246 : pm_FR RX8 246 10005905 8 50016208 0 := ⟨rfl, rfl, (RX5, TX5, 16), rfl, Nat.le_of_ble_eq_true rfl, pm_t1 145 rfl⟩
theorem fX8_266 : pm_FR RX8 266 10002902 4 20016084 0 := ⟨rfl, rfl, (RX2, TX2, 16), rfl, Nat.le_of_ble_eq_true rfl, pm_t1 227 rfl⟩
theorem fX8_271 : pm_FR RX8 271 10001901 0 20012040 0 := ⟨rfl, rfl, (RX1, TX1, 4), rfl, Nat.le_of_ble_eq_true rfl, pm_t2 49 rfl⟩
theorem fX8_278 : pm_FR RX8 278 10001901 1 20012041 0 := ⟨rfl, rfl, (RX1, TX1, 4), rfl, Nat.le_of_ble_eq_true rfl, pm_t2 51 rfl⟩
theorem fX8_28 : pm_FR RX8 28 10008908 2 10005905 0 := ⟨rfl, rfl, (RX8, TX8, 9), rfl, Nat.le_of_ble_eq_true rfl, pm_t2 169 rfl⟩
theorem fX8_281 : pm_FR RX8 281 10001901 2 20012042 0 := ⟨rfl, rfl, (RX1, TX1, 4), rfl, Nat.le_of_ble_eq_true rfl, pm_t2 53 rfl⟩
theorem fX8_288 : pm_FR RX8 288 10002902 8 50016088 0 := ⟨rfl, rfl, (RX2, TX2, 16), rfl, Nat.le_of_ble_eq_true rfl, pm_t1 234 rfl⟩
theorem fX8_291 : pm_FR RX8 291 10005905 11 20016211 0 := ⟨rfl, rfl, (RX5, TX5, 16), rfl, Nat.le_of_ble_eq_true rfl, pm_t1 151 rfl⟩
theorem fX8_35 : pm_FR RX8 35 10008908 3 10002902 0 := ⟨rfl, rfl, (RX8, TX8, 9), rfl, Nat.le_of_ble_eq_true rfl, pm_t2 170 rfl⟩
theorem fX8_39 : pm_FR RX8 39 10008908 4 10002902 1 := ⟨rfl, rfl, (RX8, TX8, 9), rfl, Nat.le_of_ble_eq_true rfl, pm_t2 171 rfl⟩
theorem fX8_45 : pm_FR RX8 45 10008908 5 10001901 0 := ⟨rfl, rfl, (RX8, TX8, 9), rfl, Nat.le_of_ble_eq_true rfl, pm_t2 172 rfl⟩
theorem fX8_52 : pm_FP RX8 52 10008908 6 10000900 := ⟨rfl, rfl, (RX8, TX8, 9), rfl, Nat.le_of_ble_eq_true rfl, ⟨rfl, _, tyX8_ok 6 (Nat.le_of_ble_eq_true rfl)⟩, pm_t2 173 rfl⟩
theorem fX8_56 : pm_FP RX8 56 10008908 7 10000900 := ⟨rfl, rfl, (RX8, TX8, 9), rfl, Nat.le_of_ble_eq_true rfl, ⟨rfl, _, tyX8_ok 7 (Nat.le_of_ble_eq_true rfl)⟩, pm_t2 174 rfl⟩
theorem fX8_59 : pm_FI RX8 59 10008908 8 := ⟨rfl, rfl, (RX8, TX8, 9), rfl, Nat.le_of_ble_eq_true rfl, rfl, pm_t2 175 rfl⟩
theorem fX8_63 : pm_FI RX8 63 10007907 1 := ⟨rfl, rfl, (RX7, TX7, 2), rfl, Nat.le_of_ble_eq_true rfl, rfl, pm_t1 35 rfl⟩
theorem fX8_74 : pm_FI RX8 74 10004904 3 := ⟨rfl, rfl, (RX4, TX4, 12), rfl, Nat.le_of_ble_eq_true rfl, rfl, pm_t1 84 rfl⟩
theorem fX8_77 : pm_FI RX8 77 10004904 4 := ⟨rfl, rfl, (RX4, TX4, 12), rfl, Nat.le_of_ble_eq_true rfl, rfl, pm_t1 86 rfl⟩
theorem fX8_80 : pm_FI RX8 80 10001901 3 := ⟨rfl, rfl, (RX1, TX1, 4), rfl, Nat.le_of_ble_eq_true rfl, rfl, pm_t2 55 rfl⟩
theorem fX8_90 : pm_FI RX8 90 10004904 2 := ⟨rfl, rfl, (RX4, TX4, 12), rfl, Nat.le_of_ble_eq_true rfl, rfl, pm_t1 82 rfl⟩
theorem fX8_93 : pm_FI RX8 93 10000900 0 := ⟨rfl, rfl, (RX0, TX0, 19), rfl, Nat.le_of_ble_eq_true rfl, rfl, pm_t2 72 rfl⟩
theorem fX8_96 : pm_FI RX8 96 10000900 1 := ⟨rfl, rfl, (RX0, TX0, 19), rfl, Nat.le_of_ble_eq_true rfl, rfl, pm_t2 76 rfl⟩
theorem fX8_99 : pm_FI RX8 99 10000900 2 := ⟨rfl, rfl, (RX0, TX0, 19), rfl, Nat.le_of_ble_eq_true rfl, rfl, pm_t2 81 rfl⟩
theorem fX0_15 : pm_FR RX0 15 10000900 7 20012007 0 := ⟨rfl, rfl, (RX0, TX0, 19), rfl, Nat.le_of_ble_eq_true rfl, pm_t2 94 rfl⟩
theorem fX0_18 : pm_FR RX0 18 10000900 8 20004008 0 := ⟨rfl, rfl, (RX0, TX0, 19), rfl, Nat.le_of_ble_eq_true rfl, pm_t2 95 rfl⟩
theorem fX0_21 : pm_FR RX0 21 10000900 9 20004009 0 := ⟨rfl, rfl, (RX0, TX0, 19), rfl, Nat.le_of_ble_eq_true rfl, pm_t2 98 rfl⟩
theorem fX0_24 : pm_FR RX0 24 10000900 10 20016010 0 := ⟨rfl, rfl, (RX0, TX0, 19), rfl, Nat.le_of_ble_eq_true rfl, pm_t2 101 rfl⟩
theorem fX0_27 : pm_FR RX0 27 10000900 11 20016011 0 := ⟨rfl, rfl, (RX0, TX0, 19), rfl, Nat.le_of_ble_eq_true rfl, pm_t2 104 rfl⟩
theorem fX0_30 : pm_FR RX0 30 10000900 12 20016012 0 := ⟨rfl, rfl, (RX0, TX0, 19), rfl, Nat.le_of_ble_eq_true rfl, pm_t2 108 rfl⟩
theorem fX0_33 : pm_FR RX0 33 10000900 13 20016013 0 := ⟨rfl, rfl, (RX0, TX0, 19), rfl, Nat.le_of_ble_eq_true rfl, pm_t2 112 rfl⟩
theorem fX0_36 : pm_FR RX0 36 10000900 14 20016014 0 := ⟨rfl, rfl, (RX0, TX0, 19), rfl, Nat.le_of_ble_eq_true rfl, pm_t2 116 rfl⟩
theorem fX0_39 : pm_FR RX0 39 10000900 15 20016015 0 := ⟨rfl, rfl, (RX0, TX0, 19), rfl, Nat.le_of_ble_eq_true rfl, pm_t2 119 rfl⟩
theorem fX0_42 : pm_FR RX0 42 10000900 16 20016016 0 := ⟨rfl, rfl, (RX0, TX0, 19), rfl, Nat.le_of_ble_eq_true rfl, pm_t2 122 rfl⟩
theorem fX0_45 : pm_FR RX0 45 10000900 17 20200017 0 := ⟨rfl, rfl, (RX0, TX0, 19), rfl, Nat.le_of_ble_eq_true rfl, pm_t2 124 rfl⟩
theorem fX0_48 : pm_FR RX0 48 10000900 18 20200018 0 := ⟨rfl, rfl, (RX0, TX0, 19), rfl, Nat.le_of_ble_eq_true rfl, pm_t2 126 rfl⟩
theorem fX0_51 : pm_FI RX0 51 10000900 0 := ⟨rfl, rfl, (RX0, TX0, 19), rfl, Nat.le_of_ble_eq_true rfl, rfl, pm_t2 71 rfl⟩
theorem fX0_55 : pm_FI RX0 55 10000900 1 := ⟨rfl, rfl, (RX0, TX0, 19), rfl, Nat.le_of_ble_eq_true rfl, rfl, pm_t2 74 rfl⟩
theorem fX0_58 : pm_FI RX0 58 10000900 2 := ⟨rfl, rfl, (RX0, TX0, 19), rfl, Nat.le_of_ble_eq_true rfl, rfl, pm_t2 77 rfl⟩
theorem fX0_61 : pm_FI RX0 61 10000900 3 := ⟨rfl, rfl, (RX0, TX0, 19), rfl, Nat.le_of_ble_eq_true rfl, rfl, pm_t2 83 rfl⟩
theorem fX0_64 : pm_FI RX0 64 10000900 4 := ⟨rfl, rfl, (RX0, TX0, 19), rfl, Nat.le_of_ble_eq_true rfl, rfl, pm_t2 88 rfl⟩
theorem fX0_67 : pm_FI RX0 67 10000900 5 := ⟨rfl, rfl, (RX0, TX0, 19), rfl, Nat.le_of_ble_eq_true rfl, rfl, pm_t2 92 rfl⟩
theorem fX0_9 : pm_FR RX0 9 10000900 6 20012006 0 := ⟨rfl, rfl, (RX0, TX0, 19), rfl, Nat.le_of_ble_eq_true rfl, pm_t2 93 rfl⟩
theorem fX1_15 : pm_FR RX1 15 10001901 1 20012041 0 := ⟨rfl, rfl, (RX1, TX1, 4), rfl, Nat.le_of_ble_eq_true rfl, pm_t2 50 rfl⟩
theorem fX1_18 : pm_FR RX1 18 10001901 2 20012042 0 := ⟨rfl, rfl, (RX1, TX1, 4), rfl, Nat.le_of_ble_eq_true rfl, pm_t2 52 rfl⟩
theorem fX1_21 : pm_FI RX1 21 10001901 3 := ⟨rfl, rfl, (RX1, TX1, 4), rfl, Nat.le_of_ble_eq_true rfl, rfl, pm_t2 54 rfl⟩
theorem fX1_9 : pm_FR RX1 9 10001901 0 20012040 0 := ⟨rfl, rfl, (RX1, TX1, 4), rfl, Nat.le_of_ble_eq_true rfl, pm_t2 48 rfl⟩
theorem fX2_102 : pm_FR RX2 102 10000900 8 20004008 0 := ⟨rfl, rfl, (RX0, TX0, 19), rfl, Nat.le_of_ble_eq_true rfl, pm_t2 96 rfl⟩
theorem fX2_105 : pm_FR RX2 105 10000900 13 20016013 0 := ⟨rfl, rfl, (RX0, TX0, 19), rfl, Nat.le_of_ble_eq_true rfl, pm_t2 114 rfl⟩
theorem fX2_108 : pm_FR RX2 108 10005905 1 20016201 0 := ⟨rfl, rfl, (RX5, TX5, 16), rfl, Nat.le_of_ble_eq_true rfl, pm_t1 129 rfl⟩
theorem fX2_113 : pm_FR RX2 113 10005905 4 20016204 0 := ⟨rfl, rfl, (RX5, TX5, 16), rfl, Nat.le_of_ble_eq_true rfl, pm_t1 136 rfl⟩
theorem fX2_116 : pm_FR RX2 116 10005905 5 50016205 0 := ⟨rfl, rfl, (RX5, TX5, 16), rfl, Nat.le_of_ble_eq_true rfl, pm_t1 139 rfl⟩
theorem fX2_119 : pm_FR RX2 119 10005905 6 50016206 0 := ⟨rfl, rfl, (RX5, TX5, 16), rfl, Nat.le_of_ble_eq_true rfl, pm_t1 141 rfl⟩
theorem fX2_12 : pm_FR RX2 12 10002902 0 10003903 0 := ⟨rfl, rfl, (RX2, TX2, 16), rfl, Nat.le_of_ble_eq_true rfl, pm_t1 222 rfl⟩
theorem fX2_126 : pm_FR RX2 126 10000900 9 20004009 0 := ⟨rfl, rfl, (RX0, TX0, 19), rfl, Nat.le_of_ble_eq_true rfl, pm_t2 100 rfl⟩
theorem fX2_145 : pm_FI RX2 145 10003903 3 := ⟨rfl, rfl, (RX3, TX3, 4), rfl, Nat.le_of_ble_eq_true rfl, rfl, pm_t1 210 rfl⟩
theorem fX2_151 : pm_FR RX2 151 10003903 0 20016120 0 := ⟨rfl, rfl, (RX3, TX3, 4), rfl, Nat.le_of_ble_eq_true rfl, pm_t1 206 rfl⟩
theorem fX2_161 : pm_FR RX2 161 10000900 11 20016011 0 := ⟨rfl, rfl, (RX0, TX0, 19), rfl, Nat.le_of_ble_eq_true rfl, pm_t2 107 rfl⟩
theorem fX2_164 : pm_FR RX2 164 10000900 12 20016012 0 := ⟨rfl, rfl, (RX0, TX0, 19), rfl, Nat.le_of_ble_eq_true rfl, pm_t2 111 rfl⟩
theorem fX2_18 : pm_FR RX2 18 10002902 4 20016084 0 := ⟨rfl, rfl, (RX2, TX2, 16), rfl, Nat.le_of_ble_eq_true rfl, pm_t1 226 rfl⟩
theorem fX2_22 : pm_FR RX2 22 10002902 5 20016085 0 := ⟨rfl, rfl, (RX2, TX2, 16), rfl, Nat.le_of_ble_eq_true rfl, pm_t1 228 rfl⟩
theorem fX2_25 : pm_FR RX2 25 10002902 6 20016086 0 := ⟨rfl, rfl, (RX2, TX2, 16), rfl, Nat.le_of_ble_eq_true rfl, pm_t1 229 rfl⟩
theorem fX2_28 : pm_FR RX2 28 10002902 7 20016087 0 := ⟨rfl, rfl, (RX2, TX2, 16), rfl, Nat.le_of_ble_eq_true rfl, pm_t1 231 rfl⟩
theorem fX2_33 : pm_FR RX2 33 10002902 8 50016088 0 := ⟨rfl, rfl, (RX2, TX2, 16), rfl, Nat.le_of_ble_eq_true rfl, pm_t1 233 rfl⟩
theorem fX2_36 : pm_FR RX2 36 10002902 9 20016089 0 := ⟨rfl, rfl, (RX2, TX2, 16), rfl, Nat.le_of_ble_eq_true rfl, pm_t1 235 rfl⟩
theorem fX2_39 : pm_FR RX2 39 10002902 10 20016090 0 := ⟨rfl, rfl, (RX2, TX2, 16), rfl, Nat.le_of_ble_eq_true rfl, pm_t1 237 rfl⟩
theorem fX2_42 : pm_FR RX2 42 10002902 11 20016091 0 := ⟨rfl, rfl, (RX2, TX2, 16), rfl, Nat.le_of_ble_eq_true rfl, pm_t1 239 rfl⟩
theorem fX2_45 : pm_FR RX2 45 10002902 12 50016092 0 := ⟨rfl, rfl, (RX2, TX2, 16), rfl, Nat.le_of_ble_eq_true rfl, pm_t2 1 rfl⟩
theorem fX2_48 : pm_FR RX2 48 10002902 14 20016094 0 := ⟨rfl, rfl, (RX2, TX2, 16), rfl, Nat.le_of_ble_eq_true rfl, pm_t2 5 rfl⟩
theorem fX2_51 : pm_FR RX2 51 10002902 15 20016095 0 := ⟨rfl, rfl, (RX2, TX2, 16), rfl, Nat.le_of_ble_eq_true rfl, pm_t2 7 rfl⟩
theorem fX2_54 : pm_FI RX2 54 10000900 3 := ⟨rfl, rfl, (RX0, TX0, 19), rfl, Nat.le_of_ble_eq_true rfl, rfl, pm_t2 82 rfl⟩
theorem fX2_60 : pm_FI RX2 60 10002902 3 := ⟨rfl, rfl, (RX2, TX2, 16), rfl, Nat.le_of_ble_eq_true rfl, rfl, pm_t1 225 rfl⟩
theorem fX2_61 : pm_FR RX2 61 10000900 10 20016010 0 := ⟨rfl, rfl, (RX0, TX0, 19), rfl, Nat.le_of_ble_eq_true rfl, pm_t2 102 rfl⟩
theorem fX2_62 : pm_FP RX2 62 10002902 1 10000900 := ⟨rfl, rfl, (RX2, TX2, 16), rfl, Nat.le_of_ble_eq_true rfl, ⟨rfl, _, tyX2_ok 1 (Nat.le_of_ble_eq_true rfl)⟩, pm_t1 223 rfl⟩
theorem fX2_66 : pm_FP RX2 66 10002902 2 10005905 := ⟨rfl, rfl, (RX2, TX2, 16), rfl, Nat.le_of_ble_eq_true rfl, ⟨rfl, _, tyX2_ok 2 (Nat.le_of_ble_eq_true rfl)⟩, pm_t1 224 rfl⟩
theorem fX2_70 : pm_FI RX2 70 10002902 13 := ⟨rfl, rfl, (RX2, TX2, 16), rfl, Nat.le_of_ble_eq_true rfl, rfl, pm_t2 3 rfl⟩
theorem fX2_73 : pm_FI RX2 73 10000900 4 := ⟨rfl, rfl, (RX0, TX0, 19), rfl, Nat.le_of_ble_eq_true rfl, rfl, pm_t2 89 rfl⟩
theorem fX2_84 : pm_FI RX2 84 10000900 2 := ⟨rfl, rfl, (RX0, TX0, 19), rfl, Nat.le_of_ble_eq_true rfl, rfl, pm_t2 79 rfl⟩
theorem fX2_99 : pm_FR RX2 99 10000900 14 20016014 0 := ⟨rfl, rfl, (RX0, TX0, 19), rfl, Nat.le_of_ble_eq_true rfl, pm_t2 117 rfl⟩
theorem fX3_15 : pm_FR RX3 15 10003903 1 20016121 0 := ⟨rfl, rfl, (RX3, TX3, 4), rfl, Nat.le_of_ble_eq_true rfl, pm_t1 207 rfl⟩
theorem fX3_18 : pm_FR RX3 18 10003903 2 40016122 0 := ⟨rfl, rfl, (RX3, TX3, 4), rfl, Nat.le_of_ble_eq_true rfl, pm_t1 208 rfl⟩
theorem fX3_22 : pm_FI RX3 22 10003903 3 := ⟨rfl, rfl, (RX3, TX3, 4), rfl, Nat.le_of_ble_eq_true rfl, rfl, pm_t1 209 rfl⟩
theorem fX3_9 : pm_FR RX3 9 10003903 0 20016120 0 := ⟨rfl, rfl, (RX3, TX3, 4), rfl, Nat.le_of_ble_eq_true rfl, pm_t1 205 rfl⟩
theorem fX4_100 : pm_FI RX4 100 10000900 4 := ⟨rfl, rfl, (RX0, TX0, 19), rfl, Nat.le_of_ble_eq_true rfl, rfl, pm_t2 90 rfl⟩
theorem fX4_103 : pm_FI RX4 103 10004904 9 := ⟨rfl, rfl, (RX4, TX4, 12), rfl, Nat.le_of_ble_eq_true rfl, rfl, pm_t1 91 rfl⟩
theorem fX4_106 : pm_FI RX4 106 10004904 10 := ⟨rfl, rfl, (RX4, TX4, 12), rfl, Nat.le_of_ble_eq_true rfl, rfl, pm_t1 92 rfl⟩
theorem fX4_109 : pm_FI RX4 109 10004904 11 := ⟨rfl, rfl, (RX4, TX4, 12), rfl, Nat.le_of_ble_eq_true rfl, rfl, pm_t1 93 rfl⟩
theorem fX4_132 : pm_FI RX4 132 10006906 3 := ⟨rfl, rfl, (RX6, TX6, 6), rfl, Nat.le_of_ble_eq_true rfl, rfl, pm_t1 62 rfl⟩
theorem fX4_145 : pm_FI RX4 145 10000900 0 := ⟨rfl, rfl, (RX0, TX0, 19), rfl, Nat.le_of_ble_eq_true rfl, rfl, pm_t2 73 rfl⟩
theorem fX4_20 : pm_FR RX4 20 10004904 0 10006906 0 := ⟨rfl, rfl, (RX4, TX4, 12), rfl, Nat.le_of_ble_eq_true rfl, pm_t1 79 rfl⟩
theorem fX4_24 : pm_FP RX4 24 10004904 1 10000900 := ⟨rfl, rfl, (RX4, TX4, 12), rfl, Nat.le_of_ble_eq_true rfl, ⟨rfl, _, tyX4_ok 1 (Nat.le_of_ble_eq_true rfl)⟩, pm_t1 80 rfl⟩
theorem fX4_33 : pm_FI RX4 33 10004904 2 := ⟨rfl, rfl, (RX4, TX4, 12), rfl, Nat.le_of_ble_eq_true rfl, rfl, pm_t1 81 rfl⟩
theorem fX4_37 : pm_FI RX4 37 10004904 3 := ⟨rfl, rfl, (RX4, TX4, 12), rfl, Nat.le_of_ble_eq_true rfl, rfl, pm_t1 83 rfl⟩
theorem fX4_40 : pm_FI RX4 40 10004904 4 := ⟨rfl, rfl, (RX4, TX4, 12), rfl, Nat.le_of_ble_eq_true rfl, rfl, pm_t1 85 rfl⟩
theorem fX4_43 : pm_FI RX4 43 10004904 5 := ⟨rfl, rfl, (RX4, TX4, 12), rfl, Nat.le_of_ble_eq_true rfl, rfl, pm_t1 87 rfl⟩
theorem fX4_52 : pm_FI RX4 52 10006906 1 := ⟨rfl, rfl, (RX6, TX6, 6), rfl, Nat.le_of_ble_eq_true rfl, rfl, pm_t1 57 rfl⟩
theorem fX4_66 : pm_FI RX4 66 10006906 2 := ⟨rfl, rfl, (RX6, TX6, 6), rfl, Nat.le_of_ble_eq_true rfl, rfl, pm_t1 59 rfl⟩
theorem fX4_72 : pm_FI RX4 72 10004904 7 := ⟨rfl, rfl, (RX4, TX4, 12), rfl, Nat.le_of_ble_eq_true rfl, rfl, pm_t1 89 rfl⟩
theorem fX4_75 : pm_FI RX4 75 10004904 8 := ⟨rfl, rfl, (RX4, TX4, 12), rfl, Nat.le_of_ble_eq_true rfl, rfl, pm_t1 90 rfl⟩
theorem fX4_9 : pm_FR RX4 9 10004904 6 20003166 0 := ⟨rfl, rfl, (RX4, TX4, 12), rfl, Nat.le_of_ble_eq_true rfl, pm_t1 88 rfl⟩
theorem fX4_91 : pm_FI RX4 91 10000900 1 := ⟨rfl, rfl, (RX0, TX0, 19), rfl, Nat.le_of_ble_eq_true rfl, rfl, pm_t2 75 rfl⟩
theorem fX4_94 : pm_FI RX4 94 10000900 2 := ⟨rfl, rfl, (RX0, TX0, 19), rfl, Nat.le_of_ble_eq_true rfl, rfl, pm_t2 80 rfl⟩
theorem fX4_97 : pm_FI RX4 97 10000900 3 := ⟨rfl, rfl, (RX0, TX0, 19), rfl, Nat.le_of_ble_eq_true rfl, rfl, pm_t2 85 rfl⟩
theorem fX5_101 : pm_FR RX5 101 10000900 17 20200017 0 := ⟨rfl, rfl, (RX0, TX0, 19), rfl, Nat.le_of_ble_eq_true rfl, pm_t2 125 rfl⟩
theorem fX5_112 : pm_FR RX5 112 10000900 13 20016013 0 := ⟨rfl, rfl, (RX0, TX0, 19), rfl, Nat.le_of_ble_eq_true rfl, pm_t2 113 rfl⟩
theorem fX5_119 : pm_FR RX5 119 10000900 11 20016011 0 := ⟨rfl, rfl, (RX0, TX0, 19), rfl, Nat.le_of_ble_eq_true rfl, pm_t2 105 rfl⟩
theorem fX5_125 : pm_FR RX5 125 10000900 12 20016012 0 := ⟨rfl, rfl, (RX0, TX0, 19), rfl, Nat.le_of_ble_eq_true rfl, pm_t2 109 rfl⟩
theorem fX5_15 : pm_FR RX5 15 10005905 2 20016202 0 := ⟨rfl, rfl, (RX5, TX5, 16), rfl, Nat.le_of_ble_eq_true rfl, pm_t1 131 rfl⟩
theorem fX5_18 : pm_FR RX5 18 10005905 3 20016203 0 := ⟨rfl, rfl, (RX5, TX5, 16), rfl, Nat.le_of_ble_eq_true rfl, pm_t1 133 rfl⟩
theorem fX5_21 : pm_FR RX5 21 10005905 4 20016204 0 := ⟨rfl, rfl, (RX5, TX5, 16), rfl, Nat.le_of_ble_eq_true rfl, pm_t1 135 rfl⟩
theorem fX5_26 : pm_FR RX5 26 10005905 5 50016205 0 := ⟨rfl, rfl, (RX5, TX5, 16), rfl, Nat.le_of_ble_eq_true rfl, pm_t1 138 rfl⟩
theorem fX5_29 : pm_FR RX5 29 10005905 6 50016206 0 := ⟨rfl, rfl, (RX5, TX5, 16), rfl, Nat.le_of_ble_eq_true rfl, pm_t1 140 rfl⟩
theorem fX5_32 : pm_FR RX5 32 10005905 7 50012207 0 := ⟨rfl, rfl, (RX5, TX5, 16), rfl, Nat.le_of_ble_eq_true rfl, pm_t1 142 rfl⟩
theorem fX5_35 : pm_FR RX5 35 10005905 8 50016208 0 := ⟨rfl, rfl, (RX5, TX5, 16), rfl, Nat.le_of_ble_eq_true rfl, pm_t1 144 rfl⟩
theorem fX5_38 : pm_FR RX5 38 10005905 9 20016209 0 := ⟨rfl, rfl, (RX5, TX5, 16), rfl, Nat.le_of_ble_eq_true rfl, pm_t1 146 rfl⟩
theorem fX5_41 : pm_FR RX5 41 10005905 10 20016210 0 := ⟨rfl, rfl, (RX5, TX5, 16), rfl, Nat.le_of_ble_eq_true rfl, pm_t1 148 rfl⟩
theorem fX5_44 : pm_FR RX5 44 10005905 11 20016211 0 := ⟨rfl, rfl, (RX5, TX5, 16), rfl, Nat.le_of_ble_eq_true rfl, pm_t1 150 rfl⟩
theorem fX5_47 : pm_FR RX5 47 10005905 13 20288213 0 := ⟨rfl, rfl, (RX5, TX5, 16), rfl, Nat.le_of_ble_eq_true rfl, pm_t1 154 rfl⟩
theorem fX5_50 : pm_FR RX5 50 10005905 14 20288214 0 := ⟨rfl, rfl, (RX5, TX5, 16), rfl, Nat.le_of_ble_eq_true rfl, pm_t1 156 rfl⟩
theorem fX5_53 : pm_FR RX5 53 10005905 15 20288215 0 := ⟨rfl, rfl, (RX5, TX5, 16), rfl, Nat.le_of_ble_eq_true rfl, pm_t1 158 rfl⟩
theorem fX5_56 : pm_FP RX5 56 10005905 0 10000900 := ⟨rfl, rfl, (RX5, TX5, 16), rfl, Nat.le_of_ble_eq_true rfl, ⟨rfl, _, tyX5_ok 0 (Nat.le_of_ble_eq_true rfl)⟩, pm_t1 127 rfl⟩
theorem fX5_63 : pm_FI RX5 63 10000900 4 := ⟨rfl, rfl, (RX0, TX0, 19), rfl, Nat.le_of_ble_eq_true rfl, rfl, pm_t2 87 rfl⟩
theorem fX5_73 : pm_FI RX5 73 10000900 2 := ⟨rfl, rfl, (RX0, TX0, 19), rfl, Nat.le_of_ble_eq_true rfl, rfl, pm_t2 78 rfl⟩
theorem fX5_79 : pm_FI RX5 79 10000900 3 := ⟨rfl, rfl, (RX0, TX0, 19), rfl, Nat.le_of_ble_eq_true rfl, rfl, pm_t2 84 rfl⟩
theorem fX5_85 : pm_FI RX5 85 10005905 12 := ⟨rfl, rfl, (RX5, TX5, 16), rfl, Nat.le_of_ble_eq_true rfl, rfl, pm_t1 152 rfl⟩
theorem fX5_88 : pm_FR RX5 88 10000900 15 20016015 0 := ⟨rfl, rfl, (RX0, TX0, 19), rfl, Nat.le_of_ble_eq_true rfl, pm_t2 120 rfl⟩
theorem fX5_9 : pm_FR RX5 9 10005905 1 20016201 0 := ⟨rfl, rfl, (RX5, TX5, 16), rfl, Nat.le_of_ble_eq_true rfl, pm_t1 128 rfl⟩
theorem fX5_95 : pm_FR RX5 95 10000900 16 20016016 0 := ⟨rfl, rfl, (RX0, TX0, 19), rfl, Nat.le_of_ble_eq_true rfl, pm_t2 123 rfl⟩
theorem fX5_98 : pm_FR RX5 98 10000900 18 20200018 0 := ⟨rfl, rfl, (RX0, TX0, 19), rfl, Nat.le_of_ble_eq_true rfl, pm_t2 127 rfl⟩
theorem fX6_15 : pm_FI RX6 15 10006906 4 := ⟨rfl, rfl, (RX6, TX6, 6), rfl, Nat.le_of_ble_eq_true rfl, rfl, pm_t1 63 rfl⟩
theorem fX6_19 : pm_FI RX6 19 10007907 1 := ⟨rfl, rfl, (RX7, TX7, 2), rfl, Nat.le_of_ble_eq_true rfl, rfl, pm_t1 36 rfl⟩
theorem fX6_30 : pm_FI RX6 30 10006906 5 := ⟨rfl, rfl, (RX6, TX6, 6), rfl, Nat.le_of_ble_eq_true rfl, rfl, pm_t1 64 rfl⟩
theorem fX6_41 : pm_FI RX6 41 10006906 2 := ⟨rfl, rfl, (RX6, TX6, 6), rfl, Nat.le_of_ble_eq_true rfl, rfl, pm_t1 60 rfl⟩
theorem fX6_44 : pm_FI RX6 44 10006906 1 := ⟨rfl, rfl, (RX6, TX6, 6), rfl, Nat.le_of_ble_eq_true rfl, rfl, pm_t1 58 rfl⟩
theorem fX6_51 : pm_FI RX6 51 10006906 3 := ⟨rfl, rfl, (RX6, TX6, 6), rfl, Nat.le_of_ble_eq_true rfl, rfl, pm_t1 61 rfl⟩
theorem fX6_9 : pm_FR RX6 9 10006906 0 10007907 0 := ⟨rfl, rfl, (RX6, TX6, 6), rfl, Nat.le_of_ble_eq_true rfl, pm_t1 56 rfl⟩
theorem fX7_19 : pm_FI RX7 19 10007907 1 := ⟨rfl, rfl, (RX7, TX7, 2), rfl, Nat.le_of_ble_eq_true rfl, rfl, pm_t1 37 rfl⟩
theorem fX7_9 : pm_FR RX7 9 10007907 0 30840280 0 := ⟨rfl, rfl, (RX7, TX7, 2), rfl, Nat.le_of_ble_eq_true rfl, pm_t1 34 rfl⟩
theorem fX9_1 : pm_FI RX9 1 10009909 0 := ⟨rfl, rfl, (RX9, TX9, 31), rfl, Nat.le_of_ble_eq_true rfl, rfl, pm_t5 25 rfl⟩
theorem fX9_100 : pm_FR RX9 100 10009909 24 40017384 0 := ⟨rfl, rfl, (RX9, TX9, 31), rfl, Nat.le_of_ble_eq_true rfl, pm_t5 49 rfl⟩
theorem fX9_104 : pm_FR RX9 104 10009909 25 40017385 0 := ⟨rfl, rfl, (RX9, TX9, 31), rfl, Nat.le_of_ble_eq_true rfl, pm_t5 50 rfl⟩
theorem fX9_107 : pm_FR RX9 107 10009909 29 21000389 0 := ⟨rfl, rfl, (RX9, TX9, 31), rfl, Nat.le_of_ble_eq_true rfl, pm_t5 54 rfl⟩
theorem fX9_11 : pm_FI RX9 11 10009909 2 := ⟨rfl, rfl, (RX9, TX9, 31), rfl, Nat.le_of_ble_eq_true rfl, rfl, pm_t5 27 rfl⟩
theorem fX9_167 : pm_FI RX9 167 10009909 14 := ⟨rfl, rfl, (RX9, TX9, 31), rfl, Nat.le_of_ble_eq_true rfl, rfl, pm_t5 39 rfl⟩
theorem fX9_176 : pm_FI RX9 176 10009909 26 := ⟨rfl, rfl, (RX9, TX9, 31), rfl, Nat.le_of_ble_eq_true rfl, rfl, pm_t5 51 rfl⟩
theorem fX9_179 : pm_FI RX9 179 10009909 27 := ⟨rfl, rfl, (RX9, TX9, 31), rfl, Nat.le_of_ble_eq_true rfl, rfl, pm_t5 52 rfl⟩
theorem fX9_18 : pm_FI RX9 18 10009909 3 := ⟨rfl, rfl, (RX9, TX9, 31), rfl, Nat.le_of_ble_eq_true rfl, rfl, pm_t5 28 rfl⟩
theorem fX9_195 : pm_FI RX9 195 10009909 28 := ⟨rfl, rfl, (RX9, TX9, 31), rfl, Nat.le_of_ble_eq_true rfl, rfl, pm_t5 53 rfl⟩
theorem fX9_21 : pm_FI RX9 21 10009909 4 := ⟨rfl, rfl, (RX9, TX9, 31), rfl, Nat.le_of_ble_eq_true rfl, rfl, pm_t5 29 rfl⟩
theorem fX9_227 : pm_FI RX9 227 10009909 30 := ⟨rfl, rfl, (RX9, TX9, 31), rfl, Nat.le_of_ble_eq_true rfl, rfl, pm_t5 55 rfl⟩
theorem fX9_24 : pm_FI RX9 24 10009909 5 := ⟨rfl, rfl, (RX9, TX9, 31), rfl, Nat.le_of_ble_eq_true rfl, rfl, pm_t5 30 rfl⟩
theorem fX9_27 : pm_FI RX9 27 10009909 6 := ⟨rfl, rfl, (RX9, TX9, 31), rfl, Nat.le_of_ble_eq_true rfl, rfl, pm_t5 31 rfl⟩
theorem fX9_37 : pm_FJ RX9 37 10009909 10 := ⟨rfl, rfl, (RX9, TX9, 31), rfl, Nat.le_of_ble_eq_true rfl, rfl, pm_t5 35 rfl⟩
theorem fX9_41 : pm_FI RX9 41 10009909 7 := ⟨rfl, rfl, (RX9, TX9, 31), rfl, Nat.le_of_ble_eq_true rfl, rfl, pm_t5 32 rfl⟩
theorem fX9_52 : pm_FI RX9 52 10009909 8 := ⟨rfl, rfl, (RX9, TX9, 31), rfl, Nat.le_of_ble_eq_true rfl, rfl, pm_t5 33 rfl⟩
theorem fX9_55 : pm_FI RX9 55 10009909 9 := ⟨rfl, rfl, (RX9, TX9, 31), rfl, Nat.le_of_ble_eq_true rfl, rfl, pm_t5 34 rfl⟩
theorem fX9_64 : pm_FR RX9 64 10009909 11 20869371 0 := ⟨rfl, rfl, (RX9, TX9, 31), rfl, Nat.le_of_ble_eq_true rfl, pm_t5 36 rfl⟩
theorem fX9_67 : pm_FR RX9 67 10009909 12 20869372 0 := ⟨rfl, rfl, (RX9, TX9, 31), rfl, Nat.le_of_ble_eq_true rfl, pm_t5 37 rfl⟩
theorem fX9_7 : pm_FR RX9 7 10009909 1 20840361 0 := ⟨rfl, rfl, (RX9, TX9, 31), rfl, Nat.le_of_ble_eq_true rfl, pm_t5 26 rfl⟩
theorem fX9_70 : pm_FR RX9 70 10009909 13 20432373 0 := ⟨rfl, rfl, (RX9, TX9, 31), rfl, Nat.le_of_ble_eq_true rfl, pm_t5 38 rfl⟩
theorem fX9_73 : pm_FR RX9 73 10009909 15 20017375 0 := ⟨rfl, rfl, (RX9, TX9, 31), rfl, Nat.le_of_ble_eq_true rfl, pm_t5 40 rfl⟩
theorem fX9_76 : pm_FR RX9 76 10009909 16 20017376 0 := ⟨rfl, rfl, (RX9, TX9, 31), rfl, Nat.le_of_ble_eq_true rfl, pm_t5 41 rfl⟩
theorem fX9_79 : pm_FR RX9 79 10009909 17 20016377 0 := ⟨rfl, rfl, (RX9, TX9, 31), rfl, Nat.le_of_ble_eq_true rfl, pm_t5 42 rfl⟩
theorem fX9_82 : pm_FR RX9 82 10009909 18 20016378 0 := ⟨rfl, rfl, (RX9, TX9, 31), rfl, Nat.le_of_ble_eq_true rfl, pm_t5 43 rfl⟩
theorem fX9_85 : pm_FR RX9 85 10009909 19 20016379 0 := ⟨rfl, rfl, (RX9, TX9, 31), rfl, Nat.le_of_ble_eq_true rfl, pm_t5 44 rfl⟩
theorem fX9_88 : pm_FR RX9 88 10009909 20 20017380 0 := ⟨rfl, rfl, (RX9, TX9, 31), rfl, Nat.le_of_ble_eq_true rfl, pm_t5 45 rfl⟩
theorem fX9_91 : pm_FR RX9 91 10009909 21 20289381 0 := ⟨rfl, rfl, (RX9, TX9, 31), rfl, Nat.le_of_ble_eq_true rfl, pm_t5 46 rfl⟩
theorem fX9_94 : pm_FR RX9 94 10009909 22 20017382 0 := ⟨rfl, rfl, (RX9, TX9, 31), rfl, Nat.le_of_ble_eq_true rfl, pm_t5 47 rfl⟩
theorem fX9_97 : pm_FR RX9 97 10009909 23 20017383 0 := ⟨rfl, rfl, (RX9, TX9, 31), rfl, Nat.le_of_ble_eq_true rfl, pm_t5 48 rfl⟩
theorem kX8_294 : Cond.constantLong RX8 294 (999) ∈ lw_tbl := pm_t4 231 rfl
theorem kX8_296 : Cond.constantLong RX8 296 (1000) ∈ lw_tbl := pm_t4 232 rfl
theorem kX3_29 : Cond.constantLong RX3 29 (-1) ∈ lw_tbl := pm_t4 12 rfl
theorem kX9_190 : Cond.constantLong RX9 190 (-1) ∈ lw_tbl := pm_t6 0 rfl
theorem kX9_252 : Cond.constantLong RX9 252 (999) ∈ lw_tbl := pm_t6 73 rfl
theorem kX9_254 : Cond.constantLong RX9 254 (1000) ∈ lw_tbl := pm_t6 74 rfl
theorem kX9_48 : Cond.constantLong RX9 48 (27) ∈ lw_tbl := pm_t5 137 rfl
theorem kX9_50 : Cond.constantLong RX9 50 (96) ∈ lw_tbl := pm_t5 138 rfl
end
section
/-! arrays, calls, returns -/
section PRA
variable {cc : ByteArray} {own : String} {nL fr lo pc : Nat} {ls : List (Option pm_v)} {st : List pm_v} {mem : pm_M} {X : Nat → List (Option pm_v) → List pm_v → pm_M → Prop}
theorem pm_nI_in {j n : Nat} (hj : j < n) (hn : n < 2 ^ 31) : vp_in (nI j) n := vp_in_nI hj hn
theorem pm_n_small {t n : Nat} (h : t / 1000 % 10000 = n) : n < 2 ^ 31 := by omega
theorem pm_arrP {ad : pm_A} {D : va_G} {cs : Nat → ClassId} {H : Heap} {t i : Nat} {z : va_E} (hi : i < pm_tn t) (hH : pm_H ad D cs mem H) (hz : pm_ce ad cs mem t i = z) : va_P D vwCl [(ad t i, z)] H := by
  intro n x hx
  have hn : n = 0 := by
    have := (List.getElem?_eq_some_iff.mp hx).1
    simpa using this
  subst hn
  cases hx
  rw [← hz]
  exact hH.1 t i hi
theorem pr_iaload {t i n : Nat} {x : Int32} (j : Nat) (q : Nat) (hd : decode cc pc = .ok (.iaload, 1)) (h1 : t / 10000000 = 2) (hn : t / 1000 % 10000 = n) (hx : x = nI j) (hj : j < n) (hq : pc + 1 = q) (kk : PR cc own nL fr lo q ls (pI (mem.1 t i j) :: st) mem X) : PR cc own nL fr lo pc ls (pI x :: pR t i :: st) mem X := by
  subst hq; subst hx
  refine PR.step1 (fun {p l e R s m args below meth c cells slots Q S0 a0 ad D cs} H locs la hC hl hs hH hS kk => ?_) kk
  have hi := pm_ok_lt h1 (by decide) hs.2.1
  have hP := pm_arrP hi hH (z := .inl (cs 0, n, .inl (mem.1 t i))) (by simp [pm_ce, h1, hn])
  refine va_iald hC.1 hC.2.1 (va_K.moved hC.2.2.2.2.2.1.1.alike hC.2.2.2.2.1.2.2.1) hP 0 0 rfl rfl (vp_in_nI hj (pm_n_small hn)) hd ?_
  rw [nI_clamp (by have := pm_n_small hn; omega)]
  exact kk la hl ⟨trivial, hs.2.2⟩
theorem pr_baload {t i n : Nat} {x : Int32} (j : Nat) (q : Nat) (hd : decode cc pc = .ok (.baload, 1)) (h1 : t / 10000000 = 3) (hn : t / 1000 % 10000 = n) (hx : x = nI j) (hj : j < n) (hq : pc + 1 = q) (kk : PR cc own nL fr lo q ls (pI (mem.1 t i j) :: st) mem X) : PR cc own nL fr lo pc ls (pI x :: pR t i :: st) mem X := by
  subst hq; subst hx
  refine PR.step1 (fun {p l e R s m args below meth c cells slots Q S0 a0 ad D cs} H locs la hC hl hs hH hS kk => ?_) kk
  have hi := pm_ok_lt h1 (by decide) hs.2.1
  have hP := pm_arrP hi hH (z := .inl (cs 1, n, .inl (mem.1 t i))) (by simp [pm_ce, h1, hn])
  refine va_bald hC.1 hC.2.1 (va_K.moved hC.2.2.2.2.2.1.1.alike hC.2.2.2.2.1.2.2.1) hP 0 1 rfl rfl (vp_in_nI hj (pm_n_small hn)) hd ?_
  rw [nI_clamp (by have := pm_n_small hn; omega)]
  exact kk la hl ⟨trivial, hs.2.2⟩
theorem pr_laload {t i n : Nat} {x : Int32} (j : Nat) (q : Nat) (hd : decode cc pc = .ok (.laload, 1)) (h1 : t / 10000000 = 4) (hn : t / 1000 % 10000 = n) (hx : x = nI j) (hj : j < n) (hq : pc + 1 = q) (kk : PR cc own nL fr lo q ls (pJ (mem.2.1 t i j) :: st) mem X) : PR cc own nL fr lo pc ls (pI x :: pR t i :: st) mem X := by
  subst hq; subst hx
  refine PR.step1 (fun {p l e R s m args below meth c cells slots Q S0 a0 ad D cs} H locs la hC hl hs hH hS kk => ?_) kk
  have hi := pm_ok_lt h1 (by decide) hs.2.1
  have hP := pm_arrP hi hH (z := .inl (cs 2, n, .inr (.inl (mem.2.1 t i)))) (by simp [pm_ce, h1, hn])
  refine va_lald hC.1 hC.2.1 (va_K.moved hC.2.2.2.2.2.1.1.alike hC.2.2.2.2.1.2.2.1) hP 0 2 rfl rfl (vp_in_nI hj (pm_n_small hn)) hd ?_
  rw [nI_clamp (by have := pm_n_small hn; omega)]
  exact kk la hl ⟨trivial, hs.2.2⟩
theorem pr_iastore {t i n : Nat} {x v : Int32} (j : Nat) (q : Nat) (hd : decode cc pc = .ok (.iastore, 1)) (h1 : t / 10000000 = 2) (hn : t / 1000 % 10000 = n) (hx : x = nI j) (hj : j < n) (hq : pc + 1 = q) (kk : PR cc own nL fr lo q ls st (pm_uI mem t i j v) X) : PR cc own nL fr lo pc ls (pI v :: pI x :: pR t i :: st) mem X := by
  subst hq; subst hx
  refine PR.stepM (pm_but_I mem t i j v) (fun {p l e R s m args below meth c cells slots Q S0 a0 ad D cs} H locs la hC hs hH kk => ?_) kk
  have hi := pm_ok_lt h1 (by decide) hs.2.2.1
  have hP := pm_arrP hi hH (z := .inl (cs 0, n, .inl (mem.1 t i))) (by simp [pm_ce, h1, hn])
  have hK : va_K D vwCl [(cs 0, .int), (cs 1, .byte), (cs 2, .long), (cs 3, .array .int)] s := va_K.moved hC.2.2.2.2.2.1.1.alike hC.2.2.2.2.1.2.2.1
  have hin : vp_in (nI j) n := vp_in_nI hj (pm_n_small hn)
  have hc : (nI j).toNatClampNeg = j := nI_clamp (by have := pm_n_small hn; omega)
  refine W.iast hC.1 hC.2.1 (hP 0 _ rfl) ((hK.2 0 _ rfl).1 n (fun j => .int (mem.1 t i j))) (fun q => by cases q) (by show ¬ (nI j < 0 ∨ (arrV _ _ _).slots.size ≤ _); rw [arrV_size]; exact hin) rfl rfl hd fun H1 e1 z oq => ?_
  refine kk H1 _ hs.2.2.2 hi hH.2 ?_ z oq
  have hce : pm_ce ad cs (pm_uI mem t i j v) t i = .inl (cs 0, n, .inl (upd (mem.1 t i) j v)) := by
    have : (pm_uI mem t i j v).1 t i = upd (mem.1 t i) j v := by
      funext k'
      simp [pm_uI, upd]
    simp [pm_ce, h1, hn, this]
  rw [hce]
  show H1[ad t i]? = some (vp_cell _ _)
  rw [e1, vp_cell_i, vp_cell_i, arrV_store, hc]
  congr 2
  funext q
  by_cases hq : q = j
  · subst hq
    simp [updV, upd]
  · simp [updV, upd, hq]
theorem pr_bastore {t i n : Nat} {x v : Int32} (j : Nat) (q : Nat) (hd : decode cc pc = .ok (.bastore, 1)) (h1 : t / 10000000 = 3) (hn : t / 1000 % 10000 = n) (hx : x = nI j) (hj : j < n) (hq : pc + 1 = q) (kk : PR cc own nL fr lo q ls st (pm_uI mem t i j (vp_nar .byte v)) X) : PR cc own nL fr lo pc ls (pI v :: pI x :: pR t i :: st) mem X := by
  subst hq; subst hx
  refine PR.stepM (pm_but_I mem t i j (vp_nar .byte v)) (fun {p l e R s m args below meth c cells slots Q S0 a0 ad D cs} H locs la hC hs hH kk => ?_) kk
  have hi := pm_ok_lt h1 (by decide) hs.2.2.1
  have hP := pm_arrP hi hH (z := .inl (cs 1, n, .inl (mem.1 t i))) (by simp [pm_ce, h1, hn])
  have hK : va_K D vwCl [(cs 0, .int), (cs 1, .byte), (cs 2, .long), (cs 3, .array .int)] s := va_K.moved hC.2.2.2.2.2.1.1.alike hC.2.2.2.2.1.2.2.1
  have hin : vp_in (nI j) n := vp_in_nI hj (pm_n_small hn)
  have hc : (nI j).toNatClampNeg = j := nI_clamp (by have := pm_n_small hn; omega)
  refine W.bast hC.1 hC.2.1 (hP 0 _ rfl) ((hK.2 1 _ rfl).1 n (fun j => .int (mem.1 t i j))) (fun q => by cases q) (by show ¬ (nI j < 0 ∨ (arrV _ _ _).slots.size ≤ _); rw [arrV_size]; exact hin) rfl rfl hd fun H1 e1 z oq => ?_
  refine kk H1 _ hs.2.2.2 hi hH.2 ?_ z oq
  have hce : pm_ce ad cs (pm_uI mem t i j (vp_nar .byte v)) t i = .inl (cs 1, n, .inl (upd (mem.1 t i) j (vp_nar .byte v))) := by
    have : (pm_uI mem t i j (vp_nar .byte v)).1 t i = upd (mem.1 t i) j (vp_nar .byte v) := by
      funext k'
      simp [pm_uI, upd]
    simp [pm_ce, h1, hn, this]
  rw [hce]
  show H1[ad t i]? = some (vp_cell _ _)
  rw [e1, vp_cell_i, vp_cell_i, arrV_store, hc]
  congr 2
  funext q
  by_cases hq : q = j
  · subst hq
    simp [updV, upd, vp_nar]
    try rfl
  · simp [updV, upd, hq]
theorem pr_lastore {t i n : Nat} {x : Int32} {v : Int64} (j : Nat) (q : Nat) (hd : decode cc pc = .ok (.lastore, 1)) (h1 : t / 10000000 = 4) (hn : t / 1000 % 10000 = n) (hx : x = nI j) (hj : j < n) (hq : pc + 1 = q) (kk : PR cc own nL fr lo q ls st (pm_uJ mem t i j v) X) : PR cc own nL fr lo pc ls (pJ v :: pI x :: pR t i :: st) mem X := by
  subst hq; subst hx
  refine PR.stepM (pm_but_J mem t i j v) (fun {p l e R s m args below meth c cells slots Q S0 a0 ad D cs} H locs la hC hs hH kk => ?_) kk
  have hi := pm_ok_lt h1 (by decide) hs.2.2.1
  have hP := pm_arrP hi hH (z := .inl (cs 2, n, .inr (.inl (mem.2.1 t i)))) (by simp [pm_ce, h1, hn])
  have hK : va_K D vwCl [(cs 0, .int), (cs 1, .byte), (cs 2, .long), (cs 3, .array .int)] s := va_K.moved hC.2.2.2.2.2.1.1.alike hC.2.2.2.2.1.2.2.1
  have hin : vp_in (nI j) n := vp_in_nI hj (pm_n_small hn)
  have hc : (nI j).toNatClampNeg = j := nI_clamp (by have := pm_n_small hn; omega)
  refine W.last hC.1 hC.2.1 (hP 0 _ rfl) ((hK.2 2 _ rfl).1 n (fun j => .long (mem.2.1 t i j))) (fun q => by cases q) (by show ¬ (nI j < 0 ∨ (arrV _ _ _).slots.size ≤ _); rw [arrV_size]; exact hin) rfl rfl hd fun H1 e1 z oq => ?_
  refine kk H1 _ hs.2.2.2 hi hH.2 ?_ z oq
  have hce : pm_ce ad cs (pm_uJ mem t i j v) t i = .inl (cs 2, n, .inr (.inl (vp_updL (mem.2.1 t i) j v))) := by
    have : (pm_uJ mem t i j v).2.1 t i = vp_updL (mem.2.1 t i) j v := by
      funext k'
      simp [pm_uJ, vp_updL]
    simp [pm_ce, h1, hn, this]
  rw [hce]
  show H1[ad t i]? = some (vp_cell _ _)
  rw [e1, vp_cell_l, vp_cell_l, arrV_store, hc]
  congr 2
  funext q
  by_cases hq : q = j
  · subst hq
    simp [updV, vp_updL]
  · simp [updV, vp_updL, hq]
theorem pr_alen {t i n : Nat} (q : Nat) (hd : decode cc pc = .ok (.arraylength, 1)) (h1 : t / 10000000 = 2) (hn : t / 1000 % 10000 = n) (hq : pc + 1 = q) (kk : PR cc own nL fr lo q ls (pI (nI n) :: st) mem X) : PR cc own nL fr lo pc ls (pR t i :: st) mem X := by
  subst hq
  refine PR.step1 (fun {p l e R s m args below meth c cells slots Q S0 a0 ad D cs} H locs la hC hl hs hH hS kk => ?_) kk
  have hi := pm_ok_lt h1 (by decide) hs.1
  have hP := pm_arrP hi hH (z := .inl (cs 0, n, .inl (mem.1 t i))) (by simp [pm_ce, h1, hn])
  have hK : va_K D vwCl [(cs 0, .int), (cs 1, .byte), (cs 2, .long), (cs 3, .array .int)] s := va_K.moved hC.2.2.2.2.2.1.1.alike hC.2.2.2.2.1.2.2.1
  exact W.alen hC.1 hC.2.1 (hP 0 _ rfl) ((hK.2 0 _ rfl).1 n (fun j => .int (mem.1 t i j))) (by show (arrV _ _ _).slots.size.toInt32 = _; rw [arrV_size]; rfl) rfl rfl hd (kk la hl ⟨trivial, hs.2⟩)
theorem pr_alenB {t i n : Nat} (q : Nat) (hd : decode cc pc = .ok (.arraylength, 1)) (h1 : t / 10000000 = 3) (hn : t / 1000 % 10000 = n) (hq : pc + 1 = q) (kk : PR cc own nL fr lo q ls (pI (nI n) :: st) mem X) : PR cc own nL fr lo pc ls (pR t i :: st) mem X := by
  subst hq
  refine PR.step1 (fun {p l e R s m args below meth c cells slots Q S0 a0 ad D cs} H locs la hC hl hs hH hS kk => ?_) kk
  have hi := pm_ok_lt h1 (by decide) hs.1
  have hP := pm_arrP hi hH (z := .inl (cs 1, n, .inl (mem.1 t i))) (by simp [pm_ce, h1, hn])
  have hK : va_K D vwCl [(cs 0, .int), (cs 1, .byte), (cs 2, .long), (cs 3, .array .int)] s := va_K.moved hC.2.2.2.2.2.1.1.alike hC.2.2.2.2.1.2.2.1
  exact W.alen hC.1 hC.2.1 (hP 0 _ rfl) ((hK.2 1 _ rfl).1 n (fun j => .int (mem.1 t i j))) (by show (arrV _ _ _).slots.size.toInt32 = _; rw [arrV_size]; rfl) rfl rfl hd (kk la hl ⟨trivial, hs.2⟩)
end PRA
end
section
/-! arrays of arrays, calls, returns -/
section PRC
variable {cc : ByteArray} {own : String} {nL fr lo pc : Nat} {ls : List (Option pm_v)} {st : List pm_v} {mem : pm_M} {X : Nat → List (Option pm_v) → List pm_v → pm_M → Prop}
theorem pr_aaload {t i n : Nat} {x : Int32} (j t2 : Nat) (q : Nat) (hd : decode cc pc = .ok (.aaload, 1)) (h1 : t / 10000000 = 5) (hn : t / 1000 % 10000 = n) (ht2 : pm_rt t = t2) (hx : x = nI j) (hj : j < n) (hq : pc + 1 = q) (kk : PR cc own nL fr lo q ls (pR t2 (n * i + j) :: st) mem X) : PR cc own nL fr lo pc ls (pI x :: pR t i :: st) mem X := by
  subst hq; subst hx; subst ht2
  refine PR.step1 (fun {p l e R s m args below meth c cells slots Q S0 a0 ad D cs} H locs la hC hl hs hH hS kk => ?_) kk
  have hi := pm_ok_lt h1 (by decide) hs.2.1
  have hP := pm_arrP hi hH (z := .inl (cs 3, n, .inr (.inr (.inr (.inr (fun j => some (ad (pm_rt t) (n * i + j)))))))) (by simp [pm_ce, h1, hn])
  have hK : va_K D vwCl [(cs 0, .int), (cs 1, .byte), (cs 2, .long), (cs 3, .array .int)] s := va_K.moved hC.2.2.2.2.2.1.1.alike hC.2.2.2.2.1.2.2.1
  have hin : vp_in (nI j) n := vp_in_nI hj (pm_n_small hn)
  have hc : (nI j).toNatClampNeg = j := nI_clamp (by have := pm_n_small hn; omega)
  refine W.aald (v := .ref (ad (pm_rt t) (n * i + j))) (ty := .array .int) hC.1 hC.2.1 (hP 0 _ rfl) ((hK.2 3 _ rfl).1 n (fun j => va_rf (some (ad (pm_rt t) (n * i + j))))) rfl (fun q => by cases q) (by show ¬ (nI j < 0 ∨ (arrV _ _ _).slots.size ≤ _); rw [arrV_size]; exact hin) (by show (arrV _ _ _).slots[_]? = _; rw [hc, arrV_read _ _ hj]; rfl) rfl rfl hd ?_
  refine kk la hl ⟨Or.inr ?_, hs.2.2⟩
  have := pm_tab2 _ (pm_tn_mem hi) h1 i hi j (by rw [hn]; exact hj)
  rw [hn] at this
  exact this
theorem pr_aaload0 {t n : Nat} {x : Int32} (j t2 : Nat) (q : Nat) (hd : decode cc pc = .ok (.aaload, 1)) (h1 : t / 10000000 = 5) (hn : t / 1000 % 10000 = n) (ht2 : pm_rt t = t2) (hx : x = nI j) (hj : j < n) (hq : pc + 1 = q) (kk : PR cc own nL fr lo q ls (pR t2 j :: st) mem X) : PR cc own nL fr lo pc ls (pI x :: pR t 0 :: st) mem X := by
  refine pr_aaload j t2 q hd h1 hn ht2 hx hj hq ?_
  rw [Nat.mul_zero, Nat.zero_add]
  exact kk
/-- a method's start -/
def pm_Pc (S0 : State) (ad : pm_A) (D : va_G) (cs : Nat → ClassId) (as : List pm_v) (mem : pm_M) : Array Value → State → Prop := fun a U => a = (as.map (pm_mv ad)).toArray ∧ pm_oks as ∧ pm_D S0 U ∧ pm_H ad D cs mem U.heap
/-- its end -/
def pm_Qc (S0 : State) (ad : pm_A) (D : va_G) (cs : Nat → ClassId) (Qr : Option pm_v → pm_M → Prop) : Array Value → State → Outcome → State → Prop := fun _ st oc t =>
  ∃ (r : Option pm_v) (mem' : pm_M), Qr r mem' ∧ oc = .returned (r.map (pm_mv ad)) ∧ (∀ v, r = some v → pm_ok v) ∧ pm_H ad D cs mem' t.heap ∧ va_F (fun q => S0.heap.size ≤ q) st t
theorem pm_blind {S0 : State} {ad : pm_A} {D : va_G} {cs : Nat → ClassId} {as : List pm_v} : FrameBlind (pm_Pc S0 ad D cs as mem) := fun _ _ _ _ h => h
/-- a method, called: from these arguments and this memory it returns, with Qr -/
def Cl (y : MethodName) (bc : ByteArray) (mL : Nat) (ret : Option FieldType) (fr lo : Nat) (as : List pm_v) (mem : pm_M) (Qr : Option pm_v → pm_M → Prop) : Prop :=
  ∀ (l : Launch) (S0 : State) (a0 : Array Value) (ad : pm_A) (D : va_G) (cs : Nat → ClassId), pm_G l S0 a0 ad D cs →
    Met l y [Cond.code y bc mL ret] { frames := fr, cells := 0, slots := 0, locals := lo } (pm_Pc S0 ad D cs as mem) (pm_Qc S0 ad D cs Qr) 0 0 (fun q => S0.heap.size ≤ q)
/-- the words of a method -/
def pm_MW (y : MethodName) (bc : ByteArray) (mL : Nat) (ret : Option FieldType) (n : Nat) : Prop :=
  Cond.code y bc mL ret ∈ lw_tbl ∧ Cond.initialized y.cls ∈ lw_tbl ∧ (y.cls ≠ "java/lang/invoke/MethodHandle" ∧ y.cls ≠ "java/lang/invoke/VarHandle") ∧ (parseMethodDescriptor y.desc).map (fun d => d.parameters.length) = some n
/-- of a call of it on an object -/
def pm_CV (own : String) (idx : Nat) (y : MethodName) (t : Nat) : Prop :=
  t / 10000000 = 1 ∧ (∃ w : vw_C, vwCl[t / 1000 % 10000]? = some w ∧ y.cls = w.1) ∧ Cond.methodLink own idx y ∈ lw_tbl ∧ Cond.instanceMethod y ∈ lw_tbl ∧ Cond.selects y.cls y y ∈ lw_tbl
def pm_CS (own : String) (idx : Nat) (y : MethodName) : Prop := Cond.methodLink own idx y ∈ lw_tbl ∧ Cond.static y ∈ lw_tbl
theorem pm_CB {l : Launch} {S0 s : State} {a0 args : Array Value} {ad : pm_A} {D : va_G} {cs : Nat → ClassId} {R : Room} (hG : pm_G l S0 a0 ad D cs) (hD : pm_D S0 s) {y : MethodName} {bc : ByteArray} {mL n fr' lo' idx : Nat} {ret : Option FieldType} (hw : pm_MW y bc mL ret n) (hR : fr' + 1 ≤ R.frames ∧ 8 + (mL + 11) + lo' ≤ R.locals) (hl : Cond.methodLink own idx y ∈ lw_tbl) :
    CallB R s args own idx y bc mL ret [Cond.code y bc mL ret] { frames := fr', cells := 0, slots := 0, locals := lo' } 0 0 n := by
  refine ⟨rfl, rfl, hR.1, hR.2, ?_, List.mem_cons_self, pm_word hG hD _ rfl hw.1, pm_word hG hD _ rfl hw.2.1, hw.2.2.1, fun sig h => ?_, pm_word hG hD _ rfl hl⟩
  · intro z hz a' U hW
    rw [List.mem_singleton.mp hz]
    exact word_at (hD.1.trans hW) (good_of_word rfl) (hG.2.1 _ hw.1)
  · have h2 := hw.2.2.2
    rw [h] at h2
    exact (Option.some.inj h2).symm
theorem PR.call {q : Nat} {as : List pm_v} {st0 : List pm_v} {Qr : Option pm_v → pm_M → Prop}
    (h : ∀ {p : Program} {l : Launch} {e : Env} {R : Room} {s : State} {m : MethodId} {args : Array Value} {below : List Frame} {meth : Method} {c : Code} {cells slots : Nat} {S0 : State} {a0 : Array Value} {ad : pm_A} {D : va_G} {cs : Nat → ClassId} (H : Heap) (locs : List Loc) (la : Array Slot),
      pm_C cc own nL fr lo p l R s m c cells slots S0 a0 ad D cs → la.size = nL → pm_oks st0 → pm_H ad D cs mem H → (∀ U : State, U.heap = H → s.WarmedH U.vm → pm_D S0 U) →
      pm_oks st ∧ va_Run p l e R s m args below meth c H locs cells slots 0 0 (F0 m pc la (st0.map (pm_mv ad))) (st.map (pm_mv ad)) (pm_Qc S0 ad D cs Qr (as.map (pm_mv ad)).toArray) (fun q => S0.heap.size ≤ q))
    (hq : pc + 3 = q) (kk : ∀ r mem', Qr r mem' → PR cc own nL fr lo q ls (r.toList ++ st) mem' X) : PR cc own nL fr lo pc ls st0 mem X := by
  subst hq
  intro p l e R s m args below meth c cells slots Q S0 a0 ad D cs hC hK H locs la hl hs hH hS T hT Xs
  have hD := hC.2.2.2.2.2.1
  have hDU : ∀ U : State, U.heap = H → s.WarmedH U.vm → pm_D S0 U := fun U hU hW => hD.step hW (by rw [hU]; exact hS.1) (fun z hz => by rw [hU]; exact hS.2.1 z (Nat.lt_of_lt_of_le hz hD.2.1) (Nat.not_le.mpr hz))
  obtain ⟨hst, hrun⟩ := h (e := e) (args := args) (below := below) (meth := meth) H locs la hC hl.1 hs hH hDU
  obtain ⟨v, st₀, t, T', L, h0, X', hL, e1, e2, ⟨r, mem', hQ, hv, hok, hH', hz, hk⟩, go⟩ := hrun T hT Xs
  rw [h0] at hz hk
  have hvv : v = r.map (pm_mv ad) := by injection hv
  have hS' : va_S (fun q => S0.heap.size ≤ q) s.heap T'.heap (locs ++ L) := ⟨Nat.le_trans hS.1 (by rw [e1]; exact hz), fun z h1 h2 => by rw [e1, hk z (Nat.lt_of_lt_of_le h1 hS.1) h2]; exact hS.2.1 z h1 h2, fun z hz => by
    rcases List.mem_append.mp hz with h | h
    · exact hS.2.2 z h
    · exact hL z h⟩
  have hoks : pm_oks (r.toList ++ st) := by
    cases r with
    | none => exact hst
    | some v => exact ⟨hok v rfl, hst⟩
  obtain ⟨t2, a1, b1⟩ := kk r mem' hQ p l e R s m args below meth c cells slots Q S0 a0 ad D cs hC hK T'.heap (locs ++ L) la hl hoks (by rw [e1]; exact hH') hS' T' rfl X'
  refine ⟨t2, go t2 ?_, b1⟩
  rw [hvv]
  cases r with
  | none => exact a1
  | some v => exact a1
theorem pr_inv {idx t i : Nat} {y : MethodName} {bc : ByteArray} {mL n fr' lo' : Nat} {ret : Option FieldType} {Qr : Option pm_v → pm_M → Prop} (as : List pm_v) (q : Nat) (hd : decode cc pc = .ok (.invokevirtual idx, 3)) (hw : pm_CV own idx y t) (hm : pm_MW y bc mL ret n) (hc : Cl y bc mL ret fr' lo' (pR t i :: as) mem Qr) (hR : fr' + 1 ≤ fr ∧ 8 + (mL + 11) + lo' ≤ lo) (hn : as.length = n) (hst : (st.map pm_cat).sum ≤ 8)
    (hq : pc + 3 = q) (kk : ∀ r mem', Qr r mem' → PR cc own nL fr lo q ls (r.toList ++ st) mem' X) : PR cc own nL fr lo pc ls (as.reverse ++ pR t i :: st) mem X := by
  refine PR.call (as := pR t i :: as) (fun {p l e R s m args below meth c cells slots S0 a0 ad D cs} H locs la hC hla hs hH hDU => ?_) hq kk
  obtain ⟨hx, hb, hml, hown, hG, hD, hfr, hlo, hcl, hsl⟩ := hC
  obtain ⟨hs1, hs2⟩ := pm_oks_app hs
  have has : pm_oks (pR t i :: as) := ⟨hs2.1, by have := pm_oks_rev hs1; rwa [List.reverse_reverse] at this⟩
  have hi := pm_ok_lt hw.1 (by decide) hs2.1
  obtain ⟨w, hw1, hw2⟩ := hw.2.1
  have hK : va_K D vwCl [(cs 0, .int), (cs 1, .byte), (cs 2, .long), (cs 3, .array .int)] s := va_K.moved hD.1.alike hG.2.2.1
  obtain ⟨-, hfc, -⟩ := hK.1 _ _ hw1
  obtain ⟨r0, hr1, cell, q1, q2, q3, q4⟩ := pm_objP (cs := cs) hw.1 hi hH
  refine ⟨hs2.2, ?_⟩
  have hcat : ((st.map (pm_mv ad)).map fun v => v.category).sum = (st.map pm_cat).sum := by
    rw [List.map_map]
    congr 1
    apply List.map_congr_left
    intro v _
    exact pm_mv_cat ad v
  refine va_runV (C := y.cls) (As := as.map (pm_mv ad)) (n := n) (b := ad t i) (Ts := []) ⟨hx, hb, hml, hown, fun _ h => by cases h⟩ (hc l S0 a0 ad D cs hG) ⟨pm_CB hG hD hm ⟨by omega, by omega⟩ hw.2.2.1, pm_word hG hD _ rfl hw.2.2.2.1, pm_word hG hD _ rfl hw.2.2.2.2⟩
    ⟨pm_blind, ⟨cell, q1, by rw [q3]; rfl, by rw [hw2, q2]; exact hfc⟩, fun U hU hW => ⟨rfl, has, hDU U hU hW, by rw [hU]; exact hH⟩⟩ rfl (by rw [List.length_map]; exact hn) hla ?_ (lv_room (by rw [hcat]; exact hst)) hd ⟨by omega, by omega⟩
  rw [List.map_append, List.map_reverse]
  rfl
theorem pr_ivs {idx : Nat} {y : MethodName} {bc : ByteArray} {mL n fr' lo' : Nat} {ret : Option FieldType} {Qr : Option pm_v → pm_M → Prop} (as : List pm_v) (q : Nat) (hd : decode cc pc = .ok (.invokestatic idx, 3)) (hw : pm_CS own idx y) (hm : pm_MW y bc mL ret n) (hc : Cl y bc mL ret fr' lo' as mem Qr) (hR : fr' + 1 ≤ fr ∧ 8 + (mL + 11) + lo' ≤ lo) (hn : as.length = n) (hst : (st.map pm_cat).sum ≤ 8)
    (hq : pc + 3 = q) (kk : ∀ r mem', Qr r mem' → PR cc own nL fr lo q ls (r.toList ++ st) mem' X) : PR cc own nL fr lo pc ls (as.reverse ++ st) mem X := by
  refine PR.call (as := as) (fun {p l e R s m args below meth c cells slots S0 a0 ad D cs} H locs la hC hla hs hH hDU => ?_) hq kk
  obtain ⟨hx, hb, hml, hown, hG, hD, hfr, hlo, hcl, hsl⟩ := hC
  obtain ⟨hs1, hs2⟩ := pm_oks_app hs
  have has : pm_oks as := by have := pm_oks_rev hs1; rwa [List.reverse_reverse] at this
  refine ⟨hs2, ?_⟩
  have hcat : ((st.map (pm_mv ad)).map fun v => v.category).sum = (st.map pm_cat).sum := by
    rw [List.map_map]
    congr 1
    apply List.map_congr_left
    intro v _
    exact pm_mv_cat ad v
  refine va_runS (As := as.map (pm_mv ad)) (n := n) (Ts := []) ⟨hx, hb, hml, hown, fun _ h => by cases h⟩ (hc l S0 a0 ad D cs hG) ⟨pm_CB hG hD hm ⟨by omega, by omega⟩ hw.1, pm_word hG hD _ rfl hw.2⟩
    ⟨pm_blind, fun U hU hW => ⟨rfl, has, hDU U hU hW, by rw [hU]; exact hH⟩⟩ rfl (by rw [List.length_map]; exact hn) hla ?_ (lv_room (by rw [hcat]; exact hst)) hd ⟨by omega, by omega⟩
  show (as.reverse ++ st).map (pm_mv ad) = _
  rw [List.map_append, List.map_reverse]
/-- a method's exits: its returns -/
def pm_RX (cc : ByteArray) (ret : Option FieldType) (Qr : Option pm_v → pm_M → Prop) : Nat → List (Option pm_v) → List pm_v → pm_M → Prop := fun pc _ st mem =>
  (∃ v : Int32, decode cc pc = .ok (.ireturn, 1) ∧ (ret = some .int ∨ (ret = some .boolean ∧ (v = 0 ∨ v = 1))) ∧ st = [pI v] ∧ Qr (some (pI v)) mem) ∨
  (∃ v : Int64, decode cc pc = .ok (.lreturn, 1) ∧ ret = some .long ∧ st = [pJ v] ∧ Qr (some (pJ v)) mem) ∨
  (decode cc pc = .ok (.return_, 1) ∧ ret = none ∧ st = [] ∧ Qr none mem) ∨
  (∃ t i : Nat, decode cc pc = .ok (.areturn, 1) ∧ ret = some (.array .int) ∧ st = [pR t i] ∧ Qr (some (pR t i)) mem)
theorem Cl.of {y : MethodName} {mL : Nat} {ret : Option FieldType} {as : List pm_v} {Qr : Option pm_v → pm_M → Prop} (hy : plainName y.cls = true) (hcat : (as.map pm_cat).all (fun n => n == 1) = true) (hlen : as.length ≤ mL) (hown : y.cls = own)
    (h : PR cc own mL fr lo 0 (as.map some ++ List.replicate (mL - as.length) none) [] mem (pm_RX cc ret Qr)) : Cl y cc mL ret fr lo as mem Qr := by
  subst hown
  intro l S0 a0 ad D cs hG
  refine Met.ofW (cc := cc) (maxL := mL) (ret := ret) hy rfl ?_
  intro p e s m args below meth c s₁ B hml hv
  obtain ⟨rfl, hoks, hD, hH⟩ := hv
  have hx := B.exec
  have hb := B.bytes
  have hr := B.returns
  have hown : s.vm.findClass y.cls = some m.cls := findClass_of_methodNamed B.named
  have hlocks := B.notSynchronized
  have hsl : ∀ (vs : List pm_v), (vs.map pm_cat).all (fun n => n == 1) = true → lg_sl (vs.map (pm_mv ad)) = vs.map (fun v => Slot.val (pm_mv ad v)) := by
    intro vs
    induction vs with
    | nil => intro _; rfl
    | cons v r ih =>
      intro hh
      simp only [List.map_cons, List.all_cons, Bool.and_eq_true, beq_iff_eq] at hh
      simp only [List.map_cons, lg_sl, List.flatMap_cons]
      rw [pm_mv_cat, hh.1, if_neg (by decide)]
      have := ih hh.2
      unfold lg_sl at this
      rw [this]
      rfl
  have hs1 := hsl as hcat
  have hlen2 : (lg_sl (as.map (pm_mv ad))).length ≤ mL := by rw [hs1, List.length_map]; exact hlen
  have hle := lv_entry (as.map (pm_mv ad)) (n := mL) hlen2
  rw [lg_entry_eq]
  refine h p l e _ s m _ below meth c 0 0 _ S0 a0 ad D cs ⟨hx, hb, hml, hown, hG, hD, Nat.le_refl _, Nat.le_refl _, Nat.zero_le _, Nat.zero_le _⟩ ?_ s.heap [] _ ?_ trivial hH va_S.rf
  · intro pc' ls' st' mem' hX H locs la hl hs hH' hS
    have hfin : ∀ r : Option pm_v, (∀ v, r = some v → pm_ok v) → Qr r mem' → ∀ t : State, t.heap = H → s.WarmedH t.vm → pm_Qc S0 ad D cs Qr (as.map (pm_mv ad)).toArray s (.returned (r.map (pm_mv ad))) t := fun r hok hQ t ht _ => ⟨r, mem', hQ, rfl, hok, by rw [ht]; exact hH', hS.F ht⟩
    rcases hX with ⟨v, hd, hret, rfl, hQ⟩ | ⟨v, hd, hret, rfl, hQ⟩ | ⟨hd, hret, rfl, hQ⟩ | ⟨t, i, hd, hret, rfl, hQ⟩
    · rcases hret with hret | ⟨hret, hv⟩
      · exact W.zret (v := v) (ty := .int) hx hb (by rw [hr]; exact hret) rfl (hfin (some (pI v)) (fun v' h' => by cases h'; trivial) hQ) hS.2.2 hd
      · exact W.zret (v := v) (ty := .boolean) hx hb (by rw [hr]; exact hret) (by rcases hv with rfl | rfl <;> rfl) (hfin (some (pI v)) (fun v' h' => by cases h'; trivial) hQ) hS.2.2 hd
    · exact W.lret (v := v) hx hb (by rw [hr]; exact hret) (hfin (some (pJ v)) (fun v' h' => by cases h'; trivial) hQ) hS.2.2 hd
    · exact W.vret hx hb (by rw [hr]; exact hret) (hfin none (fun v' h' => by cases h') hQ) hS.2.2 hd
    · exact W.aret (v := .ref (ad t i)) (rt := .array .int) hx hb (by rw [hr]; exact hret) (Or.inr ⟨_, rfl⟩) (Or.inr ⟨_, rfl⟩) (hfin (some (pR t i)) (fun v' h' => by cases h'; exact hs.1) hQ) hS.2.2 hd
  · refine ⟨hle.1, hle.2.1, by simp only [List.length_append, List.length_map, List.length_replicate]; omega, fun k v hk => ?_⟩
    rw [hs1]
    by_cases hkl : k < as.length
    · rw [List.getElem?_append_left (by rw [List.length_map]; exact hkl), List.getElem?_map, List.getElem?_eq_getElem hkl] at hk
      have e1 : as[k] = v := Option.some.inj (Option.some.inj hk)
      refine ⟨?_, pm_oks_mem hoks (by rw [← e1]; exact List.getElem_mem hkl)⟩
      rw [List.getElem?_toArray, List.getElem?_append_left (by rw [List.length_map]; exact hkl), List.getElem?_map, List.getElem?_eq_getElem hkl, e1]
      rfl
    · rw [List.getElem?_append_right (by rw [List.length_map]; omega), List.getElem?_replicate] at hk
      split at hk <;> cases hk
theorem Cl.mono {y : MethodName} {bc : ByteArray} {mL fr' lo' : Nat} {ret : Option FieldType} {as : List pm_v} {Q1 Q2 : Option pm_v → pm_M → Prop} (h : Cl y bc mL ret fr' lo' as mem Q1) (hQ : ∀ r mem', Q1 r mem' → Q2 r mem') : Cl y bc mL ret fr' lo' as mem Q2 := by
  intro l S0 a0 ad D cs hG
  refine MetFree.mono (h l S0 a0 ad D cs hG) (fun _ _ hp => hp) (fun _ _ _ _ _ hk => hk) ?_
  intro a st o t _ hp
  obtain ⟨⟨r, mem', h1, h2⟩, h3⟩ := hp
  exact ⟨⟨r, mem', hQ r mem' h1, h2⟩, h3⟩
theorem pr_mabs {idx : Nat} {x : Int32} (q : Nat) (hd : decode cc pc = .ok (.invokestatic idx, 3)) (hlk : Cond.methodLink own idx Lib.Math.abs.name ∈ lw_tbl) (hst : Cond.static Lib.Math.abs.name ∈ lw_tbl) (hin : Cond.initialized "java/lang/Math" ∈ lw_tbl) (hco : Cond.code Lib.Math.abs.name Lib.Math.abs.code 1 (some .int) ∈ lw_tbl) (hr : (st.map pm_cat).sum ≤ 8) (hR : 1 ≤ fr ∧ 21 ≤ lo)
    (hq : pc + 3 = q) (kk : PR cc own nL fr lo q ls (pI (if 0 ≤ x then x else 0 - x) :: st) mem X) : PR cc own nL fr lo pc ls (pI x :: st) mem X := by
  subst hq
  refine PR.step1 (fun {p l e R s m args below meth c cells slots Q S0 a0 ad D cs} H locs la hC hl hs hH hS kk => ?_) kk
  obtain ⟨hx, hb, hml, hown, hG, hD, hfr, hlo, hcl, hsl⟩ := hC
  have hcat : ((st.map (pm_mv ad)).map fun v => v.category).sum = (st.map pm_cat).sum := by
    rw [List.map_map]
    congr 1
    apply List.map_congr_left
    intro v _
    exact pm_mv_cat ad v
  exact va_mabs hx hb (by rw [hml]; exact hl.1.symm) hown (pm_word hG hD _ rfl hlk) (pm_word hG hD _ rfl hst) (pm_word hG hD _ rfl hin) (pm_word hG hD _ rfl hco) (by omega) (by omega) hcl hsl hd (kk la hl ⟨trivial, hs.2⟩)
theorem pr_mmin {idx : Nat} {x y : Int32} (q : Nat) (hd : decode cc pc = .ok (.invokestatic idx, 3)) (hlk : Cond.methodLink own idx Lib.Math.min.name ∈ lw_tbl) (hst : Cond.static Lib.Math.min.name ∈ lw_tbl) (hin : Cond.initialized "java/lang/Math" ∈ lw_tbl) (hco : Cond.code Lib.Math.min.name Lib.Math.min.code 2 (some .int) ∈ lw_tbl) (hr : (st.map pm_cat).sum ≤ 8) (hR : 1 ≤ fr ∧ 22 ≤ lo)
    (hq : pc + 3 = q) (kk : PR cc own nL fr lo q ls (pI (if y < x then y else x) :: st) mem X) : PR cc own nL fr lo pc ls (pI y :: pI x :: st) mem X := by
  subst hq
  refine PR.step1 (fun {p l e R s m args below meth c cells slots Q S0 a0 ad D cs} H locs la hC hl hs hH hS kk => ?_) kk
  obtain ⟨hx, hb, hml, hown, hG, hD, hfr, hlo, hcl, hsl⟩ := hC
  have hcat : ((st.map (pm_mv ad)).map fun v => v.category).sum = (st.map pm_cat).sum := by
    rw [List.map_map]
    congr 1
    apply List.map_congr_left
    intro v _
    exact pm_mv_cat ad v
  exact va_mmin hx hb (by rw [hml]; exact hl.1.symm) hown (pm_word hG hD _ rfl hlk) (pm_word hG hD _ rfl hst) (pm_word hG hD _ rfl hin) (pm_word hG hD _ rfl hco) (by omega) (by omega) hcl hsl hd (kk la hl ⟨trivial, hs.2.2⟩)
/-- returns -/
theorem pr_ireturn {ret : Option FieldType} {Qr : Option pm_v → pm_M → Prop} {v : Int32} (hd : decode cc pc = .ok (.ireturn, 1)) (hr : ret = some .int) (h : Qr (some (pI v)) mem) : PR cc own nL fr lo pc ls [pI v] mem (pm_RX cc ret Qr) := PR.done (Or.inl ⟨v, hd, Or.inl hr, rfl, h⟩)
theorem pr_zreturn {ret : Option FieldType} {Qr : Option pm_v → pm_M → Prop} {v : Int32} (hd : decode cc pc = .ok (.ireturn, 1)) (hr : ret = some .boolean) (hv : v = 0 ∨ v = 1) (h : Qr (some (pI v)) mem) : PR cc own nL fr lo pc ls [pI v] mem (pm_RX cc ret Qr) := PR.done (Or.inl ⟨v, hd, Or.inr ⟨hr, hv⟩, rfl, h⟩)
theorem pr_lreturn {ret : Option FieldType} {Qr : Option pm_v → pm_M → Prop} {v : Int64} (hd : decode cc pc = .ok (.lreturn, 1)) (hr : ret = some .long) (h : Qr (some (pJ v)) mem) : PR cc own nL fr lo pc ls [pJ v] mem (pm_RX cc ret Qr) := PR.done (Or.inr (Or.inl ⟨v, hd, hr, rfl, h⟩))
theorem pr_return {ret : Option FieldType} {Qr : Option pm_v → pm_M → Prop} (hd : decode cc pc = .ok (.return_, 1)) (hr : ret = none) (h : Qr none mem) : PR cc own nL fr lo pc ls [] mem (pm_RX cc ret Qr) := PR.done (Or.inr (Or.inr (Or.inl ⟨hd, hr, rfl, h⟩)))
theorem pr_areturn {ret : Option FieldType} {Qr : Option pm_v → pm_M → Prop} {t i : Nat} (hd : decode cc pc = .ok (.areturn, 1)) (hr : ret = some (.array .int)) (h : Qr (some (pR t i)) mem) : PR cc own nL fr lo pc ls [pR t i] mem (pm_RX cc ret Qr) := PR.done (Or.inr (Or.inr (Or.inr ⟨t, i, hd, hr, rfl, h⟩)))
end PRC
end
section
theorem mX0_init : pm_MW yX0_init cX0_init 1 none 0 := ⟨pm_t2 69 rfl, pm_t1 9 rfl, ⟨by decide +kernel, by decide +kernel⟩, by decide +kernel⟩
theorem mX0_clear : pm_MW yX0_clear cX0_clear 1 none 0 := ⟨pm_t2 222 rfl, pm_t1 9 rfl, ⟨by decide +kernel, by decide +kernel⟩, by decide +kernel⟩
theorem mX0_addPlace : pm_MW yX0_addPlace cX0_addPlace 3 none 2 := ⟨pm_t3 143 rfl, pm_t1 9 rfl, ⟨by decide +kernel, by decide +kernel⟩, by decide +kernel⟩
theorem mX0_addTruck : pm_MW yX0_addTruck cX0_addTruck 3 none 2 := ⟨pm_t3 147 rfl, pm_t1 9 rfl, ⟨by decide +kernel, by decide +kernel⟩, by decide +kernel⟩
theorem mX0_addLoad : pm_MW yX0_addLoad cX0_addLoad 4 none 3 := ⟨pm_t3 151 rfl, pm_t1 9 rfl, ⟨by decide +kernel, by decide +kernel⟩, by decide +kernel⟩
theorem mX0_addTrip : pm_MW yX0_addTrip cX0_addTrip 4 none 3 := ⟨pm_t3 123 rfl, pm_t1 9 rfl, ⟨by decide +kernel, by decide +kernel⟩, by decide +kernel⟩
theorem mX0_addStep : pm_MW yX0_addStep cX0_addStep 3 none 2 := ⟨pm_t3 135 rfl, pm_t1 9 rfl, ⟨by decide +kernel, by decide +kernel⟩, by decide +kernel⟩
theorem mX0_firstStep : pm_MW yX0_firstStep cX0_firstStep 2 (some .int) 1 := ⟨pm_t3 171 rfl, pm_t1 9 rfl, ⟨by decide +kernel, by decide +kernel⟩, by decide +kernel⟩
theorem mX0_fuelTold : pm_MW yX0_fuelTold cX0_fuelTold 4 (some .int) 1 := ⟨pm_t3 227 rfl, pm_t1 9 rfl, ⟨by decide +kernel, by decide +kernel⟩, by decide +kernel⟩
theorem mX0_distance : pm_MW yX0_distance cX0_distance 3 (some .int) 2 := ⟨pm_t3 179 rfl, pm_t1 9 rfl, ⟨by decide +kernel, by decide +kernel⟩, by decide +kernel⟩
theorem mX1_init : pm_MW yX1_init cX1_init 1 none 0 := ⟨pm_t2 46 rfl, pm_t1 8 rfl, ⟨by decide +kernel, by decide +kernel⟩, by decide +kernel⟩
theorem mX1_keep : pm_MW yX1_keep cX1_keep 4 none 3 := ⟨pm_t4 125 rfl, pm_t1 8 rfl, ⟨by decide +kernel, by decide +kernel⟩, by decide +kernel⟩
theorem mX1_forgetOldest : pm_MW yX1_forgetOldest cX1_forgetOldest 2 none 0 := ⟨pm_t4 129 rfl, pm_t1 8 rfl, ⟨by decide +kernel, by decide +kernel⟩, by decide +kernel⟩
theorem mX2_init : pm_MW yX2_init cX2_init 1 none 0 := ⟨pm_t1 197 rfl, pm_t1 6 rfl, ⟨by decide +kernel, by decide +kernel⟩, by decide +kernel⟩
theorem mX2_takeLoads : pm_MW yX2_takeLoads cX2_takeLoads 3 none 1 := ⟨pm_t3 206 rfl, pm_t1 6 rfl, ⟨by decide +kernel, by decide +kernel⟩, by decide +kernel⟩
theorem mX2_splitLoad : pm_MW yX2_splitLoad cX2_splitLoad 3 none 2 := ⟨pm_t4 109 rfl, pm_t1 6 rfl, ⟨by decide +kernel, by decide +kernel⟩, by decide +kernel⟩
theorem mX2_settle : pm_MW yX2_settle cX2_settle 4 none 2 := ⟨pm_t3 210 rfl, pm_t1 6 rfl, ⟨by decide +kernel, by decide +kernel⟩, by decide +kernel⟩
theorem mX2_isIdle : pm_MW yX2_isIdle cX2_isIdle 2 (some .boolean) 1 := ⟨pm_t4 20 rfl, pm_t1 6 rfl, ⟨by decide +kernel, by decide +kernel⟩, by decide +kernel⟩
theorem mX2_estimateOf : pm_MW yX2_estimateOf cX2_estimateOf 2 (some .int) 1 := ⟨pm_t3 214 rfl, pm_t1 6 rfl, ⟨by decide +kernel, by decide +kernel⟩, by decide +kernel⟩
theorem mX2_measureParts : pm_MW yX2_measureParts cX2_measureParts 5 none 1 := ⟨pm_t3 218 rfl, pm_t1 6 rfl, ⟨by decide +kernel, by decide +kernel⟩, by decide +kernel⟩
theorem mX2_closeTruck : pm_MW yX2_closeTruck cX2_closeTruck 7 none 1 := ⟨pm_t3 223 rfl, pm_t1 6 rfl, ⟨by decide +kernel, by decide +kernel⟩, by decide +kernel⟩
theorem mX2_isParted : pm_MW yX2_isParted cX2_isParted 4 (some .boolean) 3 := ⟨pm_t3 239 rfl, pm_t1 6 rfl, ⟨by decide +kernel, by decide +kernel⟩, by decide +kernel⟩
theorem mX2_sumOfMissing : pm_MW yX2_sumOfMissing cX2_sumOfMissing 4 (some .int) 1 := ⟨pm_t3 231 rfl, pm_t1 6 rfl, ⟨by decide +kernel, by decide +kernel⟩, by decide +kernel⟩
theorem mX2_gatherIdle : pm_MW yX2_gatherIdle cX2_gatherIdle 3 none 0 := ⟨pm_t4 16 rfl, pm_t1 6 rfl, ⟨by decide +kernel, by decide +kernel⟩, by decide +kernel⟩
theorem mX2_heirOf : pm_MW yX2_heirOf cX2_heirOf 4 (some .int) 1 := ⟨pm_t4 24 rfl, pm_t1 6 rfl, ⟨by decide +kernel, by decide +kernel⟩, by decide +kernel⟩
theorem mX2_partTrip : pm_MW yX2_partTrip cX2_partTrip 4 none 1 := ⟨pm_t4 28 rfl, pm_t1 6 rfl, ⟨by decide +kernel, by decide +kernel⟩, by decide +kernel⟩
theorem mX2_partOpen : pm_MW yX2_partOpen cX2_partOpen 3 none 0 := ⟨pm_t4 32 rfl, pm_t1 6 rfl, ⟨by decide +kernel, by decide +kernel⟩, by decide +kernel⟩
theorem mX3_init : pm_MW yX3_init cX3_init 1 none 0 := ⟨pm_t1 203 rfl, pm_t1 7 rfl, ⟨by decide +kernel, by decide +kernel⟩, by decide +kernel⟩
theorem mX3_begin : pm_MW yX3_begin cX3_begin 1 none 0 := ⟨pm_t3 235 rfl, pm_t1 7 rfl, ⟨by decide +kernel, by decide +kernel⟩, by decide +kernel⟩
theorem mX3_add : pm_MW yX3_add cX3_add 2 none 1 := ⟨pm_t4 3 rfl, pm_t1 7 rfl, ⟨by decide +kernel, by decide +kernel⟩, by decide +kernel⟩
theorem mX3_divide : pm_MW yX3_divide cX3_divide 8 none 1 := ⟨pm_t4 7 rfl, pm_t1 7 rfl, ⟨by decide +kernel, by decide +kernel⟩, by decide +kernel⟩
theorem mX3_giveOne : pm_MW yX3_giveOne cX3_giveOne 3 none 0 := ⟨pm_t4 11 rfl, pm_t1 7 rfl, ⟨by decide +kernel, by decide +kernel⟩, by decide +kernel⟩
theorem mX4_init : pm_MW yX4_init cX4_init 2 none 1 := ⟨pm_t1 48 rfl, pm_t1 3 rfl, ⟨by decide +kernel, by decide +kernel⟩, by decide +kernel⟩
theorem mX4_read : pm_MW yX4_read cX4_read 3 (some .boolean) 1 := ⟨pm_t2 218 rfl, pm_t1 3 rfl, ⟨by decide +kernel, by decide +kernel⟩, by decide +kernel⟩
theorem mX4_refuse : pm_MW yX4_refuse cX4_refuse 2 (some .boolean) 1 := ⟨pm_t3 87 rfl, pm_t1 3 rfl, ⟨by decide +kernel, by decide +kernel⟩, by decide +kernel⟩
theorem mX4_takeToken : pm_MW yX4_takeToken cX4_takeToken 1 (some .boolean) 0 := ⟨pm_t3 79 rfl, pm_t1 3 rfl, ⟨by decide +kernel, by decide +kernel⟩, by decide +kernel⟩
theorem mX4_beginLine : pm_MW yX4_beginLine cX4_beginLine 2 (some .boolean) 0 := ⟨pm_t3 83 rfl, pm_t1 3 rfl, ⟨by decide +kernel, by decide +kernel⟩, by decide +kernel⟩
theorem mX4_beginLineOf : pm_MW yX4_beginLineOf cX4_beginLineOf 4 (some .boolean) 3 := ⟨pm_t3 91 rfl, pm_t1 3 rfl, ⟨by decide +kernel, by decide +kernel⟩, by decide +kernel⟩
theorem mX4_takeField : pm_MW yX4_takeField cX4_takeField 1 (some .boolean) 0 := ⟨pm_t3 95 rfl, pm_t1 3 rfl, ⟨by decide +kernel, by decide +kernel⟩, by decide +kernel⟩
theorem mX4_takeFieldOfLoad : pm_MW yX4_takeFieldOfLoad cX4_takeFieldOfLoad 2 (some .boolean) 0 := ⟨pm_t3 107 rfl, pm_t1 3 rfl, ⟨by decide +kernel, by decide +kernel⟩, by decide +kernel⟩
theorem mX4_takeFieldOfTrip : pm_MW yX4_takeFieldOfTrip cX4_takeFieldOfTrip 1 (some .boolean) 0 := ⟨pm_t3 119 rfl, pm_t1 3 rfl, ⟨by decide +kernel, by decide +kernel⟩, by decide +kernel⟩
theorem mX4_takeNumber : pm_MW yX4_takeNumber cX4_takeNumber 3 (some .boolean) 2 := ⟨pm_t3 99 rfl, pm_t1 3 rfl, ⟨by decide +kernel, by decide +kernel⟩, by decide +kernel⟩
theorem mX4_takeNumberTold : pm_MW yX4_takeNumberTold cX4_takeNumberTold 2 (some .boolean) 1 := ⟨pm_t3 111 rfl, pm_t1 3 rfl, ⟨by decide +kernel, by decide +kernel⟩, by decide +kernel⟩
theorem mX4_isNumberTold : pm_MW yX4_isNumberTold cX4_isNumberTold 2 (some .boolean) 1 := ⟨pm_t3 115 rfl, pm_t1 3 rfl, ⟨by decide +kernel, by decide +kernel⟩, by decide +kernel⟩
theorem mX4_keepField : pm_MW yX4_keepField cX4_keepField 2 (some .boolean) 1 := ⟨pm_t3 103 rfl, pm_t1 3 rfl, ⟨by decide +kernel, by decide +kernel⟩, by decide +kernel⟩
theorem mX4_takeStep : pm_MW yX4_takeStep cX4_takeStep 1 (some .boolean) 0 := ⟨pm_t3 127 rfl, pm_t1 3 rfl, ⟨by decide +kernel, by decide +kernel⟩, by decide +kernel⟩
theorem mX4_takeNumberOfStep : pm_MW yX4_takeNumberOfStep cX4_takeNumberOfStep 2 (some .boolean) 0 := ⟨pm_t3 131 rfl, pm_t1 3 rfl, ⟨by decide +kernel, by decide +kernel⟩, by decide +kernel⟩
theorem mX4_endLine : pm_MW yX4_endLine cX4_endLine 1 (some .boolean) 0 := ⟨pm_t3 139 rfl, pm_t1 3 rfl, ⟨by decide +kernel, by decide +kernel⟩, by decide +kernel⟩
theorem mX5_init : pm_MW yX5_init cX5_init 1 none 0 := ⟨pm_t1 123 rfl, pm_t1 5 rfl, ⟨by decide +kernel, by decide +kernel⟩, by decide +kernel⟩
theorem mX5_survey : pm_MW yX5_survey cX5_survey 3 none 1 := ⟨pm_t3 159 rfl, pm_t1 5 rfl, ⟨by decide +kernel, by decide +kernel⟩, by decide +kernel⟩
theorem mX5_clear : pm_MW yX5_clear cX5_clear 3 none 0 := ⟨pm_t3 163 rfl, pm_t1 5 rfl, ⟨by decide +kernel, by decide +kernel⟩, by decide +kernel⟩
theorem mX5_drive : pm_MW yX5_drive cX5_drive 7 none 1 := ⟨pm_t3 167 rfl, pm_t1 5 rfl, ⟨by decide +kernel, by decide +kernel⟩, by decide +kernel⟩
theorem mX5_driveLeg : pm_MW yX5_driveLeg cX5_driveLeg 7 none 4 := ⟨pm_t3 175 rfl, pm_t1 5 rfl, ⟨by decide +kernel, by decide +kernel⟩, by decide +kernel⟩
theorem mX5_findGapsOfTruck : pm_MW yX5_findGapsOfTruck cX5_findGapsOfTruck 4 none 1 := ⟨pm_t3 186 rfl, pm_t1 5 rfl, ⟨by decide +kernel, by decide +kernel⟩, by decide +kernel⟩
theorem mX5_followLoad : pm_MW yX5_followLoad cX5_followLoad 6 none 1 := ⟨pm_t3 194 rfl, pm_t1 5 rfl, ⟨by decide +kernel, by decide +kernel⟩, by decide +kernel⟩
theorem mX5_addGapOfLoad : pm_MW yX5_addGapOfLoad cX5_addGapOfLoad 4 none 3 := ⟨pm_t3 198 rfl, pm_t1 5 rfl, ⟨by decide +kernel, by decide +kernel⟩, by decide +kernel⟩
theorem mX5_addGap : pm_MW yX5_addGap cX5_addGap 4 none 3 := ⟨pm_t3 190 rfl, pm_t1 5 rfl, ⟨by decide +kernel, by decide +kernel⟩, by decide +kernel⟩
theorem mX6_init : pm_MW yX6_init cX6_init 2 none 1 := ⟨pm_t1 54 rfl, pm_t1 4 rfl, ⟨by decide +kernel, by decide +kernel⟩, by decide +kernel⟩
theorem mX6_begin : pm_MW yX6_begin cX6_begin 1 none 0 := ⟨pm_t2 226 rfl, pm_t1 4 rfl, ⟨by decide +kernel, by decide +kernel⟩, by decide +kernel⟩
theorem mX6_hasTooMany : pm_MW yX6_hasTooMany cX6_hasTooMany 1 (some .boolean) 0 := ⟨pm_t3 155 rfl, pm_t1 4 rfl, ⟨by decide +kernel, by decide +kernel⟩, by decide +kernel⟩
theorem mX6_next : pm_MW yX6_next cX6_next 1 none 0 := ⟨pm_t2 233 rfl, pm_t1 4 rfl, ⟨by decide +kernel, by decide +kernel⟩, by decide +kernel⟩
theorem mX6_readRun : pm_MW yX6_readRun cX6_readRun 4 (some .int) 0 := ⟨pm_t3 4 rfl, pm_t1 4 rfl, ⟨by decide +kernel, by decide +kernel⟩, by decide +kernel⟩
theorem mX6_wordKind : pm_MW yX6_wordKind cX6_wordKind 1 (some .int) 0 := ⟨pm_t3 14 rfl, pm_t1 4 rfl, ⟨by decide +kernel, by decide +kernel⟩, by decide +kernel⟩
theorem mX6_spells : pm_MW yX6_spells cX6_spells 3 (some .boolean) 1 := ⟨pm_t3 19 rfl, pm_t1 4 rfl, ⟨by decide +kernel, by decide +kernel⟩, by decide +kernel⟩
theorem mX6_isBlank : pm_MW yX6_isBlank cX6_isBlank 1 (some .boolean) 1 := ⟨pm_t3 0 rfl, pm_t1 4 rfl, ⟨by decide +kernel, by decide +kernel⟩, by decide +kernel⟩
theorem mX6_isLetter : pm_MW yX6_isLetter cX6_isLetter 1 (some .boolean) 1 := ⟨pm_t3 7 rfl, pm_t1 4 rfl, ⟨by decide +kernel, by decide +kernel⟩, by decide +kernel⟩
theorem mX6_isDigit : pm_MW yX6_isDigit cX6_isDigit 1 (some .boolean) 1 := ⟨pm_t3 10 rfl, pm_t1 4 rfl, ⟨by decide +kernel, by decide +kernel⟩, by decide +kernel⟩
theorem mX7_init : pm_MW yX7_init cX7_init 1 none 0 := ⟨pm_t1 32 rfl, pm_t1 2 rfl, ⟨by decide +kernel, by decide +kernel⟩, by decide +kernel⟩
theorem mX7_addNumber : pm_MW yX7_addNumber cX7_addNumber 2 none 1 := ⟨pm_t2 202 rfl, pm_t1 2 rfl, ⟨by decide +kernel, by decide +kernel⟩, by decide +kernel⟩
theorem mX7_addByte : pm_MW yX7_addByte cX7_addByte 2 none 1 := ⟨pm_t2 206 rfl, pm_t1 2 rfl, ⟨by decide +kernel, by decide +kernel⟩, by decide +kernel⟩
theorem mX7_byteAt : pm_MW yX7_byteAt cX7_byteAt 2 (some .int) 1 := ⟨pm_t2 237 rfl, pm_t1 2 rfl, ⟨by decide +kernel, by decide +kernel⟩, by decide +kernel⟩
theorem mX8_init : pm_MW yX8_init cX8_init 1 none 0 := ⟨pm_t1 24 rfl, pm_t1 1 rfl, ⟨by decide +kernel, by decide +kernel⟩, by decide +kernel⟩
theorem mX8_feed : pm_MW yX8_feed cX8_feed 6 (some .int) 5 := ⟨pm_t2 198 rfl, pm_t1 1 rfl, ⟨by decide +kernel, by decide +kernel⟩, by decide +kernel⟩
theorem mX8_end : pm_MW yX8_end cX8_end 2 (some .boolean) 1 := ⟨pm_t2 210 rfl, pm_t1 1 rfl, ⟨by decide +kernel, by decide +kernel⟩, by decide +kernel⟩
theorem mX8_text : pm_MW yX8_text cX8_text 3 (some .int) 0 := ⟨pm_t2 214 rfl, pm_t1 1 rfl, ⟨by decide +kernel, by decide +kernel⟩, by decide +kernel⟩
theorem mX8_fault : pm_MW yX8_fault cX8_fault 1 (some .int) 0 := ⟨pm_t4 36 rfl, pm_t1 1 rfl, ⟨by decide +kernel, by decide +kernel⟩, by decide +kernel⟩
theorem mX8_now : pm_MW yX8_now cX8_now 2 (some .int) 1 := ⟨pm_t4 40 rfl, pm_t1 1 rfl, ⟨by decide +kernel, by decide +kernel⟩, by decide +kernel⟩
theorem mX8_direct : pm_MW yX8_direct cX8_direct 3 (some .int) 2 := ⟨pm_t4 51 rfl, pm_t1 1 rfl, ⟨by decide +kernel, by decide +kernel⟩, by decide +kernel⟩
theorem mX8_truck : pm_MW yX8_truck cX8_truck 3 (some .int) 2 := ⟨pm_t4 59 rfl, pm_t1 1 rfl, ⟨by decide +kernel, by decide +kernel⟩, by decide +kernel⟩
theorem mX8_load : pm_MW yX8_load cX8_load 3 (some .int) 2 := ⟨pm_t4 153 rfl, pm_t1 1 rfl, ⟨by decide +kernel, by decide +kernel⟩, by decide +kernel⟩
theorem mX8_trip : pm_MW yX8_trip cX8_trip 3 (some .int) 2 := ⟨pm_t5 0 rfl, pm_t1 1 rfl, ⟨by decide +kernel, by decide +kernel⟩, by decide +kernel⟩
theorem mX8_share : pm_MW yX8_share cX8_share 3 (some .int) 2 := ⟨pm_t4 76 rfl, pm_t1 1 rfl, ⟨by decide +kernel, by decide +kernel⟩, by decide +kernel⟩
theorem mX8_gap : pm_MW yX8_gap cX8_gap 3 (some .int) 2 := ⟨pm_t4 80 rfl, pm_t1 1 rfl, ⟨by decide +kernel, by decide +kernel⟩, by decide +kernel⟩
theorem mX8_way : pm_MW yX8_way cX8_way 3 (some .int) 2 := ⟨pm_t4 84 rfl, pm_t1 1 rfl, ⟨by decide +kernel, by decide +kernel⟩, by decide +kernel⟩
theorem mX8_busiest : pm_MW yX8_busiest cX8_busiest 5 (some .int) 0 := ⟨pm_t4 88 rfl, pm_t1 1 rfl, ⟨by decide +kernel, by decide +kernel⟩, by decide +kernel⟩
theorem mX8_hub : pm_MW yX8_hub cX8_hub 4 (some .int) 1 := ⟨pm_t4 92 rfl, pm_t1 1 rfl, ⟨by decide +kernel, by decide +kernel⟩, by decide +kernel⟩
theorem mX8_dearest : pm_MW yX8_dearest cX8_dearest 3 (some .int) 0 := ⟨pm_t4 96 rfl, pm_t1 1 rfl, ⟨by decide +kernel, by decide +kernel⟩, by decide +kernel⟩
theorem mX8_split : pm_MW yX8_split cX8_split 5 (some .int) 3 := ⟨pm_t4 105 rfl, pm_t1 1 rfl, ⟨by decide +kernel, by decide +kernel⟩, by decide +kernel⟩
theorem mX8_without : pm_MW yX8_without cX8_without 3 (some .int) 2 := ⟨pm_t4 113 rfl, pm_t1 1 rfl, ⟨by decide +kernel, by decide +kernel⟩, by decide +kernel⟩
theorem mX8_fuel : pm_MW yX8_fuel cX8_fuel 3 (some .int) 2 := ⟨pm_t4 117 rfl, pm_t1 1 rfl, ⟨by decide +kernel, by decide +kernel⟩, by decide +kernel⟩
theorem mX8_buy : pm_MW yX8_buy cX8_buy 3 (some .int) 2 := ⟨pm_t4 133 rfl, pm_t1 1 rfl, ⟨by decide +kernel, by decide +kernel⟩, by decide +kernel⟩
theorem mX8_weigh : pm_MW yX8_weigh cX8_weigh 3 (some .int) 2 := ⟨pm_t4 137 rfl, pm_t1 1 rfl, ⟨by decide +kernel, by decide +kernel⟩, by decide +kernel⟩
theorem mX8_undo : pm_MW yX8_undo cX8_undo 2 (some .int) 0 := ⟨pm_t4 141 rfl, pm_t1 1 rfl, ⟨by decide +kernel, by decide +kernel⟩, by decide +kernel⟩
theorem mX8_isIn : pm_MW yX8_isIn cX8_isIn 2 (some .boolean) 2 := ⟨pm_t4 54 rfl, pm_t1 1 rfl, ⟨by decide +kernel, by decide +kernel⟩, by decide +kernel⟩
theorem mX8_sumOf : pm_MW yX8_sumOf cX8_sumOf 4 (some .int) 2 := ⟨pm_t4 43 rfl, pm_t1 1 rfl, ⟨by decide +kernel, by decide +kernel⟩, by decide +kernel⟩
theorem mX8_settle : pm_MW yX8_settle cX8_settle 1 none 0 := ⟨pm_t3 202 rfl, pm_t1 1 rfl, ⟨by decide +kernel, by decide +kernel⟩, by decide +kernel⟩
theorem mX8_change : pm_MW yX8_change cX8_change 6 (some .int) 4 := ⟨pm_t4 121 rfl, pm_t1 1 rfl, ⟨by decide +kernel, by decide +kernel⟩, by decide +kernel⟩
theorem mX8_rowOf : pm_MW yX8_rowOf cX8_rowOf 2 (some (.array .int)) 1 := ⟨pm_t4 145 rfl, pm_t1 1 rfl, ⟨by decide +kernel, by decide +kernel⟩, by decide +kernel⟩
theorem mX8_hubBits : pm_MW yX8_hubBits cX8_hubBits 4 (some .int) 0 := ⟨pm_t4 47 rfl, pm_t1 1 rfl, ⟨by decide +kernel, by decide +kernel⟩, by decide +kernel⟩
theorem mX8_tripBits : pm_MW yX8_tripBits cX8_tripBits 4 (some .int) 1 := ⟨pm_t4 63 rfl, pm_t1 1 rfl, ⟨by decide +kernel, by decide +kernel⟩, by decide +kernel⟩
theorem mX8_sumOverTrips : pm_MW yX8_sumOverTrips cX8_sumOverTrips 5 (some .int) 2 := ⟨pm_t4 67 rfl, pm_t1 1 rfl, ⟨by decide +kernel, by decide +kernel⟩, by decide +kernel⟩
theorem mX8_lastPlace : pm_MW yX8_lastPlace cX8_lastPlace 4 (some .int) 1 := ⟨pm_t4 72 rfl, pm_t1 1 rfl, ⟨by decide +kernel, by decide +kernel⟩, by decide +kernel⟩
theorem mX8_tripBitsOfLoad : pm_MW yX8_tripBitsOfLoad cX8_tripBitsOfLoad 4 (some .int) 1 := ⟨pm_t4 222 rfl, pm_t1 1 rfl, ⟨by decide +kernel, by decide +kernel⟩, by decide +kernel⟩
theorem mX8_partsOfLoad : pm_MW yX8_partsOfLoad cX8_partsOfLoad 4 (some .int) 1 := ⟨pm_t4 226 rfl, pm_t1 1 rfl, ⟨by decide +kernel, by decide +kernel⟩, by decide +kernel⟩
theorem mX8_due : pm_MW yX8_due cX8_due 4 (some .int) 1 := ⟨pm_t4 230 rfl, pm_t1 1 rfl, ⟨by decide +kernel, by decide +kernel⟩, by decide +kernel⟩
theorem mX8_isDearer : pm_MW yX8_isDearer cX8_isDearer 7 (some .boolean) 2 := ⟨pm_t4 101 rfl, pm_t1 1 rfl, ⟨by decide +kernel, by decide +kernel⟩, by decide +kernel⟩
theorem mX9_thrown : pm_MW yX9_thrown cX9_thrown 1 (some .int) 0 := ⟨pm_t5 6 rfl, pm_t1 10 rfl, ⟨by decide +kernel, by decide +kernel⟩, by decide +kernel⟩
theorem mX9_refuse : pm_MW yX9_refuse cX9_refuse 1 (some .int) 0 := ⟨pm_t6 68 rfl, pm_t1 10 rfl, ⟨by decide +kernel, by decide +kernel⟩, by decide +kernel⟩
theorem mX9_isIn : pm_MW yX9_isIn cX9_isIn 3 (some .boolean) 3 := ⟨pm_t5 161 rfl, pm_t1 10 rfl, ⟨by decide +kernel, by decide +kernel⟩, by decide +kernel⟩
theorem mX9_has : pm_MW yX9_has cX9_has 2 (some .boolean) 2 := ⟨pm_t5 191 rfl, pm_t1 10 rfl, ⟨by decide +kernel, by decide +kernel⟩, by decide +kernel⟩
theorem mX9_lays : pm_MW yX9_lays cX9_lays 3 none 1 := ⟨pm_t5 15 rfl, pm_t1 10 rfl, ⟨by decide +kernel, by decide +kernel⟩, by decide +kernel⟩
theorem mX9_feed : pm_MW yX9_feed cX9_feed 6 (some .int) 5 := ⟨pm_t5 10 rfl, pm_t1 10 rfl, ⟨by decide +kernel, by decide +kernel⟩, by decide +kernel⟩
theorem mX9_end : pm_MW yX9_end cX9_end 2 (some .boolean) 1 := ⟨pm_t5 19 rfl, pm_t1 10 rfl, ⟨by decide +kernel, by decide +kernel⟩, by decide +kernel⟩
theorem mX9_tapeAt : pm_MW yX9_tapeAt cX9_tapeAt 2 (some .int) 1 := ⟨pm_t5 136 rfl, pm_t1 10 rfl, ⟨by decide +kernel, by decide +kernel⟩, by decide +kernel⟩
theorem mX9_isDigit : pm_MW yX9_isDigit cX9_isDigit 1 (some .boolean) 1 := ⟨pm_t5 132 rfl, pm_t1 10 rfl, ⟨by decide +kernel, by decide +kernel⟩, by decide +kernel⟩
theorem mX9_isLetter : pm_MW yX9_isLetter cX9_isLetter 1 (some .boolean) 1 := ⟨pm_t5 129 rfl, pm_t1 10 rfl, ⟨by decide +kernel, by decide +kernel⟩, by decide +kernel⟩
theorem mX9_go : pm_MW yX9_go cX9_go 5 none 0 := ⟨pm_t5 126 rfl, pm_t1 10 rfl, ⟨by decide +kernel, by decide +kernel⟩, by decide +kernel⟩
theorem mX9_is : pm_MW yX9_is cX9_is 8 (some .boolean) 5 := ⟨pm_t5 146 rfl, pm_t1 10 rfl, ⟨by decide +kernel, by decide +kernel⟩, by decide +kernel⟩
theorem mX9_bad : pm_MW yX9_bad cX9_bad 2 (some .boolean) 1 := ⟨pm_t5 158 rfl, pm_t1 10 rfl, ⟨by decide +kernel, by decide +kernel⟩, by decide +kernel⟩
theorem mX9_init : pm_MW yX9_init cX9_init 1 none 0 := ⟨pm_t5 23 rfl, pm_t1 10 rfl, ⟨by decide +kernel, by decide +kernel⟩, by decide +kernel⟩
theorem mX9_told : pm_MW yX9_told cX9_told 5 (some .int) 3 := ⟨pm_t5 154 rfl, pm_t1 10 rfl, ⟨by decide +kernel, by decide +kernel⟩, by decide +kernel⟩
theorem mX9_toldPlace : pm_MW yX9_toldPlace cX9_toldPlace 1 (some .int) 0 := ⟨pm_t5 177 rfl, pm_t1 10 rfl, ⟨by decide +kernel, by decide +kernel⟩, by decide +kernel⟩
theorem mX9_readDesk : pm_MW yX9_readDesk cX9_readDesk 2 (some .boolean) 0 := ⟨pm_t5 150 rfl, pm_t1 10 rfl, ⟨by decide +kernel, by decide +kernel⟩, by decide +kernel⟩
theorem mX9_readPlace : pm_MW yX9_readPlace cX9_readPlace 4 (some .boolean) 0 := ⟨pm_t5 165 rfl, pm_t1 10 rfl, ⟨by decide +kernel, by decide +kernel⟩, by decide +kernel⟩
theorem mX9_readTruck : pm_MW yX9_readTruck cX9_readTruck 4 (some .boolean) 0 := ⟨pm_t5 169 rfl, pm_t1 10 rfl, ⟨by decide +kernel, by decide +kernel⟩, by decide +kernel⟩
theorem mX9_readLoad : pm_MW yX9_readLoad cX9_readLoad 5 (some .boolean) 0 := ⟨pm_t5 173 rfl, pm_t1 10 rfl, ⟨by decide +kernel, by decide +kernel⟩, by decide +kernel⟩
theorem mX9_directOf : pm_MW yX9_directOf cX9_directOf 5 (some .int) 3 := ⟨pm_t5 188 rfl, pm_t1 10 rfl, ⟨by decide +kernel, by decide +kernel⟩, by decide +kernel⟩
theorem mX9_goesTo : pm_MW yX9_goesTo cX9_goesTo 7 none 3 := ⟨pm_t5 185 rfl, pm_t1 10 rfl, ⟨by decide +kernel, by decide +kernel⟩, by decide +kernel⟩
theorem mX9_readTrip : pm_MW yX9_readTrip cX9_readTrip 9 (some .boolean) 0 := ⟨pm_t5 181 rfl, pm_t1 10 rfl, ⟨by decide +kernel, by decide +kernel⟩, by decide +kernel⟩
theorem mX9_readLine : pm_MW yX9_readLine cX9_readLine 2 (some .boolean) 1 := ⟨pm_t5 142 rfl, pm_t1 10 rfl, ⟨by decide +kernel, by decide +kernel⟩, by decide +kernel⟩
theorem mX9_readEnd : pm_MW yX9_readEnd cX9_readEnd 1 (some .boolean) 0 := ⟨pm_t5 195 rfl, pm_t1 10 rfl, ⟨by decide +kernel, by decide +kernel⟩, by decide +kernel⟩
theorem mX9_text : pm_MW yX9_text cX9_text 3 (some .int) 0 := ⟨pm_t5 122 rfl, pm_t1 10 rfl, ⟨by decide +kernel, by decide +kernel⟩, by decide +kernel⟩
theorem mX9_fault : pm_MW yX9_fault cX9_fault 1 (some .int) 0 := ⟨pm_t5 199 rfl, pm_t1 10 rfl, ⟨by decide +kernel, by decide +kernel⟩, by decide +kernel⟩
theorem mX9_loads : pm_MW yX9_loads cX9_loads 1 (some .int) 0 := ⟨pm_t5 207 rfl, pm_t1 10 rfl, ⟨by decide +kernel, by decide +kernel⟩, by decide +kernel⟩
theorem mX9_trips : pm_MW yX9_trips cX9_trips 1 (some .int) 0 := ⟨pm_t5 211 rfl, pm_t1 10 rfl, ⟨by decide +kernel, by decide +kernel⟩, by decide +kernel⟩
theorem mX9_isPlace : pm_MW yX9_isPlace cX9_isPlace 2 (some .boolean) 1 := ⟨pm_t6 48 rfl, pm_t1 10 rfl, ⟨by decide +kernel, by decide +kernel⟩, by decide +kernel⟩
theorem mX9_isTruck : pm_MW yX9_isTruck cX9_isTruck 2 (some .boolean) 1 := ⟨pm_t6 56 rfl, pm_t1 10 rfl, ⟨by decide +kernel, by decide +kernel⟩, by decide +kernel⟩
theorem mX9_isLoad : pm_MW yX9_isLoad cX9_isLoad 2 (some .boolean) 1 := ⟨pm_t6 64 rfl, pm_t1 10 rfl, ⟨by decide +kernel, by decide +kernel⟩, by decide +kernel⟩
theorem mX9_isTrip : pm_MW yX9_isTrip cX9_isTrip 2 (some .boolean) 1 := ⟨pm_t6 86 rfl, pm_t1 10 rfl, ⟨by decide +kernel, by decide +kernel⟩, by decide +kernel⟩
theorem mX9_its : pm_MW yX9_its cX9_its 3 (some .int) 2 := ⟨pm_t5 231 rfl, pm_t1 10 rfl, ⟨by decide +kernel, by decide +kernel⟩, by decide +kernel⟩
theorem mX9_laysWeights : pm_MW yX9_laysWeights cX9_laysWeights 2 none 0 := ⟨pm_t5 219 rfl, pm_t1 10 rfl, ⟨by decide +kernel, by decide +kernel⟩, by decide +kernel⟩
theorem mX9_partOf : pm_MW yX9_partOf cX9_partOf 4 (some .long) 2 := ⟨pm_t6 12 rfl, pm_t1 10 rfl, ⟨by decide +kernel, by decide +kernel⟩, by decide +kernel⟩
theorem mX9_partsOf : pm_MW yX9_partsOf cX9_partsOf 5 (some .long) 1 := ⟨pm_t6 8 rfl, pm_t1 10 rfl, ⟨by decide +kernel, by decide +kernel⟩, by decide +kernel⟩
theorem mX9_parts : pm_MW yX9_parts cX9_parts 8 none 2 := ⟨pm_t5 239 rfl, pm_t1 10 rfl, ⟨by decide +kernel, by decide +kernel⟩, by decide +kernel⟩
theorem mX9_estimateOf : pm_MW yX9_estimateOf cX9_estimateOf 3 (some .int) 1 := ⟨pm_t5 235 rfl, pm_t1 10 rfl, ⟨by decide +kernel, by decide +kernel⟩, by decide +kernel⟩
theorem mX9_closes : pm_MW yX9_closes cX9_closes 9 none 1 := ⟨pm_t5 227 rfl, pm_t1 10 rfl, ⟨by decide +kernel, by decide +kernel⟩, by decide +kernel⟩
theorem mX9_isIdle : pm_MW yX9_isIdle cX9_isIdle 2 (some .boolean) 1 := ⟨pm_t6 4 rfl, pm_t1 10 rfl, ⟨by decide +kernel, by decide +kernel⟩, by decide +kernel⟩
theorem mX9_nextOf : pm_MW yX9_nextOf cX9_nextOf 3 (some .int) 1 := ⟨pm_t6 16 rfl, pm_t1 10 rfl, ⟨by decide +kernel, by decide +kernel⟩, by decide +kernel⟩
theorem mX9_gives : pm_MW yX9_gives cX9_gives 4 none 3 := ⟨pm_t6 24 rfl, pm_t1 10 rfl, ⟨by decide +kernel, by decide +kernel⟩, by decide +kernel⟩
theorem mX9_laysAccount : pm_MW yX9_laysAccount cX9_laysAccount 3 none 0 := ⟨pm_t5 223 rfl, pm_t1 10 rfl, ⟨by decide +kernel, by decide +kernel⟩, by decide +kernel⟩
theorem mX9_laysTrip : pm_MW yX9_laysTrip cX9_laysTrip 4 none 1 := ⟨pm_t6 20 rfl, pm_t1 10 rfl, ⟨by decide +kernel, by decide +kernel⟩, by decide +kernel⟩
theorem mX9_account : pm_MW yX9_account cX9_account 1 none 0 := ⟨pm_t5 215 rfl, pm_t1 10 rfl, ⟨by decide +kernel, by decide +kernel⟩, by decide +kernel⟩
theorem mX9_adds : pm_MW yX9_adds cX9_adds 4 none 3 := ⟨pm_t6 40 rfl, pm_t1 10 rfl, ⟨by decide +kernel, by decide +kernel⟩, by decide +kernel⟩
theorem mX9_laysGaps : pm_MW yX9_laysGaps cX9_laysGaps 4 none 0 := ⟨pm_t6 36 rfl, pm_t1 10 rfl, ⟨by decide +kernel, by decide +kernel⟩, by decide +kernel⟩
theorem mX9_changed : pm_MW yX9_changed cX9_changed 7 (some .int) 2 := ⟨pm_t6 32 rfl, pm_t1 10 rfl, ⟨by decide +kernel, by decide +kernel⟩, by decide +kernel⟩
theorem mX9_hubs : pm_MW yX9_hubs cX9_hubs 3 (some .int) 0 := ⟨pm_t6 28 rfl, pm_t1 10 rfl, ⟨by decide +kernel, by decide +kernel⟩, by decide +kernel⟩
theorem mX9_now : pm_MW yX9_now cX9_now 4 (some .int) 1 := ⟨pm_t5 203 rfl, pm_t1 10 rfl, ⟨by decide +kernel, by decide +kernel⟩, by decide +kernel⟩
theorem mX9_direct : pm_MW yX9_direct cX9_direct 3 (some .int) 2 := ⟨pm_t6 44 rfl, pm_t1 10 rfl, ⟨by decide +kernel, by decide +kernel⟩, by decide +kernel⟩
theorem mX9_truck : pm_MW yX9_truck cX9_truck 5 (some .int) 2 := ⟨pm_t6 52 rfl, pm_t1 10 rfl, ⟨by decide +kernel, by decide +kernel⟩, by decide +kernel⟩
theorem mX9_dueOf : pm_MW yX9_dueOf cX9_dueOf 5 (some .int) 1 := ⟨pm_t6 72 rfl, pm_t1 10 rfl, ⟨by decide +kernel, by decide +kernel⟩, by decide +kernel⟩
theorem mX9_countsOf : pm_MW yX9_countsOf cX9_countsOf 5 (some .int) 2 := ⟨pm_t6 78 rfl, pm_t1 10 rfl, ⟨by decide +kernel, by decide +kernel⟩, by decide +kernel⟩
theorem mX9_load : pm_MW yX9_load cX9_load 3 (some .int) 2 := ⟨pm_t6 60 rfl, pm_t1 10 rfl, ⟨by decide +kernel, by decide +kernel⟩, by decide +kernel⟩
theorem mX9_trip : pm_MW yX9_trip cX9_trip 3 (some .int) 2 := ⟨pm_t6 82 rfl, pm_t1 10 rfl, ⟨by decide +kernel, by decide +kernel⟩, by decide +kernel⟩
theorem mX9_share : pm_MW yX9_share cX9_share 3 (some .int) 2 := ⟨pm_t6 90 rfl, pm_t1 10 rfl, ⟨by decide +kernel, by decide +kernel⟩, by decide +kernel⟩
theorem mX9_gap : pm_MW yX9_gap cX9_gap 3 (some .int) 2 := ⟨pm_t6 94 rfl, pm_t1 10 rfl, ⟨by decide +kernel, by decide +kernel⟩, by decide +kernel⟩
theorem mX9_way : pm_MW yX9_way cX9_way 3 (some .int) 2 := ⟨pm_t6 98 rfl, pm_t1 10 rfl, ⟨by decide +kernel, by decide +kernel⟩, by decide +kernel⟩
theorem mX9_busiest : pm_MW yX9_busiest cX9_busiest 3 (some .int) 0 := ⟨pm_t6 102 rfl, pm_t1 10 rfl, ⟨by decide +kernel, by decide +kernel⟩, by decide +kernel⟩
theorem mX9_hub : pm_MW yX9_hub cX9_hub 2 (some .int) 1 := ⟨pm_t6 106 rfl, pm_t1 10 rfl, ⟨by decide +kernel, by decide +kernel⟩, by decide +kernel⟩
theorem mX9_split : pm_MW yX9_split cX9_split 4 (some .int) 3 := ⟨pm_t6 110 rfl, pm_t1 10 rfl, ⟨by decide +kernel, by decide +kernel⟩, by decide +kernel⟩
theorem mX9_without : pm_MW yX9_without cX9_without 3 (some .int) 2 := ⟨pm_t6 114 rfl, pm_t1 10 rfl, ⟨by decide +kernel, by decide +kernel⟩, by decide +kernel⟩
theorem mX9_dearest : pm_MW yX9_dearest cX9_dearest 3 (some .int) 0 := ⟨pm_t6 118 rfl, pm_t1 10 rfl, ⟨by decide +kernel, by decide +kernel⟩, by decide +kernel⟩
theorem mX9_snap : pm_MW yX9_snap cX9_snap 2 none 0 := ⟨pm_t6 130 rfl, pm_t1 10 rfl, ⟨by decide +kernel, by decide +kernel⟩, by decide +kernel⟩
theorem mX9_tells : pm_MW yX9_tells cX9_tells 4 (some .int) 2 := ⟨pm_t6 126 rfl, pm_t1 10 rfl, ⟨by decide +kernel, by decide +kernel⟩, by decide +kernel⟩
theorem mX9_fuel : pm_MW yX9_fuel cX9_fuel 3 (some .int) 2 := ⟨pm_t6 122 rfl, pm_t1 10 rfl, ⟨by decide +kernel, by decide +kernel⟩, by decide +kernel⟩
theorem mX9_buy : pm_MW yX9_buy cX9_buy 3 (some .int) 2 := ⟨pm_t6 134 rfl, pm_t1 10 rfl, ⟨by decide +kernel, by decide +kernel⟩, by decide +kernel⟩
theorem mX9_weigh : pm_MW yX9_weigh cX9_weigh 3 (some .int) 2 := ⟨pm_t6 138 rfl, pm_t1 10 rfl, ⟨by decide +kernel, by decide +kernel⟩, by decide +kernel⟩
theorem mX9_undo : pm_MW yX9_undo cX9_undo 2 (some .int) 0 := ⟨pm_t6 142 rfl, pm_t1 10 rfl, ⟨by decide +kernel, by decide +kernel⟩, by decide +kernel⟩
theorem vL_22 : pm_CV RL 22 yX8_feed 10008908 := ⟨rfl, ⟨_, rfl, rfl⟩, pm_t2 195 rfl, pm_t2 196 rfl, pm_t2 197 rfl⟩
theorem vX8_66 : pm_CV RX8 66 yX7_addNumber 10007907 := ⟨rfl, ⟨_, rfl, rfl⟩, pm_t2 199 rfl, pm_t2 200 rfl, pm_t2 201 rfl⟩
theorem vX7_15 : pm_CV RX7 15 yX7_addByte 10007907 := ⟨rfl, ⟨_, rfl, rfl⟩, pm_t2 203 rfl, pm_t2 205 rfl, List.mem_append_left _ (List.mem_of_getElem? (i := 0) rfl)⟩
theorem vL_27 : pm_CV RL 27 yX8_end 10008908 := ⟨rfl, ⟨_, rfl, rfl⟩, pm_t2 207 rfl, pm_t2 208 rfl, pm_t2 209 rfl⟩
theorem vL_32 : pm_CV RL 32 yX8_text 10008908 := ⟨rfl, ⟨_, rfl, rfl⟩, pm_t2 211 rfl, pm_t2 212 rfl, pm_t2 213 rfl⟩
theorem vX8_70 : pm_CV RX8 70 yX4_read 10004904 := ⟨rfl, ⟨_, rfl, rfl⟩, pm_t2 215 rfl, pm_t2 216 rfl, pm_t2 217 rfl⟩
theorem vX4_28 : pm_CV RX4 28 yX0_clear 10000900 := ⟨rfl, ⟨_, rfl, rfl⟩, pm_t2 219 rfl, pm_t2 220 rfl, pm_t2 221 rfl⟩
theorem vX4_46 : pm_CV RX4 46 yX6_begin 10006906 := ⟨rfl, ⟨_, rfl, rfl⟩, pm_t2 223 rfl, pm_t2 224 rfl, pm_t2 225 rfl⟩
theorem jX6_24 : Cond.methodLink RX6 24 Lib.Math.min.name ∈ lw_tbl := pm_t2 227 rfl
theorem vX4_49 : pm_CV RX4 49 yX6_next 10006906 := ⟨rfl, ⟨_, rfl, rfl⟩, pm_t2 230 rfl, pm_t2 231 rfl, pm_t2 232 rfl⟩
theorem vX6_33 : pm_CV RX6 33 yX7_byteAt 10007907 := ⟨rfl, ⟨_, rfl, rfl⟩, pm_t2 234 rfl, pm_t2 235 rfl, pm_t2 236 rfl⟩
theorem sX6_37 : pm_CS RX6 37 yX6_isBlank := ⟨pm_t2 238 rfl, pm_t2 239 rfl⟩
theorem vX6_47 : pm_CV RX6 47 yX6_readRun 10006906 := ⟨rfl, ⟨_, rfl, rfl⟩, pm_t3 1 rfl, pm_t3 3 rfl, List.mem_append_left _ (List.mem_of_getElem? (i := 1) rfl)⟩
theorem sX6_54 : pm_CS RX6 54 yX6_isLetter := ⟨pm_t3 5 rfl, pm_t3 6 rfl⟩
theorem sX6_57 : pm_CS RX6 57 yX6_isDigit := ⟨pm_t3 8 rfl, pm_t3 9 rfl⟩
theorem vX6_60 : pm_CV RX6 60 yX6_wordKind 10006906 := ⟨rfl, ⟨_, rfl, rfl⟩, pm_t3 11 rfl, pm_t3 13 rfl, List.mem_append_left _ (List.mem_of_getElem? (i := 2) rfl)⟩
theorem vX6_65 : pm_CV RX6 65 yX6_spells 10006906 := ⟨rfl, ⟨_, rfl, rfl⟩, pm_t3 16 rfl, pm_t3 18 rfl, List.mem_append_left _ (List.mem_of_getElem? (i := 3) rfl)⟩
theorem vX4_55 : pm_CV RX4 55 yX4_takeToken 10004904 := ⟨rfl, ⟨_, rfl, rfl⟩, pm_t3 76 rfl, pm_t3 78 rfl, List.mem_append_left _ (List.mem_of_getElem? (i := 4) rfl)⟩
theorem vX4_69 : pm_CV RX4 69 yX4_beginLine 10004904 := ⟨rfl, ⟨_, rfl, rfl⟩, pm_t3 80 rfl, pm_t3 82 rfl, List.mem_append_left _ (List.mem_of_getElem? (i := 5) rfl)⟩
theorem vX4_62 : pm_CV RX4 62 yX4_refuse 10004904 := ⟨rfl, ⟨_, rfl, rfl⟩, pm_t3 84 rfl, pm_t3 86 rfl, List.mem_append_left _ (List.mem_of_getElem? (i := 6) rfl)⟩
theorem vX4_87 : pm_CV RX4 87 yX4_beginLineOf 10004904 := ⟨rfl, ⟨_, rfl, rfl⟩, pm_t3 88 rfl, pm_t3 90 rfl, List.mem_append_left _ (List.mem_of_getElem? (i := 7) rfl)⟩
theorem vX4_78 : pm_CV RX4 78 yX4_takeField 10004904 := ⟨rfl, ⟨_, rfl, rfl⟩, pm_t3 92 rfl, pm_t3 94 rfl, List.mem_append_left _ (List.mem_of_getElem? (i := 8) rfl)⟩
theorem vX4_112 : pm_CV RX4 112 yX4_takeNumber 10004904 := ⟨rfl, ⟨_, rfl, rfl⟩, pm_t3 96 rfl, pm_t3 98 rfl, List.mem_append_left _ (List.mem_of_getElem? (i := 9) rfl)⟩
theorem vX4_125 : pm_CV RX4 125 yX4_keepField 10004904 := ⟨rfl, ⟨_, rfl, rfl⟩, pm_t3 100 rfl, pm_t3 102 rfl, List.mem_append_left _ (List.mem_of_getElem? (i := 10) rfl)⟩
theorem vX4_116 : pm_CV RX4 116 yX4_takeFieldOfLoad 10004904 := ⟨rfl, ⟨_, rfl, rfl⟩, pm_t3 104 rfl, pm_t3 106 rfl, List.mem_append_left _ (List.mem_of_getElem? (i := 11) rfl)⟩
theorem vX4_122 : pm_CV RX4 122 yX4_takeNumberTold 10004904 := ⟨rfl, ⟨_, rfl, rfl⟩, pm_t3 108 rfl, pm_t3 110 rfl, List.mem_append_left _ (List.mem_of_getElem? (i := 12) rfl)⟩
theorem vX4_135 : pm_CV RX4 135 yX4_isNumberTold 10004904 := ⟨rfl, ⟨_, rfl, rfl⟩, pm_t3 112 rfl, pm_t3 114 rfl, List.mem_append_left _ (List.mem_of_getElem? (i := 13) rfl)⟩
theorem vX4_119 : pm_CV RX4 119 yX4_takeFieldOfTrip 10004904 := ⟨rfl, ⟨_, rfl, rfl⟩, pm_t3 116 rfl, pm_t3 118 rfl, List.mem_append_left _ (List.mem_of_getElem? (i := 14) rfl)⟩
theorem vX4_128 : pm_CV RX4 128 yX0_addTrip 10000900 := ⟨rfl, ⟨_, rfl, rfl⟩, pm_t3 120 rfl, pm_t3 121 rfl, pm_t3 122 rfl⟩
theorem vX4_81 : pm_CV RX4 81 yX4_takeStep 10004904 := ⟨rfl, ⟨_, rfl, rfl⟩, pm_t3 124 rfl, pm_t3 126 rfl, List.mem_append_left _ (List.mem_of_getElem? (i := 15) rfl)⟩
theorem vX4_138 : pm_CV RX4 138 yX4_takeNumberOfStep 10004904 := ⟨rfl, ⟨_, rfl, rfl⟩, pm_t3 128 rfl, pm_t3 130 rfl, List.mem_append_left _ (List.mem_of_getElem? (i := 16) rfl)⟩
theorem vX4_141 : pm_CV RX4 141 yX0_addStep 10000900 := ⟨rfl, ⟨_, rfl, rfl⟩, pm_t3 132 rfl, pm_t3 133 rfl, pm_t3 134 rfl⟩
theorem vX4_84 : pm_CV RX4 84 yX4_endLine 10004904 := ⟨rfl, ⟨_, rfl, rfl⟩, pm_t3 136 rfl, pm_t3 138 rfl, List.mem_append_left _ (List.mem_of_getElem? (i := 17) rfl)⟩
theorem vX4_148 : pm_CV RX4 148 yX0_addPlace 10000900 := ⟨rfl, ⟨_, rfl, rfl⟩, pm_t3 140 rfl, pm_t3 141 rfl, pm_t3 142 rfl⟩
theorem vX4_151 : pm_CV RX4 151 yX0_addTruck 10000900 := ⟨rfl, ⟨_, rfl, rfl⟩, pm_t3 144 rfl, pm_t3 145 rfl, pm_t3 146 rfl⟩
theorem vX4_154 : pm_CV RX4 154 yX0_addLoad 10000900 := ⟨rfl, ⟨_, rfl, rfl⟩, pm_t3 148 rfl, pm_t3 149 rfl, pm_t3 150 rfl⟩
theorem vX4_59 : pm_CV RX4 59 yX6_hasTooMany 10006906 := ⟨rfl, ⟨_, rfl, rfl⟩, pm_t3 152 rfl, pm_t3 153 rfl, pm_t3 154 rfl⟩
theorem vX8_83 : pm_CV RX8 83 yX5_survey 10005905 := ⟨rfl, ⟨_, rfl, rfl⟩, pm_t3 156 rfl, pm_t3 157 rfl, pm_t3 158 rfl⟩
theorem vX5_60 : pm_CV RX5 60 yX5_clear 10005905 := ⟨rfl, ⟨_, rfl, rfl⟩, pm_t3 160 rfl, pm_t3 162 rfl, List.mem_append_left _ (List.mem_of_getElem? (i := 18) rfl)⟩
theorem vX5_69 : pm_CV RX5 69 yX5_drive 10005905 := ⟨rfl, ⟨_, rfl, rfl⟩, pm_t3 164 rfl, pm_t3 166 rfl, List.mem_append_left _ (List.mem_of_getElem? (i := 19) rfl)⟩
theorem vX5_91 : pm_CV RX5 91 yX0_firstStep 10000900 := ⟨rfl, ⟨_, rfl, rfl⟩, pm_t3 168 rfl, pm_t3 169 rfl, pm_t3 170 rfl⟩
theorem vX5_104 : pm_CV RX5 104 yX5_driveLeg 10005905 := ⟨rfl, ⟨_, rfl, rfl⟩, pm_t3 172 rfl, pm_t3 174 rfl, List.mem_append_left _ (List.mem_of_getElem? (i := 20) rfl)⟩
theorem vX5_108 : pm_CV RX5 108 yX0_distance 10000900 := ⟨rfl, ⟨_, rfl, rfl⟩, pm_t3 176 rfl, pm_t3 177 rfl, pm_t3 178 rfl⟩
theorem jX0_70 : Cond.methodLink RX0 70 Lib.Math.abs.name ∈ lw_tbl := pm_t3 180 rfl
theorem vX5_76 : pm_CV RX5 76 yX5_findGapsOfTruck 10005905 := ⟨rfl, ⟨_, rfl, rfl⟩, pm_t3 183 rfl, pm_t3 185 rfl, List.mem_append_left _ (List.mem_of_getElem? (i := 21) rfl)⟩
theorem vX5_115 : pm_CV RX5 115 yX5_addGap 10005905 := ⟨rfl, ⟨_, rfl, rfl⟩, pm_t3 187 rfl, pm_t3 189 rfl, List.mem_append_left _ (List.mem_of_getElem? (i := 22) rfl)⟩
theorem vX5_82 : pm_CV RX5 82 yX5_followLoad 10005905 := ⟨rfl, ⟨_, rfl, rfl⟩, pm_t3 191 rfl, pm_t3 193 rfl, List.mem_append_left _ (List.mem_of_getElem? (i := 23) rfl)⟩
theorem vX5_122 : pm_CV RX5 122 yX5_addGapOfLoad 10005905 := ⟨rfl, ⟨_, rfl, rfl⟩, pm_t3 195 rfl, pm_t3 197 rfl, List.mem_append_left _ (List.mem_of_getElem? (i := 24) rfl)⟩
theorem vX8_87 : pm_CV RX8 87 yX8_settle 10008908 := ⟨rfl, ⟨_, rfl, rfl⟩, pm_t3 199 rfl, pm_t3 201 rfl, List.mem_append_left _ (List.mem_of_getElem? (i := 25) rfl)⟩
theorem vX8_256 : pm_CV RX8 256 yX2_takeLoads 10002902 := ⟨rfl, ⟨_, rfl, rfl⟩, pm_t3 203 rfl, pm_t3 204 rfl, pm_t3 205 rfl⟩
theorem vX8_263 : pm_CV RX8 263 yX2_settle 10002902 := ⟨rfl, ⟨_, rfl, rfl⟩, pm_t3 207 rfl, pm_t3 208 rfl, pm_t3 209 rfl⟩
theorem vX2_76 : pm_CV RX2 76 yX2_estimateOf 10002902 := ⟨rfl, ⟨_, rfl, rfl⟩, pm_t3 211 rfl, pm_t3 213 rfl, List.mem_append_left _ (List.mem_of_getElem? (i := 26) rfl)⟩
theorem vX2_80 : pm_CV RX2 80 yX2_measureParts 10002902 := ⟨rfl, ⟨_, rfl, rfl⟩, pm_t3 215 rfl, pm_t3 217 rfl, List.mem_append_left _ (List.mem_of_getElem? (i := 27) rfl)⟩
theorem vX2_122 : pm_CV RX2 122 yX0_distance 10000900 := ⟨rfl, ⟨_, rfl, rfl⟩, pm_t3 219 rfl, pm_t3 177 rfl, pm_t3 178 rfl⟩
theorem vX2_87 : pm_CV RX2 87 yX2_closeTruck 10002902 := ⟨rfl, ⟨_, rfl, rfl⟩, pm_t3 220 rfl, pm_t3 222 rfl, List.mem_append_left _ (List.mem_of_getElem? (i := 28) rfl)⟩
theorem vX2_129 : pm_CV RX2 129 yX0_fuelTold 10000900 := ⟨rfl, ⟨_, rfl, rfl⟩, pm_t3 224 rfl, pm_t3 225 rfl, pm_t3 226 rfl⟩
theorem vX2_132 : pm_CV RX2 132 yX2_sumOfMissing 10002902 := ⟨rfl, ⟨_, rfl, rfl⟩, pm_t3 228 rfl, pm_t3 230 rfl, List.mem_append_left _ (List.mem_of_getElem? (i := 29) rfl)⟩
theorem vX2_135 : pm_CV RX2 135 yX3_begin 10003903 := ⟨rfl, ⟨_, rfl, rfl⟩, pm_t3 232 rfl, pm_t3 233 rfl, pm_t3 234 rfl⟩
theorem vX2_138 : pm_CV RX2 138 yX2_isParted 10002902 := ⟨rfl, ⟨_, rfl, rfl⟩, pm_t3 236 rfl, pm_t3 238 rfl, List.mem_append_left _ (List.mem_of_getElem? (i := 30) rfl)⟩
theorem vX2_142 : pm_CV RX2 142 yX3_add 10003903 := ⟨rfl, ⟨_, rfl, rfl⟩, pm_t4 0 rfl, pm_t4 1 rfl, pm_t4 2 rfl⟩
theorem vX2_148 : pm_CV RX2 148 yX3_divide 10003903 := ⟨rfl, ⟨_, rfl, rfl⟩, pm_t4 4 rfl, pm_t4 5 rfl, pm_t4 6 rfl⟩
theorem vX3_26 : pm_CV RX3 26 yX3_giveOne 10003903 := ⟨rfl, ⟨_, rfl, rfl⟩, pm_t4 8 rfl, pm_t4 10 rfl, List.mem_append_left _ (List.mem_of_getElem? (i := 31) rfl)⟩
theorem vX2_90 : pm_CV RX2 90 yX2_gatherIdle 10002902 := ⟨rfl, ⟨_, rfl, rfl⟩, pm_t4 13 rfl, pm_t4 15 rfl, List.mem_append_left _ (List.mem_of_getElem? (i := 32) rfl)⟩
theorem vX2_154 : pm_CV RX2 154 yX2_isIdle 10002902 := ⟨rfl, ⟨_, rfl, rfl⟩, pm_t4 17 rfl, pm_t4 18 rfl, pm_t4 19 rfl⟩
theorem vX2_158 : pm_CV RX2 158 yX2_heirOf 10002902 := ⟨rfl, ⟨_, rfl, rfl⟩, pm_t4 21 rfl, pm_t4 23 rfl, List.mem_append_left _ (List.mem_of_getElem? (i := 33) rfl)⟩
theorem vX2_93 : pm_CV RX2 93 yX2_partTrip 10002902 := ⟨rfl, ⟨_, rfl, rfl⟩, pm_t4 25 rfl, pm_t4 27 rfl, List.mem_append_left _ (List.mem_of_getElem? (i := 34) rfl)⟩
theorem vX2_96 : pm_CV RX2 96 yX2_partOpen 10002902 := ⟨rfl, ⟨_, rfl, rfl⟩, pm_t4 29 rfl, pm_t4 31 rfl, List.mem_append_left _ (List.mem_of_getElem? (i := 35) rfl)⟩
theorem vL_37 : pm_CV RL 37 yX8_fault 10008908 := ⟨rfl, ⟨_, rfl, rfl⟩, pm_t4 33 rfl, pm_t4 34 rfl, pm_t4 35 rfl⟩
theorem vL_41 : pm_CV RL 41 yX8_now 10008908 := ⟨rfl, ⟨_, rfl, rfl⟩, pm_t4 37 rfl, pm_t4 38 rfl, pm_t4 39 rfl⟩
theorem sX8_112 : pm_CS RX8 112 yX8_sumOf := ⟨pm_t4 41 rfl, pm_t4 42 rfl⟩
theorem vX8_122 : pm_CV RX8 122 yX8_hubBits 10008908 := ⟨rfl, ⟨_, rfl, rfl⟩, pm_t4 44 rfl, pm_t4 46 rfl, List.mem_append_left _ (List.mem_of_getElem? (i := 36) rfl)⟩
theorem vL_46 : pm_CV RL 46 yX8_direct 10008908 := ⟨rfl, ⟨_, rfl, rfl⟩, pm_t4 48 rfl, pm_t4 49 rfl, pm_t4 50 rfl⟩
theorem sX8_129 : pm_CS RX8 129 yX8_isIn := ⟨pm_t4 52 rfl, pm_t4 53 rfl⟩
theorem vX8_133 : pm_CV RX8 133 yX0_distance 10000900 := ⟨rfl, ⟨_, rfl, rfl⟩, pm_t4 55 rfl, pm_t3 177 rfl, pm_t3 178 rfl⟩
theorem vL_50 : pm_CV RL 50 yX8_truck 10008908 := ⟨rfl, ⟨_, rfl, rfl⟩, pm_t4 56 rfl, pm_t4 57 rfl, pm_t4 58 rfl⟩
theorem vX8_140 : pm_CV RX8 140 yX8_tripBits 10008908 := ⟨rfl, ⟨_, rfl, rfl⟩, pm_t4 60 rfl, pm_t4 62 rfl, List.mem_append_left _ (List.mem_of_getElem? (i := 37) rfl)⟩
theorem vX8_147 : pm_CV RX8 147 yX8_sumOverTrips 10008908 := ⟨rfl, ⟨_, rfl, rfl⟩, pm_t4 64 rfl, pm_t4 66 rfl, List.mem_append_left _ (List.mem_of_getElem? (i := 38) rfl)⟩
theorem vX8_154 : pm_CV RX8 154 yX0_fuelTold 10000900 := ⟨rfl, ⟨_, rfl, rfl⟩, pm_t4 68 rfl, pm_t3 225 rfl, pm_t3 226 rfl⟩
theorem vX8_157 : pm_CV RX8 157 yX8_lastPlace 10008908 := ⟨rfl, ⟨_, rfl, rfl⟩, pm_t4 69 rfl, pm_t4 71 rfl, List.mem_append_left _ (List.mem_of_getElem? (i := 39) rfl)⟩
theorem vL_66 : pm_CV RL 66 yX8_share 10008908 := ⟨rfl, ⟨_, rfl, rfl⟩, pm_t4 73 rfl, pm_t4 74 rfl, pm_t4 75 rfl⟩
theorem vL_70 : pm_CV RL 70 yX8_gap 10008908 := ⟨rfl, ⟨_, rfl, rfl⟩, pm_t4 77 rfl, pm_t4 78 rfl, pm_t4 79 rfl⟩
theorem vL_74 : pm_CV RL 74 yX8_way 10008908 := ⟨rfl, ⟨_, rfl, rfl⟩, pm_t4 81 rfl, pm_t4 82 rfl, pm_t4 83 rfl⟩
theorem vL_78 : pm_CV RL 78 yX8_busiest 10008908 := ⟨rfl, ⟨_, rfl, rfl⟩, pm_t4 85 rfl, pm_t4 86 rfl, pm_t4 87 rfl⟩
theorem vL_82 : pm_CV RL 82 yX8_hub 10008908 := ⟨rfl, ⟨_, rfl, rfl⟩, pm_t4 89 rfl, pm_t4 90 rfl, pm_t4 91 rfl⟩
theorem vL_95 : pm_CV RL 95 yX8_dearest 10008908 := ⟨rfl, ⟨_, rfl, rfl⟩, pm_t4 93 rfl, pm_t4 94 rfl, pm_t4 95 rfl⟩
theorem vX8_249 : pm_CV RX8 249 yX2_isIdle 10002902 := ⟨rfl, ⟨_, rfl, rfl⟩, pm_t4 97 rfl, pm_t4 18 rfl, pm_t4 19 rfl⟩
theorem vX8_253 : pm_CV RX8 253 yX8_isDearer 10008908 := ⟨rfl, ⟨_, rfl, rfl⟩, pm_t4 98 rfl, pm_t4 100 rfl, List.mem_append_left _ (List.mem_of_getElem? (i := 40) rfl)⟩
theorem vL_86 : pm_CV RL 86 yX8_split 10008908 := ⟨rfl, ⟨_, rfl, rfl⟩, pm_t4 102 rfl, pm_t4 103 rfl, pm_t4 104 rfl⟩
theorem vX8_259 : pm_CV RX8 259 yX2_splitLoad 10002902 := ⟨rfl, ⟨_, rfl, rfl⟩, pm_t4 106 rfl, pm_t4 107 rfl, pm_t4 108 rfl⟩
theorem vL_91 : pm_CV RL 91 yX8_without 10008908 := ⟨rfl, ⟨_, rfl, rfl⟩, pm_t4 110 rfl, pm_t4 111 rfl, pm_t4 112 rfl⟩
theorem vL_99 : pm_CV RL 99 yX8_fuel 10008908 := ⟨rfl, ⟨_, rfl, rfl⟩, pm_t4 114 rfl, pm_t4 115 rfl, pm_t4 116 rfl⟩
theorem vX8_267 : pm_CV RX8 267 yX8_change 10008908 := ⟨rfl, ⟨_, rfl, rfl⟩, pm_t4 118 rfl, pm_t4 120 rfl, List.mem_append_left _ (List.mem_of_getElem? (i := 41) rfl)⟩
theorem vX8_284 : pm_CV RX8 284 yX1_keep 10001901 := ⟨rfl, ⟨_, rfl, rfl⟩, pm_t4 122 rfl, pm_t4 123 rfl, pm_t4 124 rfl⟩
theorem vX1_25 : pm_CV RX1 25 yX1_forgetOldest 10001901 := ⟨rfl, ⟨_, rfl, rfl⟩, pm_t4 126 rfl, pm_t4 128 rfl, List.mem_append_left _ (List.mem_of_getElem? (i := 42) rfl)⟩
theorem vL_103 : pm_CV RL 103 yX8_buy 10008908 := ⟨rfl, ⟨_, rfl, rfl⟩, pm_t4 130 rfl, pm_t4 131 rfl, pm_t4 132 rfl⟩
theorem vL_107 : pm_CV RL 107 yX8_weigh 10008908 := ⟨rfl, ⟨_, rfl, rfl⟩, pm_t4 134 rfl, pm_t4 135 rfl, pm_t4 136 rfl⟩
theorem vL_111 : pm_CV RL 111 yX8_undo 10008908 := ⟨rfl, ⟨_, rfl, rfl⟩, pm_t4 138 rfl, pm_t4 139 rfl, pm_t4 140 rfl⟩
theorem vX8_274 : pm_CV RX8 274 yX8_rowOf 10008908 := ⟨rfl, ⟨_, rfl, rfl⟩, pm_t4 142 rfl, pm_t4 144 rfl, List.mem_append_left _ (List.mem_of_getElem? (i := 43) rfl)⟩
theorem vL_7 : pm_CV RL 7 yX8_load 10008908 := ⟨rfl, ⟨_, rfl, rfl⟩, pm_t4 150 rfl, pm_t4 151 rfl, pm_t4 152 rfl⟩
theorem vX8_179 : pm_CV RX8 179 yX8_tripBitsOfLoad 10008908 := ⟨rfl, ⟨_, rfl, rfl⟩, pm_t4 219 rfl, pm_t4 221 rfl, List.mem_append_left _ (List.mem_of_getElem? (i := 45) rfl)⟩
theorem vX8_182 : pm_CV RX8 182 yX8_partsOfLoad 10008908 := ⟨rfl, ⟨_, rfl, rfl⟩, pm_t4 223 rfl, pm_t4 225 rfl, List.mem_append_left _ (List.mem_of_getElem? (i := 46) rfl)⟩
theorem vX8_185 : pm_CV RX8 185 yX8_due 10008908 := ⟨rfl, ⟨_, rfl, rfl⟩, pm_t4 227 rfl, pm_t4 229 rfl, List.mem_append_left _ (List.mem_of_getElem? (i := 47) rfl)⟩
theorem vL_15 : pm_CV RL 15 yX8_trip 10008908 := ⟨rfl, ⟨_, rfl, rfl⟩, pm_t4 237 rfl, pm_t4 238 rfl, pm_t4 239 rfl⟩
theorem vL_60 : pm_CV RL 60 yX9_thrown 10009909 := ⟨rfl, ⟨_, rfl, rfl⟩, pm_t5 3 rfl, pm_t5 4 rfl, pm_t5 5 rfl⟩
theorem vL_26 : pm_CV RL 26 yX9_feed 10009909 := ⟨rfl, ⟨_, rfl, rfl⟩, pm_t5 7 rfl, pm_t5 8 rfl, pm_t5 9 rfl⟩
theorem vX9_14 : pm_CV RX9 14 yX9_lays 10009909 := ⟨rfl, ⟨_, rfl, rfl⟩, pm_t5 11 rfl, pm_t5 13 rfl, List.mem_append_left _ (List.mem_of_getElem? (i := 48) rfl)⟩
theorem vL_31 : pm_CV RL 31 yX9_end 10009909 := ⟨rfl, ⟨_, rfl, rfl⟩, pm_t5 16 rfl, pm_t5 17 rfl, pm_t5 18 rfl⟩
theorem vL_36 : pm_CV RL 36 yX9_text 10009909 := ⟨rfl, ⟨_, rfl, rfl⟩, pm_t5 119 rfl, pm_t5 120 rfl, pm_t5 121 rfl⟩
theorem vX9_117 : pm_CV RX9 117 yX9_go 10009909 := ⟨rfl, ⟨_, rfl, rfl⟩, pm_t5 123 rfl, pm_t5 125 rfl, List.mem_append_left _ (List.mem_of_getElem? (i := 49) rfl)⟩
theorem sX9_30 : pm_CS RX9 30 yX9_isLetter := ⟨pm_t5 127 rfl, pm_t5 128 rfl⟩
theorem sX9_34 : pm_CS RX9 34 yX9_isDigit := ⟨pm_t5 130 rfl, pm_t5 131 rfl⟩
theorem vX9_44 : pm_CV RX9 44 yX9_tapeAt 10009909 := ⟨rfl, ⟨_, rfl, rfl⟩, pm_t5 133 rfl, pm_t5 135 rfl, List.mem_append_left _ (List.mem_of_getElem? (i := 50) rfl)⟩
theorem vX9_160 : pm_CV RX9 160 yX9_readLine 10009909 := ⟨rfl, ⟨_, rfl, rfl⟩, pm_t5 139 rfl, pm_t5 141 rfl, List.mem_append_left _ (List.mem_of_getElem? (i := 51) rfl)⟩
theorem vX9_136 : pm_CV RX9 136 yX9_is 10009909 := ⟨rfl, ⟨_, rfl, rfl⟩, pm_t5 143 rfl, pm_t5 145 rfl, List.mem_append_left _ (List.mem_of_getElem? (i := 52) rfl)⟩
theorem vX9_144 : pm_CV RX9 144 yX9_readDesk 10009909 := ⟨rfl, ⟨_, rfl, rfl⟩, pm_t5 147 rfl, pm_t5 149 rfl, List.mem_append_left _ (List.mem_of_getElem? (i := 53) rfl)⟩
theorem vX9_120 : pm_CV RX9 120 yX9_told 10009909 := ⟨rfl, ⟨_, rfl, rfl⟩, pm_t5 151 rfl, pm_t5 153 rfl, List.mem_append_left _ (List.mem_of_getElem? (i := 54) rfl)⟩
theorem vX9_110 : pm_CV RX9 110 yX9_bad 10009909 := ⟨rfl, ⟨_, rfl, rfl⟩, pm_t5 155 rfl, pm_t5 157 rfl, List.mem_append_left _ (List.mem_of_getElem? (i := 55) rfl)⟩
theorem sX9_113 : pm_CS RX9 113 yX9_isIn := ⟨pm_t5 159 rfl, pm_t5 160 rfl⟩
theorem vX9_148 : pm_CV RX9 148 yX9_readPlace 10009909 := ⟨rfl, ⟨_, rfl, rfl⟩, pm_t5 162 rfl, pm_t5 164 rfl, List.mem_append_left _ (List.mem_of_getElem? (i := 56) rfl)⟩
theorem vX9_151 : pm_CV RX9 151 yX9_readTruck 10009909 := ⟨rfl, ⟨_, rfl, rfl⟩, pm_t5 166 rfl, pm_t5 168 rfl, List.mem_append_left _ (List.mem_of_getElem? (i := 57) rfl)⟩
theorem vX9_154 : pm_CV RX9 154 yX9_readLoad 10009909 := ⟨rfl, ⟨_, rfl, rfl⟩, pm_t5 170 rfl, pm_t5 172 rfl, List.mem_append_left _ (List.mem_of_getElem? (i := 58) rfl)⟩
theorem vX9_124 : pm_CV RX9 124 yX9_toldPlace 10009909 := ⟨rfl, ⟨_, rfl, rfl⟩, pm_t5 174 rfl, pm_t5 176 rfl, List.mem_append_left _ (List.mem_of_getElem? (i := 59) rfl)⟩
theorem vX9_157 : pm_CV RX9 157 yX9_readTrip 10009909 := ⟨rfl, ⟨_, rfl, rfl⟩, pm_t5 178 rfl, pm_t5 180 rfl, List.mem_append_left _ (List.mem_of_getElem? (i := 60) rfl)⟩
theorem vX9_140 : pm_CV RX9 140 yX9_goesTo 10009909 := ⟨rfl, ⟨_, rfl, rfl⟩, pm_t5 182 rfl, pm_t5 184 rfl, List.mem_append_left _ (List.mem_of_getElem? (i := 61) rfl)⟩
theorem sX9_128 : pm_CS RX9 128 yX9_directOf := ⟨pm_t5 186 rfl, pm_t5 187 rfl⟩
theorem sX9_132 : pm_CS RX9 132 yX9_has := ⟨pm_t5 189 rfl, pm_t5 190 rfl⟩
theorem vX9_164 : pm_CV RX9 164 yX9_readEnd 10009909 := ⟨rfl, ⟨_, rfl, rfl⟩, pm_t5 192 rfl, pm_t5 194 rfl, List.mem_append_left _ (List.mem_of_getElem? (i := 62) rfl)⟩
theorem vL_40 : pm_CV RL 40 yX9_fault 10009909 := ⟨rfl, ⟨_, rfl, rfl⟩, pm_t5 196 rfl, pm_t5 197 rfl, pm_t5 198 rfl⟩
theorem vL_45 : pm_CV RL 45 yX9_now 10009909 := ⟨rfl, ⟨_, rfl, rfl⟩, pm_t5 200 rfl, pm_t5 201 rfl, pm_t5 202 rfl⟩
theorem vX9_170 : pm_CV RX9 170 yX9_loads 10009909 := ⟨rfl, ⟨_, rfl, rfl⟩, pm_t5 204 rfl, pm_t5 206 rfl, List.mem_append_left _ (List.mem_of_getElem? (i := 63) rfl)⟩
theorem vX9_173 : pm_CV RX9 173 yX9_trips 10009909 := ⟨rfl, ⟨_, rfl, rfl⟩, pm_t5 208 rfl, pm_t5 210 rfl, List.mem_append_left _ (List.mem_of_getElem? (i := 64) rfl)⟩
theorem vX9_237 : pm_CV RX9 237 yX9_account 10009909 := ⟨rfl, ⟨_, rfl, rfl⟩, pm_t5 212 rfl, pm_t5 214 rfl, List.mem_append_left _ (List.mem_of_getElem? (i := 65) rfl)⟩
theorem vX9_221 : pm_CV RX9 221 yX9_laysWeights 10009909 := ⟨rfl, ⟨_, rfl, rfl⟩, pm_t5 216 rfl, pm_t5 218 rfl, List.mem_append_left _ (List.mem_of_getElem? (i := 66) rfl)⟩
theorem vX9_224 : pm_CV RX9 224 yX9_laysAccount 10009909 := ⟨rfl, ⟨_, rfl, rfl⟩, pm_t5 220 rfl, pm_t5 222 rfl, List.mem_append_left _ (List.mem_of_getElem? (i := 67) rfl)⟩
theorem vX9_209 : pm_CV RX9 209 yX9_closes 10009909 := ⟨rfl, ⟨_, rfl, rfl⟩, pm_t5 224 rfl, pm_t5 226 rfl, List.mem_append_left _ (List.mem_of_getElem? (i := 68) rfl)⟩
theorem vX9_182 : pm_CV RX9 182 yX9_its 10009909 := ⟨rfl, ⟨_, rfl, rfl⟩, pm_t5 228 rfl, pm_t5 230 rfl, List.mem_append_left _ (List.mem_of_getElem? (i := 69) rfl)⟩
theorem vX9_192 : pm_CV RX9 192 yX9_estimateOf 10009909 := ⟨rfl, ⟨_, rfl, rfl⟩, pm_t5 232 rfl, pm_t5 234 rfl, List.mem_append_left _ (List.mem_of_getElem? (i := 70) rfl)⟩
theorem vX9_198 : pm_CV RX9 198 yX9_parts 10009909 := ⟨rfl, ⟨_, rfl, rfl⟩, pm_t5 236 rfl, pm_t5 238 rfl, List.mem_append_left _ (List.mem_of_getElem? (i := 71) rfl)⟩
theorem vX9_206 : pm_CV RX9 206 yX9_isIdle 10009909 := ⟨rfl, ⟨_, rfl, rfl⟩, pm_t6 1 rfl, pm_t6 3 rfl, List.mem_append_left _ (List.mem_of_getElem? (i := 72) rfl)⟩
theorem vX9_202 : pm_CV RX9 202 yX9_partsOf 10009909 := ⟨rfl, ⟨_, rfl, rfl⟩, pm_t6 5 rfl, pm_t6 7 rfl, List.mem_append_left _ (List.mem_of_getElem? (i := 73) rfl)⟩
theorem vX9_186 : pm_CV RX9 186 yX9_partOf 10009909 := ⟨rfl, ⟨_, rfl, rfl⟩, pm_t6 9 rfl, pm_t6 11 rfl, List.mem_append_left _ (List.mem_of_getElem? (i := 74) rfl)⟩
theorem vX9_212 : pm_CV RX9 212 yX9_nextOf 10009909 := ⟨rfl, ⟨_, rfl, rfl⟩, pm_t6 13 rfl, pm_t6 15 rfl, List.mem_append_left _ (List.mem_of_getElem? (i := 75) rfl)⟩
theorem vX9_215 : pm_CV RX9 215 yX9_laysTrip 10009909 := ⟨rfl, ⟨_, rfl, rfl⟩, pm_t6 17 rfl, pm_t6 19 rfl, List.mem_append_left _ (List.mem_of_getElem? (i := 76) rfl)⟩
theorem vX9_218 : pm_CV RX9 218 yX9_gives 10009909 := ⟨rfl, ⟨_, rfl, rfl⟩, pm_t6 21 rfl, pm_t6 23 rfl, List.mem_append_left _ (List.mem_of_getElem? (i := 77) rfl)⟩
theorem vX9_240 : pm_CV RX9 240 yX9_hubs 10009909 := ⟨rfl, ⟨_, rfl, rfl⟩, pm_t6 25 rfl, pm_t6 27 rfl, List.mem_append_left _ (List.mem_of_getElem? (i := 78) rfl)⟩
theorem vX9_233 : pm_CV RX9 233 yX9_changed 10009909 := ⟨rfl, ⟨_, rfl, rfl⟩, pm_t6 29 rfl, pm_t6 31 rfl, List.mem_append_left _ (List.mem_of_getElem? (i := 79) rfl)⟩
theorem vX9_243 : pm_CV RX9 243 yX9_laysGaps 10009909 := ⟨rfl, ⟨_, rfl, rfl⟩, pm_t6 33 rfl, pm_t6 35 rfl, List.mem_append_left _ (List.mem_of_getElem? (i := 80) rfl)⟩
theorem vX9_230 : pm_CV RX9 230 yX9_adds 10009909 := ⟨rfl, ⟨_, rfl, rfl⟩, pm_t6 37 rfl, pm_t6 39 rfl, List.mem_append_left _ (List.mem_of_getElem? (i := 81) rfl)⟩
theorem vL_49 : pm_CV RL 49 yX9_direct 10009909 := ⟨rfl, ⟨_, rfl, rfl⟩, pm_t6 41 rfl, pm_t6 42 rfl, pm_t6 43 rfl⟩
theorem vX9_246 : pm_CV RX9 246 yX9_isPlace 10009909 := ⟨rfl, ⟨_, rfl, rfl⟩, pm_t6 45 rfl, pm_t6 47 rfl, List.mem_append_left _ (List.mem_of_getElem? (i := 82) rfl)⟩
theorem vL_53 : pm_CV RL 53 yX9_truck 10009909 := ⟨rfl, ⟨_, rfl, rfl⟩, pm_t6 49 rfl, pm_t6 50 rfl, pm_t6 51 rfl⟩
theorem vX9_249 : pm_CV RX9 249 yX9_isTruck 10009909 := ⟨rfl, ⟨_, rfl, rfl⟩, pm_t6 53 rfl, pm_t6 55 rfl, List.mem_append_left _ (List.mem_of_getElem? (i := 83) rfl)⟩
theorem vL_59 : pm_CV RL 59 yX9_load 10009909 := ⟨rfl, ⟨_, rfl, rfl⟩, pm_t6 57 rfl, pm_t6 58 rfl, pm_t6 59 rfl⟩
theorem vX9_256 : pm_CV RX9 256 yX9_isLoad 10009909 := ⟨rfl, ⟨_, rfl, rfl⟩, pm_t6 61 rfl, pm_t6 63 rfl, List.mem_append_left _ (List.mem_of_getElem? (i := 84) rfl)⟩
theorem vX9_259 : pm_CV RX9 259 yX9_refuse 10009909 := ⟨rfl, ⟨_, rfl, rfl⟩, pm_t6 65 rfl, pm_t6 67 rfl, List.mem_append_left _ (List.mem_of_getElem? (i := 85) rfl)⟩
theorem vX9_262 : pm_CV RX9 262 yX9_dueOf 10009909 := ⟨rfl, ⟨_, rfl, rfl⟩, pm_t6 69 rfl, pm_t6 71 rfl, List.mem_append_left _ (List.mem_of_getElem? (i := 86) rfl)⟩
theorem vX9_265 : pm_CV RX9 265 yX9_countsOf 10009909 := ⟨rfl, ⟨_, rfl, rfl⟩, pm_t6 75 rfl, pm_t6 77 rfl, List.mem_append_left _ (List.mem_of_getElem? (i := 87) rfl)⟩
theorem vL_65 : pm_CV RL 65 yX9_trip 10009909 := ⟨rfl, ⟨_, rfl, rfl⟩, pm_t6 79 rfl, pm_t6 80 rfl, pm_t6 81 rfl⟩
theorem vX9_268 : pm_CV RX9 268 yX9_isTrip 10009909 := ⟨rfl, ⟨_, rfl, rfl⟩, pm_t6 83 rfl, pm_t6 85 rfl, List.mem_append_left _ (List.mem_of_getElem? (i := 88) rfl)⟩
theorem vL_69 : pm_CV RL 69 yX9_share 10009909 := ⟨rfl, ⟨_, rfl, rfl⟩, pm_t6 87 rfl, pm_t6 88 rfl, pm_t6 89 rfl⟩
theorem vL_73 : pm_CV RL 73 yX9_gap 10009909 := ⟨rfl, ⟨_, rfl, rfl⟩, pm_t6 91 rfl, pm_t6 92 rfl, pm_t6 93 rfl⟩
theorem vL_77 : pm_CV RL 77 yX9_way 10009909 := ⟨rfl, ⟨_, rfl, rfl⟩, pm_t6 95 rfl, pm_t6 96 rfl, pm_t6 97 rfl⟩
theorem vL_81 : pm_CV RL 81 yX9_busiest 10009909 := ⟨rfl, ⟨_, rfl, rfl⟩, pm_t6 99 rfl, pm_t6 100 rfl, pm_t6 101 rfl⟩
theorem vL_85 : pm_CV RL 85 yX9_hub 10009909 := ⟨rfl, ⟨_, rfl, rfl⟩, pm_t6 103 rfl, pm_t6 104 rfl, pm_t6 105 rfl⟩
theorem vL_90 : pm_CV RL 90 yX9_split 10009909 := ⟨rfl, ⟨_, rfl, rfl⟩, pm_t6 107 rfl, pm_t6 108 rfl, pm_t6 109 rfl⟩
theorem vL_94 : pm_CV RL 94 yX9_without 10009909 := ⟨rfl, ⟨_, rfl, rfl⟩, pm_t6 111 rfl, pm_t6 112 rfl, pm_t6 113 rfl⟩
theorem vL_98 : pm_CV RL 98 yX9_dearest 10009909 := ⟨rfl, ⟨_, rfl, rfl⟩, pm_t6 115 rfl, pm_t6 116 rfl, pm_t6 117 rfl⟩
theorem vL_102 : pm_CV RL 102 yX9_fuel 10009909 := ⟨rfl, ⟨_, rfl, rfl⟩, pm_t6 119 rfl, pm_t6 120 rfl, pm_t6 121 rfl⟩
theorem vX9_274 : pm_CV RX9 274 yX9_tells 10009909 := ⟨rfl, ⟨_, rfl, rfl⟩, pm_t6 123 rfl, pm_t6 125 rfl, List.mem_append_left _ (List.mem_of_getElem? (i := 89) rfl)⟩
theorem vX9_271 : pm_CV RX9 271 yX9_snap 10009909 := ⟨rfl, ⟨_, rfl, rfl⟩, pm_t6 127 rfl, pm_t6 129 rfl, List.mem_append_left _ (List.mem_of_getElem? (i := 90) rfl)⟩
theorem vL_106 : pm_CV RL 106 yX9_buy 10009909 := ⟨rfl, ⟨_, rfl, rfl⟩, pm_t6 131 rfl, pm_t6 132 rfl, pm_t6 133 rfl⟩
theorem vL_110 : pm_CV RL 110 yX9_weigh 10009909 := ⟨rfl, ⟨_, rfl, rfl⟩, pm_t6 135 rfl, pm_t6 136 rfl, pm_t6 137 rfl⟩
theorem vL_114 : pm_CV RL 114 yX9_undo 10009909 := ⟨rfl, ⟨_, rfl, rfl⟩, pm_t6 139 rfl, pm_t6 140 rfl, pm_t6 141 rfl⟩
theorem jm_abs_s : Cond.static Lib.Math.abs.name ∈ lw_tbl := pm_t3 181 rfl
theorem jm_abs_c : Cond.code Lib.Math.abs.name Lib.Math.abs.code 1 (some .int) ∈ lw_tbl := pm_t3 182 rfl
theorem jm_min_s : Cond.static Lib.Math.min.name ∈ lw_tbl := pm_t2 228 rfl
theorem jm_min_c : Cond.code Lib.Math.min.name Lib.Math.min.code 2 (some .int) ∈ lw_tbl := pm_t2 229 rfl
theorem jm_i : Cond.initialized "java/lang/Math" ∈ lw_tbl := pm_t1 11 rfl
end
section
/-! calls with one answer; small numbers -/
abbrev Cd (y : MethodName) (bc : ByteArray) (mL : Nat) (ret : Option FieldType) (fr lo : Nat) (as : List pm_v) (mem : pm_M) (r : Option pm_v) (mem' : pm_M) : Prop := Cl y bc mL ret fr lo as mem (fun r' m' => r' = r ∧ m' = mem')
theorem pm_inc (k : Nat) : nI k + Int32.ofInt 1 = nI (k + 1) := (nI_succ k).symm
theorem pm_nadd (a b : Nat) : nI a + nI b = nI (a + b) := by simp [nI]
theorem pm_nmul (a b : Nat) : nI a * nI b = nI (a * b) := by simp [nI]
section PRD
variable {cc : ByteArray} {own : String} {nL fr lo pc : Nat} {ls : List (Option pm_v)} {st : List pm_v} {mem mem' : pm_M} {X : Nat → List (Option pm_v) → List pm_v → pm_M → Prop}
variable {idx t i : Nat} {y : MethodName} {bc : ByteArray} {mL fr' lo' : Nat} {ret : Option FieldType} {v : pm_v}
theorem pr_invD0 (q : Nat) (hd : decode cc pc = .ok (.invokevirtual idx, 3)) (hw : pm_CV own idx y t) (hm : pm_MW y bc mL ret 0) (hc : Cd y bc mL ret fr' lo' (pR t i :: []) mem (some v) mem') (hR : fr' + 1 ≤ fr ∧ 8 + (mL + 11) + lo' ≤ lo) (hst : (st.map pm_cat).sum ≤ 8) (hq : pc + 3 = q) (kk : PR cc own nL fr lo q ls (v :: st) mem' X) : PR cc own nL fr lo pc ls (pR t i :: st) mem X := pr_inv [] q hd hw hm hc hR rfl hst hq (fun r m' h => by obtain ⟨rfl, rfl⟩ := h; exact kk)
theorem pr_inv00 (q : Nat) (hd : decode cc pc = .ok (.invokevirtual idx, 3)) (hw : pm_CV own idx y t) (hm : pm_MW y bc mL ret 0) (hc : Cd y bc mL ret fr' lo' (pR t i :: []) mem none mem') (hR : fr' + 1 ≤ fr ∧ 8 + (mL + 11) + lo' ≤ lo) (hst : (st.map pm_cat).sum ≤ 8) (hq : pc + 3 = q) (kk : PR cc own nL fr lo q ls st mem' X) : PR cc own nL fr lo pc ls (pR t i :: st) mem X := pr_inv [] q hd hw hm hc hR rfl hst hq (fun r m' h => by obtain ⟨rfl, rfl⟩ := h; exact kk)
theorem pr_ivsD0 (q : Nat) (hd : decode cc pc = .ok (.invokestatic idx, 3)) (hw : pm_CS own idx y) (hm : pm_MW y bc mL ret 0) (hc : Cd y bc mL ret fr' lo' [] mem (some v) mem') (hR : fr' + 1 ≤ fr ∧ 8 + (mL + 11) + lo' ≤ lo) (hst : (st.map pm_cat).sum ≤ 8) (hq : pc + 3 = q) (kk : PR cc own nL fr lo q ls (v :: st) mem' X) : PR cc own nL fr lo pc ls (st) mem X := pr_ivs [] q hd hw hm hc hR rfl hst hq (fun r m' h => by obtain ⟨rfl, rfl⟩ := h; exact kk)
theorem pr_invD1 {a0 : pm_v} (q : Nat) (hd : decode cc pc = .ok (.invokevirtual idx, 3)) (hw : pm_CV own idx y t) (hm : pm_MW y bc mL ret 1) (hc : Cd y bc mL ret fr' lo' (pR t i :: [a0]) mem (some v) mem') (hR : fr' + 1 ≤ fr ∧ 8 + (mL + 11) + lo' ≤ lo) (hst : (st.map pm_cat).sum ≤ 8) (hq : pc + 3 = q) (kk : PR cc own nL fr lo q ls (v :: st) mem' X) : PR cc own nL fr lo pc ls (a0 :: pR t i :: st) mem X := pr_inv [a0] q hd hw hm hc hR rfl hst hq (fun r m' h => by obtain ⟨rfl, rfl⟩ := h; exact kk)
theorem pr_inv01 {a0 : pm_v} (q : Nat) (hd : decode cc pc = .ok (.invokevirtual idx, 3)) (hw : pm_CV own idx y t) (hm : pm_MW y bc mL ret 1) (hc : Cd y bc mL ret fr' lo' (pR t i :: [a0]) mem none mem') (hR : fr' + 1 ≤ fr ∧ 8 + (mL + 11) + lo' ≤ lo) (hst : (st.map pm_cat).sum ≤ 8) (hq : pc + 3 = q) (kk : PR cc own nL fr lo q ls st mem' X) : PR cc own nL fr lo pc ls (a0 :: pR t i :: st) mem X := pr_inv [a0] q hd hw hm hc hR rfl hst hq (fun r m' h => by obtain ⟨rfl, rfl⟩ := h; exact kk)
theorem pr_ivsD1 {a0 : pm_v} (q : Nat) (hd : decode cc pc = .ok (.invokestatic idx, 3)) (hw : pm_CS own idx y) (hm : pm_MW y bc mL ret 1) (hc : Cd y bc mL ret fr' lo' [a0] mem (some v) mem') (hR : fr' + 1 ≤ fr ∧ 8 + (mL + 11) + lo' ≤ lo) (hst : (st.map pm_cat).sum ≤ 8) (hq : pc + 3 = q) (kk : PR cc own nL fr lo q ls (v :: st) mem' X) : PR cc own nL fr lo pc ls (a0 :: st) mem X := pr_ivs [a0] q hd hw hm hc hR rfl hst hq (fun r m' h => by obtain ⟨rfl, rfl⟩ := h; exact kk)
theorem pr_invD2 {a0 a1 : pm_v} (q : Nat) (hd : decode cc pc = .ok (.invokevirtual idx, 3)) (hw : pm_CV own idx y t) (hm : pm_MW y bc mL ret 2) (hc : Cd y bc mL ret fr' lo' (pR t i :: [a0, a1]) mem (some v) mem') (hR : fr' + 1 ≤ fr ∧ 8 + (mL + 11) + lo' ≤ lo) (hst : (st.map pm_cat).sum ≤ 8) (hq : pc + 3 = q) (kk : PR cc own nL fr lo q ls (v :: st) mem' X) : PR cc own nL fr lo pc ls (a1 :: a0 :: pR t i :: st) mem X := pr_inv [a0, a1] q hd hw hm hc hR rfl hst hq (fun r m' h => by obtain ⟨rfl, rfl⟩ := h; exact kk)
theorem pr_inv02 {a0 a1 : pm_v} (q : Nat) (hd : decode cc pc = .ok (.invokevirtual idx, 3)) (hw : pm_CV own idx y t) (hm : pm_MW y bc mL ret 2) (hc : Cd y bc mL ret fr' lo' (pR t i :: [a0, a1]) mem none mem') (hR : fr' + 1 ≤ fr ∧ 8 + (mL + 11) + lo' ≤ lo) (hst : (st.map pm_cat).sum ≤ 8) (hq : pc + 3 = q) (kk : PR cc own nL fr lo q ls st mem' X) : PR cc own nL fr lo pc ls (a1 :: a0 :: pR t i :: st) mem X := pr_inv [a0, a1] q hd hw hm hc hR rfl hst hq (fun r m' h => by obtain ⟨rfl, rfl⟩ := h; exact kk)
theorem pr_ivsD2 {a0 a1 : pm_v} (q : Nat) (hd : decode cc pc = .ok (.invokestatic idx, 3)) (hw : pm_CS own idx y) (hm : pm_MW y bc mL ret 2) (hc : Cd y bc mL ret fr' lo' [a0, a1] mem (some v) mem') (hR : fr' + 1 ≤ fr ∧ 8 + (mL + 11) + lo' ≤ lo) (hst : (st.map pm_cat).sum ≤ 8) (hq : pc + 3 = q) (kk : PR cc own nL fr lo q ls (v :: st) mem' X) : PR cc own nL fr lo pc ls (a1 :: a0 :: st) mem X := pr_ivs [a0, a1] q hd hw hm hc hR rfl hst hq (fun r m' h => by obtain ⟨rfl, rfl⟩ := h; exact kk)
theorem pr_invD3 {a0 a1 a2 : pm_v} (q : Nat) (hd : decode cc pc = .ok (.invokevirtual idx, 3)) (hw : pm_CV own idx y t) (hm : pm_MW y bc mL ret 3) (hc : Cd y bc mL ret fr' lo' (pR t i :: [a0, a1, a2]) mem (some v) mem') (hR : fr' + 1 ≤ fr ∧ 8 + (mL + 11) + lo' ≤ lo) (hst : (st.map pm_cat).sum ≤ 8) (hq : pc + 3 = q) (kk : PR cc own nL fr lo q ls (v :: st) mem' X) : PR cc own nL fr lo pc ls (a2 :: a1 :: a0 :: pR t i :: st) mem X := pr_inv [a0, a1, a2] q hd hw hm hc hR rfl hst hq (fun r m' h => by obtain ⟨rfl, rfl⟩ := h; exact kk)
theorem pr_inv03 {a0 a1 a2 : pm_v} (q : Nat) (hd : decode cc pc = .ok (.invokevirtual idx, 3)) (hw : pm_CV own idx y t) (hm : pm_MW y bc mL ret 3) (hc : Cd y bc mL ret fr' lo' (pR t i :: [a0, a1, a2]) mem none mem') (hR : fr' + 1 ≤ fr ∧ 8 + (mL + 11) + lo' ≤ lo) (hst : (st.map pm_cat).sum ≤ 8) (hq : pc + 3 = q) (kk : PR cc own nL fr lo q ls st mem' X) : PR cc own nL fr lo pc ls (a2 :: a1 :: a0 :: pR t i :: st) mem X := pr_inv [a0, a1, a2] q hd hw hm hc hR rfl hst hq (fun r m' h => by obtain ⟨rfl, rfl⟩ := h; exact kk)
theorem pr_ivsD3 {a0 a1 a2 : pm_v} (q : Nat) (hd : decode cc pc = .ok (.invokestatic idx, 3)) (hw : pm_CS own idx y) (hm : pm_MW y bc mL ret 3) (hc : Cd y bc mL ret fr' lo' [a0, a1, a2] mem (some v) mem') (hR : fr' + 1 ≤ fr ∧ 8 + (mL + 11) + lo' ≤ lo) (hst : (st.map pm_cat).sum ≤ 8) (hq : pc + 3 = q) (kk : PR cc own nL fr lo q ls (v :: st) mem' X) : PR cc own nL fr lo pc ls (a2 :: a1 :: a0 :: st) mem X := pr_ivs [a0, a1, a2] q hd hw hm hc hR rfl hst hq (fun r m' h => by obtain ⟨rfl, rfl⟩ := h; exact kk)
theorem pr_invD4 {a0 a1 a2 a3 : pm_v} (q : Nat) (hd : decode cc pc = .ok (.invokevirtual idx, 3)) (hw : pm_CV own idx y t) (hm : pm_MW y bc mL ret 4) (hc : Cd y bc mL ret fr' lo' (pR t i :: [a0, a1, a2, a3]) mem (some v) mem') (hR : fr' + 1 ≤ fr ∧ 8 + (mL + 11) + lo' ≤ lo) (hst : (st.map pm_cat).sum ≤ 8) (hq : pc + 3 = q) (kk : PR cc own nL fr lo q ls (v :: st) mem' X) : PR cc own nL fr lo pc ls (a3 :: a2 :: a1 :: a0 :: pR t i :: st) mem X := pr_inv [a0, a1, a2, a3] q hd hw hm hc hR rfl hst hq (fun r m' h => by obtain ⟨rfl, rfl⟩ := h; exact kk)
theorem pr_inv04 {a0 a1 a2 a3 : pm_v} (q : Nat) (hd : decode cc pc = .ok (.invokevirtual idx, 3)) (hw : pm_CV own idx y t) (hm : pm_MW y bc mL ret 4) (hc : Cd y bc mL ret fr' lo' (pR t i :: [a0, a1, a2, a3]) mem none mem') (hR : fr' + 1 ≤ fr ∧ 8 + (mL + 11) + lo' ≤ lo) (hst : (st.map pm_cat).sum ≤ 8) (hq : pc + 3 = q) (kk : PR cc own nL fr lo q ls st mem' X) : PR cc own nL fr lo pc ls (a3 :: a2 :: a1 :: a0 :: pR t i :: st) mem X := pr_inv [a0, a1, a2, a3] q hd hw hm hc hR rfl hst hq (fun r m' h => by obtain ⟨rfl, rfl⟩ := h; exact kk)
theorem pr_ivsD4 {a0 a1 a2 a3 : pm_v} (q : Nat) (hd : decode cc pc = .ok (.invokestatic idx, 3)) (hw : pm_CS own idx y) (hm : pm_MW y bc mL ret 4) (hc : Cd y bc mL ret fr' lo' [a0, a1, a2, a3] mem (some v) mem') (hR : fr' + 1 ≤ fr ∧ 8 + (mL + 11) + lo' ≤ lo) (hst : (st.map pm_cat).sum ≤ 8) (hq : pc + 3 = q) (kk : PR cc own nL fr lo q ls (v :: st) mem' X) : PR cc own nL fr lo pc ls (a3 :: a2 :: a1 :: a0 :: st) mem X := pr_ivs [a0, a1, a2, a3] q hd hw hm hc hR rfl hst hq (fun r m' h => by obtain ⟨rfl, rfl⟩ := h; exact kk)
theorem pr_invD5 {a0 a1 a2 a3 a4 : pm_v} (q : Nat) (hd : decode cc pc = .ok (.invokevirtual idx, 3)) (hw : pm_CV own idx y t) (hm : pm_MW y bc mL ret 5) (hc : Cd y bc mL ret fr' lo' (pR t i :: [a0, a1, a2, a3, a4]) mem (some v) mem') (hR : fr' + 1 ≤ fr ∧ 8 + (mL + 11) + lo' ≤ lo) (hst : (st.map pm_cat).sum ≤ 8) (hq : pc + 3 = q) (kk : PR cc own nL fr lo q ls (v :: st) mem' X) : PR cc own nL fr lo pc ls (a4 :: a3 :: a2 :: a1 :: a0 :: pR t i :: st) mem X := pr_inv [a0, a1, a2, a3, a4] q hd hw hm hc hR rfl hst hq (fun r m' h => by obtain ⟨rfl, rfl⟩ := h; exact kk)
theorem pr_inv05 {a0 a1 a2 a3 a4 : pm_v} (q : Nat) (hd : decode cc pc = .ok (.invokevirtual idx, 3)) (hw : pm_CV own idx y t) (hm : pm_MW y bc mL ret 5) (hc : Cd y bc mL ret fr' lo' (pR t i :: [a0, a1, a2, a3, a4]) mem none mem') (hR : fr' + 1 ≤ fr ∧ 8 + (mL + 11) + lo' ≤ lo) (hst : (st.map pm_cat).sum ≤ 8) (hq : pc + 3 = q) (kk : PR cc own nL fr lo q ls st mem' X) : PR cc own nL fr lo pc ls (a4 :: a3 :: a2 :: a1 :: a0 :: pR t i :: st) mem X := pr_inv [a0, a1, a2, a3, a4] q hd hw hm hc hR rfl hst hq (fun r m' h => by obtain ⟨rfl, rfl⟩ := h; exact kk)
theorem pr_ivsD5 {a0 a1 a2 a3 a4 : pm_v} (q : Nat) (hd : decode cc pc = .ok (.invokestatic idx, 3)) (hw : pm_CS own idx y) (hm : pm_MW y bc mL ret 5) (hc : Cd y bc mL ret fr' lo' [a0, a1, a2, a3, a4] mem (some v) mem') (hR : fr' + 1 ≤ fr ∧ 8 + (mL + 11) + lo' ≤ lo) (hst : (st.map pm_cat).sum ≤ 8) (hq : pc + 3 = q) (kk : PR cc own nL fr lo q ls (v :: st) mem' X) : PR cc own nL fr lo pc ls (a4 :: a3 :: a2 :: a1 :: a0 :: st) mem X := pr_ivs [a0, a1, a2, a3, a4] q hd hw hm hc hR rfl hst hq (fun r m' h => by obtain ⟨rfl, rfl⟩ := h; exact kk)
theorem pr_invDR0 {Po : pm_M → Prop} (q : Nat) (hd : decode cc pc = .ok (.invokevirtual idx, 3)) (hw : pm_CV own idx y t) (hm : pm_MW y bc mL ret 0) (hc : Cl y bc mL ret fr' lo' (pR t i :: []) mem (fun r m' => r = some v ∧ Po m')) (hR : fr' + 1 ≤ fr ∧ 8 + (mL + 11) + lo' ≤ lo) (hst : (st.map pm_cat).sum ≤ 8) (hq : pc + 3 = q) (kk : ∀ m', Po m' → PR cc own nL fr lo q ls (v :: st) m' X) : PR cc own nL fr lo pc ls (pR t i :: st) mem X := pr_inv [] q hd hw hm hc hR rfl hst hq (fun r m' h => by obtain ⟨rfl, h2⟩ := h; exact kk m' h2)
theorem pr_inv0R0 {Po : pm_M → Prop} (q : Nat) (hd : decode cc pc = .ok (.invokevirtual idx, 3)) (hw : pm_CV own idx y t) (hm : pm_MW y bc mL ret 0) (hc : Cl y bc mL ret fr' lo' (pR t i :: []) mem (fun r m' => r = none ∧ Po m')) (hR : fr' + 1 ≤ fr ∧ 8 + (mL + 11) + lo' ≤ lo) (hst : (st.map pm_cat).sum ≤ 8) (hq : pc + 3 = q) (kk : ∀ m', Po m' → PR cc own nL fr lo q ls st m' X) : PR cc own nL fr lo pc ls (pR t i :: st) mem X := pr_inv [] q hd hw hm hc hR rfl hst hq (fun r m' h => by obtain ⟨rfl, h2⟩ := h; exact kk m' h2)
theorem pr_invDR1 {a0 : pm_v} {Po : pm_M → Prop} (q : Nat) (hd : decode cc pc = .ok (.invokevirtual idx, 3)) (hw : pm_CV own idx y t) (hm : pm_MW y bc mL ret 1) (hc : Cl y bc mL ret fr' lo' (pR t i :: [a0]) mem (fun r m' => r = some v ∧ Po m')) (hR : fr' + 1 ≤ fr ∧ 8 + (mL + 11) + lo' ≤ lo) (hst : (st.map pm_cat).sum ≤ 8) (hq : pc + 3 = q) (kk : ∀ m', Po m' → PR cc own nL fr lo q ls (v :: st) m' X) : PR cc own nL fr lo pc ls (a0 :: pR t i :: st) mem X := pr_inv [a0] q hd hw hm hc hR rfl hst hq (fun r m' h => by obtain ⟨rfl, h2⟩ := h; exact kk m' h2)
theorem pr_inv0R1 {a0 : pm_v} {Po : pm_M → Prop} (q : Nat) (hd : decode cc pc = .ok (.invokevirtual idx, 3)) (hw : pm_CV own idx y t) (hm : pm_MW y bc mL ret 1) (hc : Cl y bc mL ret fr' lo' (pR t i :: [a0]) mem (fun r m' => r = none ∧ Po m')) (hR : fr' + 1 ≤ fr ∧ 8 + (mL + 11) + lo' ≤ lo) (hst : (st.map pm_cat).sum ≤ 8) (hq : pc + 3 = q) (kk : ∀ m', Po m' → PR cc own nL fr lo q ls st m' X) : PR cc own nL fr lo pc ls (a0 :: pR t i :: st) mem X := pr_inv [a0] q hd hw hm hc hR rfl hst hq (fun r m' h => by obtain ⟨rfl, h2⟩ := h; exact kk m' h2)
theorem pr_invDR2 {a0 a1 : pm_v} {Po : pm_M → Prop} (q : Nat) (hd : decode cc pc = .ok (.invokevirtual idx, 3)) (hw : pm_CV own idx y t) (hm : pm_MW y bc mL ret 2) (hc : Cl y bc mL ret fr' lo' (pR t i :: [a0, a1]) mem (fun r m' => r = some v ∧ Po m')) (hR : fr' + 1 ≤ fr ∧ 8 + (mL + 11) + lo' ≤ lo) (hst : (st.map pm_cat).sum ≤ 8) (hq : pc + 3 = q) (kk : ∀ m', Po m' → PR cc own nL fr lo q ls (v :: st) m' X) : PR cc own nL fr lo pc ls (a1 :: a0 :: pR t i :: st) mem X := pr_inv [a0, a1] q hd hw hm hc hR rfl hst hq (fun r m' h => by obtain ⟨rfl, h2⟩ := h; exact kk m' h2)
theorem pr_inv0R2 {a0 a1 : pm_v} {Po : pm_M → Prop} (q : Nat) (hd : decode cc pc = .ok (.invokevirtual idx, 3)) (hw : pm_CV own idx y t) (hm : pm_MW y bc mL ret 2) (hc : Cl y bc mL ret fr' lo' (pR t i :: [a0, a1]) mem (fun r m' => r = none ∧ Po m')) (hR : fr' + 1 ≤ fr ∧ 8 + (mL + 11) + lo' ≤ lo) (hst : (st.map pm_cat).sum ≤ 8) (hq : pc + 3 = q) (kk : ∀ m', Po m' → PR cc own nL fr lo q ls st m' X) : PR cc own nL fr lo pc ls (a1 :: a0 :: pR t i :: st) mem X := pr_inv [a0, a1] q hd hw hm hc hR rfl hst hq (fun r m' h => by obtain ⟨rfl, h2⟩ := h; exact kk m' h2)
theorem pr_invDR3 {a0 a1 a2 : pm_v} {Po : pm_M → Prop} (q : Nat) (hd : decode cc pc = .ok (.invokevirtual idx, 3)) (hw : pm_CV own idx y t) (hm : pm_MW y bc mL ret 3) (hc : Cl y bc mL ret fr' lo' (pR t i :: [a0, a1, a2]) mem (fun r m' => r = some v ∧ Po m')) (hR : fr' + 1 ≤ fr ∧ 8 + (mL + 11) + lo' ≤ lo) (hst : (st.map pm_cat).sum ≤ 8) (hq : pc + 3 = q) (kk : ∀ m', Po m' → PR cc own nL fr lo q ls (v :: st) m' X) : PR cc own nL fr lo pc ls (a2 :: a1 :: a0 :: pR t i :: st) mem X := pr_inv [a0, a1, a2] q hd hw hm hc hR rfl hst hq (fun r m' h => by obtain ⟨rfl, h2⟩ := h; exact kk m' h2)
theorem pr_inv0R3 {a0 a1 a2 : pm_v} {Po : pm_M → Prop} (q : Nat) (hd : decode cc pc = .ok (.invokevirtual idx, 3)) (hw : pm_CV own idx y t) (hm : pm_MW y bc mL ret 3) (hc : Cl y bc mL ret fr' lo' (pR t i :: [a0, a1, a2]) mem (fun r m' => r = none ∧ Po m')) (hR : fr' + 1 ≤ fr ∧ 8 + (mL + 11) + lo' ≤ lo) (hst : (st.map pm_cat).sum ≤ 8) (hq : pc + 3 = q) (kk : ∀ m', Po m' → PR cc own nL fr lo q ls st m' X) : PR cc own nL fr lo pc ls (a2 :: a1 :: a0 :: pR t i :: st) mem X := pr_inv [a0, a1, a2] q hd hw hm hc hR rfl hst hq (fun r m' h => by obtain ⟨rfl, h2⟩ := h; exact kk m' h2)
theorem pr_invDR4 {a0 a1 a2 a3 : pm_v} {Po : pm_M → Prop} (q : Nat) (hd : decode cc pc = .ok (.invokevirtual idx, 3)) (hw : pm_CV own idx y t) (hm : pm_MW y bc mL ret 4) (hc : Cl y bc mL ret fr' lo' (pR t i :: [a0, a1, a2, a3]) mem (fun r m' => r = some v ∧ Po m')) (hR : fr' + 1 ≤ fr ∧ 8 + (mL + 11) + lo' ≤ lo) (hst : (st.map pm_cat).sum ≤ 8) (hq : pc + 3 = q) (kk : ∀ m', Po m' → PR cc own nL fr lo q ls (v :: st) m' X) : PR cc own nL fr lo pc ls (a3 :: a2 :: a1 :: a0 :: pR t i :: st) mem X := pr_inv [a0, a1, a2, a3] q hd hw hm hc hR rfl hst hq (fun r m' h => by obtain ⟨rfl, h2⟩ := h; exact kk m' h2)
theorem pr_inv0R4 {a0 a1 a2 a3 : pm_v} {Po : pm_M → Prop} (q : Nat) (hd : decode cc pc = .ok (.invokevirtual idx, 3)) (hw : pm_CV own idx y t) (hm : pm_MW y bc mL ret 4) (hc : Cl y bc mL ret fr' lo' (pR t i :: [a0, a1, a2, a3]) mem (fun r m' => r = none ∧ Po m')) (hR : fr' + 1 ≤ fr ∧ 8 + (mL + 11) + lo' ≤ lo) (hst : (st.map pm_cat).sum ≤ 8) (hq : pc + 3 = q) (kk : ∀ m', Po m' → PR cc own nL fr lo q ls st m' X) : PR cc own nL fr lo pc ls (a3 :: a2 :: a1 :: a0 :: pR t i :: st) mem X := pr_inv [a0, a1, a2, a3] q hd hw hm hc hR rfl hst hq (fun r m' h => by obtain ⟨rfl, h2⟩ := h; exact kk m' h2)
theorem pr_invDR5 {a0 a1 a2 a3 a4 : pm_v} {Po : pm_M → Prop} (q : Nat) (hd : decode cc pc = .ok (.invokevirtual idx, 3)) (hw : pm_CV own idx y t) (hm : pm_MW y bc mL ret 5) (hc : Cl y bc mL ret fr' lo' (pR t i :: [a0, a1, a2, a3, a4]) mem (fun r m' => r = some v ∧ Po m')) (hR : fr' + 1 ≤ fr ∧ 8 + (mL + 11) + lo' ≤ lo) (hst : (st.map pm_cat).sum ≤ 8) (hq : pc + 3 = q) (kk : ∀ m', Po m' → PR cc own nL fr lo q ls (v :: st) m' X) : PR cc own nL fr lo pc ls (a4 :: a3 :: a2 :: a1 :: a0 :: pR t i :: st) mem X := pr_inv [a0, a1, a2, a3, a4] q hd hw hm hc hR rfl hst hq (fun r m' h => by obtain ⟨rfl, h2⟩ := h; exact kk m' h2)
theorem pr_inv0R5 {a0 a1 a2 a3 a4 : pm_v} {Po : pm_M → Prop} (q : Nat) (hd : decode cc pc = .ok (.invokevirtual idx, 3)) (hw : pm_CV own idx y t) (hm : pm_MW y bc mL ret 5) (hc : Cl y bc mL ret fr' lo' (pR t i :: [a0, a1, a2, a3, a4]) mem (fun r m' => r = none ∧ Po m')) (hR : fr' + 1 ≤ fr ∧ 8 + (mL + 11) + lo' ≤ lo) (hst : (st.map pm_cat).sum ≤ 8) (hq : pc + 3 = q) (kk : ∀ m', Po m' → PR cc own nL fr lo q ls st m' X) : PR cc own nL fr lo pc ls (a4 :: a3 :: a2 :: a1 :: a0 :: pR t i :: st) mem X := pr_inv [a0, a1, a2, a3, a4] q hd hw hm hc hR rfl hst hq (fun r m' h => by obtain ⟨rfl, h2⟩ := h; exact kk m' h2)
end PRD
end
section
/-! numbers of the machine -/
theorem lN_int {n : Nat} (h : n < 2 ^ 63) : (lN n).toInt = (n : Int) := Int64.toInt_ofNat_of_lt h
theorem lN_leI {a b : Nat} (ha : a < 2 ^ 63) (hb : b < 2 ^ 63) : lN a ≤ lN b ↔ a ≤ b := by
  rw [Int64.le_iff_toInt_le, lN_int ha, lN_int hb]; omega
theorem lN_ltI {a b : Nat} (ha : a < 2 ^ 63) (hb : b < 2 ^ 63) : lN a < lN b ↔ a < b := by
  rw [Int64.lt_iff_toInt_lt, lN_int ha, lN_int hb]; omega
theorem lN_eqI {a b : Nat} (ha : a < 2 ^ 63) (hb : b < 2 ^ 63) : lN a = lN b ↔ a = b := by
  rw [← Int64.toInt_inj, lN_int ha, lN_int hb]; omega
theorem lN_div {a b : Nat} (ha : a < 2 ^ 63) (hb : b < 2 ^ 63) : lN a / lN b = lN (a / b) := by
  apply Int64.toInt_inj.mp
  have h1 : a / b < 2 ^ 63 := Nat.lt_of_le_of_lt (Nat.div_le_self _ _) ha
  rw [Int64.toInt_div, lN_int ha, lN_int hb, lN_int h1]
  have h2 : ((a : Int).tdiv (b : Int)) = ((a / b : Nat) : Int) := by
    rw [Int.tdiv_eq_ediv_of_nonneg (by omega)]; exact (Int.natCast_ediv a b).symm
  rw [h2]
  clear h2
  generalize a / b = q at h1 ⊢
  apply Int.bmod_eq_of_le <;> omega
theorem lN_rem {a b : Nat} (ha : a < 2 ^ 63) (hb : b < 2 ^ 63) : lN a - lN a / lN b * lN b = lN (a % b) := by
  rw [lN_div ha hb, lN_mul, lN_sub (Nat.div_mul_le_self a b)]
  congr 1
  have := Nat.div_add_mod a b
  rw [Nat.mul_comm] at this
  omega
theorem nI_subN {a b : Nat} (h : b ≤ a) : nI a - nI b = nI (a - b) := by
  have e : nI a = nI (a - b) + nI b := by rw [nI_add]; congr 1; omega
  rw [e]
  exact Int32.add_sub_cancel _ _
theorem nI_divN {a b : Nat} (ha : a < 2 ^ 31) (hb : b < 2 ^ 31) : nI a / nI b = nI (a / b) := by
  apply Int32.toInt_inj.mp
  have h1 : a / b < 2 ^ 31 := Nat.lt_of_le_of_lt (Nat.div_le_self _ _) ha
  rw [Int32.toInt_div, nI_toInt ha, nI_toInt hb, nI_toInt h1]
  have h2 : ((a : Int).tdiv (b : Int)) = ((a / b : Nat) : Int) := by
    rw [Int.tdiv_eq_ediv_of_nonneg (by omega)]; exact (Int.natCast_ediv a b).symm
  rw [h2]
  clear h2
  generalize a / b = q at h1 ⊢
  apply Int.bmod_eq_of_le <;> omega
theorem nI_mulN (a b : Nat) : nI a * nI b = nI (a * b) := (Int32.ofNat_mul a b).symm
/-- a long with a sign -/
def lI (z : Int) : Int64 := Int64.ofInt z
theorem lI_nat (n : Nat) : lI (n : Int) = lN n := by
  apply Int64.toBitVec_inj.mp
  simp [lI, lN]
theorem lI_toInt {z : Int} (h1 : -9223372036854775808 ≤ z) (h2 : z < 9223372036854775808) : (lI z).toInt = z := by
  unfold lI
  rw [Int64.toInt_ofInt]
  show Int.bmod z 18446744073709551616 = z
  apply Int.bmod_eq_of_le <;> omega
theorem lI_ltI {a b : Int} (h1 : -9223372036854775808 ≤ a) (h2 : a < 9223372036854775808) (h3 : -9223372036854775808 ≤ b) (h4 : b < 9223372036854775808) : lI a < lI b ↔ a < b := by
  rw [Int64.lt_iff_toInt_lt, lI_toInt h1 h2, lI_toInt h3 h4]
theorem lI_m1 : lI (-1) = -1 := rfl
theorem i32_nle {a b : Int32} (h : ¬ a ≤ b) : b < a := Int32.not_le.mp h
theorem i32_nlt {a b : Int32} (h : ¬ a < b) : b ≤ a := by
  rw [Int32.lt_iff_toInt_lt] at h; rw [Int32.le_iff_toInt_le]; omega
/-- frames of memories -/
def pm_fr (S : Nat → Nat → Prop) (m0 m : pm_M) : Prop := ∀ t i, ¬ S t i → m.1 t i = m0.1 t i ∧ m.2.1 t i = m0.2.1 t i ∧ m.2.2 t i = m0.2.2 t i
theorem pm_fr.rf {S : Nat → Nat → Prop} {m : pm_M} : pm_fr S m m := fun _ _ _ => ⟨rfl, rfl, rfl⟩
theorem pm_fr.tr {S : Nat → Nat → Prop} {m0 m1 m2 : pm_M} (h1 : pm_fr S m0 m1) (h2 : pm_fr S m1 m2) : pm_fr S m0 m2 := fun t i h => ⟨(h2 t i h).1.trans (h1 t i h).1, (h2 t i h).2.1.trans (h1 t i h).2.1, (h2 t i h).2.2.trans (h1 t i h).2.2⟩
theorem pm_fr.mono {S S' : Nat → Nat → Prop} {m0 m : pm_M} (h : pm_fr S m0 m) (hS : ∀ t i, S t i → S' t i) : pm_fr S' m0 m := fun t i hn => h t i (fun z => hn (hS t i z))
theorem pm_fr.uI {S : Nat → Nat → Prop} {m0 m : pm_M} {t i k : Nat} {x : Int32} (h : pm_fr S m0 m) (hs : S t i) : pm_fr S m0 (pm_uI m t i k x) := fun t' i' hn => by
  obtain ⟨a, b, c⟩ := pm_but_I m t i k x t' i' (fun z => hn (by rw [z.1, z.2]; exact hs))
  exact ⟨a.trans (h t' i' hn).1, b.trans (h t' i' hn).2.1, c.trans (h t' i' hn).2.2⟩
theorem pm_fr.uJ {S : Nat → Nat → Prop} {m0 m : pm_M} {t i k : Nat} {x : Int64} (h : pm_fr S m0 m) (hs : S t i) : pm_fr S m0 (pm_uJ m t i k x) := fun t' i' hn => by
  obtain ⟨a, b, c⟩ := pm_but_J m t i k x t' i' (fun z => hn (by rw [z.1, z.2]; exact hs))
  exact ⟨a.trans (h t' i' hn).1, b.trans (h t' i' hn).2.1, c.trans (h t' i' hn).2.2⟩
theorem pm_fr.uP {S : Nat → Nat → Prop} {m0 m : pm_M} {t i k : Nat} {x : Option Nat} (h : pm_fr S m0 m) (hs : S t i) : pm_fr S m0 (pm_uP m t i k x) := fun t' i' hn => by
  obtain ⟨a, b, c⟩ := pm_but_P m t i k x t' i' (fun z => hn (by rw [z.1, z.2]; exact hs))
  exact ⟨a.trans (h t' i' hn).1, b.trans (h t' i' hn).2.1, c.trans (h t' i' hn).2.2⟩
theorem pm_gI (m : pm_M) (t i k : Nat) (x : Int32) (t' i' k' : Nat) : (pm_uI m t i k x).1 t' i' k' = if t' = t ∧ i' = i ∧ k' = k then x else m.1 t' i' k' := rfl
theorem pm_gJ (m : pm_M) (t i k : Nat) (x : Int64) (t' i' k' : Nat) : (pm_uJ m t i k x).2.1 t' i' k' = if t' = t ∧ i' = i ∧ k' = k then x else m.2.1 t' i' k' := rfl
theorem pm_gIJ (m : pm_M) (t i k : Nat) (x : Int64) : (pm_uJ m t i k x).1 = m.1 := rfl
theorem pm_gJI (m : pm_M) (t i k : Nat) (x : Int32) : (pm_uI m t i k x).2.1 = m.2.1 := rfl
theorem pm_gPI (m : pm_M) (t i k : Nat) (x : Int32) : (pm_uI m t i k x).2.2 = m.2.2 := rfl
theorem pm_gPJ (m : pm_M) (t i k : Nat) (x : Int64) : (pm_uJ m t i k x).2.2 = m.2.2 := rfl
theorem pm_gIP (m : pm_M) (t i k : Nat) (x : Option Nat) : (pm_uP m t i k x).1 = m.1 := rfl
theorem pm_gJP (m : pm_M) (t i k : Nat) (x : Option Nat) : (pm_uP m t i k x).2.1 = m.2.1 := rfl
theorem pm_gP (m : pm_M) (t i k : Nat) (x : Option Nat) (t' i' k' : Nat) : (pm_uP m t i k x).2.2 t' i' k' = if t' = t ∧ i' = i ∧ k' = k then x else m.2.2 t' i' k' := rfl
end
section
/-! small methods -/
set_option maxRecDepth 100000 in
theorem sp_X8_isIn {mem : pm_M} (i n : Int32) : Cd yX8_isIn cX8_isIn 2 (some .boolean) 0 0 [pI i, pI n] mem (some (pI (if 0 ≤ i ∧ i < n then 1 else 0))) mem := by
  refine Cl.of (own := RX8) rfl rfl (Nat.le_of_ble_eq_true rfl) rfl ?_
  refine pr_iload_n 1 dX8_isIn_0 rfl rfl rfl ?_
  refine pr_if_lt 13 4 dX8_isIn_1 rfl rfl (fun c_1 => ?_) (fun c_1 => ?_)
  · refine pr_iconst (0) 14 dX8_isIn_13 (by decide) rfl ?_
    refine pr_zreturn dX8_isIn_14 rfl (by first | exact Or.inl rfl | exact Or.inr rfl) ?_
    exact ⟨by grind, rfl⟩
  · refine pr_iload_n 5 dX8_isIn_4 rfl rfl rfl ?_
    refine pr_iload_n 6 dX8_isIn_5 rfl rfl rfl ?_
    refine pr_icmp_ge 13 9 dX8_isIn_6 rfl rfl (fun c_6 => ?_) (fun c_6 => ?_)
    · refine pr_iconst (0) 14 dX8_isIn_13 (by decide) rfl ?_
      refine pr_zreturn dX8_isIn_14 rfl (by first | exact Or.inl rfl | exact Or.inr rfl) ?_
      exact ⟨by grind, rfl⟩
    · refine pr_iconst (1) 10 dX8_isIn_9 (by decide) rfl ?_
      refine pr_goto 14 dX8_isIn_10 rfl ?_
      refine pr_zreturn dX8_isIn_14 rfl (by first | exact Or.inl rfl | exact Or.inr rfl) ?_
      exact ⟨by grind, rfl⟩
set_option maxRecDepth 100000 in
theorem sp_X2_isIdle {mem : pm_M} (L t : Nat) (ht : t < 16) : Cd yX2_isIdle cX2_isIdle 2 (some .boolean) 0 0 [pR 10002902 L, pI (nI t)] mem (some (pI (if mem.1 20016089 L t = 0 then 1 else 0))) mem := by
  refine Cl.of (own := RX2) rfl rfl (Nat.le_of_ble_eq_true rfl) rfl ?_
  refine pr_aload_n 1 dX2_isIdle_0 rfl rfl rfl ?_
  refine pr_getR0 4 dX2_isIdle_1 fX2_36 rfl ?_
  refine pr_iload_n 5 dX2_isIdle_4 rfl rfl rfl ?_
  refine pr_iaload _ 6 dX2_isIdle_5 rfl rfl rfl (by omega) rfl ?_
  refine pr_if_ne 13 9 dX2_isIdle_6 rfl rfl (fun c_6 => ?_) (fun c_6 => ?_)
  · refine pr_iconst (0) 14 dX2_isIdle_13 (by decide) rfl ?_
    refine pr_zreturn dX2_isIdle_14 rfl (by first | exact Or.inl rfl | exact Or.inr rfl) ?_
    exact ⟨by simp [*], rfl⟩
  · refine pr_iconst (1) 10 dX2_isIdle_9 (by decide) rfl ?_
    refine pr_goto 14 dX2_isIdle_10 rfl ?_
    refine pr_zreturn dX2_isIdle_14 rfl (by first | exact Or.inl rfl | exact Or.inr rfl) ?_
    exact ⟨by simp [*], rfl⟩
set_option maxRecDepth 100000 in
theorem sp_X0_distance {mem : pm_M} (d a b : Nat) (ha : a < 12) (hb : b < 12) : Cd yX0_distance cX0_distance 3 (some .int) 1 22 [pR 10000900 d, pI (nI a), pI (nI b)] mem (some (pI ((if 0 ≤ mem.1 20012006 d a - mem.1 20012006 d b then mem.1 20012006 d a - mem.1 20012006 d b else 0 - (mem.1 20012006 d a - mem.1 20012006 d b)) + (if 0 ≤ mem.1 20012007 d a - mem.1 20012007 d b then mem.1 20012007 d a - mem.1 20012007 d b else 0 - (mem.1 20012007 d a - mem.1 20012007 d b))))) mem := by
  refine Cl.of (own := RX0) rfl rfl (Nat.le_of_ble_eq_true rfl) rfl ?_
  refine pr_aload_n 1 dX0_distance_0 rfl rfl rfl ?_
  refine pr_getR0 4 dX0_distance_1 fX0_9 rfl ?_
  refine pr_iload_n 5 dX0_distance_4 rfl rfl rfl ?_
  refine pr_iaload _ 6 dX0_distance_5 rfl rfl rfl (by omega) rfl ?_
  refine pr_aload_n 7 dX0_distance_6 rfl rfl rfl ?_
  refine pr_getR0 10 dX0_distance_7 fX0_9 rfl ?_
  refine pr_iload_n 11 dX0_distance_10 rfl rfl rfl ?_
  refine pr_iaload _ 12 dX0_distance_11 rfl rfl rfl (by omega) rfl ?_
  refine pr_isub 13 dX0_distance_12 rfl ?_
  refine pr_mabs 16 dX0_distance_13 jX0_70 jm_abs_s jm_i jm_abs_c (Nat.le_of_ble_eq_true rfl) ⟨Nat.le_of_ble_eq_true rfl, Nat.le_of_ble_eq_true rfl⟩ rfl ?_
  refine pr_aload_n 17 dX0_distance_16 rfl rfl rfl ?_
  refine pr_getR0 20 dX0_distance_17 fX0_15 rfl ?_
  refine pr_iload_n 21 dX0_distance_20 rfl rfl rfl ?_
  refine pr_iaload _ 22 dX0_distance_21 rfl rfl rfl (by omega) rfl ?_
  refine pr_aload_n 23 dX0_distance_22 rfl rfl rfl ?_
  refine pr_getR0 26 dX0_distance_23 fX0_15 rfl ?_
  refine pr_iload_n 27 dX0_distance_26 rfl rfl rfl ?_
  refine pr_iaload _ 28 dX0_distance_27 rfl rfl rfl (by omega) rfl ?_
  refine pr_isub 29 dX0_distance_28 rfl ?_
  refine pr_mabs 32 dX0_distance_29 jX0_70 jm_abs_s jm_i jm_abs_c (Nat.le_of_ble_eq_true rfl) ⟨Nat.le_of_ble_eq_true rfl, Nat.le_of_ble_eq_true rfl⟩ rfl ?_
  refine pr_iadd 33 dX0_distance_32 rfl ?_
  refine pr_ireturn dX0_distance_33 rfl ?_
  exact ⟨rfl, rfl⟩
end
section
/-! parting a number by measures: the mathematics -/
def sm (f : Nat → Nat) : Nat → Nat
  | 0 => 0
  | n + 1 => sm f n + f n
theorem sm_congr {f g : Nat → Nat} : ∀ {n : Nat}, (∀ k, k < n → f k = g k) → sm f n = sm g n
  | 0, _ => rfl
  | n + 1, h => by rw [sm, sm, sm_congr (fun k hk => h k (by omega)), h n (by omega)]
theorem sm_le {f g : Nat → Nat} : ∀ {n : Nat}, (∀ k, k < n → f k ≤ g k) → sm f n ≤ sm g n
  | 0, _ => Nat.le_refl _
  | n + 1, h => Nat.add_le_add (sm_le (fun k hk => h k (by omega))) (h n (by omega))
theorem sm_add (f g : Nat → Nat) : ∀ n, sm (fun k => f k + g k) n = sm f n + sm g n
  | 0 => rfl
  | n + 1 => by rw [sm, sm, sm, sm_add f g n]; omega
theorem sm_mul (c : Nat) (f : Nat → Nat) : ∀ n, sm (fun k => c * f k) n = c * sm f n
  | 0 => rfl
  | n + 1 => by rw [sm, sm, sm_mul c f n, Nat.mul_add]
theorem sm_const (c : Nat) : ∀ n, sm (fun _ => c) n = n * c
  | 0 => by simp [sm]
  | n + 1 => by rw [sm, sm_const c n, Nat.add_mul, Nat.one_mul]
theorem sm_zero {f : Nat → Nat} {n : Nat} (h : ∀ k, k < n → f k = 0) : sm f n = 0 := by
  rw [sm_congr h, sm_const]; omega
theorem sm_one {f : Nat → Nat} : ∀ {n k : Nat}, k < n → f k ≤ sm f n
  | 0, _, h => absurd h (Nat.not_lt_zero _)
  | n + 1, k, h => by
    rcases Nat.lt_or_ge k n with z | z
    · have := sm_one (f := f) z; rw [sm]; omega
    · have : k = n := by omega
      subst this; rw [sm]; omega
theorem sm_mono {f : Nat → Nat} {a b : Nat} (h : a ≤ b) : sm f a ≤ sm f b := by
  induction b with
  | zero => have : a = 0 := by omega
            subst this; exact Nat.le_refl _
  | succ b ih =>
    rcases Nat.lt_or_ge a (b + 1) with z | z
    · have := ih (by omega); rw [sm]; omega
    · have : a = b + 1 := by omega
      subst this; exact Nat.le_refl _
/-- the sum changes at one place -/
theorem sm_set {f : Nat → Nat} {b v : Nat} : ∀ {n : Nat}, b < n → sm (fun k => if k = b then v else f k) n + f b = sm f n + v
  | 0, h => absurd h (Nat.not_lt_zero _)
  | n + 1, h => by
    rcases Nat.lt_or_ge b n with z | z
    · have := sm_set (f := f) (v := v) z
      rw [sm, sm, if_neg (show ¬ n = b by omega)]; omega
    · have : b = n := by omega
      subst this
      rw [sm, sm, if_pos rfl, sm_congr (g := f) (fun k hk => if_neg (show ¬ k = b by omega))]; omega
/-- the first of the greatest of places 0 to c -/
def am (r : Nat → Int) : Nat → Nat
  | 0 => 0
  | c + 1 => if r (am r c) < r (c + 1) then c + 1 else am r c
theorem am_le (r : Nat → Int) : ∀ c, am r c ≤ c
  | 0 => Nat.le_refl _
  | c + 1 => by
    have := am_le r c
    unfold am
    split <;> omega
theorem am_max (r : Nat → Int) : ∀ c k, k ≤ c → r k ≤ r (am r c)
  | 0, k, h => by have : k = 0 := by omega
                  subst this; exact Int.le_refl _
  | c + 1, k, h => by
    unfold am
    rcases Nat.lt_or_ge k (c + 1) with z | z
    · have := am_max r c k (by omega)
      split <;> omega
    · have e : k = c + 1 := by omega
      subst e
      split <;> omega
theorem am_first (r : Nat → Int) : ∀ c k, k < am r c → r k < r (am r c)
  | 0, k, h => absurd h (Nat.not_lt_zero _)
  | c + 1, k, h => by
    unfold am at h ⊢
    by_cases z : r (am r c) < r (c + 1)
    · rw [if_pos z] at h ⊢
      have := am_max r c k (by omega)
      omega
    · rw [if_neg z] at h ⊢
      exact am_first r c k h
theorem am_uniq {r : Nat → Int} {c b : Nat} (hb : b ≤ c) (h1 : ∀ k, k ≤ c → r k ≤ r b) (h2 : ∀ k, k < b → r k < r b) : am r c = b := by
  have a1 := am_le r c
  have a2 := am_max r c b hb
  have a3 := am_first r c
  rcases Nat.lt_trichotomy (am r c) b with z | z | z
  · have := h2 _ z; omega
  · exact z
  · have := a3 b z
    have := h1 _ a1
    omega
theorem am_congr {r s : Nat → Int} : ∀ {c}, (∀ k, k ≤ c → r k = s k) → am r c = am s c
  | 0, _ => rfl
  | c + 1, h => by
    have ih := am_congr (r := r) (s := s) (c := c) (fun k hk => h k (by omega))
    unfold am
    rw [ih, h (c + 1) (Nat.le_refl _), h (am s c) (by have := am_le s c; omega)]
abbrev gT : Type := (Nat → Nat) × (Nat → Int)
/-- one more to the greatest remainder -/
def g1 (c : Nat) (s : gT) : gT := (fun k => if k = am s.2 (c - 1) then s.1 k + 1 else s.1 k, fun k => if k = am s.2 (c - 1) then -1 else s.2 k)
def gv (c : Nat) : Nat → gT → gT
  | 0, s => s
  | i + 1, s => g1 c (gv c i s)
def g0 (n S : Nat) (m : Nat → Nat) : gT := (fun k => n * m k / S, fun k => ((n * m k % S : Nat) : Int))
def lf (n c : Nat) (m : Nat → Nat) : Nat := n - sm (fun k => n * m k / sm m c) c
/-- n parted by the measures m of places 0 to c - 1 -/
def pa (n c : Nat) (m : Nat → Nat) (k : Nat) : Nat := if sm m c = 0 then (if k = 0 then n else 0) else (gv c (lf n c m) (g0 n (sm m c) m)).1 k
theorem pa_sum {n c : Nat} {m : Nat → Nat} (h : 0 < sm m c) : sm (fun k => n * m k / sm m c) c ≤ n ∧ sm (fun k => n * m k % sm m c) c = sm m c * lf n c m := by
  have e1 : sm (fun k => n * m k) c = sm m c * sm (fun k => n * m k / sm m c) c + sm (fun k => n * m k % sm m c) c := by
    rw [← sm_mul, ← sm_add]
    exact sm_congr (fun k _ => (Nat.div_add_mod _ _).symm)
  rw [sm_mul] at e1
  have hle : sm (fun k => n * m k / sm m c) c ≤ n := by
    refine Nat.le_of_mul_le_mul_left (c := sm m c) ?_ h
    have : n * sm m c = sm m c * n := Nat.mul_comm _ _
    omega
  refine ⟨hle, ?_⟩
  unfold lf
  rw [Nat.mul_sub]
  have : n * sm m c = sm m c * n := Nat.mul_comm _ _
  omega
theorem pa_left {n c : Nat} {m : Nat → Nat} (h : 0 < sm m c) : lf n c m < c := by
  have h2 := (pa_sum (n := n) h).2
  have hc : 0 < c := by
    rcases Nat.eq_zero_or_pos c with z | z
    · subst z; simp [sm] at h
    · exact z
  have h3 : sm (fun k => n * m k % sm m c) c ≤ sm (fun _ => sm m c - 1) c := sm_le (fun k _ => by have := Nat.mod_lt (n * m k) h; omega)
  rw [sm_const] at h3
  rw [h2] at h3
  have h4 : c * (sm m c - 1) < sm m c * c := by
    rw [Nat.mul_comm (sm m c) c]
    exact Nat.mul_lt_mul_of_pos_left (by omega) hc
  exact Nat.lt_of_mul_lt_mul_left (a := sm m c) (Nat.lt_of_le_of_lt h3 h4)
/-- what is left of the remainders -/
def ph (r : Nat → Int) (c : Nat) : Nat := sm (fun k => (r k).toNat) c
theorem ph_step {s : gT} {c : Nat} (hc : 0 < c) : ph (g1 c s).2 c + (s.2 (am s.2 (c - 1))).toNat = ph s.2 c := by
  have hb : am s.2 (c - 1) < c := by have := am_le s.2 (c - 1); omega
  have := sm_set (f := fun k => (s.2 k).toNat) (b := am s.2 (c - 1)) (v := 0) hb
  unfold ph g1
  rw [← Nat.add_zero (sm (fun k => (s.2 k).toNat) c), ← this]
  congr 1
  apply sm_congr
  intro k _
  by_cases z : k = am s.2 (c - 1)
  · simp [z]
  · simp [z]
/-- remainders stay below S, and some is above 0 as long as one is left to give -/
theorem gv_inv {n c : Nat} {m : Nat → Nat} (h : 0 < sm m c) : ∀ i, i ≤ lf n c m → (∀ k, (gv c i (g0 n (sm m c) m)).2 k < sm m c ∧ -1 ≤ (gv c i (g0 n (sm m c) m)).2 k) ∧ sm m c * lf n c m ≤ ph (gv c i (g0 n (sm m c) m)).2 c + i * (sm m c - 1)
  | 0, _ => by
    refine ⟨fun k => ?_, ?_⟩
    · have := Nat.mod_lt (n * m k) h
      show ((n * m k % sm m c : Nat) : Int) < _ ∧ _ ≤ ((n * m k % sm m c : Nat) : Int)
      omega
    · rw [← (pa_sum (n := n) h).2]
      have : ph (g0 n (sm m c) m).2 c = sm (fun k => n * m k % sm m c) c := sm_congr (fun k _ => Int.toNat_natCast _)
      show _ ≤ ph (g0 n (sm m c) m).2 c + _
      omega
  | i + 1, hi => by
    obtain ⟨h1, h2⟩ := gv_inv (n := n) (m := m) h i (by omega)
    have hc : 0 < c := by have := pa_left (n := n) h; omega
    refine ⟨fun k => ?_, ?_⟩
    · have := h1 k
      show (if k = _ then (-1 : Int) else _) < _ ∧ _ ≤ (if k = _ then (-1 : Int) else _)
      split <;> omega
    · have h3 := ph_step (s := gv c i (g0 n (sm m c) m)) hc
      have h4 := h1 (am (gv c i (g0 n (sm m c) m)).2 (c - 1))
      show _ ≤ ph (g1 c (gv c i (g0 n (sm m c) m))).2 c + _
      rw [Nat.add_mul, Nat.one_mul]
      omega
theorem gv_pos {n c : Nat} {m : Nat → Nat} (h : 0 < sm m c) {i : Nat} (hi : i < lf n c m) : 0 < (gv c i (g0 n (sm m c) m)).2 (am (gv c i (g0 n (sm m c) m)).2 (c - 1)) := by
  obtain ⟨h1, h2⟩ := gv_inv (n := n) (m := m) h i (by omega)
  rcases Int.lt_or_le 0 ((gv c i (g0 n (sm m c) m)).2 (am (gv c i (g0 n (sm m c) m)).2 (c - 1))) with z | z
  · exact z
  · exfalso
    have h3 : ph (gv c i (g0 n (sm m c) m)).2 c = 0 := sm_zero (fun k hk => by
      have := am_max (gv c i (g0 n (sm m c) m)).2 (c - 1) k (by omega)
      omega)
    rw [h3] at h2
    have h4 : i * (sm m c - 1) < sm m c * lf n c m := by
      calc i * (sm m c - 1) ≤ i * sm m c := Nat.mul_le_mul_left _ (by omega)
        _ = sm m c * i := Nat.mul_comm _ _
        _ < sm m c * lf n c m := Nat.mul_lt_mul_of_pos_left hi h
    omega
/-- places that matter not: those without a measure may be left out -/
theorem sm_sel {N c : Nat} {m : Nat → Nat} {e : Nat → Nat} (hinc : ∀ i j, i < j → j < c → e i < e j) (hlt : ∀ j, j < c → e j < N) (hz : ∀ t, t < N → (∀ j, j < c → e j ≠ t) → m t = 0) : sm (fun j => m (e j)) c = sm m N := by
  induction N generalizing c with
  | zero =>
    have : c = 0 := by
      rcases Nat.eq_zero_or_pos c with z | z
      · exact z
      · exact absurd (hlt 0 z) (Nat.not_lt_zero _)
    subst this; rfl
  | succ N ih =>
    rcases Nat.eq_zero_or_pos c with z | z
    · subst z
      rw [sm_zero (f := m) (fun k hk => hz k hk (fun j hj => absurd hj (Nat.not_lt_zero _)))]
      rfl
    · obtain ⟨c, rfl⟩ : ∃ d, c = d + 1 := ⟨c - 1, by omega⟩
      by_cases hl : e c = N
      · rw [sm, sm, hl, ih (c := c) (fun i j h1 h2 => hinc i j h1 (by omega)) (fun j hj => by have := hinc j c hj (by omega); omega) (fun t ht hn => hz t (by omega) (fun j hj => by
          rcases Nat.lt_or_ge j c with y | y
          · exact hn j y
          · have : j = c := by omega
            subst this; omega))]
      · have hN : m N = 0 := hz N (by omega) (fun j hj hc => by
          rcases Nat.lt_or_ge j c with y | y
          · have := hinc j c y (by omega); have := hlt c (by omega); omega
          · have : j = c := by omega
            subst this; exact hl hc)
        show _ = sm m N + m N
        rw [ih (c := c + 1) hinc (fun j hj => by
          have h1 := hlt j hj
          rcases Nat.lt_or_ge (e j) N with y | y
          · exact y
          · exfalso
            have : e j = N := by omega
            rcases Nat.lt_or_ge j c with x | x
            · have := hinc j c x (by omega); have := hlt c (by omega); omega
            · have : j = c := by omega
              subst this; omega) (fun t ht hn => hz t (by omega) hn), hN]
        rfl
theorem pa_sel {n N c : Nat} {m : Nat → Nat} {e : Nat → Nat} (hinc : ∀ i j, i < j → j < c → e i < e j) (hlt : ∀ j, j < c → e j < N) (hz : ∀ t, t < N → (∀ j, j < c → e j ≠ t) → m t = 0) (hS : 0 < sm m N) :
    (∀ j, j < c → pa n c (fun j => m (e j)) j = pa n N m (e j)) ∧ ∀ t, t < N → (∀ j, j < c → e j ≠ t) → pa n N m t = 0 := by
  have e1 : sm (fun j => m (e j)) c = sm m N := sm_sel hinc hlt hz
  have hS' : 0 < sm (fun j => m (e j)) c := by rw [e1]; exact hS
  have e2 : lf n c (fun j => m (e j)) = lf n N m := by
    have h1 := (pa_sum (n := n) hS').2
    have h2 := (pa_sum (n := n) hS).2
    rw [e1] at h1
    have h3 : sm (fun k => n * m (e k) % sm m N) c = sm (fun k => n * m k % sm m N) N := sm_sel (m := fun k => n * m k % sm m N) hinc hlt (fun t ht hn => by rw [hz t ht hn]; simp)
    have : sm m N * lf n c (fun j => m (e j)) = sm m N * lf n N m := by rw [← h1, ← h2]; exact h3
    exact Nat.eq_of_mul_eq_mul_left hS this
  have key : ∀ i, i ≤ lf n N m → (∀ j, j < c → (gv c i (g0 n (sm m N) (fun j => m (e j)))).1 j = (gv N i (g0 n (sm m N) m)).1 (e j) ∧ (gv c i (g0 n (sm m N) (fun j => m (e j)))).2 j = (gv N i (g0 n (sm m N) m)).2 (e j)) ∧ ∀ t, t < N → (∀ j, j < c → e j ≠ t) → (gv N i (g0 n (sm m N) m)).1 t = 0 ∧ (gv N i (g0 n (sm m N) m)).2 t = 0 := by
    intro i
    induction i with
    | zero =>
      intro _
      refine ⟨fun j hj => ⟨rfl, rfl⟩, fun t ht hn => ?_⟩
      have := hz t ht hn
      show n * m t / _ = 0 ∧ ((n * m t % _ : Nat) : Int) = 0
      rw [this]; simp
    | succ i ih =>
      intro hi
      obtain ⟨h1, h2⟩ := ih (by omega)
      have hp := gv_pos (n := n) hS (i := i) (by omega)
      have hN : 0 < N := by have := pa_left (n := n) hS; omega
      have hb := am_le (gv N i (g0 n (sm m N) m)).2 (N - 1)
      -- the greatest is one of the places that matter
      obtain ⟨b, hbc, hbe⟩ : ∃ b, b < c ∧ e b = am (gv N i (g0 n (sm m N) m)).2 (N - 1) := by
        rcases Classical.em (∃ b, b < c ∧ e b = am (gv N i (g0 n (sm m N) m)).2 (N - 1)) with z | z
        · exact z
        · exfalso
          have := (h2 (am (gv N i (g0 n (sm m N) m)).2 (N - 1)) (by omega) (fun j hj hh => z ⟨j, hj, hh⟩)).2
          omega
      have hab : am (gv c i (g0 n (sm m N) (fun j => m (e j)))).2 (c - 1) = b := by
        refine am_uniq (by omega) (fun k hk => ?_) (fun k hk => ?_)
        · rw [(h1 k (by omega)).2, (h1 b hbc).2, hbe]
          exact am_max _ _ _ (by have := hlt k (by omega); omega)
        · rw [(h1 k (by omega)).2, (h1 b hbc).2, hbe]
          refine am_first _ _ _ ?_
          rw [← hbe]
          exact hinc k b hk hbc
      have einj : ∀ j, j < c → (e j = e b ↔ j = b) := fun j hj => ⟨fun h => by
        rcases Nat.lt_trichotomy j b with z | z | z
        · have := hinc j b z hbc; omega
        · exact z
        · have := hinc b j z hj; omega, fun h => by rw [h]⟩
      refine ⟨fun j hj => ?_, fun t ht hn => ?_⟩
      · show (if j = _ then _ else _) = (if e j = _ then _ else _) ∧ (if j = _ then _ else _) = (if e j = _ then _ else _)
        rw [hab, ← hbe]
        by_cases z : j = b
        · subst z
          rw [if_pos rfl, if_pos rfl, if_pos rfl, if_pos rfl, (h1 j hj).1]
          exact ⟨rfl, rfl⟩
        · have z2 : ¬ e j = e b := fun q => z ((einj j hj).mp q)
          rw [if_neg z, if_neg z2, if_neg z, if_neg z2]
          exact h1 j hj
      · show (if t = _ then _ else _) = 0 ∧ (if t = _ then _ else _) = 0
        have : ¬ t = am (gv N i (g0 n (sm m N) m)).2 (N - 1) := by rw [← hbe]; exact fun q => hn b hbc q.symm
        rw [if_neg this, if_neg this]
        exact h2 t ht hn
  obtain ⟨k1, k2⟩ := key _ (Nat.le_refl _)
  refine ⟨fun j hj => ?_, fun t ht hn => ?_⟩
  · unfold pa
    rw [e1, if_neg (by omega), if_neg (by omega), e2]
    exact (k1 j hj).1
  · unfold pa
    rw [if_neg (by omega)]
    exact (k2 t ht hn).1
end
section
/-! Parter -/
def sPar (L : Nat) : Nat → Nat → Prop := fun t i => (t = 20016120 ∨ t = 40016122) ∧ i = L
set_option maxRecDepth 100000 in
theorem sp_X3_begin {mem : pm_M} (L : Nat) : Cd yX3_begin cX3_begin 1 none 0 0 [pR 10003903 L] mem none (pm_uI mem 10003903 L 3 0) := by
  refine Cl.of (own := RX3) rfl rfl (Nat.le_of_ble_eq_true rfl) rfl ?_
  refine pr_aload_n 1 dX3_begin_0 rfl rfl rfl ?_
  refine pr_iconst (0) 2 dX3_begin_1 (by decide) rfl ?_
  refine pr_putI 5 dX3_begin_2 fX3_22 rfl ?_
  refine pr_return dX3_begin_5 rfl ?_
  exact ⟨rfl, rfl⟩
set_option maxRecDepth 100000 in
theorem sp_X3_add {mem : pm_M} {L c : Nat} {x : Int32} (hc : mem.1 10003903 L 3 = nI c) (h16 : c < 16) : Cd yX3_add cX3_add 2 none 0 0 [pR 10003903 L, pI x] mem none (pm_uI (pm_uI mem 20016121 L c x) 10003903 L 3 (nI (c + 1))) := by
  refine Cl.of (own := RX3) rfl rfl (Nat.le_of_ble_eq_true rfl) rfl ?_
  refine pr_aload_n 1 dX3_add_0 rfl rfl rfl ?_
  refine pr_getI 4 dX3_add_1 fX3_22 rfl ?_
  rw [hc]
  refine pr_bipush (16) 6 dX3_add_4 (by decide) rfl ?_
  refine pr_icmp_ge 29 9 dX3_add_6 rfl rfl (fun c_6 => absurd c_6 (fun z => (nI_ge h16 (by omega)) z)) (fun c_6 => ?_)
  refine pr_aload_n 10 dX3_add_9 rfl rfl rfl ?_
  refine pr_getR0 13 dX3_add_10 fX3_15 rfl ?_
  refine pr_aload_n 14 dX3_add_13 rfl rfl rfl ?_
  refine pr_getI 17 dX3_add_14 fX3_22 rfl ?_
  rw [hc]
  refine pr_iload_n 18 dX3_add_17 rfl rfl rfl ?_
  refine pr_iastore _ 19 dX3_add_18 rfl rfl rfl (by omega) rfl ?_
  refine pr_aload_n 20 dX3_add_19 rfl rfl rfl ?_
  refine pr_dup rfl 21 dX3_add_20 rfl ?_
  refine pr_getI 24 dX3_add_21 fX3_22 rfl ?_
  rw [pm_gI, if_neg (by simp), hc]
  refine pr_iconst (1) 25 dX3_add_24 (by decide) rfl ?_
  refine pr_iadd 26 dX3_add_25 rfl ?_
  rw [show (1 : Int32) = nI 1 from rfl, nI_add]
  refine pr_putI 29 dX3_add_26 fX3_22 rfl ?_
  refine pr_return dX3_add_29 rfl ?_
  exact ⟨rfl, rfl⟩
/-- the rows of a parter are such a state -/
def gRow (mem : pm_M) (L c : Nat) (s : gT) : Prop := ∀ k, k < c → mem.1 20016120 L k = nI (s.1 k) ∧ mem.2.1 40016122 L k = lI (s.2 k)
def gBnd (s : gT) : Prop := ∀ k, -1 ≤ s.2 k ∧ s.2 k < 4611686018427387904
set_option maxRecDepth 100000 in
theorem lp_X3_giveOne {mem : pm_M} {L c : Nat} {s : gT} {X : Nat → List (Option pm_v) → List pm_v → pm_M → Prop} (hc : mem.1 10003903 L 3 = nI c) (h16 : c ≤ 16) (hg : gRow mem L c s) (hb : gBnd s) (hk : PR cX3_giveOne RX3 3 0 0 36 [some (pR 10003903 L), some (pI (nI (am s.2 (c - 1)))), some (pI (nI c))] [] mem X) :
    ∀ j k, k + 1 + j = c → PR cX3_giveOne RX3 3 0 0 4 [some (pR 10003903 L), some (pI (nI (am s.2 k))), some (pI (nI (k + 1)))] [] mem X := by
  intro j
  induction j with
  | zero =>
    intro k hj
    have e : c = k + 1 := by omega
    subst e
    refine pr_iload_n 5 dX3_giveOne_4 rfl rfl rfl ?_
    refine pr_aload_n 6 dX3_giveOne_5 rfl rfl rfl ?_
    refine pr_getI 9 dX3_giveOne_6 fX3_22 rfl ?_
    rw [hc]
    refine pr_icmp_ge 36 12 dX3_giveOne_9 rfl rfl (fun c_9 => ?_) (fun c_9 => absurd (nI_le (Nat.le_refl _) (by omega)) c_9)
    exact hk
  | succ j ih =>
    intro k hj
    have hm := am_le s.2 k
    refine pr_iload_n 5 dX3_giveOne_4 rfl rfl rfl ?_
    refine pr_aload_n 6 dX3_giveOne_5 rfl rfl rfl ?_
    refine pr_getI 9 dX3_giveOne_6 fX3_22 rfl ?_
    rw [hc]
    refine pr_icmp_ge 36 12 dX3_giveOne_9 rfl rfl (fun c_9 => absurd c_9 (nI_ge (by omega) (by omega))) (fun c_9 => ?_)
    refine pr_aload_n 13 dX3_giveOne_12 rfl rfl rfl ?_
    refine pr_getR0 16 dX3_giveOne_13 fX3_18 rfl ?_
    refine pr_iload_n 17 dX3_giveOne_16 rfl rfl rfl ?_
    refine pr_laload (k + 1) 18 dX3_giveOne_17 rfl rfl rfl (by omega) rfl ?_
    rw [(hg (k + 1) (by omega)).2]
    refine pr_aload_n 19 dX3_giveOne_18 rfl rfl rfl ?_
    refine pr_getR0 22 dX3_giveOne_19 fX3_18 rfl ?_
    refine pr_iload_n 23 dX3_giveOne_22 rfl rfl rfl ?_
    refine pr_laload (am s.2 k) 24 dX3_giveOne_23 rfl rfl rfl (by omega) rfl ?_
    rw [(hg (am s.2 k) (by omega)).2]
    refine pr_lcmp 25 dX3_giveOne_24 rfl ?_
    have h1 := hb (k + 1); have h2 := hb (am s.2 k)
    refine pr_if_le 30 28 dX3_giveOne_25 rfl rfl (fun c_25 => ?_) (fun c_25 => ?_)
    · refine pr_iinc 33 dX3_giveOne_30 rfl (by first | exact pm_inc _ | rfl) (pm_st_2 rfl rfl) rfl ?_
      refine pr_goto 4 dX3_giveOne_33 rfl ?_
      refine cast ?_ (ih (k + 1) (by omega))
      rw [lg_cmp_le] at c_25
      rw [show am s.2 (k + 1) = if s.2 (am s.2 k) < s.2 (k + 1) then k + 1 else am s.2 k from rfl]
      have h3 := lI_ltI (a := s.2 (am s.2 k)) (b := s.2 (k + 1)) (by omega) (by omega) (by omega) (by omega)
      rw [Int64.lt_iff_toInt_lt] at h3
      rw [Int64.le_iff_toInt_le] at c_25
      first | rw [if_pos (by omega)] | rw [if_neg (by omega)]
    · refine pr_iload_n 29 dX3_giveOne_28 rfl rfl rfl ?_
      refine pr_istore_n 30 dX3_giveOne_29 rfl (pm_st_1 rfl rfl) rfl ?_
      refine pr_iinc 33 dX3_giveOne_30 rfl (by first | exact pm_inc _ | rfl) (pm_st_2 rfl rfl) rfl ?_
      refine pr_goto 4 dX3_giveOne_33 rfl ?_
      refine cast ?_ (ih (k + 1) (by omega))
      rw [lg_cmp_le] at c_25
      rw [show am s.2 (k + 1) = if s.2 (am s.2 k) < s.2 (k + 1) then k + 1 else am s.2 k from rfl]
      have h3 := lI_ltI (a := s.2 (am s.2 k)) (b := s.2 (k + 1)) (by omega) (by omega) (by omega) (by omega)
      rw [Int64.lt_iff_toInt_lt] at h3
      rw [Int64.le_iff_toInt_le] at c_25
      first | rw [if_pos (by omega)] | rw [if_neg (by omega)]
set_option maxRecDepth 100000 in
theorem sp_X3_giveOne {mem : pm_M} {L c : Nat} {s : gT} (hc : mem.1 10003903 L 3 = nI c) (h0 : 0 < c) (h16 : c ≤ 16) (hg : gRow mem L c s) (hb : gBnd s) : Cl yX3_giveOne cX3_giveOne 3 none 0 0 [pR 10003903 L] mem (fun r mem' => r = none ∧ pm_fr (sPar L) mem mem' ∧ gRow mem' L c (g1 c s)) := by
  refine Cl.of (own := RX3) rfl rfl (Nat.le_of_ble_eq_true rfl) rfl ?_
  have hm := am_le s.2 (c - 1)
  refine pr_iconst (0) 1 dX3_giveOne_0 (by decide) rfl ?_
  refine pr_istore_n 2 dX3_giveOne_1 rfl (pm_st_1 rfl rfl) rfl ?_
  refine pr_iconst (1) 3 dX3_giveOne_2 (by decide) rfl ?_
  refine pr_istore_n 4 dX3_giveOne_3 rfl (pm_st_2 rfl rfl) rfl ?_
  refine lp_X3_giveOne hc h16 hg hb ?_ (c - 1) 0 (by omega)
  refine pr_aload_n 37 dX3_giveOne_36 rfl rfl rfl ?_
  refine pr_getR0 40 dX3_giveOne_37 fX3_9 rfl ?_
  refine pr_iload_n 41 dX3_giveOne_40 rfl rfl rfl ?_
  refine pr_dup2 rfl rfl 42 dX3_giveOne_41 rfl ?_
  refine pr_iaload (am s.2 (c - 1)) 43 dX3_giveOne_42 rfl rfl rfl (by omega) rfl ?_
  rw [(hg _ (by omega)).1]
  refine pr_iconst (1) 44 dX3_giveOne_43 (by decide) rfl ?_
  refine pr_iadd 45 dX3_giveOne_44 rfl ?_
  rw [show (1 : Int32) = nI 1 from rfl, nI_add]
  refine pr_iastore (am s.2 (c - 1)) 46 dX3_giveOne_45 rfl rfl rfl (by omega) rfl ?_
  refine pr_aload_n 47 dX3_giveOne_46 rfl rfl rfl ?_
  refine pr_getR0 50 dX3_giveOne_47 fX3_18 rfl ?_
  refine pr_iload_n 51 dX3_giveOne_50 rfl rfl rfl ?_
  refine pr_ldc2 _ 54 dX3_giveOne_51 kX3_29 rfl ?_
  refine pr_lastore (am s.2 (c - 1)) 55 dX3_giveOne_54 rfl rfl rfl (by omega) rfl ?_
  refine pr_return dX3_giveOne_55 rfl ?_
  refine ⟨rfl, (pm_fr.rf.uI ⟨Or.inl rfl, rfl⟩).uJ ⟨Or.inr rfl, rfl⟩, fun k hk => ?_⟩
  obtain ⟨a1, a2⟩ := hg k hk
  rw [pm_gJ, pm_gIJ, pm_gI, pm_gJI]
  by_cases e : k = am s.2 (c - 1)
  · subst e
    simp [g1, lI_m1]
  · simp [g1, e, a1, a2]
end
section
/-! Parter.divide -/
section DIV
variable {mem0 : pm_M} {L c n : Nat} {m : Nat → Nat} {X : Nat → List (Option pm_v) → List pm_v → pm_M → Prop}
theorem fr_cnt {mem : pm_M} (hc : mem0.1 10003903 L 3 = nI c) (hf : pm_fr (sPar L) mem0 mem) : mem.1 10003903 L 3 = nI c := by
  rw [(hf 10003903 L (by simp [sPar])).1]; exact hc
theorem fr_mea {mem : pm_M} (hm : ∀ k, k < c → mem0.1 20016121 L k = nI (m k)) (hf : pm_fr (sPar L) mem0 mem) {k : Nat} (hk : k < c) : mem.1 20016121 L k = nI (m k) := by
  rw [(hf 20016121 L (by simp [sPar])).1]; exact hm k hk
set_option maxRecDepth 100000 in
theorem lp_X3_div1 (hc : mem0.1 10003903 L 3 = nI c) (h16 : c ≤ 16) (hm : ∀ k, k < c → mem0.1 20016121 L k = nI (m k)) (hmb : ∀ k, k < c → m k < 2147483648)
    (hk : ∀ mem, pm_fr (sPar L) mem0 mem → (∀ k, k < c → mem.1 20016120 L k = 0) → PR cX3_divide RX3 8 1 22 39 [some (pR 10003903 L), some (pI (nI n)), some (pJ (lN (sm m c))), none, some (pI (nI c)), none, none, none] [] mem X) :
    ∀ j k mem, k + j = c → pm_fr (sPar L) mem0 mem → (∀ i, i < k → mem.1 20016120 L i = 0) → PR cX3_divide RX3 8 1 22 5 [some (pR 10003903 L), some (pI (nI n)), some (pJ (lN (sm m k))), none, some (pI (nI k)), none, none, none] [] mem X := by
  intro j
  induction j with
  | zero =>
    intro k mem hj hf hz
    have e : c = k := by omega
    subst e
    refine pr_iload 7 dX3_divide_5 rfl rfl ?_
    refine pr_aload_n 8 dX3_divide_7 rfl rfl rfl ?_
    refine pr_getI 11 dX3_divide_8 fX3_22 rfl ?_
    rw [fr_cnt hc hf]
    refine pr_icmp_ge 39 14 dX3_divide_11 rfl rfl (fun c_11 => ?_) (fun c_11 => absurd (nI_le (Nat.le_refl _) (by omega)) c_11)
    exact hk mem hf hz
  | succ j ih =>
    intro k mem hj hf hz
    refine pr_iload 7 dX3_divide_5 rfl rfl ?_
    refine pr_aload_n 8 dX3_divide_7 rfl rfl rfl ?_
    refine pr_getI 11 dX3_divide_8 fX3_22 rfl ?_
    rw [fr_cnt hc hf]
    refine pr_icmp_ge 39 14 dX3_divide_11 rfl rfl (fun c_11 => absurd c_11 (nI_ge (by omega) (by omega))) (fun c_11 => ?_)
    refine pr_lload_n 15 dX3_divide_14 rfl rfl rfl ?_
    refine pr_aload_n 16 dX3_divide_15 rfl rfl rfl ?_
    refine pr_getR0 19 dX3_divide_16 fX3_15 rfl ?_
    refine pr_iload 21 dX3_divide_19 rfl rfl ?_
    refine pr_iaload k 22 dX3_divide_21 rfl rfl rfl (by omega) rfl ?_
    rw [fr_mea hm hf (by omega)]
    refine pr_i2l 23 dX3_divide_22 rfl ?_
    rw [nI_l (hmb k (by omega))]
    refine pr_ladd 24 dX3_divide_23 rfl ?_
    rw [lN_add]
    refine pr_lstore_n 25 dX3_divide_24 rfl (pm_st2_2 rfl) rfl ?_
    refine pr_aload_n 26 dX3_divide_25 rfl rfl rfl ?_
    refine pr_getR0 29 dX3_divide_26 fX3_9 rfl ?_
    refine pr_iload 31 dX3_divide_29 rfl rfl ?_
    refine pr_iconst (0) 32 dX3_divide_31 (by decide) rfl ?_
    refine pr_iastore k 33 dX3_divide_32 rfl rfl rfl (by omega) rfl ?_
    refine pr_iinc 36 dX3_divide_33 rfl (by first | exact pm_inc _ | rfl) (pm_st_4 rfl rfl) rfl ?_
    refine pr_goto 5 dX3_divide_36 rfl ?_
    refine ih (k + 1) _ (by omega) (hf.uI ⟨Or.inl rfl, rfl⟩) (fun i hi => ?_)
    rw [pm_gI]
    by_cases e : i = k
    · simp [e]
    · simp [e]; exact hz i (by omega)
set_option maxRecDepth 100000 in
theorem lp_X3_div2 (hc : mem0.1 10003903 L 3 = nI c) (h16 : c ≤ 16) (hm : ∀ k, k < c → mem0.1 20016121 L k = nI (m k)) (hmb : ∀ k, k < c → m k < 2147483648) (hn : n < 2147483648) (hS : 0 < sm m c)
    (hk : ∀ mem, pm_fr (sPar L) mem0 mem → gRow mem L c (g0 n (sm m c) m) → PR cX3_divide RX3 8 1 22 122 [some (pR 10003903 L), some (pI (nI n)), some (pJ (lN (sm m c))), none, some (pI (nI (lf n c m))), some (pI (nI c)), some (pJ (lN (n * m (c - 1)))), none] [] mem X) :
    ∀ j k mem a6, k + 1 + j = c → pm_fr (sPar L) mem0 mem → gRow mem L k (g0 n (sm m c) m) → PR cX3_divide RX3 8 1 22 59 [some (pR 10003903 L), some (pI (nI n)), some (pJ (lN (sm m c))), none, some (pI (nI (n - sm (fun k => n * m k / sm m c) k))), some (pI (nI k)), a6, none] [] mem X := by
  have hsum := (pa_sum (n := n) hS).1
  have hSb : sm m c < 2 ^ 36 := by
    have : sm m c ≤ sm (fun _ => 2147483648) c := sm_le (fun k hk => by have := hmb k hk; omega)
    rw [sm_const] at this
    omega
  have hcnt : 0 < c := by
    rcases Nat.eq_zero_or_pos c with z | z
    · subst z; simp [sm] at hS
    · exact z
  have step : ∀ k mem a6, k < c → pm_fr (sPar L) mem0 mem → gRow mem L k (g0 n (sm m c) m) → (∀ mem, pm_fr (sPar L) mem0 mem → gRow mem L (k + 1) (g0 n (sm m c) m) → PR cX3_divide RX3 8 1 22 59 [some (pR 10003903 L), some (pI (nI n)), some (pJ (lN (sm m c))), none, some (pI (nI (n - sm (fun k => n * m k / sm m c) (k + 1)))), some (pI (nI (k + 1))), some (pJ (lN (n * m k))), none] [] mem X) → PR cX3_divide RX3 8 1 22 59 [some (pR 10003903 L), some (pI (nI n)), some (pJ (lN (sm m c))), none, some (pI (nI (n - sm (fun k => n * m k / sm m c) k))), some (pI (nI k)), a6, none] [] mem X := by
    intro k mem a6 hkc hf hg hk2
    have hp : n * m k < 2 ^ 63 := by
      have h1 := hmb k hkc
      calc n * m k ≤ 2147483648 * 2147483648 := Nat.mul_le_mul (by omega) (by omega)
        _ < 2 ^ 63 := by decide
    have hle : sm (fun k => n * m k / sm m c) (k + 1) ≤ n := Nat.le_trans (sm_mono (by omega)) hsum
    have hne : ¬ lN (sm m c) = 0 := fun z => by
      have := (lN_eqI (a := sm m c) (b := 0) (by omega) (by omega)).mp z
      omega
    refine pr_iload 61 dX3_divide_59 rfl rfl ?_
    refine pr_aload_n 62 dX3_divide_61 rfl rfl rfl ?_
    refine pr_getI 65 dX3_divide_62 fX3_22 rfl ?_
    rw [fr_cnt hc hf]
    refine pr_icmp_ge 122 68 dX3_divide_65 rfl rfl (fun c_65 => absurd c_65 (nI_ge (by omega) (by omega))) (fun c_65 => ?_)
    refine pr_iload_n 69 dX3_divide_68 rfl rfl rfl ?_
    refine pr_i2l 70 dX3_divide_69 rfl ?_
    rw [nI_l hn]
    refine pr_aload_n 71 dX3_divide_70 rfl rfl rfl ?_
    refine pr_getR0 74 dX3_divide_71 fX3_15 rfl ?_
    refine pr_iload 76 dX3_divide_74 rfl rfl ?_
    refine pr_iaload k 77 dX3_divide_76 rfl rfl rfl (by omega) rfl ?_
    rw [fr_mea hm hf hkc]
    refine pr_i2l 78 dX3_divide_77 rfl ?_
    rw [nI_l (hmb k hkc)]
    refine pr_lmul 79 dX3_divide_78 rfl ?_
    rw [lN_mul]
    refine pr_lstore 81 dX3_divide_79 (pm_st2_6 rfl) rfl ?_
    refine pr_aload_n 82 dX3_divide_81 rfl rfl rfl ?_
    refine pr_getR0 85 dX3_divide_82 fX3_9 rfl ?_
    refine pr_iload 87 dX3_divide_85 rfl rfl ?_
    refine pr_lload 89 dX3_divide_87 rfl rfl ?_
    refine pr_lload_n 90 dX3_divide_89 rfl rfl rfl ?_
    refine pr_ldiv (hne) 91 dX3_divide_90 rfl ?_
    rw [lN_div hp (by omega)]
    refine pr_l2i 92 dX3_divide_91 rfl ?_
    rw [lN_i]
    refine pr_iastore k 93 dX3_divide_92 rfl rfl rfl (by omega) rfl ?_
    refine pr_aload_n 94 dX3_divide_93 rfl rfl rfl ?_
    refine pr_getR0 97 dX3_divide_94 fX3_18 rfl ?_
    refine pr_iload 99 dX3_divide_97 rfl rfl ?_
    refine pr_lload 101 dX3_divide_99 rfl rfl ?_
    refine pr_lload_n 102 dX3_divide_101 rfl rfl rfl ?_
    refine pr_lrem (hne) 103 dX3_divide_102 rfl ?_
    rw [lN_rem hp (by omega)]
    refine pr_lastore k 104 dX3_divide_103 rfl rfl rfl (by omega) rfl ?_
    refine pr_iload 106 dX3_divide_104 rfl rfl ?_
    refine pr_aload_n 107 dX3_divide_106 rfl rfl rfl ?_
    refine pr_getR0 110 dX3_divide_107 fX3_9 rfl ?_
    refine pr_iload 112 dX3_divide_110 rfl rfl ?_
    refine pr_iaload k 113 dX3_divide_112 rfl rfl rfl (by omega) rfl ?_
    rw [pm_gIJ, pm_gI, if_pos ⟨rfl, rfl, rfl⟩]
    refine pr_isub 114 dX3_divide_113 rfl ?_
    rw [nI_subN (by rw [sm] at hle; omega)]
    refine pr_istore 116 dX3_divide_114 (pm_st_4 rfl rfl) rfl ?_
    refine pr_iinc 119 dX3_divide_116 rfl (by first | exact pm_inc _ | rfl) (pm_st_5 rfl rfl) rfl ?_
    refine pr_goto 59 dX3_divide_119 rfl ?_
    refine cast ?_ (hk2 _ ((hf.uI ⟨Or.inl rfl, rfl⟩).uJ ⟨Or.inr rfl, rfl⟩) (fun i hi => ?_))
    · rw [sm, Nat.sub_add_eq]
    · rw [pm_gJ, pm_gIJ, pm_gI, pm_gJI]
      by_cases e : i = k
      · subst e
        simp only [and_self, if_true, g0]
        exact ⟨rfl, (lI_nat _).symm⟩
      · obtain ⟨a1, a2⟩ := hg i (by omega)
        simp [e, a1, a2]
  intro j
  induction j with
  | zero =>
    intro k mem a6 hj hf hg
    refine step k mem a6 (by omega) hf hg (fun mem1 hf1 hg1 => ?_)
    have e : c = k + 1 := by omega
    subst e
    refine pr_iload 61 dX3_divide_59 rfl rfl ?_
    refine pr_aload_n 62 dX3_divide_61 rfl rfl rfl ?_
    refine pr_getI 65 dX3_divide_62 fX3_22 rfl ?_
    rw [fr_cnt hc hf1]
    refine pr_icmp_ge 122 68 dX3_divide_65 rfl rfl (fun c_65 => ?_) (fun c_65 => absurd (nI_le (Nat.le_refl _) (by omega)) c_65)
    exact hk mem1 hf1 hg1
  | succ j ih =>
    intro k mem a6 hj hf hg
    exact step k mem a6 (by omega) hf hg (fun mem1 hf1 hg1 => ih (k + 1) mem1 _ (by omega) hf1 hg1)
set_option maxRecDepth 100000 in
theorem lp_X3_div3 (hc : mem0.1 10003903 L 3 = nI c) (h16 : c ≤ 16) (hmb : ∀ k, k < c → m k < 2147483648) (hS : 0 < sm m c) {a2 a3 a6 a7 : Option pm_v} {Qr : Option pm_v → pm_M → Prop}
    (hk : ∀ mem, pm_fr (sPar L) mem0 mem → gRow mem L c (gv c (lf n c m) (g0 n (sm m c) m)) → Qr none mem) :
    ∀ j k mem, k + j = lf n c m → pm_fr (sPar L) mem0 mem → gRow mem L c (gv c k (g0 n (sm m c) m)) → PR cX3_divide RX3 8 1 22 125 [some (pR 10003903 L), some (pI (nI n)), a2, a3, some (pI (nI (lf n c m))), some (pI (nI k)), a6, a7] [] mem (pm_RX cX3_divide none Qr) := by
  have hl := pa_left (n := n) hS
  have hSb : sm m c < 2 ^ 36 := by
    have : sm m c ≤ sm (fun _ => 2147483648) c := sm_le (fun k hk => by have := hmb k hk; omega)
    rw [sm_const] at this
    omega
  intro j
  induction j with
  | zero =>
    intro k mem hj hf hg
    have e : lf n c m = k := by omega
    refine pr_iload 127 dX3_divide_125 rfl rfl ?_
    refine pr_iload 129 dX3_divide_127 rfl rfl ?_
    refine pr_icmp_ge 151 132 dX3_divide_129 rfl rfl (fun c_129 => ?_) (fun c_129 => absurd (nI_le (by omega) (by omega)) c_129)
    refine pr_return dX3_divide_151 rfl ?_
    exact hk mem hf (by rw [e]; exact hg)
  | succ j ih =>
    intro k mem hj hf hg
    have hb : gBnd (gv c k (g0 n (sm m c) m)) := fun i => by
      have := (gv_inv (n := n) hS k (by omega)).1 i
      omega
    refine pr_iload 127 dX3_divide_125 rfl rfl ?_
    refine pr_iload 129 dX3_divide_127 rfl rfl ?_
    refine pr_icmp_ge 151 132 dX3_divide_129 rfl rfl (fun c_129 => absurd c_129 (nI_ge (by omega) (by omega))) (fun c_129 => ?_)
    refine pr_iload 134 dX3_divide_132 rfl rfl ?_
    refine pr_aload_n 135 dX3_divide_134 rfl rfl rfl ?_
    refine pr_getI 138 dX3_divide_135 fX3_22 rfl ?_
    rw [fr_cnt hc hf]
    refine pr_icmp_ge 151 141 dX3_divide_138 rfl rfl (fun c_138 => absurd c_138 (nI_ge (by omega) (by omega))) (fun c_138 => ?_)
    refine pr_aload_n 142 dX3_divide_141 rfl rfl rfl ?_
    refine pr_inv0R0 145 dX3_divide_142 vX3_26 mX3_giveOne (sp_X3_giveOne (fr_cnt hc hf) (by omega) h16 hg hb) ⟨Nat.le_of_ble_eq_true rfl, Nat.le_of_ble_eq_true rfl⟩ (Nat.le_of_ble_eq_true rfl) rfl (fun mem1 h1 => ?_)
    refine pr_iinc 148 dX3_divide_145 rfl (by first | exact pm_inc _ | rfl) (pm_st_5 rfl rfl) rfl ?_
    refine pr_goto 125 dX3_divide_148 rfl ?_
    exact ih (k + 1) mem1 (by omega) (hf.tr h1.1) h1.2
set_option maxRecDepth 100000 in
theorem sp_X3_divide (hc : mem0.1 10003903 L 3 = nI c) (h16 : c ≤ 16) (hm : ∀ k, k < c → mem0.1 20016121 L k = nI (m k)) (hmb : ∀ k, k < c → m k < 2147483648) (hn : n < 2147483648) : Cl yX3_divide cX3_divide 8 none 1 22 [pR 10003903 L, pI (nI n)] mem0 (fun r mem => r = none ∧ pm_fr (sPar L) mem0 mem ∧ (∀ k, k < c → mem.1 20016120 L k = nI (pa n c m k))) := by
  refine Cl.of (own := RX3) rfl rfl (Nat.le_of_ble_eq_true rfl) rfl ?_
  have hSb : sm m c < 2 ^ 36 := by
    have : sm m c ≤ sm (fun _ => 2147483648) c := sm_le (fun k hk => by have := hmb k hk; omega)
    rw [sm_const] at this
    omega
  refine pr_lconst (0) 1 dX3_divide_0 (by decide) rfl ?_
  refine pr_lstore_n 2 dX3_divide_1 rfl (pm_st2_2 rfl) rfl ?_
  refine pr_iconst (0) 3 dX3_divide_2 (by decide) rfl ?_
  refine pr_istore 5 dX3_divide_3 (pm_st_4 rfl rfl) rfl ?_
  refine lp_X3_div1 hc h16 hm hmb (fun mem hf hz => ?_) c 0 mem0 (by omega) pm_fr.rf (fun i hi => absurd hi (Nat.not_lt_zero _))
  have hcz : (0 < lg_cmp (lN (sm m c)) 0) ↔ 0 < sm m c := by
    rw [lg_cmp_gt]
    exact lN_ltI (a := 0) (by omega) (by omega)
  refine pr_lload_n 40 dX3_divide_39 rfl rfl rfl ?_
  refine pr_lconst (0) 41 dX3_divide_40 (by decide) rfl ?_
  refine pr_lcmp 42 dX3_divide_41 rfl ?_
  refine pr_if_gt 53 45 dX3_divide_42 rfl rfl (fun c_42 => ?_) (fun c_42 => ?_)
  · have hS := hcz.mp c_42
    refine pr_iload_n 54 dX3_divide_53 rfl rfl rfl ?_
    refine pr_istore 56 dX3_divide_54 (pm_st_4 rfl rfl) rfl ?_
    refine pr_iconst (0) 57 dX3_divide_56 (by decide) rfl ?_
    refine pr_istore 59 dX3_divide_57 (pm_st_5 rfl rfl) rfl ?_
    have hcnt : 0 < c := by
      rcases Nat.eq_zero_or_pos c with z | z
      · subst z; simp [sm] at hS
      · exact z
    refine lp_X3_div2 hc h16 hm hmb hn hS (fun mem1 hf1 hg1 => ?_) (c - 1) 0 mem _ (by omega) hf (fun i hi => absurd hi (Nat.not_lt_zero _))
    refine pr_iconst (0) 123 dX3_divide_122 (by decide) rfl ?_
    refine pr_istore 125 dX3_divide_123 (pm_st_5 rfl rfl) rfl ?_
    refine lp_X3_div3 hc h16 hmb hS (fun mem2 hf2 hg2 => ?_) (lf n c m) 0 mem1 (by omega) hf1 hg1
    refine ⟨rfl, hf2, fun k hk => ?_⟩
    rw [(hg2 k hk).1]
    unfold pa
    rw [if_neg (by omega)]
  · refine pr_aload_n 46 dX3_divide_45 rfl rfl rfl ?_
    refine pr_getR0 49 dX3_divide_46 fX3_9 rfl ?_
    refine pr_iconst (0) 50 dX3_divide_49 (by decide) rfl ?_
    refine pr_iload_n 51 dX3_divide_50 rfl rfl rfl ?_
    refine pr_iastore 0 52 dX3_divide_51 rfl rfl rfl (by omega) rfl ?_
    refine pr_return dX3_divide_52 rfl ?_
    have hS : sm m c = 0 := Nat.eq_zero_of_not_pos (fun z => c_42 (hcz.mpr z))
    refine ⟨rfl, hf.uI ⟨Or.inl rfl, rfl⟩, fun k hk => ?_⟩
    rw [pm_gI]
    unfold pa
    rw [if_pos hS]
    by_cases e : k = 0
    · simp [e]
    · simp [e]
      exact hz k hk
end DIV
end
