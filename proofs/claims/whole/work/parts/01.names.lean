-- names of the claim: printed by the kit, picked by wip/gen/gen1.py
-- ===== PART A: goes FIRST, ahead of the names: the tables' words, and 'selects' of the private methods out of them =====
/-- a private method of a class that the tables say can be made, by its rows of tables_1 -/
def lw_okq (q : MethodName × Nat) : Prop := (q.1.cls ≠ "java/lang/invoke/MethodHandle" ∧ q.1.cls ≠ "java/lang/invoke/VarHandle") ∧ Cond.instantiable q.1.cls q.2 ∈ tables_1 ∧ Cond.privateMethod q.1 ∈ tables_1 ∧ Cond.instanceMethod q.1 ∈ tables_1
theorem lw_p0 : lw_okq (⟨"AgeRoofs$Tape", "put", "(I)V"⟩, 4) := ⟨⟨by decide +kernel, by decide +kernel⟩, List.mem_of_getElem? (i := 34) (by decide +kernel), List.mem_of_getElem? (i := 392) (by decide +kernel), List.mem_of_getElem? (i := 393) (by decide +kernel)⟩
theorem lw_p1 : lw_okq (⟨"AgeRoofs$ParishReader", "readClause", "(LAgeRoofs$Tape;)Z"⟩, 7) := ⟨⟨by decide +kernel, by decide +kernel⟩, List.mem_of_getElem? (i := 56) (by decide +kernel), List.mem_of_getElem? (i := 416) (by decide +kernel), List.mem_of_getElem? (i := 417) (by decide +kernel)⟩
theorem lw_p2 : lw_okq (⟨"AgeRoofs$ParishReader", "readPerson", "(LAgeRoofs$Tape;)Z"⟩, 7) := ⟨⟨by decide +kernel, by decide +kernel⟩, List.mem_of_getElem? (i := 56) (by decide +kernel), List.mem_of_getElem? (i := 428) (by decide +kernel), List.mem_of_getElem? (i := 429) (by decide +kernel)⟩
theorem lw_p3 : lw_okq (⟨"AgeRoofs$ParishReader", "readItems", "(LAgeRoofs$Tape;II)Z"⟩, 7) := ⟨⟨by decide +kernel, by decide +kernel⟩, List.mem_of_getElem? (i := 56) (by decide +kernel), List.mem_of_getElem? (i := 432) (by decide +kernel), List.mem_of_getElem? (i := 433) (by decide +kernel)⟩
theorem lw_p4 : lw_okq (⟨"AgeRoofs$Tape", "here", "()I"⟩, 4) := ⟨⟨by decide +kernel, by decide +kernel⟩, List.mem_of_getElem? (i := 34) (by decide +kernel), List.mem_of_getElem? (i := 456) (by decide +kernel), List.mem_of_getElem? (i := 457) (by decide +kernel)⟩
theorem lw_p5 : lw_okq (⟨"AgeRoofs$ParishReader", "readHouse", "(LAgeRoofs$Tape;)Z"⟩, 7) := ⟨⟨by decide +kernel, by decide +kernel⟩, List.mem_of_getElem? (i := 56) (by decide +kernel), List.mem_of_getElem? (i := 473) (by decide +kernel), List.mem_of_getElem? (i := 474) (by decide +kernel)⟩
theorem lw_p6 : lw_okq (⟨"AgeRoofs$ParishReader", "isWhole", "()Z"⟩, 7) := ⟨⟨by decide +kernel, by decide +kernel⟩, List.mem_of_getElem? (i := 56) (by decide +kernel), List.mem_of_getElem? (i := 482) (by decide +kernel), List.mem_of_getElem? (i := 483) (by decide +kernel)⟩
theorem lw_p7 : lw_okq (⟨"AgeRoofs$LawReader", "readClause", "(LAgeRoofs$Tape;)Z"⟩, 1) := ⟨⟨by decide +kernel, by decide +kernel⟩, List.mem_of_getElem? (i := 90) (by decide +kernel), List.mem_of_getElem? (i := 500) (by decide +kernel), List.mem_of_getElem? (i := 501) (by decide +kernel)⟩
theorem lw_p8 : lw_okq (⟨"AgeRoofs$LawReader", "condition", "(LAgeRoofs$Tape;I)Z"⟩, 1) := ⟨⟨by decide +kernel, by decide +kernel⟩, List.mem_of_getElem? (i := 90) (by decide +kernel), List.mem_of_getElem? (i := 506) (by decide +kernel), List.mem_of_getElem? (i := 507) (by decide +kernel)⟩
theorem lw_p9 : lw_okq (⟨"AgeRoofs$LawReader", "truth", "(LAgeRoofs$Tape;I)Z"⟩, 1) := ⟨⟨by decide +kernel, by decide +kernel⟩, List.mem_of_getElem? (i := 90) (by decide +kernel), List.mem_of_getElem? (i := 510) (by decide +kernel), List.mem_of_getElem? (i := 511) (by decide +kernel)⟩
theorem lw_p10 : lw_okq (⟨"AgeRoofs$LawReader", "unit", "(LAgeRoofs$Tape;I)Z"⟩, 1) := ⟨⟨by decide +kernel, by decide +kernel⟩, List.mem_of_getElem? (i := 90) (by decide +kernel), List.mem_of_getElem? (i := 514) (by decide +kernel), List.mem_of_getElem? (i := 515) (by decide +kernel)⟩
theorem lw_p11 : lw_okq (⟨"AgeRoofs$LawReader", "sum", "(LAgeRoofs$Tape;I)Z"⟩, 1) := ⟨⟨by decide +kernel, by decide +kernel⟩, List.mem_of_getElem? (i := 90) (by decide +kernel), List.mem_of_getElem? (i := 518) (by decide +kernel), List.mem_of_getElem? (i := 519) (by decide +kernel)⟩
theorem lw_p12 : lw_okq (⟨"AgeRoofs$LawReader", "term", "(LAgeRoofs$Tape;I)Z"⟩, 1) := ⟨⟨by decide +kernel, by decide +kernel⟩, List.mem_of_getElem? (i := 90) (by decide +kernel), List.mem_of_getElem? (i := 522) (by decide +kernel), List.mem_of_getElem? (i := 523) (by decide +kernel)⟩
theorem lw_p13 : lw_okq (⟨"AgeRoofs$LawReader", "atom", "(LAgeRoofs$Tape;I)Z"⟩, 1) := ⟨⟨by decide +kernel, by decide +kernel⟩, List.mem_of_getElem? (i := 90) (by decide +kernel), List.mem_of_getElem? (i := 526) (by decide +kernel), List.mem_of_getElem? (i := 527) (by decide +kernel)⟩
theorem lw_p14 : lw_okq (⟨"AgeRoofs$LawReader", "relation", "(LAgeRoofs$Tape;I)Z"⟩, 1) := ⟨⟨by decide +kernel, by decide +kernel⟩, List.mem_of_getElem? (i := 90) (by decide +kernel), List.mem_of_getElem? (i := 540) (by decide +kernel), List.mem_of_getElem? (i := 541) (by decide +kernel)⟩
theorem lw_p15 : lw_okq (⟨"AgeRoofs$LawReader", "moreUnits", "(LAgeRoofs$Tape;I)Z"⟩, 1) := ⟨⟨by decide +kernel, by decide +kernel⟩, List.mem_of_getElem? (i := 90) (by decide +kernel), List.mem_of_getElem? (i := 547) (by decide +kernel), List.mem_of_getElem? (i := 548) (by decide +kernel)⟩
def lw_privs_1 : List (MethodName × Nat) := [(⟨"AgeRoofs$Tape", "put", "(I)V"⟩, 4), (⟨"AgeRoofs$ParishReader", "readClause", "(LAgeRoofs$Tape;)Z"⟩, 7), (⟨"AgeRoofs$ParishReader", "readPerson", "(LAgeRoofs$Tape;)Z"⟩, 7), (⟨"AgeRoofs$ParishReader", "readItems", "(LAgeRoofs$Tape;II)Z"⟩, 7), (⟨"AgeRoofs$Tape", "here", "()I"⟩, 4), (⟨"AgeRoofs$ParishReader", "readHouse", "(LAgeRoofs$Tape;)Z"⟩, 7), (⟨"AgeRoofs$ParishReader", "isWhole", "()Z"⟩, 7), (⟨"AgeRoofs$LawReader", "readClause", "(LAgeRoofs$Tape;)Z"⟩, 1), (⟨"AgeRoofs$LawReader", "condition", "(LAgeRoofs$Tape;I)Z"⟩, 1), (⟨"AgeRoofs$LawReader", "truth", "(LAgeRoofs$Tape;I)Z"⟩, 1), (⟨"AgeRoofs$LawReader", "unit", "(LAgeRoofs$Tape;I)Z"⟩, 1), (⟨"AgeRoofs$LawReader", "sum", "(LAgeRoofs$Tape;I)Z"⟩, 1), (⟨"AgeRoofs$LawReader", "term", "(LAgeRoofs$Tape;I)Z"⟩, 1), (⟨"AgeRoofs$LawReader", "atom", "(LAgeRoofs$Tape;I)Z"⟩, 1), (⟨"AgeRoofs$LawReader", "relation", "(LAgeRoofs$Tape;I)Z"⟩, 1), (⟨"AgeRoofs$LawReader", "moreUnits", "(LAgeRoofs$Tape;I)Z"⟩, 1)]
theorem lw_r1 : ∀ q ∈ lw_privs_1, lw_okq q := List.forall_mem_cons.mpr ⟨lw_p0, List.forall_mem_cons.mpr ⟨lw_p1, List.forall_mem_cons.mpr ⟨lw_p2, List.forall_mem_cons.mpr ⟨lw_p3, List.forall_mem_cons.mpr ⟨lw_p4, List.forall_mem_cons.mpr ⟨lw_p5, List.forall_mem_cons.mpr ⟨lw_p6, List.forall_mem_cons.mpr ⟨lw_p7, List.forall_mem_cons.mpr ⟨lw_p8, List.forall_mem_cons.mpr ⟨lw_p9, List.forall_mem_cons.mpr ⟨lw_p10, List.forall_mem_cons.mpr ⟨lw_p11, List.forall_mem_cons.mpr ⟨lw_p12, List.forall_mem_cons.mpr ⟨lw_p13, List.forall_mem_cons.mpr ⟨lw_p14, List.forall_mem_cons.mpr ⟨lw_p15, fun _ h => absurd h List.not_mem_nil⟩⟩⟩⟩⟩⟩⟩⟩⟩⟩⟩⟩⟩⟩⟩⟩
theorem lw_p16 : lw_okq (⟨"AgeRoofs$LawReader", "moreTruths", "(LAgeRoofs$Tape;I)Z"⟩, 1) := ⟨⟨by decide +kernel, by decide +kernel⟩, List.mem_of_getElem? (i := 90) (by decide +kernel), List.mem_of_getElem? (i := 551) (by decide +kernel), List.mem_of_getElem? (i := 552) (by decide +kernel)⟩
theorem lw_p17 : lw_okq (⟨"AgeRoofs$LawReader", "guarded", "(LAgeRoofs$Tape;)Z"⟩, 1) := ⟨⟨by decide +kernel, by decide +kernel⟩, List.mem_of_getElem? (i := 90) (by decide +kernel), List.mem_of_getElem? (i := 555) (by decide +kernel), List.mem_of_getElem? (i := 556) (by decide +kernel)⟩
theorem lw_p18 : lw_okq (⟨"AgeRoofs", "isHouse", "(I)Z"⟩, 8) := ⟨⟨by decide +kernel, by decide +kernel⟩, List.mem_of_getElem? (i := 26) (by decide +kernel), List.mem_of_getElem? (i := 593) (by decide +kernel), List.mem_of_getElem? (i := 594) (by decide +kernel)⟩
theorem lw_p19 : lw_okq (⟨"AgeRoofs", "stands", "()Z"⟩, 8) := ⟨⟨by decide +kernel, by decide +kernel⟩, List.mem_of_getElem? (i := 26) (by decide +kernel), List.mem_of_getElem? (i := 612) (by decide +kernel), List.mem_of_getElem? (i := 613) (by decide +kernel)⟩
theorem lw_p20 : lw_okq (⟨"AgeRoofs", "areTwo", "(II)Z"⟩, 8) := ⟨⟨by decide +kernel, by decide +kernel⟩, List.mem_of_getElem? (i := 26) (by decide +kernel), List.mem_of_getElem? (i := 624) (by decide +kernel), List.mem_of_getElem? (i := 625) (by decide +kernel)⟩
theorem lw_p21 : lw_okq (⟨"AgeRoofs", "isPerson", "(I)Z"⟩, 8) := ⟨⟨by decide +kernel, by decide +kernel⟩, List.mem_of_getElem? (i := 26) (by decide +kernel), List.mem_of_getElem? (i := 628) (by decide +kernel), List.mem_of_getElem? (i := 629) (by decide +kernel)⟩
theorem lw_p22 : lw_okq (⟨"AgeRoofs$Pairs", "lookAtPair", "(LAgeRoofs$Parish;II)V"⟩, 4) := ⟨⟨by decide +kernel, by decide +kernel⟩, List.mem_of_getElem? (i := 256) (by decide +kernel), List.mem_of_getElem? (i := 716) (by decide +kernel), List.mem_of_getElem? (i := 717) (by decide +kernel)⟩
theorem lw_p23 : lw_okq (⟨"AgeRoofs$Pairs", "pairsOf", "(I)I"⟩, 4) := ⟨⟨by decide +kernel, by decide +kernel⟩, List.mem_of_getElem? (i := 256) (by decide +kernel), List.mem_of_getElem? (i := 731) (by decide +kernel), List.mem_of_getElem? (i := 732) (by decide +kernel)⟩
theorem lw_p24 : lw_okq (⟨"AgeRoofs$Housing", "partsHold", "(ILAgeRoofs$Pairs;II)Z"⟩, 9) := ⟨⟨by decide +kernel, by decide +kernel⟩, List.mem_of_getElem? (i := 278) (by decide +kernel), List.mem_of_getElem? (i := 761) (by decide +kernel), List.mem_of_getElem? (i := 762) (by decide +kernel)⟩
theorem lw_p25 : lw_okq (⟨"AgeRoofs$Housing", "prepare", "(IILAgeRoofs$Pairs;)V"⟩, 9) := ⟨⟨by decide +kernel, by decide +kernel⟩, List.mem_of_getElem? (i := 278) (by decide +kernel), List.mem_of_getElem? (i := 765) (by decide +kernel), List.mem_of_getElem? (i := 766) (by decide +kernel)⟩
theorem lw_p26 : lw_okq (⟨"AgeRoofs$Housing", "place", "(II)I"⟩, 9) := ⟨⟨by decide +kernel, by decide +kernel⟩, List.mem_of_getElem? (i := 278) (by decide +kernel), List.mem_of_getElem? (i := 774) (by decide +kernel), List.mem_of_getElem? (i := 775) (by decide +kernel)⟩
theorem lw_p27 : lw_okq (⟨"AgeRoofs$Housing", "takes", "(II)Z"⟩, 9) := ⟨⟨by decide +kernel, by decide +kernel⟩, List.mem_of_getElem? (i := 278) (by decide +kernel), List.mem_of_getElem? (i := 778) (by decide +kernel), List.mem_of_getElem? (i := 779) (by decide +kernel)⟩
theorem lw_p28 : lw_okq (⟨"AgeRoofs$Pairs", "allAtOddsOnce", "(I)Z"⟩, 4) := ⟨⟨by decide +kernel, by decide +kernel⟩, List.mem_of_getElem? (i := 256) (by decide +kernel), List.mem_of_getElem? (i := 787) (by decide +kernel), List.mem_of_getElem? (i := 788) (by decide +kernel)⟩
theorem lw_p29 : lw_okq (⟨"AgeRoofs", "everybody", "()I"⟩, 8) := ⟨⟨by decide +kernel, by decide +kernel⟩, List.mem_of_getElem? (i := 26) (by decide +kernel), List.mem_of_getElem? (i := 795) (by decide +kernel), List.mem_of_getElem? (i := 796) (by decide +kernel)⟩
theorem lw_p30 : lw_okq (⟨"AgeRoofs$Housing", "prepareTold", "(LAgeRoofs$Parish;LAgeRoofs$Pairs;)V"⟩, 9) := ⟨⟨by decide +kernel, by decide +kernel⟩, List.mem_of_getElem? (i := 278) (by decide +kernel), List.mem_of_getElem? (i := 803) (by decide +kernel), List.mem_of_getElem? (i := 804) (by decide +kernel)⟩
theorem lw_p31 : lw_okq (⟨"AgeRoofs", "isSmallParish", "()Z"⟩, 8) := ⟨⟨by decide +kernel, by decide +kernel⟩, List.mem_of_getElem? (i := 26) (by decide +kernel), List.mem_of_getElem? (i := 821) (by decide +kernel), List.mem_of_getElem? (i := 822) (by decide +kernel)⟩
def lw_privs_2 : List (MethodName × Nat) := [(⟨"AgeRoofs$LawReader", "moreTruths", "(LAgeRoofs$Tape;I)Z"⟩, 1), (⟨"AgeRoofs$LawReader", "guarded", "(LAgeRoofs$Tape;)Z"⟩, 1), (⟨"AgeRoofs", "isHouse", "(I)Z"⟩, 8), (⟨"AgeRoofs", "stands", "()Z"⟩, 8), (⟨"AgeRoofs", "areTwo", "(II)Z"⟩, 8), (⟨"AgeRoofs", "isPerson", "(I)Z"⟩, 8), (⟨"AgeRoofs$Pairs", "lookAtPair", "(LAgeRoofs$Parish;II)V"⟩, 4), (⟨"AgeRoofs$Pairs", "pairsOf", "(I)I"⟩, 4), (⟨"AgeRoofs$Housing", "partsHold", "(ILAgeRoofs$Pairs;II)Z"⟩, 9), (⟨"AgeRoofs$Housing", "prepare", "(IILAgeRoofs$Pairs;)V"⟩, 9), (⟨"AgeRoofs$Housing", "place", "(II)I"⟩, 9), (⟨"AgeRoofs$Housing", "takes", "(II)Z"⟩, 9), (⟨"AgeRoofs$Pairs", "allAtOddsOnce", "(I)Z"⟩, 4), (⟨"AgeRoofs", "everybody", "()I"⟩, 8), (⟨"AgeRoofs$Housing", "prepareTold", "(LAgeRoofs$Parish;LAgeRoofs$Pairs;)V"⟩, 9), (⟨"AgeRoofs", "isSmallParish", "()Z"⟩, 8)]
theorem lw_r2 : ∀ q ∈ lw_privs_2, lw_okq q := List.forall_mem_cons.mpr ⟨lw_p16, List.forall_mem_cons.mpr ⟨lw_p17, List.forall_mem_cons.mpr ⟨lw_p18, List.forall_mem_cons.mpr ⟨lw_p19, List.forall_mem_cons.mpr ⟨lw_p20, List.forall_mem_cons.mpr ⟨lw_p21, List.forall_mem_cons.mpr ⟨lw_p22, List.forall_mem_cons.mpr ⟨lw_p23, List.forall_mem_cons.mpr ⟨lw_p24, List.forall_mem_cons.mpr ⟨lw_p25, List.forall_mem_cons.mpr ⟨lw_p26, List.forall_mem_cons.mpr ⟨lw_p27, List.forall_mem_cons.mpr ⟨lw_p28, List.forall_mem_cons.mpr ⟨lw_p29, List.forall_mem_cons.mpr ⟨lw_p30, List.forall_mem_cons.mpr ⟨lw_p31, fun _ h => absurd h List.not_mem_nil⟩⟩⟩⟩⟩⟩⟩⟩⟩⟩⟩⟩⟩⟩⟩⟩
theorem lw_p32 : lw_okq (⟨"AgeRoofs$Livings", "matesIn", "(I)I"⟩, 8) := ⟨⟨by decide +kernel, by decide +kernel⟩, List.mem_of_getElem? (i := 314) (by decide +kernel), List.mem_of_getElem? (i := 830) (by decide +kernel), List.mem_of_getElem? (i := 831) (by decide +kernel)⟩
theorem lw_p33 : lw_okq (⟨"AgeRoofs$Livings", "homeIn", "(II)I"⟩, 8) := ⟨⟨by decide +kernel, by decide +kernel⟩, List.mem_of_getElem? (i := 314) (by decide +kernel), List.mem_of_getElem? (i := 834) (by decide +kernel), List.mem_of_getElem? (i := 835) (by decide +kernel)⟩
theorem lw_p34 : lw_okq (⟨"AgeRoofs$Livings", "hasRooms", "(LAgeRoofs$Parish;I)Z"⟩, 8) := ⟨⟨by decide +kernel, by decide +kernel⟩, List.mem_of_getElem? (i := 314) (by decide +kernel), List.mem_of_getElem? (i := 839) (by decide +kernel), List.mem_of_getElem? (i := 840) (by decide +kernel)⟩
theorem lw_p35 : lw_okq (⟨"AgeRoofs$Livings", "movesInto", "(LAgeRoofs$Parish;I)I"⟩, 8) := ⟨⟨by decide +kernel, by decide +kernel⟩, List.mem_of_getElem? (i := 314) (by decide +kernel), List.mem_of_getElem? (i := 847) (by decide +kernel), List.mem_of_getElem? (i := 848) (by decide +kernel)⟩
theorem lw_p36 : lw_okq (⟨"AgeRoofs$Livings", "shut", "(I)V"⟩, 8) := ⟨⟨by decide +kernel, by decide +kernel⟩, List.mem_of_getElem? (i := 314) (by decide +kernel), List.mem_of_getElem? (i := 851) (by decide +kernel), List.mem_of_getElem? (i := 852) (by decide +kernel)⟩
theorem lw_p37 : lw_okq (⟨"AgeRoofs$Livings", "isLawful", "(II)Z"⟩, 8) := ⟨⟨by decide +kernel, by decide +kernel⟩, List.mem_of_getElem? (i := 314) (by decide +kernel), List.mem_of_getElem? (i := 855) (by decide +kernel), List.mem_of_getElem? (i := 856) (by decide +kernel)⟩
theorem lw_p38 : lw_okq (⟨"AgeRoofs$Livings", "spread", "()V"⟩, 8) := ⟨⟨by decide +kernel, by decide +kernel⟩, List.mem_of_getElem? (i := 314) (by decide +kernel), List.mem_of_getElem? (i := 860) (by decide +kernel), List.mem_of_getElem? (i := 861) (by decide +kernel)⟩
theorem lw_p39 : lw_okq (⟨"AgeRoofs$Livings", "spreadFor", "(II)V"⟩, 8) := ⟨⟨by decide +kernel, by decide +kernel⟩, List.mem_of_getElem? (i := 314) (by decide +kernel), List.mem_of_getElem? (i := 864) (by decide +kernel), List.mem_of_getElem? (i := 865) (by decide +kernel)⟩
theorem lw_p40 : lw_okq (⟨"AgeRoofs$Livings", "stateWith", "(III)I"⟩, 8) := ⟨⟨by decide +kernel, by decide +kernel⟩, List.mem_of_getElem? (i := 314) (by decide +kernel), List.mem_of_getElem? (i := 868) (by decide +kernel), List.mem_of_getElem? (i := 869) (by decide +kernel)⟩
theorem lw_p41 : lw_okq (⟨"AgeRoofs$Livings", "measure", "(II)V"⟩, 8) := ⟨⟨by decide +kernel, by decide +kernel⟩, List.mem_of_getElem? (i := 314) (by decide +kernel), List.mem_of_getElem? (i := 895) (by decide +kernel), List.mem_of_getElem? (i := 896) (by decide +kernel)⟩
theorem lw_p42 : lw_okq (⟨"AgeRoofs$Livings", "measureFrom", "(III)I"⟩, 8) := ⟨⟨by decide +kernel, by decide +kernel⟩, List.mem_of_getElem? (i := 314) (by decide +kernel), List.mem_of_getElem? (i := 899) (by decide +kernel), List.mem_of_getElem? (i := 900) (by decide +kernel)⟩
theorem lw_p43 : lw_okq (⟨"AgeRoofs$Livings", "stepTowards", "(II)I"⟩, 8) := ⟨⟨by decide +kernel, by decide +kernel⟩, List.mem_of_getElem? (i := 314) (by decide +kernel), List.mem_of_getElem? (i := 907) (by decide +kernel), List.mem_of_getElem? (i := 908) (by decide +kernel)⟩
theorem lw_p44 : lw_okq (⟨"AgeRoofs$Housing", "seek", "(III)V"⟩, 9) := ⟨⟨by decide +kernel, by decide +kernel⟩, List.mem_of_getElem? (i := 278) (by decide +kernel), List.mem_of_getElem? (i := 996) (by decide +kernel), List.mem_of_getElem? (i := 997) (by decide +kernel)⟩
theorem lw_p45 : lw_okq (⟨"AgeRoofs$Parish", "lowestOpen", "(I)I"⟩, 14) := ⟨⟨by decide +kernel, by decide +kernel⟩, List.mem_of_getElem? (i := 124) (by decide +kernel), List.mem_of_getElem? (i := 1022) (by decide +kernel), List.mem_of_getElem? (i := 1023) (by decide +kernel)⟩
theorem lw_p46 : lw_okq (⟨"AgeRoofs$Parish", "shift", "(II)V"⟩, 14) := ⟨⟨by decide +kernel, by decide +kernel⟩, List.mem_of_getElem? (i := 124) (by decide +kernel), List.mem_of_getElem? (i := 1026) (by decide +kernel), List.mem_of_getElem? (i := 1027) (by decide +kernel)⟩
theorem lw_p47 : lw_okq (⟨"AgeRoofs$Parish", "drawDeaths", "()V"⟩, 14) := ⟨⟨by decide +kernel, by decide +kernel⟩, List.mem_of_getElem? (i := 124) (by decide +kernel), List.mem_of_getElem? (i := 1030) (by decide +kernel), List.mem_of_getElem? (i := 1031) (by decide +kernel)⟩
def lw_privs_3 : List (MethodName × Nat) := [(⟨"AgeRoofs$Livings", "matesIn", "(I)I"⟩, 8), (⟨"AgeRoofs$Livings", "homeIn", "(II)I"⟩, 8), (⟨"AgeRoofs$Livings", "hasRooms", "(LAgeRoofs$Parish;I)Z"⟩, 8), (⟨"AgeRoofs$Livings", "movesInto", "(LAgeRoofs$Parish;I)I"⟩, 8), (⟨"AgeRoofs$Livings", "shut", "(I)V"⟩, 8), (⟨"AgeRoofs$Livings", "isLawful", "(II)Z"⟩, 8), (⟨"AgeRoofs$Livings", "spread", "()V"⟩, 8), (⟨"AgeRoofs$Livings", "spreadFor", "(II)V"⟩, 8), (⟨"AgeRoofs$Livings", "stateWith", "(III)I"⟩, 8), (⟨"AgeRoofs$Livings", "measure", "(II)V"⟩, 8), (⟨"AgeRoofs$Livings", "measureFrom", "(III)I"⟩, 8), (⟨"AgeRoofs$Livings", "stepTowards", "(II)I"⟩, 8), (⟨"AgeRoofs$Housing", "seek", "(III)V"⟩, 9), (⟨"AgeRoofs$Parish", "lowestOpen", "(I)I"⟩, 14), (⟨"AgeRoofs$Parish", "shift", "(II)V"⟩, 14), (⟨"AgeRoofs$Parish", "drawDeaths", "()V"⟩, 14)]
theorem lw_r3 : ∀ q ∈ lw_privs_3, lw_okq q := List.forall_mem_cons.mpr ⟨lw_p32, List.forall_mem_cons.mpr ⟨lw_p33, List.forall_mem_cons.mpr ⟨lw_p34, List.forall_mem_cons.mpr ⟨lw_p35, List.forall_mem_cons.mpr ⟨lw_p36, List.forall_mem_cons.mpr ⟨lw_p37, List.forall_mem_cons.mpr ⟨lw_p38, List.forall_mem_cons.mpr ⟨lw_p39, List.forall_mem_cons.mpr ⟨lw_p40, List.forall_mem_cons.mpr ⟨lw_p41, List.forall_mem_cons.mpr ⟨lw_p42, List.forall_mem_cons.mpr ⟨lw_p43, List.forall_mem_cons.mpr ⟨lw_p44, List.forall_mem_cons.mpr ⟨lw_p45, List.forall_mem_cons.mpr ⟨lw_p46, List.forall_mem_cons.mpr ⟨lw_p47, fun _ h => absurd h List.not_mem_nil⟩⟩⟩⟩⟩⟩⟩⟩⟩⟩⟩⟩⟩⟩⟩⟩
theorem lw_p48 : lw_okq (⟨"java/lang/Throwable", "fillInStackTrace", "(I)Ljava/lang/Throwable;"⟩, 6) := ⟨⟨by decide +kernel, by decide +kernel⟩, List.mem_of_getElem? (i := 1148) (by decide +kernel), List.mem_of_getElem? (i := 1146) (by decide +kernel), List.mem_of_getElem? (i := 1147) (by decide +kernel)⟩
theorem lw_p49 : lw_okq (⟨"AgeRoofsModel", "put", "(I)V"⟩, 60) := ⟨⟨by decide +kernel, by decide +kernel⟩, List.mem_of_getElem? (i := 1180) (by decide +kernel), List.mem_of_getElem? (i := 1380) (by decide +kernel), List.mem_of_getElem? (i := 1381) (by decide +kernel)⟩
theorem lw_p50 : lw_okq (⟨"AgeRoofsModel", "readParish", "()V"⟩, 60) := ⟨⟨by decide +kernel, by decide +kernel⟩, List.mem_of_getElem? (i := 1180) (by decide +kernel), List.mem_of_getElem? (i := 1395) (by decide +kernel), List.mem_of_getElem? (i := 1396) (by decide +kernel)⟩
theorem lw_p51 : lw_okq (⟨"AgeRoofsModel", "opens", "([BII)V"⟩, 60) := ⟨⟨by decide +kernel, by decide +kernel⟩, List.mem_of_getElem? (i := 1180) (by decide +kernel), List.mem_of_getElem? (i := 1399) (by decide +kernel), List.mem_of_getElem? (i := 1400) (by decide +kernel)⟩
theorem lw_p52 : lw_okq (⟨"AgeRoofsModel", "readClause", "()V"⟩, 60) := ⟨⟨by decide +kernel, by decide +kernel⟩, List.mem_of_getElem? (i := 1180) (by decide +kernel), List.mem_of_getElem? (i := 1403) (by decide +kernel), List.mem_of_getElem? (i := 1404) (by decide +kernel)⟩
theorem lw_p53 : lw_okq (⟨"AgeRoofsModel", "look", "()I"⟩, 60) := ⟨⟨by decide +kernel, by decide +kernel⟩, List.mem_of_getElem? (i := 1180) (by decide +kernel), List.mem_of_getElem? (i := 1407) (by decide +kernel), List.mem_of_getElem? (i := 1408) (by decide +kernel)⟩
theorem lw_p54 : lw_okq (⟨"AgeRoofsModel", "fails", "()Z"⟩, 60) := ⟨⟨by decide +kernel, by decide +kernel⟩, List.mem_of_getElem? (i := 1180) (by decide +kernel), List.mem_of_getElem? (i := 1411) (by decide +kernel), List.mem_of_getElem? (i := 1412) (by decide +kernel)⟩
theorem lw_p55 : lw_okq (⟨"AgeRoofsModel", "readItem", "(ZI)V"⟩, 60) := ⟨⟨by decide +kernel, by decide +kernel⟩, List.mem_of_getElem? (i := 1180) (by decide +kernel), List.mem_of_getElem? (i := 1471) (by decide +kernel), List.mem_of_getElem? (i := 1472) (by decide +kernel)⟩
theorem lw_p56 : lw_okq (⟨"AgeRoofsModel", "number", "(II)I"⟩, 60) := ⟨⟨by decide +kernel, by decide +kernel⟩, List.mem_of_getElem? (i := 1180) (by decide +kernel), List.mem_of_getElem? (i := 1475) (by decide +kernel), List.mem_of_getElem? (i := 1476) (by decide +kernel)⟩
theorem lw_p57 : lw_okq (⟨"AgeRoofsModel", "isDigit", "()Z"⟩, 60) := ⟨⟨by decide +kernel, by decide +kernel⟩, List.mem_of_getElem? (i := 1180) (by decide +kernel), List.mem_of_getElem? (i := 1479) (by decide +kernel), List.mem_of_getElem? (i := 1480) (by decide +kernel)⟩
theorem lw_p58 : lw_okq (⟨"AgeRoofsModel", "here", "()I"⟩, 60) := ⟨⟨by decide +kernel, by decide +kernel⟩, List.mem_of_getElem? (i := 1180) (by decide +kernel), List.mem_of_getElem? (i := 1483) (by decide +kernel), List.mem_of_getElem? (i := 1484) (by decide +kernel)⟩
theorem lw_p59 : lw_okq (⟨"AgeRoofsModel", "goThrough", "([BII)V"⟩, 60) := ⟨⟨by decide +kernel, by decide +kernel⟩, List.mem_of_getElem? (i := 1180) (by decide +kernel), List.mem_of_getElem? (i := 1488) (by decide +kernel), List.mem_of_getElem? (i := 1489) (by decide +kernel)⟩
theorem lw_p60 : lw_okq (⟨"AgeRoofsModel", "clause", "()V"⟩, 60) := ⟨⟨by decide +kernel, by decide +kernel⟩, List.mem_of_getElem? (i := 1180) (by decide +kernel), List.mem_of_getElem? (i := 1492) (by decide +kernel), List.mem_of_getElem? (i := 1493) (by decide +kernel)⟩
theorem lw_p61 : lw_okq (⟨"AgeRoofsModel", "takes", "(I)Z"⟩, 60) := ⟨⟨by decide +kernel, by decide +kernel⟩, List.mem_of_getElem? (i := 1180) (by decide +kernel), List.mem_of_getElem? (i := 1499) (by decide +kernel), List.mem_of_getElem? (i := 1500) (by decide +kernel)⟩
theorem lw_p62 : lw_okq (⟨"AgeRoofsModel", "condition", "(ZI)Z"⟩, 60) := ⟨⟨by decide +kernel, by decide +kernel⟩, List.mem_of_getElem? (i := 1180) (by decide +kernel), List.mem_of_getElem? (i := 1503) (by decide +kernel), List.mem_of_getElem? (i := 1504) (by decide +kernel)⟩
theorem lw_p63 : lw_okq (⟨"AgeRoofsModel", "part", "(ZI)Z"⟩, 60) := ⟨⟨by decide +kernel, by decide +kernel⟩, List.mem_of_getElem? (i := 1180) (by decide +kernel), List.mem_of_getElem? (i := 1507) (by decide +kernel), List.mem_of_getElem? (i := 1508) (by decide +kernel)⟩
def lw_privs_4 : List (MethodName × Nat) := [(⟨"java/lang/Throwable", "fillInStackTrace", "(I)Ljava/lang/Throwable;"⟩, 6), (⟨"AgeRoofsModel", "put", "(I)V"⟩, 60), (⟨"AgeRoofsModel", "readParish", "()V"⟩, 60), (⟨"AgeRoofsModel", "opens", "([BII)V"⟩, 60), (⟨"AgeRoofsModel", "readClause", "()V"⟩, 60), (⟨"AgeRoofsModel", "look", "()I"⟩, 60), (⟨"AgeRoofsModel", "fails", "()Z"⟩, 60), (⟨"AgeRoofsModel", "readItem", "(ZI)V"⟩, 60), (⟨"AgeRoofsModel", "number", "(II)I"⟩, 60), (⟨"AgeRoofsModel", "isDigit", "()Z"⟩, 60), (⟨"AgeRoofsModel", "here", "()I"⟩, 60), (⟨"AgeRoofsModel", "goThrough", "([BII)V"⟩, 60), (⟨"AgeRoofsModel", "clause", "()V"⟩, 60), (⟨"AgeRoofsModel", "takes", "(I)Z"⟩, 60), (⟨"AgeRoofsModel", "condition", "(ZI)Z"⟩, 60), (⟨"AgeRoofsModel", "part", "(ZI)Z"⟩, 60)]
theorem lw_r4 : ∀ q ∈ lw_privs_4, lw_okq q := List.forall_mem_cons.mpr ⟨lw_p48, List.forall_mem_cons.mpr ⟨lw_p49, List.forall_mem_cons.mpr ⟨lw_p50, List.forall_mem_cons.mpr ⟨lw_p51, List.forall_mem_cons.mpr ⟨lw_p52, List.forall_mem_cons.mpr ⟨lw_p53, List.forall_mem_cons.mpr ⟨lw_p54, List.forall_mem_cons.mpr ⟨lw_p55, List.forall_mem_cons.mpr ⟨lw_p56, List.forall_mem_cons.mpr ⟨lw_p57, List.forall_mem_cons.mpr ⟨lw_p58, List.forall_mem_cons.mpr ⟨lw_p59, List.forall_mem_cons.mpr ⟨lw_p60, List.forall_mem_cons.mpr ⟨lw_p61, List.forall_mem_cons.mpr ⟨lw_p62, List.forall_mem_cons.mpr ⟨lw_p63, fun _ h => absurd h List.not_mem_nil⟩⟩⟩⟩⟩⟩⟩⟩⟩⟩⟩⟩⟩⟩⟩⟩
theorem lw_p64 : lw_okq (⟨"AgeRoofsModel", "compares", "(ZI)Z"⟩, 60) := ⟨⟨by decide +kernel, by decide +kernel⟩, List.mem_of_getElem? (i := 1180) (by decide +kernel), List.mem_of_getElem? (i := 1511) (by decide +kernel), List.mem_of_getElem? (i := 1512) (by decide +kernel)⟩
theorem lw_p65 : lw_okq (⟨"AgeRoofsModel", "sum", "()I"⟩, 60) := ⟨⟨by decide +kernel, by decide +kernel⟩, List.mem_of_getElem? (i := 1180) (by decide +kernel), List.mem_of_getElem? (i := 1515) (by decide +kernel), List.mem_of_getElem? (i := 1516) (by decide +kernel)⟩
theorem lw_p66 : lw_okq (⟨"AgeRoofsModel", "term", "()I"⟩, 60) := ⟨⟨by decide +kernel, by decide +kernel⟩, List.mem_of_getElem? (i := 1180) (by decide +kernel), List.mem_of_getElem? (i := 1519) (by decide +kernel), List.mem_of_getElem? (i := 1520) (by decide +kernel)⟩
theorem lw_p67 : lw_okq (⟨"AgeRoofsModel", "atom", "()I"⟩, 60) := ⟨⟨by decide +kernel, by decide +kernel⟩, List.mem_of_getElem? (i := 1180) (by decide +kernel), List.mem_of_getElem? (i := 1523) (by decide +kernel), List.mem_of_getElem? (i := 1524) (by decide +kernel)⟩
theorem lw_p68 : lw_okq (⟨"AgeRoofsModel", "goesIn", "()Z"⟩, 60) := ⟨⟨by decide +kernel, by decide +kernel⟩, List.mem_of_getElem? (i := 1180) (by decide +kernel), List.mem_of_getElem? (i := 1527) (by decide +kernel), List.mem_of_getElem? (i := 1528) (by decide +kernel)⟩
theorem lw_p69 : lw_okq (⟨"AgeRoofsModel", "unit", "()Z"⟩, 60) := ⟨⟨by decide +kernel, by decide +kernel⟩, List.mem_of_getElem? (i := 1180) (by decide +kernel), List.mem_of_getElem? (i := 1545) (by decide +kernel), List.mem_of_getElem? (i := 1546) (by decide +kernel)⟩
theorem lw_p70 : lw_okq (⟨"AgeRoofsModel", "isPerson", "(I)Z"⟩, 60) := ⟨⟨by decide +kernel, by decide +kernel⟩, List.mem_of_getElem? (i := 1180) (by decide +kernel), List.mem_of_getElem? (i := 1558) (by decide +kernel), List.mem_of_getElem? (i := 1559) (by decide +kernel)⟩
theorem lw_p71 : lw_okq (⟨"AgeRoofsModel", "age", "(II)I"⟩, 60) := ⟨⟨by decide +kernel, by decide +kernel⟩, List.mem_of_getElem? (i := 1180) (by decide +kernel), List.mem_of_getElem? (i := 1563) (by decide +kernel), List.mem_of_getElem? (i := 1564) (by decide +kernel)⟩
theorem lw_p72 : lw_okq (⟨"AgeRoofsModel", "isHouse", "(I)Z"⟩, 60) := ⟨⟨by decide +kernel, by decide +kernel⟩, List.mem_of_getElem? (i := 1180) (by decide +kernel), List.mem_of_getElem? (i := 1576) (by decide +kernel), List.mem_of_getElem? (i := 1577) (by decide +kernel)⟩
theorem lw_p73 : lw_okq (⟨"AgeRoofsModel", "who", "(I)I"⟩, 60) := ⟨⟨by decide +kernel, by decide +kernel⟩, List.mem_of_getElem? (i := 1180) (by decide +kernel), List.mem_of_getElem? (i := 1580) (by decide +kernel), List.mem_of_getElem? (i := 1581) (by decide +kernel)⟩
theorem lw_p74 : lw_okq (⟨"AgeRoofsModel", "areTwo", "(II)Z"⟩, 60) := ⟨⟨by decide +kernel, by decide +kernel⟩, List.mem_of_getElem? (i := 1180) (by decide +kernel), List.mem_of_getElem? (i := 1598) (by decide +kernel), List.mem_of_getElem? (i := 1599) (by decide +kernel)⟩
theorem lw_p75 : lw_okq (⟨"AgeRoofsModel", "doClash", "(III)Z"⟩, 60) := ⟨⟨by decide +kernel, by decide +kernel⟩, List.mem_of_getElem? (i := 1180) (by decide +kernel), List.mem_of_getElem? (i := 1602) (by decide +kernel), List.mem_of_getElem? (i := 1603) (by decide +kernel)⟩
theorem lw_p76 : lw_okq (⟨"AgeRoofsModel", "clashesOf", "(III)I"⟩, 60) := ⟨⟨by decide +kernel, by decide +kernel⟩, List.mem_of_getElem? (i := 1180) (by decide +kernel), List.mem_of_getElem? (i := 1616) (by decide +kernel), List.mem_of_getElem? (i := 1617) (by decide +kernel)⟩
theorem lw_p77 : lw_okq (⟨"AgeRoofsModel", "whyOf", "(II)I"⟩, 60) := ⟨⟨by decide +kernel, by decide +kernel⟩, List.mem_of_getElem? (i := 1180) (by decide +kernel), List.mem_of_getElem? (i := 1629) (by decide +kernel), List.mem_of_getElem? (i := 1630) (by decide +kernel)⟩
theorem lw_p78 : lw_okq (⟨"AgeRoofsModel", "bound", "(I)I"⟩, 60) := ⟨⟨by decide +kernel, by decide +kernel⟩, List.mem_of_getElem? (i := 1180) (by decide +kernel), List.mem_of_getElem? (i := 1641) (by decide +kernel), List.mem_of_getElem? (i := 1642) (by decide +kernel)⟩
theorem lw_p79 : lw_okq (⟨"AgeRoofsModel", "layToday", "(I)V"⟩, 60) := ⟨⟨by decide +kernel, by decide +kernel⟩, List.mem_of_getElem? (i := 1180) (by decide +kernel), List.mem_of_getElem? (i := 1645) (by decide +kernel), List.mem_of_getElem? (i := 1646) (by decide +kernel)⟩
def lw_privs_5 : List (MethodName × Nat) := [(⟨"AgeRoofsModel", "compares", "(ZI)Z"⟩, 60), (⟨"AgeRoofsModel", "sum", "()I"⟩, 60), (⟨"AgeRoofsModel", "term", "()I"⟩, 60), (⟨"AgeRoofsModel", "atom", "()I"⟩, 60), (⟨"AgeRoofsModel", "goesIn", "()Z"⟩, 60), (⟨"AgeRoofsModel", "unit", "()Z"⟩, 60), (⟨"AgeRoofsModel", "isPerson", "(I)Z"⟩, 60), (⟨"AgeRoofsModel", "age", "(II)I"⟩, 60), (⟨"AgeRoofsModel", "isHouse", "(I)Z"⟩, 60), (⟨"AgeRoofsModel", "who", "(I)I"⟩, 60), (⟨"AgeRoofsModel", "areTwo", "(II)Z"⟩, 60), (⟨"AgeRoofsModel", "doClash", "(III)Z"⟩, 60), (⟨"AgeRoofsModel", "clashesOf", "(III)I"⟩, 60), (⟨"AgeRoofsModel", "whyOf", "(II)I"⟩, 60), (⟨"AgeRoofsModel", "bound", "(I)I"⟩, 60), (⟨"AgeRoofsModel", "layToday", "(I)V"⟩, 60)]
theorem lw_r5 : ∀ q ∈ lw_privs_5, lw_okq q := List.forall_mem_cons.mpr ⟨lw_p64, List.forall_mem_cons.mpr ⟨lw_p65, List.forall_mem_cons.mpr ⟨lw_p66, List.forall_mem_cons.mpr ⟨lw_p67, List.forall_mem_cons.mpr ⟨lw_p68, List.forall_mem_cons.mpr ⟨lw_p69, List.forall_mem_cons.mpr ⟨lw_p70, List.forall_mem_cons.mpr ⟨lw_p71, List.forall_mem_cons.mpr ⟨lw_p72, List.forall_mem_cons.mpr ⟨lw_p73, List.forall_mem_cons.mpr ⟨lw_p74, List.forall_mem_cons.mpr ⟨lw_p75, List.forall_mem_cons.mpr ⟨lw_p76, List.forall_mem_cons.mpr ⟨lw_p77, List.forall_mem_cons.mpr ⟨lw_p78, List.forall_mem_cons.mpr ⟨lw_p79, fun _ h => absurd h List.not_mem_nil⟩⟩⟩⟩⟩⟩⟩⟩⟩⟩⟩⟩⟩⟩⟩⟩
theorem lw_p80 : lw_okq (⟨"AgeRoofsModel", "layAgainst", "(I)V"⟩, 60) := ⟨⟨by decide +kernel, by decide +kernel⟩, List.mem_of_getElem? (i := 1180) (by decide +kernel), List.mem_of_getElem? (i := 1649) (by decide +kernel), List.mem_of_getElem? (i := 1650) (by decide +kernel)⟩
theorem lw_p81 : lw_okq (⟨"AgeRoofsModel", "parts", "(II)Z"⟩, 60) := ⟨⟨by decide +kernel, by decide +kernel⟩, List.mem_of_getElem? (i := 1180) (by decide +kernel), List.mem_of_getElem? (i := 1653) (by decide +kernel), List.mem_of_getElem? (i := 1654) (by decide +kernel)⟩
theorem lw_p82 : lw_okq (⟨"AgeRoofsModel", "everybody", "()I"⟩, 60) := ⟨⟨by decide +kernel, by decide +kernel⟩, List.mem_of_getElem? (i := 1180) (by decide +kernel), List.mem_of_getElem? (i := 1661) (by decide +kernel), List.mem_of_getElem? (i := 1662) (by decide +kernel)⟩
theorem lw_p83 : lw_okq (⟨"AgeRoofsModel", "lastsFor", "(I)I"⟩, 60) := ⟨⟨by decide +kernel, by decide +kernel⟩, List.mem_of_getElem? (i := 1180) (by decide +kernel), List.mem_of_getElem? (i := 1665) (by decide +kernel), List.mem_of_getElem? (i := 1666) (by decide +kernel)⟩
theorem lw_p84 : lw_okq (⟨"AgeRoofsModel", "livingMany", "()I"⟩, 60) := ⟨⟨by decide +kernel, by decide +kernel⟩, List.mem_of_getElem? (i := 1180) (by decide +kernel), List.mem_of_getElem? (i := 1669) (by decide +kernel), List.mem_of_getElem? (i := 1670) (by decide +kernel)⟩
theorem lw_p85 : lw_okq (⟨"AgeRoofsModel", "layLiving", "(I)Z"⟩, 60) := ⟨⟨by decide +kernel, by decide +kernel⟩, List.mem_of_getElem? (i := 1180) (by decide +kernel), List.mem_of_getElem? (i := 1673) (by decide +kernel), List.mem_of_getElem? (i := 1674) (by decide +kernel)⟩
theorem lw_p86 : lw_okq (⟨"AgeRoofsModel", "isLawful", "(I[I)Z"⟩, 60) := ⟨⟨by decide +kernel, by decide +kernel⟩, List.mem_of_getElem? (i := 1180) (by decide +kernel), List.mem_of_getElem? (i := 1677) (by decide +kernel), List.mem_of_getElem? (i := 1678) (by decide +kernel)⟩
theorem lw_p87 : lw_okq (⟨"AgeRoofsModel", "areFew", "()Z"⟩, 60) := ⟨⟨by decide +kernel, by decide +kernel⟩, List.mem_of_getElem? (i := 1180) (by decide +kernel), List.mem_of_getElem? (i := 1692) (by decide +kernel), List.mem_of_getElem? (i := 1693) (by decide +kernel)⟩
theorem lw_p88 : lw_okq (⟨"AgeRoofsModel", "layGood", "(I)V"⟩, 60) := ⟨⟨by decide +kernel, by decide +kernel⟩, List.mem_of_getElem? (i := 1180) (by decide +kernel), List.mem_of_getElem? (i := 1696) (by decide +kernel), List.mem_of_getElem? (i := 1697) (by decide +kernel)⟩
theorem lw_p89 : lw_okq (⟨"AgeRoofsModel", "unlike", "(II)I"⟩, 60) := ⟨⟨by decide +kernel, by decide +kernel⟩, List.mem_of_getElem? (i := 1180) (by decide +kernel), List.mem_of_getElem? (i := 1701) (by decide +kernel), List.mem_of_getElem? (i := 1702) (by decide +kernel)⟩
theorem lw_p90 : lw_okq (⟨"AgeRoofsModel", "placeFour", "(I)I"⟩, 60) := ⟨⟨by decide +kernel, by decide +kernel⟩, List.mem_of_getElem? (i := 1180) (by decide +kernel), List.mem_of_getElem? (i := 1710) (by decide +kernel), List.mem_of_getElem? (i := 1711) (by decide +kernel)⟩
theorem lw_p91 : lw_okq (⟨"AgeRoofsModel", "mayLodge", "(II)Z"⟩, 60) := ⟨⟨by decide +kernel, by decide +kernel⟩, List.mem_of_getElem? (i := 1180) (by decide +kernel), List.mem_of_getElem? (i := 1719) (by decide +kernel), List.mem_of_getElem? (i := 1720) (by decide +kernel)⟩
theorem lw_p92 : lw_okq (⟨"AgeRoofsModel", "ratherOf", "(I)I"⟩, 60) := ⟨⟨by decide +kernel, by decide +kernel⟩, List.mem_of_getElem? (i := 1180) (by decide +kernel), List.mem_of_getElem? (i := 1739) (by decide +kernel), List.mem_of_getElem? (i := 1740) (by decide +kernel)⟩
theorem lw_p93 : lw_okq (⟨"AgeRoofsModel", "gainIn", "(II)I"⟩, 60) := ⟨⟨by decide +kernel, by decide +kernel⟩, List.mem_of_getElem? (i := 1180) (by decide +kernel), List.mem_of_getElem? (i := 1743) (by decide +kernel), List.mem_of_getElem? (i := 1744) (by decide +kernel)⟩
theorem lw_p94 : lw_okq (⟨"AgeRoofsModel", "mayLive", "(II)Z"⟩, 60) := ⟨⟨by decide +kernel, by decide +kernel⟩, List.mem_of_getElem? (i := 1180) (by decide +kernel), List.mem_of_getElem? (i := 1747) (by decide +kernel), List.mem_of_getElem? (i := 1748) (by decide +kernel)⟩
theorem lw_p95 : lw_okq (⟨"AgeRoofsModel", "goBest", "(III)V"⟩, 60) := ⟨⟨by decide +kernel, by decide +kernel⟩, List.mem_of_getElem? (i := 1180) (by decide +kernel), List.mem_of_getElem? (i := 1759) (by decide +kernel), List.mem_of_getElem? (i := 1760) (by decide +kernel)⟩
def lw_privs_6 : List (MethodName × Nat) := [(⟨"AgeRoofsModel", "layAgainst", "(I)V"⟩, 60), (⟨"AgeRoofsModel", "parts", "(II)Z"⟩, 60), (⟨"AgeRoofsModel", "everybody", "()I"⟩, 60), (⟨"AgeRoofsModel", "lastsFor", "(I)I"⟩, 60), (⟨"AgeRoofsModel", "livingMany", "()I"⟩, 60), (⟨"AgeRoofsModel", "layLiving", "(I)Z"⟩, 60), (⟨"AgeRoofsModel", "isLawful", "(I[I)Z"⟩, 60), (⟨"AgeRoofsModel", "areFew", "()Z"⟩, 60), (⟨"AgeRoofsModel", "layGood", "(I)V"⟩, 60), (⟨"AgeRoofsModel", "unlike", "(II)I"⟩, 60), (⟨"AgeRoofsModel", "placeFour", "(I)I"⟩, 60), (⟨"AgeRoofsModel", "mayLodge", "(II)Z"⟩, 60), (⟨"AgeRoofsModel", "ratherOf", "(I)I"⟩, 60), (⟨"AgeRoofsModel", "gainIn", "(II)I"⟩, 60), (⟨"AgeRoofsModel", "mayLive", "(II)Z"⟩, 60), (⟨"AgeRoofsModel", "goBest", "(III)V"⟩, 60)]
theorem lw_r6 : ∀ q ∈ lw_privs_6, lw_okq q := List.forall_mem_cons.mpr ⟨lw_p80, List.forall_mem_cons.mpr ⟨lw_p81, List.forall_mem_cons.mpr ⟨lw_p82, List.forall_mem_cons.mpr ⟨lw_p83, List.forall_mem_cons.mpr ⟨lw_p84, List.forall_mem_cons.mpr ⟨lw_p85, List.forall_mem_cons.mpr ⟨lw_p86, List.forall_mem_cons.mpr ⟨lw_p87, List.forall_mem_cons.mpr ⟨lw_p88, List.forall_mem_cons.mpr ⟨lw_p89, List.forall_mem_cons.mpr ⟨lw_p90, List.forall_mem_cons.mpr ⟨lw_p91, List.forall_mem_cons.mpr ⟨lw_p92, List.forall_mem_cons.mpr ⟨lw_p93, List.forall_mem_cons.mpr ⟨lw_p94, List.forall_mem_cons.mpr ⟨lw_p95, fun _ h => absurd h List.not_mem_nil⟩⟩⟩⟩⟩⟩⟩⟩⟩⟩⟩⟩⟩⟩⟩⟩
theorem lw_p96 : lw_okq (⟨"AgeRoofsModel", "dayGoesOn", "()V"⟩, 60) := ⟨⟨by decide +kernel, by decide +kernel⟩, List.mem_of_getElem? (i := 1180) (by decide +kernel), List.mem_of_getElem? (i := 1776) (by decide +kernel), List.mem_of_getElem? (i := 1777) (by decide +kernel)⟩
theorem lw_p97 : lw_okq (⟨"AgeRoofsModel", "isBothered", "(I)Z"⟩, 60) := ⟨⟨by decide +kernel, by decide +kernel⟩, List.mem_of_getElem? (i := 1180) (by decide +kernel), List.mem_of_getElem? (i := 1780) (by decide +kernel), List.mem_of_getElem? (i := 1781) (by decide +kernel)⟩
theorem lw_p98 : lw_okq (⟨"AgeRoofsModel", "lowestFor", "(I)I"⟩, 60) := ⟨⟨by decide +kernel, by decide +kernel⟩, List.mem_of_getElem? (i := 1180) (by decide +kernel), List.mem_of_getElem? (i := 1784) (by decide +kernel), List.mem_of_getElem? (i := 1785) (by decide +kernel)⟩
theorem lw_p99 : lw_okq (⟨"AgeRoofsModel", "couldLive", "(IIII)Z"⟩, 60) := ⟨⟨by decide +kernel, by decide +kernel⟩, List.mem_of_getElem? (i := 1180) (by decide +kernel), List.mem_of_getElem? (i := 1794) (by decide +kernel), List.mem_of_getElem? (i := 1795) (by decide +kernel)⟩
theorem lw_p100 : lw_okq (⟨"AgeRoofsModel", "couldSwap", "(II)Z"⟩, 60) := ⟨⟨by decide +kernel, by decide +kernel⟩, List.mem_of_getElem? (i := 1180) (by decide +kernel), List.mem_of_getElem? (i := 1806) (by decide +kernel), List.mem_of_getElem? (i := 1807) (by decide +kernel)⟩
theorem lw_p101 : lw_okq (⟨"AgeRoofsModel", "partsOf", "(III)Z"⟩, 60) := ⟨⟨by decide +kernel, by decide +kernel⟩, List.mem_of_getElem? (i := 1180) (by decide +kernel), List.mem_of_getElem? (i := 1819) (by decide +kernel), List.mem_of_getElem? (i := 1820) (by decide +kernel)⟩
def lw_privs_7 : List (MethodName × Nat) := [(⟨"AgeRoofsModel", "dayGoesOn", "()V"⟩, 60), (⟨"AgeRoofsModel", "isBothered", "(I)Z"⟩, 60), (⟨"AgeRoofsModel", "lowestFor", "(I)I"⟩, 60), (⟨"AgeRoofsModel", "couldLive", "(IIII)Z"⟩, 60), (⟨"AgeRoofsModel", "couldSwap", "(II)Z"⟩, 60), (⟨"AgeRoofsModel", "partsOf", "(III)Z"⟩, 60)]
theorem lw_r7 : ∀ q ∈ lw_privs_7, lw_okq q := List.forall_mem_cons.mpr ⟨lw_p96, List.forall_mem_cons.mpr ⟨lw_p97, List.forall_mem_cons.mpr ⟨lw_p98, List.forall_mem_cons.mpr ⟨lw_p99, List.forall_mem_cons.mpr ⟨lw_p100, List.forall_mem_cons.mpr ⟨lw_p101, fun _ h => absurd h List.not_mem_nil⟩⟩⟩⟩⟩⟩
def lw_privs : List (MethodName × Nat) := lw_privs_1 ++ (lw_privs_2 ++ (lw_privs_3 ++ (lw_privs_4 ++ (lw_privs_5 ++ (lw_privs_6 ++ (lw_privs_7))))))
def lw_tbl : List Cond := k2_sels lw_privs ++ tables_1
theorem lw_privs_ok : ∀ q ∈ lw_privs, lw_okq q := by
  show ∀ q ∈ lw_privs_1 ++ (lw_privs_2 ++ (lw_privs_3 ++ (lw_privs_4 ++ (lw_privs_5 ++ (lw_privs_6 ++ (lw_privs_7)))))), lw_okq q
  exact List.forall_mem_append.mpr ⟨lw_r1, List.forall_mem_append.mpr ⟨lw_r2, List.forall_mem_append.mpr ⟨lw_r3, List.forall_mem_append.mpr ⟨lw_r4, List.forall_mem_append.mpr ⟨lw_r5, List.forall_mem_append.mpr ⟨lw_r6, lw_r7⟩⟩⟩⟩⟩⟩
-- ===== end of PART A; then your names; then what follows =====
def RX0 : String := "AgeRoofs$Dates"
def TX0 : u_T := fun k => match k with
  | _ => ("AgeRoofs$Dates", "marks", "[Z", true)
def tyX0 : Nat → FieldType := fun k => match k with
  | _ => .array .boolean
abbrev wsX00 : List Cond := u_ws RX0 TX0 1
theorem nmX0 : ∀ a, a < 1 → ∀ b, b < 1 → a ≠ b → (TX0 a).2.1 ≠ (TX0 b).2.1 := by decide +kernel
theorem tyX0_ok : ∀ k, k < 1 → parseFieldDescriptor (TX0 k).2.2.1 = some (tyX0 k) := by decide +kernel
abbrev cX0_init : ByteArray := prog_2_method_1_code
def yX0_init : MethodName := ⟨RX0, "<init>", "()V"⟩
abbrev cX0_mark : ByteArray := prog_2_method_2_code
def yX0_mark : MethodName := ⟨RX0, "mark", "(IZ)V"⟩
abbrev cX0_many : ByteArray := prog_2_method_3_code
def yX0_many : MethodName := ⟨RX0, "many", "()I"⟩
abbrev cX0_least : ByteArray := prog_2_method_4_code
def yX0_least : MethodName := ⟨RX0, "least", "()I"⟩
abbrev cX0_greatest : ByteArray := prog_2_method_5_code
def yX0_greatest : MethodName := ⟨RX0, "greatest", "()I"⟩
abbrev cX0_longestRow : ByteArray := prog_2_method_6_code
def yX0_longestRow : MethodName := ⟨RX0, "longestRow", "()I"⟩
def RX1 : String := "AgeRoofs$Housing"
def TX1 : u_T := fun k => match k with
  | 0 => ("AgeRoofs$Housing", "people", "I", false)
  | 1 => ("AgeRoofs$Housing", "houses", "I", false)
  | 2 => ("AgeRoofs$Housing", "wanted", "I", false)
  | 3 => ("AgeRoofs$Housing", "rooms", "[I", true)
  | 4 => ("AgeRoofs$Housing", "foes", "[I", true)
  | 5 => ("AgeRoofs$Housing", "inside", "[I", true)
  | 6 => ("AgeRoofs$Housing", "gains", "[I", true)
  | 7 => ("AgeRoofs$Housing", "bestSum", "I", false)
  | _ => ("AgeRoofs$Housing", "bestLiving", "I", false)
def tyX1 : Nat → FieldType := fun k => match k with
  | 0 => .int
  | 1 => .int
  | 2 => .int
  | 3 => .array .int
  | 4 => .array .int
  | 5 => .array .int
  | 6 => .array .int
  | 7 => .int
  | _ => .int
abbrev wsX10 : List Cond := u_ws RX1 TX1 9
theorem nmX1 : ∀ a, a < 9 → ∀ b, b < 9 → a ≠ b → (TX1 a).2.1 ≠ (TX1 b).2.1 := by decide +kernel
theorem tyX1_ok : ∀ k, k < 9 → parseFieldDescriptor (TX1 k).2.2.1 = some (tyX1 k) := by decide +kernel
abbrev cX1_init : ByteArray := prog_3_method_1_code
def yX1_init : MethodName := ⟨RX1, "<init>", "()V"⟩
abbrev cX1_fewestParts : ByteArray := prog_3_method_2_code
def yX1_fewestParts : MethodName := ⟨RX1, "fewestParts", "(ILAgeRoofs$Pairs;)I"⟩
abbrev cX1_leastRooms : ByteArray := prog_3_method_3_code
def yX1_leastRooms : MethodName := ⟨RX1, "leastRooms", "(ILAgeRoofs$Pairs;I)I"⟩
abbrev cX1_partsHold : ByteArray := prog_3_method_4_code
def yX1_partsHold : MethodName := ⟨RX1, "partsHold", "(ILAgeRoofs$Pairs;II)Z"⟩
abbrev cX1_lowestLiving : ByteArray := prog_3_method_5_code
def yX1_lowestLiving : MethodName := ⟨RX1, "lowestLiving", "(LAgeRoofs$Parish;LAgeRoofs$Pairs;I)I"⟩
abbrev cX1_seekBest : ByteArray := prog_3_method_6_code
def yX1_seekBest : MethodName := ⟨RX1, "seekBest", "(LAgeRoofs$Parish;LAgeRoofs$Pairs;)V"⟩
abbrev cX1_prepareTold : ByteArray := prog_3_method_7_code
def yX1_prepareTold : MethodName := ⟨RX1, "prepareTold", "(LAgeRoofs$Parish;LAgeRoofs$Pairs;)V"⟩
abbrev cX1_prepare : ByteArray := prog_3_method_8_code
def yX1_prepare : MethodName := ⟨RX1, "prepare", "(IILAgeRoofs$Pairs;)V"⟩
abbrev cX1_takes : ByteArray := prog_3_method_9_code
def yX1_takes : MethodName := ⟨RX1, "takes", "(II)Z"⟩
abbrev cX1_place : ByteArray := prog_3_method_10_code
def yX1_place : MethodName := ⟨RX1, "place", "(II)I"⟩
abbrev cX1_seek : ByteArray := prog_3_method_11_code
def yX1_seek : MethodName := ⟨RX1, "seek", "(III)V"⟩
def RX2 : String := "AgeRoofs$LawReader"
def TX2 : u_T := fun k => match k with
  | _ => ("AgeRoofs$LawReader", "draft", "LAgeRoofs$Program;", true)
def tyX2 : Nat → FieldType := fun k => match k with
  | _ => .object "AgeRoofs$Program"
abbrev wsX20 : List Cond := u_ws RX2 TX2 1
theorem nmX2 : ∀ a, a < 1 → ∀ b, b < 1 → a ≠ b → (TX2 a).2.1 ≠ (TX2 b).2.1 := by decide +kernel
theorem tyX2_ok : ∀ k, k < 1 → parseFieldDescriptor (TX2 k).2.2.1 = some (tyX2 k) := by decide +kernel
abbrev cX2_init : ByteArray := prog_4_method_1_code
def yX2_init : MethodName := ⟨RX2, "<init>", "()V"⟩
abbrev cX2_reads : ByteArray := prog_4_method_2_code
def yX2_reads : MethodName := ⟨RX2, "reads", "(LAgeRoofs$Tape;)Z"⟩
abbrev cX2_readClause : ByteArray := prog_4_method_3_code
def yX2_readClause : MethodName := ⟨RX2, "readClause", "(LAgeRoofs$Tape;)Z"⟩
abbrev cX2_guarded : ByteArray := prog_4_method_4_code
def yX2_guarded : MethodName := ⟨RX2, "guarded", "(LAgeRoofs$Tape;)Z"⟩
abbrev cX2_condition : ByteArray := prog_4_method_5_code
def yX2_condition : MethodName := ⟨RX2, "condition", "(LAgeRoofs$Tape;I)Z"⟩
abbrev cX2_moreTruths : ByteArray := prog_4_method_6_code
def yX2_moreTruths : MethodName := ⟨RX2, "moreTruths", "(LAgeRoofs$Tape;I)Z"⟩
abbrev cX2_truth : ByteArray := prog_4_method_7_code
def yX2_truth : MethodName := ⟨RX2, "truth", "(LAgeRoofs$Tape;I)Z"⟩
abbrev cX2_moreUnits : ByteArray := prog_4_method_8_code
def yX2_moreUnits : MethodName := ⟨RX2, "moreUnits", "(LAgeRoofs$Tape;I)Z"⟩
abbrev cX2_unit : ByteArray := prog_4_method_9_code
def yX2_unit : MethodName := ⟨RX2, "unit", "(LAgeRoofs$Tape;I)Z"⟩
abbrev cX2_relation : ByteArray := prog_4_method_10_code
def yX2_relation : MethodName := ⟨RX2, "relation", "(LAgeRoofs$Tape;I)Z"⟩
abbrev cX2_sum : ByteArray := prog_4_method_11_code
def yX2_sum : MethodName := ⟨RX2, "sum", "(LAgeRoofs$Tape;I)Z"⟩
abbrev cX2_term : ByteArray := prog_4_method_12_code
def yX2_term : MethodName := ⟨RX2, "term", "(LAgeRoofs$Tape;I)Z"⟩
abbrev cX2_atom : ByteArray := prog_4_method_13_code
def yX2_atom : MethodName := ⟨RX2, "atom", "(LAgeRoofs$Tape;I)Z"⟩
def RX3 : String := "AgeRoofs$Laws"
def TX3 : u_T := fun k => match k with
  | 0 => ("AgeRoofs$Laws", "programs", "[LAgeRoofs$Program;", true)
  | 1 => ("AgeRoofs$Laws", "kept", "I", false)
  | _ => ("AgeRoofs$Laws", "holding", "I", false)
def tyX3 : Nat → FieldType := fun k => match k with
  | 0 => .array (.object "AgeRoofs$Program")
  | 1 => .int
  | _ => .int
abbrev wsX30 : List Cond := u_ws RX3 TX3 3
theorem nmX3 : ∀ a, a < 3 → ∀ b, b < 3 → a ≠ b → (TX3 a).2.1 ≠ (TX3 b).2.1 := by decide +kernel
theorem tyX3_ok : ∀ k, k < 3 → parseFieldDescriptor (TX3 k).2.2.1 = some (tyX3 k) := by decide +kernel
abbrev cX3_init : ByteArray := prog_5_method_1_code
def yX3_init : MethodName := ⟨RX3, "<init>", "()V"⟩
abbrev cX3_keep : ByteArray := prog_5_method_2_code
def yX3_keep : MethodName := ⟨RX3, "keep", "(LAgeRoofs$Program;)I"⟩
abbrev cX3_forbid : ByteArray := prog_5_method_3_code
def yX3_forbid : MethodName := ⟨RX3, "forbid", "(IIII)Z"⟩
abbrev cX3_steadyDays : ByteArray := prog_5_method_4_code
def yX3_steadyDays : MethodName := ⟨RX3, "steadyDays", "(III)I"⟩
abbrev cX3_daysTillBirthday : ByteArray := prog_5_method_5_code
def yX3_daysTillBirthday : MethodName := ⟨RX3, "daysTillBirthday", "(II)I"⟩
def RX4 : String := "AgeRoofs$Livings"
def TX4 : u_T := fun k => match k with
  | 0 => ("AgeRoofs$Livings", "people", "I", false)
  | 1 => ("AgeRoofs$Livings", "houses", "I", false)
  | 2 => ("AgeRoofs$Livings", "states", "I", false)
  | 3 => ("AgeRoofs$Livings", "weights", "[I", true)
  | 4 => ("AgeRoofs$Livings", "mates", "[I", true)
  | 5 => ("AgeRoofs$Livings", "roomy", "[Z", true)
  | 6 => ("AgeRoofs$Livings", "costs", "[I", true)
  | _ => ("AgeRoofs$Livings", "queue", "[I", true)
def tyX4 : Nat → FieldType := fun k => match k with
  | 0 => .int
  | 1 => .int
  | 2 => .int
  | 3 => .array .int
  | 4 => .array .int
  | 5 => .array .boolean
  | 6 => .array .int
  | _ => .array .int
abbrev wsX40 : List Cond := u_ws RX4 TX4 8
theorem nmX4 : ∀ a, a < 8 → ∀ b, b < 8 → a ≠ b → (TX4 a).2.1 ≠ (TX4 b).2.1 := by decide +kernel
theorem tyX4_ok : ∀ k, k < 8 → parseFieldDescriptor (TX4 k).2.2.1 = some (tyX4 k) := by decide +kernel
abbrev cX4_init : ByteArray := prog_6_method_1_code
def yX4_init : MethodName := ⟨RX4, "<init>", "()V"⟩
abbrev cX4_lay : ByteArray := prog_6_method_2_code
def yX4_lay : MethodName := ⟨RX4, "lay", "(LAgeRoofs$Parish;)V"⟩
abbrev cX4_homeIn : ByteArray := prog_6_method_3_code
def yX4_homeIn : MethodName := ⟨RX4, "homeIn", "(II)I"⟩
abbrev cX4_matesIn : ByteArray := prog_6_method_4_code
def yX4_matesIn : MethodName := ⟨RX4, "matesIn", "(I)I"⟩
abbrev cX4_hasRooms : ByteArray := prog_6_method_5_code
def yX4_hasRooms : MethodName := ⟨RX4, "hasRooms", "(LAgeRoofs$Parish;I)Z"⟩
abbrev cX4_isLawful : ByteArray := prog_6_method_6_code
def yX4_isLawful : MethodName := ⟨RX4, "isLawful", "(II)Z"⟩
abbrev cX4_fewestMoves : ByteArray := prog_6_method_7_code
def yX4_fewestMoves : MethodName := ⟨RX4, "fewestMoves", "(LAgeRoofs$Parish;LAgeRoofs$Pairs;)I"⟩
abbrev cX4_movesInto : ByteArray := prog_6_method_8_code
def yX4_movesInto : MethodName := ⟨RX4, "movesInto", "(LAgeRoofs$Parish;I)I"⟩
abbrev cX4_shut : ByteArray := prog_6_method_9_code
def yX4_shut : MethodName := ⟨RX4, "shut", "(I)V"⟩
abbrev cX4_spread : ByteArray := prog_6_method_10_code
def yX4_spread : MethodName := ⟨RX4, "spread", "()V"⟩
abbrev cX4_spreadFor : ByteArray := prog_6_method_11_code
def yX4_spreadFor : MethodName := ⟨RX4, "spreadFor", "(II)V"⟩
abbrev cX4_stateWith : ByteArray := prog_6_method_12_code
def yX4_stateWith : MethodName := ⟨RX4, "stateWith", "(III)I"⟩
abbrev cX4_stateOf : ByteArray := prog_6_method_13_code
def yX4_stateOf : MethodName := ⟨RX4, "stateOf", "(LAgeRoofs$Parish;)I"⟩
abbrev cX4_stateTold : ByteArray := prog_6_method_14_code
def yX4_stateTold : MethodName := ⟨RX4, "stateTold", "(I)I"⟩
abbrev cX4_stepsBetween : ByteArray := prog_6_method_15_code
def yX4_stepsBetween : MethodName := ⟨RX4, "stepsBetween", "(III)I"⟩
abbrev cX4_measure : ByteArray := prog_6_method_16_code
def yX4_measure : MethodName := ⟨RX4, "measure", "(II)V"⟩
abbrev cX4_measureFrom : ByteArray := prog_6_method_17_code
def yX4_measureFrom : MethodName := ⟨RX4, "measureFrom", "(III)I"⟩
abbrev cX4_stepOfRow : ByteArray := prog_6_method_18_code
def yX4_stepOfRow : MethodName := ⟨RX4, "stepOfRow", "(III)I"⟩
abbrev cX4_stepTowards : ByteArray := prog_6_method_19_code
def yX4_stepTowards : MethodName := ⟨RX4, "stepTowards", "(II)I"⟩
def RX5 : String := "AgeRoofs$Pairs"
def TX5 : u_T := fun k => match k with
  | 0 => ("AgeRoofs$Pairs", "people", "I", false)
  | 1 => ("AgeRoofs$Pairs", "span", "I", false)
  | 2 => ("AgeRoofs$Pairs", "ever", "I", false)
  | _ => ("AgeRoofs$Pairs", "on", "[I", true)
def tyX5 : Nat → FieldType := fun k => match k with
  | 0 => .int
  | 1 => .int
  | 2 => .int
  | _ => .array .int
abbrev wsX50 : List Cond := u_ws RX5 TX5 4
theorem nmX5 : ∀ a, a < 4 → ∀ b, b < 4 → a ≠ b → (TX5 a).2.1 ≠ (TX5 b).2.1 := by decide +kernel
theorem tyX5_ok : ∀ k, k < 4 → parseFieldDescriptor (TX5 k).2.2.1 = some (tyX5 k) := by decide +kernel
abbrev cX5_init : ByteArray := prog_7_method_1_code
def yX5_init : MethodName := ⟨RX5, "<init>", "()V"⟩
abbrev cX5_look : ByteArray := prog_7_method_2_code
def yX5_look : MethodName := ⟨RX5, "look", "(LAgeRoofs$Parish;I)V"⟩
abbrev cX5_lookAtPair : ByteArray := prog_7_method_3_code
def yX5_lookAtPair : MethodName := ⟨RX5, "lookAtPair", "(LAgeRoofs$Parish;II)V"⟩
abbrev cX5_pairsOf : ByteArray := prog_7_method_4_code
def yX5_pairsOf : MethodName := ⟨RX5, "pairsOf", "(I)I"⟩
abbrev cX5_everAtOdds : ByteArray := prog_7_method_5_code
def yX5_everAtOdds : MethodName := ⟨RX5, "everAtOdds", "(I)I"⟩
abbrev cX5_atOddsWithin : ByteArray := prog_7_method_6_code
def yX5_atOddsWithin : MethodName := ⟨RX5, "atOddsWithin", "(II)Z"⟩
abbrev cX5_foesOf : ByteArray := prog_7_method_7_code
def yX5_foesOf : MethodName := ⟨RX5, "foesOf", "(I)I"⟩
abbrev cX5_firstUnlawful : ByteArray := prog_7_method_8_code
def yX5_firstUnlawful : MethodName := ⟨RX5, "firstUnlawful", "(LAgeRoofs$Parish;)I"⟩
abbrev cX5_unlawfulHouse : ByteArray := prog_7_method_9_code
def yX5_unlawfulHouse : MethodName := ⟨RX5, "unlawfulHouse", "(LAgeRoofs$Parish;I)I"⟩
abbrev cX5_greatestQuarrel : ByteArray := prog_7_method_10_code
def yX5_greatestQuarrel : MethodName := ⟨RX5, "greatestQuarrel", "()I"⟩
abbrev cX5_allAtOddsOnce : ByteArray := prog_7_method_11_code
def yX5_allAtOddsOnce : MethodName := ⟨RX5, "allAtOddsOnce", "(I)Z"⟩
abbrev cX5_busiest : ByteArray := prog_7_method_12_code
def yX5_busiest : MethodName := ⟨RX5, "busiest", "()I"⟩
def RX6 : String := "AgeRoofs$Parish"
def TX6 : u_T := fun k => match k with
  | 0 => ("AgeRoofs$Parish", "people", "I", false)
  | 1 => ("AgeRoofs$Parish", "houses", "I", false)
  | 2 => ("AgeRoofs$Parish", "rooms", "[I", true)
  | 3 => ("AgeRoofs$Parish", "prices", "[I", true)
  | 4 => ("AgeRoofs$Parish", "worths", "[I", true)
  | 5 => ("AgeRoofs$Parish", "laws", "LAgeRoofs$Laws;", true)
  | 6 => ("AgeRoofs$Parish", "now", "LAgeRoofs$State;", true)
  | 7 => ("AgeRoofs$Parish", "image", "LAgeRoofs$State;", true)
  | 8 => ("AgeRoofs$Parish", "imaged", "Z", false)
  | 9 => ("AgeRoofs$Parish", "risk", "I", false)
  | 10 => ("AgeRoofs$Parish", "said", "I", false)
  | 11 => ("AgeRoofs$Parish", "saidPerson", "[I", true)
  | 12 => ("AgeRoofs$Parish", "saidDay", "[I", true)
  | _ => ("AgeRoofs$Parish", "homesBefore", "[I", true)
def tyX6 : Nat → FieldType := fun k => match k with
  | 0 => .int
  | 1 => .int
  | 2 => .array .int
  | 3 => .array .int
  | 4 => .array .int
  | 5 => .object "AgeRoofs$Laws"
  | 6 => .object "AgeRoofs$State"
  | 7 => .object "AgeRoofs$State"
  | 8 => .boolean
  | 9 => .int
  | 10 => .int
  | 11 => .array .int
  | 12 => .array .int
  | _ => .array .int
abbrev wsX60 : List Cond := u_ws RX6 TX6 14
theorem nmX6 : ∀ a, a < 14 → ∀ b, b < 14 → a ≠ b → (TX6 a).2.1 ≠ (TX6 b).2.1 := by decide +kernel
theorem tyX6_ok : ∀ k, k < 14 → parseFieldDescriptor (TX6 k).2.2.1 = some (tyX6 k) := by decide +kernel
abbrev cX6_init : ByteArray := prog_8_method_1_code
def yX6_init : MethodName := ⟨RX6, "<init>", "()V"⟩
abbrev cX6_settle : ByteArray := prog_8_method_2_code
def yX6_settle : MethodName := ⟨RX6, "settle", "(LAgeRoofs$ParishReader;)V"⟩
abbrev cX6_atOdds : ByteArray := prog_8_method_3_code
def yX6_atOdds : MethodName := ⟨RX6, "atOdds", "(III)Z"⟩
abbrev cX6_daysAtOdds : ByteArray := prog_8_method_4_code
def yX6_daysAtOdds : MethodName := ⟨RX6, "daysAtOdds", "(III)I"⟩
abbrev cX6_steadyFrom : ByteArray := prog_8_method_5_code
def yX6_steadyFrom : MethodName := ⟨RX6, "steadyFrom", "(III)I"⟩
abbrev cX6_daysOfPeace : ByteArray := prog_8_method_6_code
def yX6_daysOfPeace : MethodName := ⟨RX6, "daysOfPeace", "(III)I"⟩
abbrev cX6_dwellers : ByteArray := prog_8_method_7_code
def yX6_dwellers : MethodName := ⟨RX6, "dwellers", "(I)I"⟩
abbrev cX6_homeless : ByteArray := prog_8_method_8_code
def yX6_homeless : MethodName := ⟨RX6, "homeless", "()I"⟩
abbrev cX6_underOneRoof : ByteArray := prog_8_method_9_code
def yX6_underOneRoof : MethodName := ⟨RX6, "underOneRoof", "(II)Z"⟩
abbrev cX6_mayLive : ByteArray := prog_8_method_10_code
def yX6_mayLive : MethodName := ⟨RX6, "mayLive", "(IIII)Z"⟩
abbrev cX6_mayChange : ByteArray := prog_8_method_11_code
def yX6_mayChange : MethodName := ⟨RX6, "mayChange", "(II)Z"⟩
abbrev cX6_peaceAtHome : ByteArray := prog_8_method_12_code
def yX6_peaceAtHome : MethodName := ⟨RX6, "peaceAtHome", "(II)I"⟩
abbrev cX6_bearsLodger : ByteArray := prog_8_method_13_code
def yX6_bearsLodger : MethodName := ⟨RX6, "bearsLodger", "(III)Z"⟩
abbrev cX6_remember : ByteArray := prog_8_method_14_code
def yX6_remember : MethodName := ⟨RX6, "remember", "(II)I"⟩
abbrev cX6_agreesWithSaid : ByteArray := prog_8_method_15_code
def yX6_agreesWithSaid : MethodName := ⟨RX6, "agreesWithSaid", "(I)Z"⟩
abbrev cX6_gainOf : ByteArray := prog_8_method_16_code
def yX6_gainOf : MethodName := ⟨RX6, "gainOf", "(II)I"⟩
abbrev cX6_wishOf : ByteArray := prog_8_method_17_code
def yX6_wishOf : MethodName := ⟨RX6, "wishOf", "(I)I"⟩
abbrev cX6_takeTurns : ByteArray := prog_8_method_18_code
def yX6_takeTurns : MethodName := ⟨RX6, "takeTurns", "()I"⟩
abbrev cX6_goOn : ByteArray := prog_8_method_19_code
def yX6_goOn : MethodName := ⟨RX6, "goOn", "()V"⟩
abbrev cX6_lowestOpen : ByteArray := prog_8_method_20_code
def yX6_lowestOpen : MethodName := ⟨RX6, "lowestOpen", "(I)I"⟩
abbrev cX6_shift : ByteArray := prog_8_method_21_code
def yX6_shift : MethodName := ⟨RX6, "shift", "(II)V"⟩
abbrev cX6_drawDeaths : ByteArray := prog_8_method_22_code
def yX6_drawDeaths : MethodName := ⟨RX6, "drawDeaths", "()V"⟩
def RX7 : String := "AgeRoofs$ParishReader"
def TX7 : u_T := fun k => match k with
  | 0 => ("AgeRoofs$ParishReader", "people", "I", false)
  | 1 => ("AgeRoofs$ParishReader", "houses", "I", false)
  | 2 => ("AgeRoofs$ParishReader", "born", "[I", true)
  | 3 => ("AgeRoofs$ParishReader", "home", "[I", true)
  | 4 => ("AgeRoofs$ParishReader", "rooms", "[I", true)
  | 5 => ("AgeRoofs$ParishReader", "prices", "[I", true)
  | _ => ("AgeRoofs$ParishReader", "items", "[I", true)
def tyX7 : Nat → FieldType := fun k => match k with
  | 0 => .int
  | 1 => .int
  | 2 => .array .int
  | 3 => .array .int
  | 4 => .array .int
  | 5 => .array .int
  | _ => .array .int
abbrev wsX70 : List Cond := u_ws RX7 TX7 7
theorem nmX7 : ∀ a, a < 7 → ∀ b, b < 7 → a ≠ b → (TX7 a).2.1 ≠ (TX7 b).2.1 := by decide +kernel
theorem tyX7_ok : ∀ k, k < 7 → parseFieldDescriptor (TX7 k).2.2.1 = some (tyX7 k) := by decide +kernel
abbrev cX7_init : ByteArray := prog_9_method_1_code
def yX7_init : MethodName := ⟨RX7, "<init>", "()V"⟩
abbrev cX7_reads : ByteArray := prog_9_method_2_code
def yX7_reads : MethodName := ⟨RX7, "reads", "(LAgeRoofs$Tape;)Z"⟩
abbrev cX7_readClause : ByteArray := prog_9_method_3_code
def yX7_readClause : MethodName := ⟨RX7, "readClause", "(LAgeRoofs$Tape;)Z"⟩
abbrev cX7_readPerson : ByteArray := prog_9_method_4_code
def yX7_readPerson : MethodName := ⟨RX7, "readPerson", "(LAgeRoofs$Tape;)Z"⟩
abbrev cX7_readHouse : ByteArray := prog_9_method_5_code
def yX7_readHouse : MethodName := ⟨RX7, "readHouse", "(LAgeRoofs$Tape;)Z"⟩
abbrev cX7_readItems : ByteArray := prog_9_method_6_code
def yX7_readItems : MethodName := ⟨RX7, "readItems", "(LAgeRoofs$Tape;II)Z"⟩
abbrev cX7_kindOf : ByteArray := prog_9_method_7_code
def yX7_kindOf : MethodName := ⟨RX7, "kindOf", "(III)I"⟩
abbrev cX7_isWhole : ByteArray := prog_9_method_8_code
def yX7_isWhole : MethodName := ⟨RX7, "isWhole", "()Z"⟩
def RX8 : String := "AgeRoofs$Program"
def TX8 : u_T := fun k => match k with
  | 0 => ("AgeRoofs$Program", "steps", "[I", true)
  | 1 => ("AgeRoofs$Program", "length", "I", false)
  | 2 => ("AgeRoofs$Program", "stack", "[I", true)
  | 3 => ("AgeRoofs$Program", "letters", "[I", true)
  | _ => ("AgeRoofs$Program", "dated", "Z", false)
def tyX8 : Nat → FieldType := fun k => match k with
  | 0 => .array .int
  | 1 => .int
  | 2 => .array .int
  | 3 => .array .int
  | _ => .boolean
abbrev wsX80 : List Cond := u_ws RX8 TX8 5
theorem nmX8 : ∀ a, a < 5 → ∀ b, b < 5 → a ≠ b → (TX8 a).2.1 ≠ (TX8 b).2.1 := by decide +kernel
theorem tyX8_ok : ∀ k, k < 5 → parseFieldDescriptor (TX8 k).2.2.1 = some (tyX8 k) := by decide +kernel
abbrev cX8_init : ByteArray := prog_10_method_1_code
def yX8_init : MethodName := ⟨RX8, "<init>", "()V"⟩
abbrev cX8_letter : ByteArray := prog_10_method_2_code
def yX8_letter : MethodName := ⟨RX8, "letter", "(I)I"⟩
abbrev cX8_relation : ByteArray := prog_10_method_3_code
def yX8_relation : MethodName := ⟨RX8, "relation", "(I)I"⟩
abbrev cX8_clear : ByteArray := prog_10_method_4_code
def yX8_clear : MethodName := ⟨RX8, "clear", "()V"⟩
abbrev cX8_add : ByteArray := prog_10_method_5_code
def yX8_add : MethodName := ⟨RX8, "add", "(I)V"⟩
abbrev cX8_addBranch : ByteArray := prog_10_method_6_code
def yX8_addBranch : MethodName := ⟨RX8, "addBranch", "()I"⟩
abbrev cX8_landHere : ByteArray := prog_10_method_7_code
def yX8_landHere : MethodName := ⟨RX8, "landHere", "(I)V"⟩
abbrev cX8_copy : ByteArray := prog_10_method_8_code
def yX8_copy : MethodName := ⟨RX8, "copy", "(LAgeRoofs$Program;)V"⟩
abbrev cX8_worthFor : ByteArray := prog_10_method_9_code
def yX8_worthFor : MethodName := ⟨RX8, "worthFor", "(IIIII)I"⟩
abbrev cX8_join : ByteArray := prog_10_method_10_code
def yX8_join : MethodName := ⟨RX8, "join", "(III)I"⟩
def RX9 : String := "AgeRoofs$State"
def TX9 : u_T := fun k => match k with
  | 0 => ("AgeRoofs$State", "today", "I", false)
  | 1 => ("AgeRoofs$State", "moved", "I", false)
  | 2 => ("AgeRoofs$State", "dead", "I", false)
  | 3 => ("AgeRoofs$State", "draws", "J", false)
  | 4 => ("AgeRoofs$State", "born", "[I", true)
  | _ => ("AgeRoofs$State", "home", "[I", true)
def tyX9 : Nat → FieldType := fun k => match k with
  | 0 => .int
  | 1 => .int
  | 2 => .int
  | 3 => .long
  | 4 => .array .int
  | _ => .array .int
abbrev wsX90 : List Cond := u_ws RX9 TX9 6
theorem nmX9 : ∀ a, a < 6 → ∀ b, b < 6 → a ≠ b → (TX9 a).2.1 ≠ (TX9 b).2.1 := by decide +kernel
theorem tyX9_ok : ∀ k, k < 6 → parseFieldDescriptor (TX9 k).2.2.1 = some (tyX9 k) := by decide +kernel
abbrev cX9_init : ByteArray := prog_11_method_1_code
def yX9_init : MethodName := ⟨RX9, "<init>", "()V"⟩
abbrev cX9_copy : ByteArray := prog_11_method_2_code
def yX9_copy : MethodName := ⟨RX9, "copy", "(LAgeRoofs$State;)V"⟩
def RX10 : String := "AgeRoofs$Tape"
def TX10 : u_T := fun k => match k with
  | 0 => ("AgeRoofs$Tape", "bytes", "[I", true)
  | 1 => ("AgeRoofs$Tape", "length", "I", false)
  | 2 => ("AgeRoofs$Tape", "at", "I", false)
  | _ => ("AgeRoofs$Tape", "wrong", "I", false)
def tyX10 : Nat → FieldType := fun k => match k with
  | 0 => .array .int
  | 1 => .int
  | 2 => .int
  | _ => .int
abbrev wsX100 : List Cond := u_ws RX10 TX10 4
theorem nmX10 : ∀ a, a < 4 → ∀ b, b < 4 → a ≠ b → (TX10 a).2.1 ≠ (TX10 b).2.1 := by decide +kernel
theorem tyX10_ok : ∀ k, k < 4 → parseFieldDescriptor (TX10 k).2.2.1 = some (tyX10 k) := by decide +kernel
abbrev cX10_init : ByteArray := prog_12_method_1_code
def yX10_init : MethodName := ⟨RX10, "<init>", "()V"⟩
abbrev cX10_add : ByteArray := prog_12_method_2_code
def yX10_add : MethodName := ⟨RX10, "add", "(IIIII)Z"⟩
abbrev cX10_cut : ByteArray := prog_12_method_3_code
def yX10_cut : MethodName := ⟨RX10, "cut", "(I)Z"⟩
abbrev cX10_signsIn : ByteArray := prog_12_method_4_code
def yX10_signsIn : MethodName := ⟨RX10, "signsIn", "(I)I"⟩
abbrev cX10_put : ByteArray := prog_12_method_5_code
def yX10_put : MethodName := ⟨RX10, "put", "(I)V"⟩
abbrev cX10_rewind : ByteArray := prog_12_method_6_code
def yX10_rewind : MethodName := ⟨RX10, "rewind", "()V"⟩
abbrev cX10_here : ByteArray := prog_12_method_7_code
def yX10_here : MethodName := ⟨RX10, "here", "()I"⟩
abbrev cX10_ahead : ByteArray := prog_12_method_8_code
def yX10_ahead : MethodName := ⟨RX10, "ahead", "()I"⟩
abbrev cX10_ended : ByteArray := prog_12_method_9_code
def yX10_ended : MethodName := ⟨RX10, "ended", "()Z"⟩
abbrev cX10_step : ByteArray := prog_12_method_10_code
def yX10_step : MethodName := ⟨RX10, "step", "()V"⟩
abbrev cX10_pass : ByteArray := prog_12_method_11_code
def yX10_pass : MethodName := ⟨RX10, "pass", "(I)Z"⟩
abbrev cX10_fail : ByteArray := prog_12_method_12_code
def yX10_fail : MethodName := ⟨RX10, "fail", "()Z"⟩
abbrev cX10_number : ByteArray := prog_12_method_13_code
def yX10_number : MethodName := ⟨RX10, "number", "(I)I"⟩
abbrev cX10_numberWithin : ByteArray := prog_12_method_14_code
def yX10_numberWithin : MethodName := ⟨RX10, "numberWithin", "(III)I"⟩
abbrev cX10_isDigit : ByteArray := prog_12_method_15_code
def yX10_isDigit : MethodName := ⟨RX10, "isDigit", "(I)Z"⟩
def RX11 : String := "AgeRoofs"
def TX11 : u_T := fun k => match k with
  | 0 => ("AgeRoofs", "tape", "LAgeRoofs$Tape;", true)
  | 1 => ("AgeRoofs", "parishReader", "LAgeRoofs$ParishReader;", true)
  | 2 => ("AgeRoofs", "lawReader", "LAgeRoofs$LawReader;", true)
  | 3 => ("AgeRoofs", "parish", "LAgeRoofs$Parish;", true)
  | 4 => ("AgeRoofs", "pairs", "LAgeRoofs$Pairs;", true)
  | 5 => ("AgeRoofs", "housing", "LAgeRoofs$Housing;", true)
  | 6 => ("AgeRoofs", "livings", "LAgeRoofs$Livings;", true)
  | _ => ("AgeRoofs", "dates", "LAgeRoofs$Dates;", true)
def tyX11 : Nat → FieldType := fun k => match k with
  | 0 => .object "AgeRoofs$Tape"
  | 1 => .object "AgeRoofs$ParishReader"
  | 2 => .object "AgeRoofs$LawReader"
  | 3 => .object "AgeRoofs$Parish"
  | 4 => .object "AgeRoofs$Pairs"
  | 5 => .object "AgeRoofs$Housing"
  | 6 => .object "AgeRoofs$Livings"
  | _ => .object "AgeRoofs$Dates"
abbrev wsX110 : List Cond := u_ws RX11 TX11 8
theorem nmX11 : ∀ a, a < 8 → ∀ b, b < 8 → a ≠ b → (TX11 a).2.1 ≠ (TX11 b).2.1 := by decide +kernel
theorem tyX11_ok : ∀ k, k < 8 → parseFieldDescriptor (TX11 k).2.2.1 = some (tyX11 k) := by decide +kernel
abbrev cX11_init : ByteArray := prog_1_method_1_code
def yX11_init : MethodName := ⟨RX11, "<init>", "()V"⟩
abbrev cX11_feed : ByteArray := prog_1_method_2_code
def yX11_feed : MethodName := ⟨RX11, "feed", "(IIIII)I"⟩
abbrev cX11_end : ByteArray := prog_1_method_3_code
def yX11_end : MethodName := ⟨RX11, "end", "(I)Z"⟩
abbrev cX11_fault : ByteArray := prog_1_method_4_code
def yX11_fault : MethodName := ⟨RX11, "fault", "(I)I"⟩
abbrev cX11_text : ByteArray := prog_1_method_5_code
def yX11_text : MethodName := ⟨RX11, "text", "(I)I"⟩
abbrev cX11_person : ByteArray := prog_1_method_6_code
def yX11_person : MethodName := ⟨RX11, "person", "(II)I"⟩
abbrev cX11_house : ByteArray := prog_1_method_7_code
def yX11_house : MethodName := ⟨RX11, "house", "(II)I"⟩
abbrev cX11_law : ByteArray := prog_1_method_8_code
def yX11_law : MethodName := ⟨RX11, "law", "(I)Z"⟩
abbrev cX11_today : ByteArray := prog_1_method_9_code
def yX11_today : MethodName := ⟨RX11, "today", "(I)Z"⟩
abbrev cX11_clash : ByteArray := prog_1_method_10_code
def yX11_clash : MethodName := ⟨RX11, "clash", "(III)I"⟩
abbrev cX11_clashes : ByteArray := prog_1_method_11_code
def yX11_clashes : MethodName := ⟨RX11, "clashes", "(IIII)I"⟩
abbrev cX11_move : ByteArray := prog_1_method_12_code
def yX11_move : MethodName := ⟨RX11, "move", "(II)Z"⟩
abbrev cX11_judge : ByteArray := prog_1_method_13_code
def yX11_judge : MethodName := ⟨RX11, "judge", "(II)I"⟩
abbrev cX11_worst : ByteArray := prog_1_method_14_code
def yX11_worst : MethodName := ⟨RX11, "worst", "(I)I"⟩
abbrev cX11_fewest : ByteArray := prog_1_method_15_code
def yX11_fewest : MethodName := ⟨RX11, "fewest", "(II)I"⟩
abbrev cX11_lasts : ByteArray := prog_1_method_16_code
def yX11_lasts : MethodName := ⟨RX11, "lasts", "(I)I"⟩
abbrev cX11_bars : ByteArray := prog_1_method_17_code
def yX11_bars : MethodName := ⟨RX11, "bars", "(I)I"⟩
abbrev cX11_moves : ByteArray := prog_1_method_18_code
def yX11_moves : MethodName := ⟨RX11, "moves", "(I)I"⟩
abbrev cX11_night : ByteArray := prog_1_method_19_code
def yX11_night : MethodName := ⟨RX11, "night", "(II)I"⟩
abbrev cX11_lodger : ByteArray := prog_1_method_20_code
def yX11_lodger : MethodName := ⟨RX11, "lodger", "(IIII)I"⟩
abbrev cX11_say : ByteArray := prog_1_method_21_code
def yX11_say : MethodName := ⟨RX11, "say", "(II)I"⟩
abbrev cX11_known : ByteArray := prog_1_method_22_code
def yX11_known : MethodName := ⟨RX11, "known", "(II)I"⟩
abbrev cX11_worth : ByteArray := prog_1_method_23_code
def yX11_worth : MethodName := ⟨RX11, "worth", "(III)Z"⟩
abbrev cX11_rather : ByteArray := prog_1_method_24_code
def yX11_rather : MethodName := ⟨RX11, "rather", "(I)I"⟩
abbrev cX11_turn : ByteArray := prog_1_method_25_code
def yX11_turn : MethodName := ⟨RX11, "turn", "()I"⟩
abbrev cX11_best : ByteArray := prog_1_method_26_code
def yX11_best : MethodName := ⟨RX11, "best", "(I)I"⟩
abbrev cX11_risk : ByteArray := prog_1_method_27_code
def yX11_risk : MethodName := ⟨RX11, "risk", "(I)Z"⟩
abbrev cX11_seed : ByteArray := prog_1_method_28_code
def yX11_seed : MethodName := ⟨RX11, "seed", "(J)V"⟩
abbrev cX11_days : ByteArray := prog_1_method_29_code
def yX11_days : MethodName := ⟨RX11, "days", "(I)I"⟩
abbrev cX11_free : ByteArray := prog_1_method_30_code
def yX11_free : MethodName := ⟨RX11, "free", "(II)I"⟩
abbrev cX11_till : ByteArray := prog_1_method_31_code
def yX11_till : MethodName := ⟨RX11, "till", "(I)I"⟩
abbrev cX11_swap : ByteArray := prog_1_method_32_code
def yX11_swap : MethodName := ⟨RX11, "swap", "(I)I"⟩
abbrev cX11_peak : ByteArray := prog_1_method_33_code
def yX11_peak : MethodName := ⟨RX11, "peak", "(II)I"⟩
abbrev cX11_wants : ByteArray := prog_1_method_34_code
def yX11_wants : MethodName := ⟨RX11, "wants", "(II)I"⟩
abbrev cX11_guests : ByteArray := prog_1_method_35_code
def yX11_guests : MethodName := ⟨RX11, "guests", "(III)I"⟩
abbrev cX11_twins : ByteArray := prog_1_method_36_code
def yX11_twins : MethodName := ⟨RX11, "twins", "(I)I"⟩
abbrev cX11_image : ByteArray := prog_1_method_37_code
def yX11_image : MethodName := ⟨RX11, "image", "()I"⟩
abbrev cX11_back : ByteArray := prog_1_method_38_code
def yX11_back : MethodName := ⟨RX11, "back", "()I"⟩
abbrev cX11_count : ByteArray := prog_1_method_39_code
def yX11_count : MethodName := ⟨RX11, "count", "(I)I"⟩
abbrev cX11_stands : ByteArray := prog_1_method_40_code
def yX11_stands : MethodName := ⟨RX11, "stands", "()Z"⟩
abbrev cX11_isPerson : ByteArray := prog_1_method_41_code
def yX11_isPerson : MethodName := ⟨RX11, "isPerson", "(I)Z"⟩
abbrev cX11_isHouse : ByteArray := prog_1_method_42_code
def yX11_isHouse : MethodName := ⟨RX11, "isHouse", "(I)Z"⟩
abbrev cX11_areTwo : ByteArray := prog_1_method_43_code
def yX11_areTwo : MethodName := ⟨RX11, "areTwo", "(II)Z"⟩
abbrev cX11_isSmallParish : ByteArray := prog_1_method_44_code
def yX11_isSmallParish : MethodName := ⟨RX11, "isSmallParish", "()Z"⟩
abbrev cX11_everybody : ByteArray := prog_1_method_45_code
def yX11_everybody : MethodName := ⟨RX11, "everybody", "()I"⟩
abbrev cX11_isSpan : ByteArray := prog_1_method_46_code
def yX11_isSpan : MethodName := ⟨RX11, "isSpan", "(I)Z"⟩
abbrev cX11_within : ByteArray := prog_1_method_47_code
def yX11_within : MethodName := ⟨RX11, "within", "(III)Z"⟩
abbrev cX11_dateOf : ByteArray := prog_1_method_48_code
def yX11_dateOf : MethodName := ⟨RX11, "dateOf", "(I)I"⟩
abbrev cX11_ageOn : ByteArray := prog_1_method_49_code
def yX11_ageOn : MethodName := ⟨RX11, "ageOn", "(II)I"⟩
abbrev cX11_bornOf : ByteArray := prog_1_method_50_code
def yX11_bornOf : MethodName := ⟨RX11, "bornOf", "(II)I"⟩
abbrev cX11_isSmaller : ByteArray := prog_1_method_51_code
def yX11_isSmaller : MethodName := ⟨RX11, "isSmaller", "(II)Z"⟩
abbrev cX11_isGreater : ByteArray := prog_1_method_52_code
def yX11_isGreater : MethodName := ⟨RX11, "isGreater", "(II)Z"⟩
abbrev cX11_hasLowerOne : ByteArray := prog_1_method_53_code
def yX11_hasLowerOne : MethodName := ⟨RX11, "hasLowerOne", "(II)Z"⟩
abbrev cX11_pairBit : ByteArray := prog_1_method_54_code
def yX11_pairBit : MethodName := ⟨RX11, "pairBit", "(II)I"⟩
def RX12 : String := "AgeRoofsModel"
def TX12 : u_T := fun k => match k with
  | 0 => ("AgeRoofsModel", "thrown", "I", false)
  | 1 => ("AgeRoofsModel", "tape", "[B", true)
  | 2 => ("AgeRoofsModel", "texts", "[B", true)
  | 3 => ("AgeRoofsModel", "textLong", "[I", true)
  | 4 => ("AgeRoofsModel", "letters", "[I", true)
  | 5 => ("AgeRoofsModel", "text", "[B", false)
  | 6 => ("AgeRoofsModel", "length", "I", false)
  | 7 => ("AgeRoofsModel", "lawMany", "I", false)
  | 8 => ("AgeRoofsModel", "begins", "I", false)
  | 9 => ("AgeRoofsModel", "ends", "I", false)
  | 10 => ("AgeRoofsModel", "at", "I", false)
  | 11 => ("AgeRoofsModel", "fault", "I", false)
  | 12 => ("AgeRoofsModel", "deep", "I", false)
  | 13 => ("AgeRoofsModel", "label", "I", false)
  | 14 => ("AgeRoofsModel", "found", "I", false)
  | 15 => ("AgeRoofsModel", "labels", "Ljava/lang/String;", true)
  | 16 => ("AgeRoofsModel", "allowed", "Ljava/lang/String;", true)
  | 17 => ("AgeRoofsModel", "hasFound", "Z", false)
  | 18 => ("AgeRoofsModel", "yearsRead", "[I", true)
  | 19 => ("AgeRoofsModel", "dateRead", "[I", true)
  | 20 => ("AgeRoofsModel", "homeRead", "[I", true)
  | 21 => ("AgeRoofsModel", "roomsRead", "[I", true)
  | 22 => ("AgeRoofsModel", "priceRead", "[I", true)
  | 23 => ("AgeRoofsModel", "peopleRead", "I", false)
  | 24 => ("AgeRoofsModel", "housesRead", "I", false)
  | 25 => ("AgeRoofsModel", "mostHome", "I", false)
  | 26 => ("AgeRoofsModel", "born", "[I", true)
  | 27 => ("AgeRoofsModel", "home", "[I", true)
  | 28 => ("AgeRoofsModel", "rooms", "[I", true)
  | 29 => ("AgeRoofsModel", "prices", "[I", true)
  | 30 => ("AgeRoofsModel", "worths", "[I", true)
  | 31 => ("AgeRoofsModel", "people", "I", false)
  | 32 => ("AgeRoofsModel", "houses", "I", false)
  | 33 => ("AgeRoofsModel", "today", "I", false)
  | 34 => ("AgeRoofsModel", "lawNow", "I", false)
  | 35 => ("AgeRoofsModel", "moved", "I", false)
  | 36 => ("AgeRoofsModel", "dead", "I", false)
  | 37 => ("AgeRoofsModel", "against", "[I", true)
  | 38 => ("AgeRoofsModel", "againstToday", "[I", true)
  | 39 => ("AgeRoofsModel", "partOf", "[I", true)
  | 40 => ("AgeRoofsModel", "livesAt", "[I", true)
  | 41 => ("AgeRoofsModel", "costs", "[I", true)
  | 42 => ("AgeRoofsModel", "costsThen", "[I", true)
  | 43 => ("AgeRoofsModel", "other", "[I", true)
  | 44 => ("AgeRoofsModel", "isGood", "[Z", true)
  | 45 => ("AgeRoofsModel", "wasGood", "[Z", true)
  | 46 => ("AgeRoofsModel", "saidWith", "[I", true)
  | 47 => ("AgeRoofsModel", "saidDay", "[I", true)
  | 48 => ("AgeRoofsModel", "said", "I", false)
  | 49 => ("AgeRoofsModel", "bestSum", "I", false)
  | 50 => ("AgeRoofsModel", "bestLiving", "I", false)
  | 51 => ("AgeRoofsModel", "risk", "I", false)
  | 52 => ("AgeRoofsModel", "x", "J", false)
  | 53 => ("AgeRoofsModel", "imageX", "J", false)
  | 54 => ("AgeRoofsModel", "imageBorn", "[I", true)
  | 55 => ("AgeRoofsModel", "imageHome", "[I", true)
  | 56 => ("AgeRoofsModel", "imageToday", "I", false)
  | 57 => ("AgeRoofsModel", "imageMoved", "I", false)
  | 58 => ("AgeRoofsModel", "imageDead", "I", false)
  | _ => ("AgeRoofsModel", "hasImage", "Z", false)
def tyX12 : Nat → FieldType := fun k => match k with
  | 0 => .int
  | 1 => .array .byte
  | 2 => .array .byte
  | 3 => .array .int
  | 4 => .array .int
  | 5 => .array .byte
  | 6 => .int
  | 7 => .int
  | 8 => .int
  | 9 => .int
  | 10 => .int
  | 11 => .int
  | 12 => .int
  | 13 => .int
  | 14 => .int
  | 15 => .object "java/lang/String"
  | 16 => .object "java/lang/String"
  | 17 => .boolean
  | 18 => .array .int
  | 19 => .array .int
  | 20 => .array .int
  | 21 => .array .int
  | 22 => .array .int
  | 23 => .int
  | 24 => .int
  | 25 => .int
  | 26 => .array .int
  | 27 => .array .int
  | 28 => .array .int
  | 29 => .array .int
  | 30 => .array .int
  | 31 => .int
  | 32 => .int
  | 33 => .int
  | 34 => .int
  | 35 => .int
  | 36 => .int
  | 37 => .array .int
  | 38 => .array .int
  | 39 => .array .int
  | 40 => .array .int
  | 41 => .array .int
  | 42 => .array .int
  | 43 => .array .int
  | 44 => .array .boolean
  | 45 => .array .boolean
  | 46 => .array .int
  | 47 => .array .int
  | 48 => .int
  | 49 => .int
  | 50 => .int
  | 51 => .int
  | 52 => .long
  | 53 => .long
  | 54 => .array .int
  | 55 => .array .int
  | 56 => .int
  | 57 => .int
  | 58 => .int
  | _ => .boolean
abbrev wsX120 : List Cond := u_ws RX12 TX12 60
theorem nmX12 : ∀ a, a < 60 → ∀ b, b < 60 → a ≠ b → (TX12 a).2.1 ≠ (TX12 b).2.1 := by decide +kernel
theorem tyX12_ok : ∀ k, k < 60 → parseFieldDescriptor (TX12 k).2.2.1 = some (tyX12 k) := by decide +kernel
abbrev cX12_init : ByteArray := prog_14_method_1_code
def yX12_init : MethodName := ⟨RX12, "<init>", "()V"⟩
abbrev cX12_thrown : ByteArray := prog_14_method_2_code
def yX12_thrown : MethodName := ⟨RX12, "thrown", "()I"⟩
abbrev cX12_isIn : ByteArray := prog_14_method_3_code
def yX12_isIn : MethodName := ⟨RX12, "isIn", "(JJJ)Z"⟩
abbrev cX12_has : ByteArray := prog_14_method_4_code
def yX12_has : MethodName := ⟨RX12, "has", "(II)Z"⟩
abbrev cX12_isAmong : ByteArray := prog_14_method_5_code
def yX12_isAmong : MethodName := ⟨RX12, "isAmong", "(Ljava/lang/String;I)Z"⟩
abbrev cX12_bytesIn : ByteArray := prog_14_method_6_code
def yX12_bytesIn : MethodName := ⟨RX12, "bytesIn", "(I)I"⟩
abbrev cX12_put : ByteArray := prog_14_method_7_code
def yX12_put : MethodName := ⟨RX12, "put", "(I)V"⟩
abbrev cX12_feed : ByteArray := prog_14_method_8_code
def yX12_feed : MethodName := ⟨RX12, "feed", "(IIIII)I"⟩
abbrev cX12_end : ByteArray := prog_14_method_9_code
def yX12_end : MethodName := ⟨RX12, "end", "(I)Z"⟩
abbrev cX12_look : ByteArray := prog_14_method_10_code
def yX12_look : MethodName := ⟨RX12, "look", "()I"⟩
abbrev cX12_fails : ByteArray := prog_14_method_11_code
def yX12_fails : MethodName := ⟨RX12, "fails", "()Z"⟩
abbrev cX12_goesIn : ByteArray := prog_14_method_12_code
def yX12_goesIn : MethodName := ⟨RX12, "goesIn", "()Z"⟩
abbrev cX12_takes : ByteArray := prog_14_method_13_code
def yX12_takes : MethodName := ⟨RX12, "takes", "(I)Z"⟩
abbrev cX12_isDigit : ByteArray := prog_14_method_14_code
def yX12_isDigit : MethodName := ⟨RX12, "isDigit", "()Z"⟩
abbrev cX12_within : ByteArray := prog_14_method_15_code
def yX12_within : MethodName := ⟨RX12, "within", "(J)I"⟩
abbrev cX12_atom : ByteArray := prog_14_method_16_code
def yX12_atom : MethodName := ⟨RX12, "atom", "()I"⟩
abbrev cX12_term : ByteArray := prog_14_method_17_code
def yX12_term : MethodName := ⟨RX12, "term", "()I"⟩
abbrev cX12_sum : ByteArray := prog_14_method_18_code
def yX12_sum : MethodName := ⟨RX12, "sum", "()I"⟩
abbrev cX12_isSign : ByteArray := prog_14_method_19_code
def yX12_isSign : MethodName := ⟨RX12, "isSign", "(I)Z"⟩
abbrev cX12_compares : ByteArray := prog_14_method_20_code
def yX12_compares : MethodName := ⟨RX12, "compares", "(ZI)Z"⟩
abbrev cX12_unit : ByteArray := prog_14_method_21_code
def yX12_unit : MethodName := ⟨RX12, "unit", "()Z"⟩
abbrev cX12_part : ByteArray := prog_14_method_22_code
def yX12_part : MethodName := ⟨RX12, "part", "(ZI)Z"⟩
abbrev cX12_condition : ByteArray := prog_14_method_23_code
def yX12_condition : MethodName := ⟨RX12, "condition", "(ZI)Z"⟩
abbrev cX12_clause : ByteArray := prog_14_method_24_code
def yX12_clause : MethodName := ⟨RX12, "clause", "()V"⟩
abbrev cX12_opens : ByteArray := prog_14_method_25_code
def yX12_opens : MethodName := ⟨RX12, "opens", "([BII)V"⟩
abbrev cX12_goThrough : ByteArray := prog_14_method_26_code
def yX12_goThrough : MethodName := ⟨RX12, "goThrough", "([BII)V"⟩
abbrev cX12_here : ByteArray := prog_14_method_27_code
def yX12_here : MethodName := ⟨RX12, "here", "()I"⟩
abbrev cX12_number : ByteArray := prog_14_method_28_code
def yX12_number : MethodName := ⟨RX12, "number", "(II)I"⟩
abbrev cX12_placeOf : ByteArray := prog_14_method_29_code
def yX12_placeOf : MethodName := ⟨RX12, "placeOf", "(Ljava/lang/String;I)I"⟩
abbrev cX12_readItem : ByteArray := prog_14_method_30_code
def yX12_readItem : MethodName := ⟨RX12, "readItem", "(ZI)V"⟩
abbrev cX12_readClause : ByteArray := prog_14_method_31_code
def yX12_readClause : MethodName := ⟨RX12, "readClause", "()V"⟩
abbrev cX12_readParish : ByteArray := prog_14_method_32_code
def yX12_readParish : MethodName := ⟨RX12, "readParish", "()V"⟩
abbrev cX12_fault : ByteArray := prog_14_method_33_code
def yX12_fault : MethodName := ⟨RX12, "fault", "(I)I"⟩
abbrev cX12_text : ByteArray := prog_14_method_34_code
def yX12_text : MethodName := ⟨RX12, "text", "(I)I"⟩
abbrev cX12_isPerson : ByteArray := prog_14_method_35_code
def yX12_isPerson : MethodName := ⟨RX12, "isPerson", "(I)Z"⟩
abbrev cX12_isHouse : ByteArray := prog_14_method_36_code
def yX12_isHouse : MethodName := ⟨RX12, "isHouse", "(I)Z"⟩
abbrev cX12_dateOf : ByteArray := prog_14_method_37_code
def yX12_dateOf : MethodName := ⟨RX12, "dateOf", "(I)I"⟩
abbrev cX12_age : ByteArray := prog_14_method_38_code
def yX12_age : MethodName := ⟨RX12, "age", "(II)I"⟩
abbrev cX12_who : ByteArray := prog_14_method_39_code
def yX12_who : MethodName := ⟨RX12, "who", "(I)I"⟩
abbrev cX12_person : ByteArray := prog_14_method_40_code
def yX12_person : MethodName := ⟨RX12, "person", "(II)I"⟩
abbrev cX12_house : ByteArray := prog_14_method_41_code
def yX12_house : MethodName := ⟨RX12, "house", "(II)I"⟩
abbrev cX12_law : ByteArray := prog_14_method_42_code
def yX12_law : MethodName := ⟨RX12, "law", "(I)Z"⟩
abbrev cX12_today : ByteArray := prog_14_method_43_code
def yX12_today : MethodName := ⟨RX12, "today", "(I)Z"⟩
abbrev cX12_doClash : ByteArray := prog_14_method_44_code
def yX12_doClash : MethodName := ⟨RX12, "doClash", "(III)Z"⟩
abbrev cX12_areTwo : ByteArray := prog_14_method_45_code
def yX12_areTwo : MethodName := ⟨RX12, "areTwo", "(II)Z"⟩
abbrev cX12_clash : ByteArray := prog_14_method_46_code
def yX12_clash : MethodName := ⟨RX12, "clash", "(III)I"⟩
abbrev cX12_areDays : ByteArray := prog_14_method_47_code
def yX12_areDays : MethodName := ⟨RX12, "areDays", "(I)Z"⟩
abbrev cX12_clashesOf : ByteArray := prog_14_method_48_code
def yX12_clashesOf : MethodName := ⟨RX12, "clashesOf", "(III)I"⟩
abbrev cX12_clashes : ByteArray := prog_14_method_49_code
def yX12_clashes : MethodName := ⟨RX12, "clashes", "(IIII)I"⟩
abbrev cX12_move : ByteArray := prog_14_method_50_code
def yX12_move : MethodName := ⟨RX12, "move", "(II)Z"⟩
abbrev cX12_whyOf : ByteArray := prog_14_method_51_code
def yX12_whyOf : MethodName := ⟨RX12, "whyOf", "(II)I"⟩
abbrev cX12_judge : ByteArray := prog_14_method_52_code
def yX12_judge : MethodName := ⟨RX12, "judge", "(II)I"⟩
abbrev cX12_worst : ByteArray := prog_14_method_53_code
def yX12_worst : MethodName := ⟨RX12, "worst", "(I)I"⟩
abbrev cX12_layAgainst : ByteArray := prog_14_method_54_code
def yX12_layAgainst : MethodName := ⟨RX12, "layAgainst", "(I)V"⟩
abbrev cX12_layToday : ByteArray := prog_14_method_55_code
def yX12_layToday : MethodName := ⟨RX12, "layToday", "(I)V"⟩
abbrev cX12_parts : ByteArray := prog_14_method_56_code
def yX12_parts : MethodName := ⟨RX12, "parts", "(II)Z"⟩
abbrev cX12_bound : ByteArray := prog_14_method_57_code
def yX12_bound : MethodName := ⟨RX12, "bound", "(I)I"⟩
abbrev cX12_fewest : ByteArray := prog_14_method_58_code
def yX12_fewest : MethodName := ⟨RX12, "fewest", "(II)I"⟩
abbrev cX12_layLiving : ByteArray := prog_14_method_59_code
def yX12_layLiving : MethodName := ⟨RX12, "layLiving", "(I)Z"⟩
abbrev cX12_livingMany : ByteArray := prog_14_method_60_code
def yX12_livingMany : MethodName := ⟨RX12, "livingMany", "()I"⟩
abbrev cX12_isLawful : ByteArray := prog_14_method_61_code
def yX12_isLawful : MethodName := ⟨RX12, "isLawful", "(I[I)Z"⟩
abbrev cX12_everybody : ByteArray := prog_14_method_62_code
def yX12_everybody : MethodName := ⟨RX12, "everybody", "()I"⟩
abbrev cX12_lastsFor : ByteArray := prog_14_method_63_code
def yX12_lastsFor : MethodName := ⟨RX12, "lastsFor", "(I)I"⟩
abbrev cX12_lasts : ByteArray := prog_14_method_64_code
def yX12_lasts : MethodName := ⟨RX12, "lasts", "(I)I"⟩
abbrev cX12_isBefore : ByteArray := prog_14_method_65_code
def yX12_isBefore : MethodName := ⟨RX12, "isBefore", "(II)Z"⟩
abbrev cX12_bars : ByteArray := prog_14_method_66_code
def yX12_bars : MethodName := ⟨RX12, "bars", "(I)I"⟩
abbrev cX12_areFew : ByteArray := prog_14_method_67_code
def yX12_areFew : MethodName := ⟨RX12, "areFew", "()Z"⟩
abbrev cX12_layGood : ByteArray := prog_14_method_68_code
def yX12_layGood : MethodName := ⟨RX12, "layGood", "(I)V"⟩
abbrev cX12_unlike : ByteArray := prog_14_method_69_code
def yX12_unlike : MethodName := ⟨RX12, "unlike", "(II)I"⟩
abbrev cX12_moves : ByteArray := prog_14_method_70_code
def yX12_moves : MethodName := ⟨RX12, "moves", "(I)I"⟩
abbrev cX12_placeFour : ByteArray := prog_14_method_71_code
def yX12_placeFour : MethodName := ⟨RX12, "placeFour", "(I)I"⟩
abbrev cX12_night : ByteArray := prog_14_method_72_code
def yX12_night : MethodName := ⟨RX12, "night", "(II)I"⟩
abbrev cX12_mayLodge : ByteArray := prog_14_method_73_code
def yX12_mayLodge : MethodName := ⟨RX12, "mayLodge", "(II)Z"⟩
abbrev cX12_lodger : ByteArray := prog_14_method_74_code
def yX12_lodger : MethodName := ⟨RX12, "lodger", "(IIII)I"⟩
abbrev cX12_say : ByteArray := prog_14_method_75_code
def yX12_say : MethodName := ⟨RX12, "say", "(II)I"⟩
abbrev cX12_known : ByteArray := prog_14_method_76_code
def yX12_known : MethodName := ⟨RX12, "known", "(II)I"⟩
abbrev cX12_worth : ByteArray := prog_14_method_77_code
def yX12_worth : MethodName := ⟨RX12, "worth", "(III)Z"⟩
abbrev cX12_gainIn : ByteArray := prog_14_method_78_code
def yX12_gainIn : MethodName := ⟨RX12, "gainIn", "(II)I"⟩
abbrev cX12_mayLive : ByteArray := prog_14_method_79_code
def yX12_mayLive : MethodName := ⟨RX12, "mayLive", "(II)Z"⟩
abbrev cX12_ratherOf : ByteArray := prog_14_method_80_code
def yX12_ratherOf : MethodName := ⟨RX12, "ratherOf", "(I)I"⟩
abbrev cX12_rather : ByteArray := prog_14_method_81_code
def yX12_rather : MethodName := ⟨RX12, "rather", "(I)I"⟩
abbrev cX12_turn : ByteArray := prog_14_method_82_code
def yX12_turn : MethodName := ⟨RX12, "turn", "()I"⟩
abbrev cX12_goBest : ByteArray := prog_14_method_83_code
def yX12_goBest : MethodName := ⟨RX12, "goBest", "(III)V"⟩
abbrev cX12_best : ByteArray := prog_14_method_84_code
def yX12_best : MethodName := ⟨RX12, "best", "(I)I"⟩
abbrev cX12_risk : ByteArray := prog_14_method_85_code
def yX12_risk : MethodName := ⟨RX12, "risk", "(I)Z"⟩
abbrev cX12_seed : ByteArray := prog_14_method_86_code
def yX12_seed : MethodName := ⟨RX12, "seed", "(J)V"⟩
abbrev cX12_isBothered : ByteArray := prog_14_method_87_code
def yX12_isBothered : MethodName := ⟨RX12, "isBothered", "(I)Z"⟩
abbrev cX12_lowestFor : ByteArray := prog_14_method_88_code
def yX12_lowestFor : MethodName := ⟨RX12, "lowestFor", "(I)I"⟩
abbrev cX12_dayGoesOn : ByteArray := prog_14_method_89_code
def yX12_dayGoesOn : MethodName := ⟨RX12, "dayGoesOn", "()V"⟩
abbrev cX12_days : ByteArray := prog_14_method_90_code
def yX12_days : MethodName := ⟨RX12, "days", "(I)I"⟩
abbrev cX12_couldLive : ByteArray := prog_14_method_91_code
def yX12_couldLive : MethodName := ⟨RX12, "couldLive", "(IIII)Z"⟩
abbrev cX12_free : ByteArray := prog_14_method_92_code
def yX12_free : MethodName := ⟨RX12, "free", "(II)I"⟩
abbrev cX12_till : ByteArray := prog_14_method_93_code
def yX12_till : MethodName := ⟨RX12, "till", "(I)I"⟩
abbrev cX12_couldSwap : ByteArray := prog_14_method_94_code
def yX12_couldSwap : MethodName := ⟨RX12, "couldSwap", "(II)Z"⟩
abbrev cX12_swap : ByteArray := prog_14_method_95_code
def yX12_swap : MethodName := ⟨RX12, "swap", "(I)I"⟩
abbrev cX12_peak : ByteArray := prog_14_method_96_code
def yX12_peak : MethodName := ⟨RX12, "peak", "(II)I"⟩
abbrev cX12_partsOf : ByteArray := prog_14_method_97_code
def yX12_partsOf : MethodName := ⟨RX12, "partsOf", "(III)Z"⟩
abbrev cX12_wants : ByteArray := prog_14_method_98_code
def yX12_wants : MethodName := ⟨RX12, "wants", "(II)I"⟩
abbrev cX12_guests : ByteArray := prog_14_method_99_code
def yX12_guests : MethodName := ⟨RX12, "guests", "(III)I"⟩
abbrev cX12_twins : ByteArray := prog_14_method_100_code
def yX12_twins : MethodName := ⟨RX12, "twins", "(I)I"⟩
abbrev cX12_image : ByteArray := prog_14_method_101_code
def yX12_image : MethodName := ⟨RX12, "image", "()I"⟩
abbrev cX12_back : ByteArray := prog_14_method_102_code
def yX12_back : MethodName := ⟨RX12, "back", "()I"⟩
abbrev cX12_count : ByteArray := prog_14_method_103_code
def yX12_count : MethodName := ⟨RX12, "count", "(I)I"⟩
def RJ6 : String := "java/lang/Integer"
abbrev cJ6_bitCount_0f7a4 : ByteArray := prog_19_method_49_code
def yJ6_bitCount_0f7a4 : MethodName := ⟨RJ6, "bitCount", "(I)I"⟩
def RJ9 : String := "java/lang/Math"
abbrev cJ9_floorDiv_7cf53 : ByteArray := prog_20_method_47_code
def yJ9_floorDiv_7cf53 : MethodName := ⟨RJ9, "floorDiv", "(II)I"⟩
abbrev cJ9_floorMod_7cf53 : ByteArray := prog_20_method_50_code
def yJ9_floorMod_7cf53 : MethodName := ⟨RJ9, "floorMod", "(II)I"⟩
abbrev cJ9_abs_0f7a4 : ByteArray := prog_20_method_59_code
def yJ9_abs_0f7a4 : MethodName := ⟨RJ9, "abs", "(I)I"⟩
abbrev cJ9_max_7cf53 : ByteArray := prog_20_method_65_code
def yJ9_max_7cf53 : MethodName := ⟨RJ9, "max", "(II)I"⟩
abbrev cJ9_max_f86c9 : ByteArray := prog_20_method_66_code
def yJ9_max_f86c9 : MethodName := ⟨RJ9, "max", "(JJ)J"⟩
abbrev cJ9_min_7cf53 : ByteArray := prog_20_method_69_code
def yJ9_min_7cf53 : MethodName := ⟨RJ9, "min", "(II)I"⟩
abbrev cJ9_min_f86c9 : ByteArray := prog_20_method_70_code
def yJ9_min_f86c9 : MethodName := ⟨RJ9, "min", "(JJ)J"⟩
def RL : String := "AgeRoofsLaw"
abbrev cL_person : ByteArray := method_3_code
def yL_person : MethodName := ⟨RL, "person", "(LAgeRoofs;II[J)I"⟩
abbrev cL_law : ByteArray := code
def yL_law : MethodName := ⟨RL, "law", "([I)Z"⟩
abbrev vwCl : List vw_C := [(RX0, TX0, 1), (RX1, TX1, 9), (RX2, TX2, 1), (RX3, TX3, 3), (RX4, TX4, 8), (RX5, TX5, 4), (RX6, TX6, 14), (RX7, TX7, 7), (RX8, TX8, 5), (RX9, TX9, 6), (RX10, TX10, 4), (RX11, TX11, 8), (RX12, TX12, 60)]
