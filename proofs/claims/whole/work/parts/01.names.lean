-- ===== PART A: goes FIRST, ahead of the names: the tables' words, and 'selects' of the private methods out of them =====
/-- a private method of a class that the tables say can be made, by its rows of tables_1 -/
def lw_okq (q : MethodName × Nat) : Prop := (q.1.cls ≠ "java/lang/invoke/MethodHandle" ∧ q.1.cls ≠ "java/lang/invoke/VarHandle") ∧ Cond.instantiable q.1.cls q.2 ∈ tables_1 ∧ Cond.privateMethod q.1 ∈ tables_1 ∧ Cond.instanceMethod q.1 ∈ tables_1
theorem lw_p0 : lw_okq (⟨"NinthAir", "finding", "(I)I"⟩, 7) := ⟨⟨by decide +kernel, by decide +kernel⟩, List.mem_of_getElem? (i := 14) (by decide +kernel), List.mem_of_getElem? (i := 167) (by decide +kernel), List.mem_of_getElem? (i := 168) (by decide +kernel)⟩
theorem lw_p1 : lw_okq (⟨"NinthAir$Night", "otherVoices", "(I)I"⟩, 13) := ⟨⟨by decide +kernel, by decide +kernel⟩, List.mem_of_getElem? (i := 22) (by decide +kernel), List.mem_of_getElem? (i := 197) (by decide +kernel), List.mem_of_getElem? (i := 198) (by decide +kernel)⟩
theorem lw_p2 : lw_okq (⟨"NinthAir", "nobody", "(I)Z"⟩, 7) := ⟨⟨by decide +kernel, by decide +kernel⟩, List.mem_of_getElem? (i := 14) (by decide +kernel), List.mem_of_getElem? (i := 233) (by decide +kernel), List.mem_of_getElem? (i := 234) (by decide +kernel)⟩
theorem lw_p3 : lw_okq (⟨"NinthAir$Night", "freeze", "()V"⟩, 13) := ⟨⟨by decide +kernel, by decide +kernel⟩, List.mem_of_getElem? (i := 22) (by decide +kernel), List.mem_of_getElem? (i := 289) (by decide +kernel), List.mem_of_getElem? (i := 290) (by decide +kernel)⟩
theorem lw_p4 : lw_okq (⟨"NinthAir$Night", "burn", "()V"⟩, 13) := ⟨⟨by decide +kernel, by decide +kernel⟩, List.mem_of_getElem? (i := 22) (by decide +kernel), List.mem_of_getElem? (i := 296) (by decide +kernel), List.mem_of_getElem? (i := 297) (by decide +kernel)⟩
theorem lw_p5 : lw_okq (⟨"NinthAir$Night", "mix", "()V"⟩, 13) := ⟨⟨by decide +kernel, by decide +kernel⟩, List.mem_of_getElem? (i := 22) (by decide +kernel), List.mem_of_getElem? (i := 300) (by decide +kernel), List.mem_of_getElem? (i := 301) (by decide +kernel)⟩
theorem lw_p6 : lw_okq (⟨"NinthAir$Night", "breathe", "()I"⟩, 13) := ⟨⟨by decide +kernel, by decide +kernel⟩, List.mem_of_getElem? (i := 22) (by decide +kernel), List.mem_of_getElem? (i := 304) (by decide +kernel), List.mem_of_getElem? (i := 305) (by decide +kernel)⟩
theorem lw_p7 : lw_okq (⟨"NinthAir", "startAhead", "()LNinthAir$Night;"⟩, 7) := ⟨⟨by decide +kernel, by decide +kernel⟩, List.mem_of_getElem? (i := 14) (by decide +kernel), List.mem_of_getElem? (i := 323) (by decide +kernel), List.mem_of_getElem? (i := 324) (by decide +kernel)⟩
theorem lw_p8 : lw_okq (⟨"NinthAir", "twoFiresDo", "(IIII)Z"⟩, 7) := ⟨⟨by decide +kernel, by decide +kernel⟩, List.mem_of_getElem? (i := 14) (by decide +kernel), List.mem_of_getElem? (i := 382) (by decide +kernel), List.mem_of_getElem? (i := 383) (by decide +kernel)⟩
theorem lw_p9 : lw_okq (⟨"NinthAir$Tape", "step", "()V"⟩, 6) := ⟨⟨by decide +kernel, by decide +kernel⟩, List.mem_of_getElem? (i := 83) (by decide +kernel), List.mem_of_getElem? (i := 456) (by decide +kernel), List.mem_of_getElem? (i := 457) (by decide +kernel)⟩
theorem lw_p10 : lw_okq (⟨"NinthAir$Tape", "tellItem", "(LNinthAir$Night;)Z"⟩, 6) := ⟨⟨by decide +kernel, by decide +kernel⟩, List.mem_of_getElem? (i := 83) (by decide +kernel), List.mem_of_getElem? (i := 463) (by decide +kernel), List.mem_of_getElem? (i := 464) (by decide +kernel)⟩
theorem lw_p11 : lw_okq (⟨"NinthAir$Tape", "kindNamed", "()I"⟩, 6) := ⟨⟨by decide +kernel, by decide +kernel⟩, List.mem_of_getElem? (i := 83) (by decide +kernel), List.mem_of_getElem? (i := 467) (by decide +kernel), List.mem_of_getElem? (i := 468) (by decide +kernel)⟩
theorem lw_p12 : lw_okq (⟨"NinthAir$Tape", "isWord", "(Ljava/lang/String;)Z"⟩, 6) := ⟨⟨by decide +kernel, by decide +kernel⟩, List.mem_of_getElem? (i := 83) (by decide +kernel), List.mem_of_getElem? (i := 472) (by decide +kernel), List.mem_of_getElem? (i := 473) (by decide +kernel)⟩
theorem lw_p13 : lw_okq (⟨"NinthAir$Tape", "tellOne", "(LNinthAir$Night;I)Z"⟩, 6) := ⟨⟨by decide +kernel, by decide +kernel⟩, List.mem_of_getElem? (i := 83) (by decide +kernel), List.mem_of_getElem? (i := 529) (by decide +kernel), List.mem_of_getElem? (i := 530) (by decide +kernel)⟩
theorem lw_p14 : lw_okq (⟨"NinthAir$Tape", "isNumber", "(II)Z"⟩, 6) := ⟨⟨by decide +kernel, by decide +kernel⟩, List.mem_of_getElem? (i := 83) (by decide +kernel), List.mem_of_getElem? (i := 535) (by decide +kernel), List.mem_of_getElem? (i := 536) (by decide +kernel)⟩
theorem lw_p15 : lw_okq (⟨"NinthAir$Tape", "tellRoom", "(LNinthAir$Night;)Z"⟩, 6) := ⟨⟨by decide +kernel, by decide +kernel⟩, List.mem_of_getElem? (i := 83) (by decide +kernel), List.mem_of_getElem? (i := 544) (by decide +kernel), List.mem_of_getElem? (i := 545) (by decide +kernel)⟩
def lw_privs_1 : List (MethodName × Nat) := [(⟨"NinthAir", "finding", "(I)I"⟩, 7), (⟨"NinthAir$Night", "otherVoices", "(I)I"⟩, 13), (⟨"NinthAir", "nobody", "(I)Z"⟩, 7), (⟨"NinthAir$Night", "freeze", "()V"⟩, 13), (⟨"NinthAir$Night", "burn", "()V"⟩, 13), (⟨"NinthAir$Night", "mix", "()V"⟩, 13), (⟨"NinthAir$Night", "breathe", "()I"⟩, 13), (⟨"NinthAir", "startAhead", "()LNinthAir$Night;"⟩, 7), (⟨"NinthAir", "twoFiresDo", "(IIII)Z"⟩, 7), (⟨"NinthAir$Tape", "step", "()V"⟩, 6), (⟨"NinthAir$Tape", "tellItem", "(LNinthAir$Night;)Z"⟩, 6), (⟨"NinthAir$Tape", "kindNamed", "()I"⟩, 6), (⟨"NinthAir$Tape", "isWord", "(Ljava/lang/String;)Z"⟩, 6), (⟨"NinthAir$Tape", "tellOne", "(LNinthAir$Night;I)Z"⟩, 6), (⟨"NinthAir$Tape", "isNumber", "(II)Z"⟩, 6), (⟨"NinthAir$Tape", "tellRoom", "(LNinthAir$Night;)Z"⟩, 6)]
theorem lw_r1 : ∀ q ∈ lw_privs_1, lw_okq q := List.forall_mem_cons.mpr ⟨lw_p0, List.forall_mem_cons.mpr ⟨lw_p1, List.forall_mem_cons.mpr ⟨lw_p2, List.forall_mem_cons.mpr ⟨lw_p3, List.forall_mem_cons.mpr ⟨lw_p4, List.forall_mem_cons.mpr ⟨lw_p5, List.forall_mem_cons.mpr ⟨lw_p6, List.forall_mem_cons.mpr ⟨lw_p7, List.forall_mem_cons.mpr ⟨lw_p8, List.forall_mem_cons.mpr ⟨lw_p9, List.forall_mem_cons.mpr ⟨lw_p10, List.forall_mem_cons.mpr ⟨lw_p11, List.forall_mem_cons.mpr ⟨lw_p12, List.forall_mem_cons.mpr ⟨lw_p13, List.forall_mem_cons.mpr ⟨lw_p14, List.forall_mem_cons.mpr ⟨lw_p15, fun _ h => absurd h List.not_mem_nil⟩⟩⟩⟩⟩⟩⟩⟩⟩⟩⟩⟩⟩⟩⟩⟩
theorem lw_p16 : lw_okq (⟨"NinthAir$Tape", "mayTell", "(Ljava/lang/String;LNinthAir$Night;II)Z"⟩, 6) := ⟨⟨by decide +kernel, by decide +kernel⟩, List.mem_of_getElem? (i := 83) (by decide +kernel), List.mem_of_getElem? (i := 549) (by decide +kernel), List.mem_of_getElem? (i := 550) (by decide +kernel)⟩
theorem lw_p17 : lw_okq (⟨"NinthAir$Tape", "tellDoor", "(LNinthAir$Night;I)Z"⟩, 6) := ⟨⟨by decide +kernel, by decide +kernel⟩, List.mem_of_getElem? (i := 83) (by decide +kernel), List.mem_of_getElem? (i := 559) (by decide +kernel), List.mem_of_getElem? (i := 560) (by decide +kernel)⟩
theorem lw_p18 : lw_okq (⟨"NinthAir$Tape", "tellCold", "(LNinthAir$Night;I)Z"⟩, 6) := ⟨⟨by decide +kernel, by decide +kernel⟩, List.mem_of_getElem? (i := 83) (by decide +kernel), List.mem_of_getElem? (i := 566) (by decide +kernel), List.mem_of_getElem? (i := 567) (by decide +kernel)⟩
theorem lw_p19 : lw_okq (⟨"NinthAirModel", "finds", "(I)I"⟩, 18) := ⟨⟨by decide +kernel, by decide +kernel⟩, List.mem_of_getElem? (i := 643) (by decide +kernel), List.mem_of_getElem? (i := 718) (by decide +kernel), List.mem_of_getElem? (i := 719) (by decide +kernel)⟩
theorem lw_p20 : lw_okq (⟨"NinthAirModel", "there", "(II)I"⟩, 18) := ⟨⟨by decide +kernel, by decide +kernel⟩, List.mem_of_getElem? (i := 643) (by decide +kernel), List.mem_of_getElem? (i := 722) (by decide +kernel), List.mem_of_getElem? (i := 723) (by decide +kernel)⟩
theorem lw_p21 : lw_okq (⟨"NinthAirModel", "lies", "(III)V"⟩, 18) := ⟨⟨by decide +kernel, by decide +kernel⟩, List.mem_of_getElem? (i := 643) (by decide +kernel), List.mem_of_getElem? (i := 726) (by decide +kernel), List.mem_of_getElem? (i := 727) (by decide +kernel)⟩
theorem lw_p22 : lw_okq (⟨"NinthAirModel", "inside", "(I)I"⟩, 18) := ⟨⟨by decide +kernel, by decide +kernel⟩, List.mem_of_getElem? (i := 643) (by decide +kernel), List.mem_of_getElem? (i := 734) (by decide +kernel), List.mem_of_getElem? (i := 735) (by decide +kernel)⟩
theorem lw_p23 : lw_okq (⟨"NinthAirModel", "its", "(II)I"⟩, 18) := ⟨⟨by decide +kernel, by decide +kernel⟩, List.mem_of_getElem? (i := 643) (by decide +kernel), List.mem_of_getElem? (i := 738) (by decide +kernel), List.mem_of_getElem? (i := 739) (by decide +kernel)⟩
theorem lw_p24 : lw_okq (⟨"NinthAirModel", "breathedIn", "(I)I"⟩, 18) := ⟨⟨by decide +kernel, by decide +kernel⟩, List.mem_of_getElem? (i := 643) (by decide +kernel), List.mem_of_getElem? (i := 742) (by decide +kernel), List.mem_of_getElem? (i := 743) (by decide +kernel)⟩
theorem lw_p25 : lw_okq (⟨"NinthAirModel", "breathes", "(I)I"⟩, 18) := ⟨⟨by decide +kernel, by decide +kernel⟩, List.mem_of_getElem? (i := 643) (by decide +kernel), List.mem_of_getElem? (i := 746) (by decide +kernel), List.mem_of_getElem? (i := 747) (by decide +kernel)⟩
theorem lw_p26 : lw_okq (⟨"NinthAirModel", "singers", "(I)I"⟩, 18) := ⟨⟨by decide +kernel, by decide +kernel⟩, List.mem_of_getElem? (i := 643) (by decide +kernel), List.mem_of_getElem? (i := 750) (by decide +kernel), List.mem_of_getElem? (i := 751) (by decide +kernel)⟩
theorem lw_p27 : lw_okq (⟨"NinthAirModel", "opens", "(II)V"⟩, 18) := ⟨⟨by decide +kernel, by decide +kernel⟩, List.mem_of_getElem? (i := 643) (by decide +kernel), List.mem_of_getElem? (i := 758) (by decide +kernel), List.mem_of_getElem? (i := 759) (by decide +kernel)⟩
theorem lw_p28 : lw_okq (⟨"NinthAirModel", "addOne", "(III)V"⟩, 18) := ⟨⟨by decide +kernel, by decide +kernel⟩, List.mem_of_getElem? (i := 643) (by decide +kernel), List.mem_of_getElem? (i := 774) (by decide +kernel), List.mem_of_getElem? (i := 775) (by decide +kernel)⟩
theorem lw_p29 : lw_okq (⟨"NinthAirModel", "puts", "(III)V"⟩, 18) := ⟨⟨by decide +kernel, by decide +kernel⟩, List.mem_of_getElem? (i := 643) (by decide +kernel), List.mem_of_getElem? (i := 778) (by decide +kernel), List.mem_of_getElem? (i := 779) (by decide +kernel)⟩
theorem lw_p30 : lw_okq (⟨"NinthAirModel", "isOne", "(I)Z"⟩, 18) := ⟨⟨by decide +kernel, by decide +kernel⟩, List.mem_of_getElem? (i := 643) (by decide +kernel), List.mem_of_getElem? (i := 786) (by decide +kernel), List.mem_of_getElem? (i := 787) (by decide +kernel)⟩
theorem lw_p31 : lw_okq (⟨"NinthAirModel", "leaves", "(I)V"⟩, 18) := ⟨⟨by decide +kernel, by decide +kernel⟩, List.mem_of_getElem? (i := 643) (by decide +kernel), List.mem_of_getElem? (i := 807) (by decide +kernel), List.mem_of_getElem? (i := 808) (by decide +kernel)⟩
def lw_privs_2 : List (MethodName × Nat) := [(⟨"NinthAir$Tape", "mayTell", "(Ljava/lang/String;LNinthAir$Night;II)Z"⟩, 6), (⟨"NinthAir$Tape", "tellDoor", "(LNinthAir$Night;I)Z"⟩, 6), (⟨"NinthAir$Tape", "tellCold", "(LNinthAir$Night;I)Z"⟩, 6), (⟨"NinthAirModel", "finds", "(I)I"⟩, 18), (⟨"NinthAirModel", "there", "(II)I"⟩, 18), (⟨"NinthAirModel", "lies", "(III)V"⟩, 18), (⟨"NinthAirModel", "inside", "(I)I"⟩, 18), (⟨"NinthAirModel", "its", "(II)I"⟩, 18), (⟨"NinthAirModel", "breathedIn", "(I)I"⟩, 18), (⟨"NinthAirModel", "breathes", "(I)I"⟩, 18), (⟨"NinthAirModel", "singers", "(I)I"⟩, 18), (⟨"NinthAirModel", "opens", "(II)V"⟩, 18), (⟨"NinthAirModel", "addOne", "(III)V"⟩, 18), (⟨"NinthAirModel", "puts", "(III)V"⟩, 18), (⟨"NinthAirModel", "isOne", "(I)Z"⟩, 18), (⟨"NinthAirModel", "leaves", "(I)V"⟩, 18)]
theorem lw_r2 : ∀ q ∈ lw_privs_2, lw_okq q := List.forall_mem_cons.mpr ⟨lw_p16, List.forall_mem_cons.mpr ⟨lw_p17, List.forall_mem_cons.mpr ⟨lw_p18, List.forall_mem_cons.mpr ⟨lw_p19, List.forall_mem_cons.mpr ⟨lw_p20, List.forall_mem_cons.mpr ⟨lw_p21, List.forall_mem_cons.mpr ⟨lw_p22, List.forall_mem_cons.mpr ⟨lw_p23, List.forall_mem_cons.mpr ⟨lw_p24, List.forall_mem_cons.mpr ⟨lw_p25, List.forall_mem_cons.mpr ⟨lw_p26, List.forall_mem_cons.mpr ⟨lw_p27, List.forall_mem_cons.mpr ⟨lw_p28, List.forall_mem_cons.mpr ⟨lw_p29, List.forall_mem_cons.mpr ⟨lw_p30, List.forall_mem_cons.mpr ⟨lw_p31, fun _ h => absurd h List.not_mem_nil⟩⟩⟩⟩⟩⟩⟩⟩⟩⟩⟩⟩⟩⟩⟩⟩
theorem lw_p32 : lw_okq (⟨"NinthAirModel", "oneHour", "()V"⟩, 18) := ⟨⟨by decide +kernel, by decide +kernel⟩, List.mem_of_getElem? (i := 643) (by decide +kernel), List.mem_of_getElem? (i := 816) (by decide +kernel), List.mem_of_getElem? (i := 817) (by decide +kernel)⟩
theorem lw_p33 : lw_okq (⟨"NinthAirModel", "freezes", "(I)V"⟩, 18) := ⟨⟨by decide +kernel, by decide +kernel⟩, List.mem_of_getElem? (i := 643) (by decide +kernel), List.mem_of_getElem? (i := 820) (by decide +kernel), List.mem_of_getElem? (i := 821) (by decide +kernel)⟩
theorem lw_p34 : lw_okq (⟨"NinthAirModel", "thaws", "(I)V"⟩, 18) := ⟨⟨by decide +kernel, by decide +kernel⟩, List.mem_of_getElem? (i := 643) (by decide +kernel), List.mem_of_getElem? (i := 824) (by decide +kernel), List.mem_of_getElem? (i := 825) (by decide +kernel)⟩
theorem lw_p35 : lw_okq (⟨"NinthAirModel", "draughts", "(I)V"⟩, 18) := ⟨⟨by decide +kernel, by decide +kernel⟩, List.mem_of_getElem? (i := 643) (by decide +kernel), List.mem_of_getElem? (i := 831) (by decide +kernel), List.mem_of_getElem? (i := 832) (by decide +kernel)⟩
theorem lw_p36 : lw_okq (⟨"NinthAirModel", "breathe", "(I)V"⟩, 18) := ⟨⟨by decide +kernel, by decide +kernel⟩, List.mem_of_getElem? (i := 643) (by decide +kernel), List.mem_of_getElem? (i := 835) (by decide +kernel), List.mem_of_getElem? (i := 836) (by decide +kernel)⟩
theorem lw_p37 : lw_okq (⟨"NinthAirModel", "sumOf", "(I)I"⟩, 18) := ⟨⟨by decide +kernel, by decide +kernel⟩, List.mem_of_getElem? (i := 643) (by decide +kernel), List.mem_of_getElem? (i := 839) (by decide +kernel), List.mem_of_getElem? (i := 840) (by decide +kernel)⟩
theorem lw_p38 : lw_okq (⟨"NinthAirModel", "stifled", "()I"⟩, 18) := ⟨⟨by decide +kernel, by decide +kernel⟩, List.mem_of_getElem? (i := 643) (by decide +kernel), List.mem_of_getElem? (i := 847) (by decide +kernel), List.mem_of_getElem? (i := 848) (by decide +kernel)⟩
theorem lw_p39 : lw_okq (⟨"NinthAirModel", "allBreathe", "()I"⟩, 18) := ⟨⟨by decide +kernel, by decide +kernel⟩, List.mem_of_getElem? (i := 643) (by decide +kernel), List.mem_of_getElem? (i := 851) (by decide +kernel), List.mem_of_getElem? (i := 852) (by decide +kernel)⟩
theorem lw_p40 : lw_okq (⟨"NinthAirModel", "moveAll", "(Z[I)V"⟩, 18) := ⟨⟨by decide +kernel, by decide +kernel⟩, List.mem_of_getElem? (i := 643) (by decide +kernel), List.mem_of_getElem? (i := 859) (by decide +kernel), List.mem_of_getElem? (i := 860) (by decide +kernel)⟩
theorem lw_p41 : lw_okq (⟨"NinthAirModel", "passes", "(I)V"⟩, 18) := ⟨⟨by decide +kernel, by decide +kernel⟩, List.mem_of_getElem? (i := 643) (by decide +kernel), List.mem_of_getElem? (i := 863) (by decide +kernel), List.mem_of_getElem? (i := 864) (by decide +kernel)⟩
theorem lw_p42 : lw_okq (⟨"NinthAirModel", "untilOf", "(I)I"⟩, 18) := ⟨⟨by decide +kernel, by decide +kernel⟩, List.mem_of_getElem? (i := 643) (by decide +kernel), List.mem_of_getElem? (i := 871) (by decide +kernel), List.mem_of_getElem? (i := 872) (by decide +kernel)⟩
theorem lw_p43 : lw_okq (⟨"NinthAirModel", "wellOnes", "()I"⟩, 18) := ⟨⟨by decide +kernel, by decide +kernel⟩, List.mem_of_getElem? (i := 643) (by decide +kernel), List.mem_of_getElem? (i := 880) (by decide +kernel), List.mem_of_getElem? (i := 881) (by decide +kernel)⟩
theorem lw_p44 : lw_okq (⟨"NinthAirModel", "wellFor", "()I"⟩, 18) := ⟨⟨by decide +kernel, by decide +kernel⟩, List.mem_of_getElem? (i := 643) (by decide +kernel), List.mem_of_getElem? (i := 888) (by decide +kernel), List.mem_of_getElem? (i := 889) (by decide +kernel)⟩
theorem lw_p45 : lw_okq (⟨"NinthAirModel", "stifledOn", "(I)I"⟩, 18) := ⟨⟨by decide +kernel, by decide +kernel⟩, List.mem_of_getElem? (i := 643) (by decide +kernel), List.mem_of_getElem? (i := 903) (by decide +kernel), List.mem_of_getElem? (i := 904) (by decide +kernel)⟩
theorem lw_p46 : lw_okq (⟨"NinthAirModel", "isWell", "(I)Z"⟩, 18) := ⟨⟨by decide +kernel, by decide +kernel⟩, List.mem_of_getElem? (i := 643) (by decide +kernel), List.mem_of_getElem? (i := 914) (by decide +kernel), List.mem_of_getElem? (i := 915) (by decide +kernel)⟩
theorem lw_p47 : lw_okq (⟨"NinthAirModel", "greatest", "(I)I"⟩, 18) := ⟨⟨by decide +kernel, by decide +kernel⟩, List.mem_of_getElem? (i := 643) (by decide +kernel), List.mem_of_getElem? (i := 938) (by decide +kernel), List.mem_of_getElem? (i := 939) (by decide +kernel)⟩
def lw_privs_3 : List (MethodName × Nat) := [(⟨"NinthAirModel", "oneHour", "()V"⟩, 18), (⟨"NinthAirModel", "freezes", "(I)V"⟩, 18), (⟨"NinthAirModel", "thaws", "(I)V"⟩, 18), (⟨"NinthAirModel", "draughts", "(I)V"⟩, 18), (⟨"NinthAirModel", "breathe", "(I)V"⟩, 18), (⟨"NinthAirModel", "sumOf", "(I)I"⟩, 18), (⟨"NinthAirModel", "stifled", "()I"⟩, 18), (⟨"NinthAirModel", "allBreathe", "()I"⟩, 18), (⟨"NinthAirModel", "moveAll", "(Z[I)V"⟩, 18), (⟨"NinthAirModel", "passes", "(I)V"⟩, 18), (⟨"NinthAirModel", "untilOf", "(I)I"⟩, 18), (⟨"NinthAirModel", "wellOnes", "()I"⟩, 18), (⟨"NinthAirModel", "wellFor", "()I"⟩, 18), (⟨"NinthAirModel", "stifledOn", "(I)I"⟩, 18), (⟨"NinthAirModel", "isWell", "(I)Z"⟩, 18), (⟨"NinthAirModel", "greatest", "(I)I"⟩, 18)]
theorem lw_r3 : ∀ q ∈ lw_privs_3, lw_okq q := List.forall_mem_cons.mpr ⟨lw_p32, List.forall_mem_cons.mpr ⟨lw_p33, List.forall_mem_cons.mpr ⟨lw_p34, List.forall_mem_cons.mpr ⟨lw_p35, List.forall_mem_cons.mpr ⟨lw_p36, List.forall_mem_cons.mpr ⟨lw_p37, List.forall_mem_cons.mpr ⟨lw_p38, List.forall_mem_cons.mpr ⟨lw_p39, List.forall_mem_cons.mpr ⟨lw_p40, List.forall_mem_cons.mpr ⟨lw_p41, List.forall_mem_cons.mpr ⟨lw_p42, List.forall_mem_cons.mpr ⟨lw_p43, List.forall_mem_cons.mpr ⟨lw_p44, List.forall_mem_cons.mpr ⟨lw_p45, List.forall_mem_cons.mpr ⟨lw_p46, List.forall_mem_cons.mpr ⟨lw_p47, fun _ h => absurd h List.not_mem_nil⟩⟩⟩⟩⟩⟩⟩⟩⟩⟩⟩⟩⟩⟩⟩⟩
theorem lw_p48 : lw_okq (⟨"NinthAirModel", "frostOf", "(I)I"⟩, 18) := ⟨⟨by decide +kernel, by decide +kernel⟩, List.mem_of_getElem? (i := 643) (by decide +kernel), List.mem_of_getElem? (i := 951) (by decide +kernel), List.mem_of_getElem? (i := 952) (by decide +kernel)⟩
theorem lw_p49 : lw_okq (⟨"NinthAirModel", "advance", "()V"⟩, 18) := ⟨⟨by decide +kernel, by decide +kernel⟩, List.mem_of_getElem? (i := 643) (by decide +kernel), List.mem_of_getElem? (i := 979) (by decide +kernel), List.mem_of_getElem? (i := 980) (by decide +kernel)⟩
theorem lw_p50 : lw_okq (⟨"NinthAirModel", "byteAt", "(I)I"⟩, 18) := ⟨⟨by decide +kernel, by decide +kernel⟩, List.mem_of_getElem? (i := 643) (by decide +kernel), List.mem_of_getElem? (i := 983) (by decide +kernel), List.mem_of_getElem? (i := 984) (by decide +kernel)⟩
theorem lw_p51 : lw_okq (⟨"NinthAirModel", "wantItem", "()V"⟩, 18) := ⟨⟨by decide +kernel, by decide +kernel⟩, List.mem_of_getElem? (i := 643) (by decide +kernel), List.mem_of_getElem? (i := 996) (by decide +kernel), List.mem_of_getElem? (i := 997) (by decide +kernel)⟩
theorem lw_p52 : lw_okq (⟨"NinthAirModel", "kindHere", "()I"⟩, 18) := ⟨⟨by decide +kernel, by decide +kernel⟩, List.mem_of_getElem? (i := 643) (by decide +kernel), List.mem_of_getElem? (i := 1000) (by decide +kernel), List.mem_of_getElem? (i := 1001) (by decide +kernel)⟩
theorem lw_p53 : lw_okq (⟨"NinthAirModel", "isWord", "(J)Z"⟩, 18) := ⟨⟨by decide +kernel, by decide +kernel⟩, List.mem_of_getElem? (i := 643) (by decide +kernel), List.mem_of_getElem? (i := 1005) (by decide +kernel), List.mem_of_getElem? (i := 1006) (by decide +kernel)⟩
theorem lw_p54 : lw_okq (⟨"NinthAirModel", "wantOne", "(I)V"⟩, 18) := ⟨⟨by decide +kernel, by decide +kernel⟩, List.mem_of_getElem? (i := 643) (by decide +kernel), List.mem_of_getElem? (i := 1014) (by decide +kernel), List.mem_of_getElem? (i := 1015) (by decide +kernel)⟩
theorem lw_p55 : lw_okq (⟨"NinthAirModel", "wantNumber", "(II)I"⟩, 18) := ⟨⟨by decide +kernel, by decide +kernel⟩, List.mem_of_getElem? (i := 643) (by decide +kernel), List.mem_of_getElem? (i := 1019) (by decide +kernel), List.mem_of_getElem? (i := 1020) (by decide +kernel)⟩
theorem lw_p56 : lw_okq (⟨"NinthAirModel", "mayWant", "(JIII)I"⟩, 18) := ⟨⟨by decide +kernel, by decide +kernel⟩, List.mem_of_getElem? (i := 643) (by decide +kernel), List.mem_of_getElem? (i := 1024) (by decide +kernel), List.mem_of_getElem? (i := 1025) (by decide +kernel)⟩
theorem lw_p57 : lw_okq (⟨"NinthAirModel", "wantRoom", "()V"⟩, 18) := ⟨⟨by decide +kernel, by decide +kernel⟩, List.mem_of_getElem? (i := 643) (by decide +kernel), List.mem_of_getElem? (i := 1029) (by decide +kernel), List.mem_of_getElem? (i := 1030) (by decide +kernel)⟩
theorem lw_p58 : lw_okq (⟨"NinthAirModel", "wantDoor", "(I)V"⟩, 18) := ⟨⟨by decide +kernel, by decide +kernel⟩, List.mem_of_getElem? (i := 643) (by decide +kernel), List.mem_of_getElem? (i := 1038) (by decide +kernel), List.mem_of_getElem? (i := 1039) (by decide +kernel)⟩
theorem lw_p59 : lw_okq (⟨"NinthAirModel", "isPart", "(III)Z"⟩, 18) := ⟨⟨by decide +kernel, by decide +kernel⟩, List.mem_of_getElem? (i := 643) (by decide +kernel), List.mem_of_getElem? (i := 1065) (by decide +kernel), List.mem_of_getElem? (i := 1066) (by decide +kernel)⟩
theorem lw_p60 : lw_okq (⟨"NinthAirModel", "badSheet", "(I)I"⟩, 18) := ⟨⟨by decide +kernel, by decide +kernel⟩, List.mem_of_getElem? (i := 643) (by decide +kernel), List.mem_of_getElem? (i := 1073) (by decide +kernel), List.mem_of_getElem? (i := 1074) (by decide +kernel)⟩
theorem lw_p61 : lw_okq (⟨"NinthAirModel", "isSo", "(II)Z"⟩, 18) := ⟨⟨by decide +kernel, by decide +kernel⟩, List.mem_of_getElem? (i := 643) (by decide +kernel), List.mem_of_getElem? (i := 1086) (by decide +kernel), List.mem_of_getElem? (i := 1087) (by decide +kernel)⟩
def lw_privs_4 : List (MethodName × Nat) := [(⟨"NinthAirModel", "frostOf", "(I)I"⟩, 18), (⟨"NinthAirModel", "advance", "()V"⟩, 18), (⟨"NinthAirModel", "byteAt", "(I)I"⟩, 18), (⟨"NinthAirModel", "wantItem", "()V"⟩, 18), (⟨"NinthAirModel", "kindHere", "()I"⟩, 18), (⟨"NinthAirModel", "isWord", "(J)Z"⟩, 18), (⟨"NinthAirModel", "wantOne", "(I)V"⟩, 18), (⟨"NinthAirModel", "wantNumber", "(II)I"⟩, 18), (⟨"NinthAirModel", "mayWant", "(JIII)I"⟩, 18), (⟨"NinthAirModel", "wantRoom", "()V"⟩, 18), (⟨"NinthAirModel", "wantDoor", "(I)V"⟩, 18), (⟨"NinthAirModel", "isPart", "(III)Z"⟩, 18), (⟨"NinthAirModel", "badSheet", "(I)I"⟩, 18), (⟨"NinthAirModel", "isSo", "(II)Z"⟩, 18)]
theorem lw_r4 : ∀ q ∈ lw_privs_4, lw_okq q := List.forall_mem_cons.mpr ⟨lw_p48, List.forall_mem_cons.mpr ⟨lw_p49, List.forall_mem_cons.mpr ⟨lw_p50, List.forall_mem_cons.mpr ⟨lw_p51, List.forall_mem_cons.mpr ⟨lw_p52, List.forall_mem_cons.mpr ⟨lw_p53, List.forall_mem_cons.mpr ⟨lw_p54, List.forall_mem_cons.mpr ⟨lw_p55, List.forall_mem_cons.mpr ⟨lw_p56, List.forall_mem_cons.mpr ⟨lw_p57, List.forall_mem_cons.mpr ⟨lw_p58, List.forall_mem_cons.mpr ⟨lw_p59, List.forall_mem_cons.mpr ⟨lw_p60, List.forall_mem_cons.mpr ⟨lw_p61, fun _ h => absurd h List.not_mem_nil⟩⟩⟩⟩⟩⟩⟩⟩⟩⟩⟩⟩⟩⟩
def lw_privs : List (MethodName × Nat) := lw_privs_1 ++ (lw_privs_2 ++ (lw_privs_3 ++ (lw_privs_4)))
def lw_tbl : List Cond := k2_sels lw_privs ++ tables_1
theorem lw_privs_ok : ∀ q ∈ lw_privs, lw_okq q := by
  show ∀ q ∈ lw_privs_1 ++ (lw_privs_2 ++ (lw_privs_3 ++ (lw_privs_4))), lw_okq q
  exact List.forall_mem_append.mpr ⟨lw_r1, List.forall_mem_append.mpr ⟨lw_r2, List.forall_mem_append.mpr ⟨lw_r3, lw_r4⟩⟩⟩
-- ===== end of PART A; then your names; then what follows =====
def R_law : String := "NinthAirLaw"
def RX0 : String := "NinthAir$Night"
def TX0 : u_T := fun k => match k with
  | 0 => ("NinthAir$Night", "airs", "[I", true)
  | 1 => ("NinthAir$Night", "frosts", "[I", true)
  | 2 => ("NinthAir$Night", "fires", "[I", true)
  | 3 => ("NinthAir$Night", "tights", "[I", true)
  | 4 => ("NinthAir$Night", "openDoors", "I", false)
  | 5 => ("NinthAir$Night", "cold", "I", false)
  | 6 => ("NinthAir$Night", "hour", "I", false)
  | 7 => ("NinthAir$Night", "people", "I", false)
  | 8 => ("NinthAir$Night", "kinds", "[I", true)
  | 9 => ("NinthAir$Night", "places", "[I", true)
  | 10 => ("NinthAir$Night", "needs", "[I", true)
  | 11 => ("NinthAir$Night", "stays", "[I", true)
  | _ => ("NinthAir$Night", "stifled", "[I", true)
def tyX0 : Nat → FieldType := fun k => match k with
  | 0 => .array .int
  | 1 => .array .int
  | 2 => .array .int
  | 3 => .array .int
  | 4 => .int
  | 5 => .int
  | 6 => .int
  | 7 => .int
  | 8 => .array .int
  | 9 => .array .int
  | 10 => .array .int
  | 11 => .array .int
  | _ => .array .int
theorem nmX0 : ∀ a, a < 13 → ∀ b, b < 13 → a ≠ b → (TX0 a).2.1 ≠ (TX0 b).2.1 := by decide +kernel
theorem tyX0_ok : ∀ k, k < 13 → parseFieldDescriptor (TX0 k).2.2.1 = some (tyX0 k) := by decide +kernel
abbrev cX0_init : ByteArray := prog_2_method_1_code
def yX0_init : MethodName := ⟨RX0, "<init>", "()V"⟩
abbrev cX0_become : ByteArray := prog_2_method_2_code
def yX0_become : MethodName := ⟨RX0, "become", "(LNinthAir$Night;)V"⟩
abbrev cX0_rowOfRooms : ByteArray := prog_2_method_3_code
def yX0_rowOfRooms : MethodName := ⟨RX0, "rowOfRooms", "(I)[I"⟩
abbrev cX0_rowOfPeople : ByteArray := prog_2_method_4_code
def yX0_rowOfPeople : MethodName := ⟨RX0, "rowOfPeople", "(I)[I"⟩
abbrev cX0_turnDoor : ByteArray := prog_2_method_5_code
def yX0_turnDoor : MethodName := ⟨RX0, "turnDoor", "(II)I"⟩
abbrev cX0_isFull : ByteArray := prog_2_method_6_code
def yX0_isFull : MethodName := ⟨RX0, "isFull", "()Z"⟩
abbrev cX0_add : ByteArray := prog_2_method_7_code
def yX0_add : MethodName := ⟨RX0, "add", "(III)I"⟩
abbrev cX0_remove : ByteArray := prog_2_method_8_code
def yX0_remove : MethodName := ⟨RX0, "remove", "(I)V"⟩
abbrev cX0_peopleIn : ByteArray := prog_2_method_9_code
def yX0_peopleIn : MethodName := ⟨RX0, "peopleIn", "(I)I"⟩
abbrev cX0_stifledSet : ByteArray := prog_2_method_10_code
def yX0_stifledSet : MethodName := ⟨RX0, "stifledSet", "()I"⟩
abbrev cX0_breathIn : ByteArray := prog_2_method_11_code
def yX0_breathIn : MethodName := ⟨RX0, "breathIn", "(I)I"⟩
abbrev cX0_greatestBreathIn : ByteArray := prog_2_method_12_code
def yX0_greatestBreathIn : MethodName := ⟨RX0, "greatestBreathIn", "(I)I"⟩
abbrev cX0_frostIn : ByteArray := prog_2_method_13_code
def yX0_frostIn : MethodName := ⟨RX0, "frostIn", "(I)I"⟩
abbrev cX0_breathOf : ByteArray := prog_2_method_14_code
def yX0_breathOf : MethodName := ⟨RX0, "breathOf", "(I)I"⟩
abbrev cX0_otherVoices : ByteArray := prog_2_method_15_code
def yX0_otherVoices : MethodName := ⟨RX0, "otherVoices", "(I)I"⟩
abbrev cX0_passHours : ByteArray := prog_2_method_16_code
def yX0_passHours : MethodName := ⟨RX0, "passHours", "(I)V"⟩
abbrev cX0_passHour : ByteArray := prog_2_method_17_code
def yX0_passHour : MethodName := ⟨RX0, "passHour", "()I"⟩
abbrev cX0_freeze : ByteArray := prog_2_method_18_code
def yX0_freeze : MethodName := ⟨RX0, "freeze", "()V"⟩
abbrev cX0_burn : ByteArray := prog_2_method_19_code
def yX0_burn : MethodName := ⟨RX0, "burn", "()V"⟩
abbrev cX0_mix : ByteArray := prog_2_method_20_code
def yX0_mix : MethodName := ⟨RX0, "mix", "()V"⟩
abbrev cX0_breathe : ByteArray := prog_2_method_21_code
def yX0_breathe : MethodName := ⟨RX0, "breathe", "()I"⟩
abbrev cX0_wellHours : ByteArray := prog_2_method_22_code
def yX0_wellHours : MethodName := ⟨RX0, "wellHours", "(II)I"⟩
abbrev cX0_stifledAfter : ByteArray := prog_2_method_23_code
def yX0_stifledAfter : MethodName := ⟨RX0, "stifledAfter", "(I)I"⟩
abbrev cX0_goesAsTold : ByteArray := prog_2_method_24_code
def yX0_goesAsTold : MethodName := ⟨RX0, "goesAsTold", "(ILNinthAir$Sheet;)Z"⟩
def RX1 : String := "NinthAir$Sheet"
def TX1 : u_T := fun k => match k with
  | 0 => ("NinthAir$Sheet", "numbers", "[J", true)
  | 1 => ("NinthAir$Sheet", "bits", "I", false)
  | _ => ("NinthAir$Sheet", "length", "I", false)
def tyX1 : Nat → FieldType := fun k => match k with
  | 0 => .array .long
  | 1 => .int
  | _ => .int
theorem nmX1 : ∀ a, a < 3 → ∀ b, b < 3 → a ≠ b → (TX1 a).2.1 ≠ (TX1 b).2.1 := by decide +kernel
theorem tyX1_ok : ∀ k, k < 3 → parseFieldDescriptor (TX1 k).2.2.1 = some (tyX1 k) := by decide +kernel
abbrev cX1_init : ByteArray := prog_3_method_1_code
def yX1_init : MethodName := ⟨RX1, "<init>", "()V"⟩
abbrev cX1_isMissing : ByteArray := prog_3_method_2_code
def yX1_isMissing : MethodName := ⟨RX1, "isMissing", "()Z"⟩
abbrev cX1_start : ByteArray := prog_3_method_3_code
def yX1_start : MethodName := ⟨RX1, "start", "(II)V"⟩
abbrev cX1_put : ByteArray := prog_3_method_4_code
def yX1_put : MethodName := ⟨RX1, "put", "(IJ)V"⟩
abbrev cX1_hasStretch : ByteArray := prog_3_method_5_code
def yX1_hasStretch : MethodName := ⟨RX1, "hasStretch", "(II)Z"⟩
def RX2 : String := "NinthAir$Tape"
def TX2 : u_T := fun k => match k with
  | 0 => ("NinthAir$Tape", "bytes", "[I", true)
  | 1 => ("NinthAir$Tape", "length", "I", false)
  | 2 => ("NinthAir$Tape", "token", "I", false)
  | 3 => ("NinthAir$Tape", "start", "I", false)
  | 4 => ("NinthAir$Tape", "behind", "I", false)
  | _ => ("NinthAir$Tape", "number", "I", false)
def tyX2 : Nat → FieldType := fun k => match k with
  | 0 => .array .int
  | 1 => .int
  | 2 => .int
  | 3 => .int
  | 4 => .int
  | _ => .int
theorem nmX2 : ∀ a, a < 6 → ∀ b, b < 6 → a ≠ b → (TX2 a).2.1 ≠ (TX2 b).2.1 := by decide +kernel
theorem tyX2_ok : ∀ k, k < 6 → parseFieldDescriptor (TX2 k).2.2.1 = some (tyX2 k) := by decide +kernel
abbrev cX2_init : ByteArray := prog_4_method_1_code
def yX2_init : MethodName := ⟨RX2, "<init>", "()V"⟩
abbrev cX2_append : ByteArray := prog_4_method_2_code
def yX2_append : MethodName := ⟨RX2, "append", "(II)V"⟩
abbrev cX2_tell : ByteArray := prog_4_method_3_code
def yX2_tell : MethodName := ⟨RX2, "tell", "(LNinthAir$Night;)I"⟩
abbrev cX2_tellItem : ByteArray := prog_4_method_4_code
def yX2_tellItem : MethodName := ⟨RX2, "tellItem", "(LNinthAir$Night;)Z"⟩
abbrev cX2_kindNamed : ByteArray := prog_4_method_5_code
def yX2_kindNamed : MethodName := ⟨RX2, "kindNamed", "()I"⟩
abbrev cX2_tellOne : ByteArray := prog_4_method_6_code
def yX2_tellOne : MethodName := ⟨RX2, "tellOne", "(LNinthAir$Night;I)Z"⟩
abbrev cX2_tellRoom : ByteArray := prog_4_method_7_code
def yX2_tellRoom : MethodName := ⟨RX2, "tellRoom", "(LNinthAir$Night;)Z"⟩
abbrev cX2_mayTell : ByteArray := prog_4_method_8_code
def yX2_mayTell : MethodName := ⟨RX2, "mayTell", "(Ljava/lang/String;LNinthAir$Night;II)Z"⟩
abbrev cX2_tellDoor : ByteArray := prog_4_method_9_code
def yX2_tellDoor : MethodName := ⟨RX2, "tellDoor", "(LNinthAir$Night;I)Z"⟩
abbrev cX2_tellCold : ByteArray := prog_4_method_10_code
def yX2_tellCold : MethodName := ⟨RX2, "tellCold", "(LNinthAir$Night;I)Z"⟩
abbrev cX2_isWord : ByteArray := prog_4_method_11_code
def yX2_isWord : MethodName := ⟨RX2, "isWord", "(Ljava/lang/String;)Z"⟩
abbrev cX2_isNumber : ByteArray := prog_4_method_12_code
def yX2_isNumber : MethodName := ⟨RX2, "isNumber", "(II)Z"⟩
abbrev cX2_step : ByteArray := prog_4_method_13_code
def yX2_step : MethodName := ⟨RX2, "step", "()V"⟩
abbrev cX2_tokenBegunBy : ByteArray := prog_4_method_14_code
def yX2_tokenBegunBy : MethodName := ⟨RX2, "tokenBegunBy", "(I)I"⟩
def RX3 : String := "NinthAir"
def TX3 : u_T := fun k => match k with
  | 0 => ("NinthAir", "night", "LNinthAir$Night;", true)
  | 1 => ("NinthAir", "kept", "LNinthAir$Night;", true)
  | 2 => ("NinthAir", "ahead", "LNinthAir$Night;", true)
  | 3 => ("NinthAir", "imageKept", "Z", false)
  | 4 => ("NinthAir", "tape", "LNinthAir$Tape;", true)
  | 5 => ("NinthAir", "sheets", "[LNinthAir$Sheet;", true)
  | _ => ("NinthAir", "answered", "[I", true)
def tyX3 : Nat → FieldType := fun k => match k with
  | 0 => .object "NinthAir$Night"
  | 1 => .object "NinthAir$Night"
  | 2 => .object "NinthAir$Night"
  | 3 => .boolean
  | 4 => .object "NinthAir$Tape"
  | 5 => .array (.object "NinthAir$Sheet")
  | _ => .array .int
theorem nmX3 : ∀ a, a < 7 → ∀ b, b < 7 → a ≠ b → (TX3 a).2.1 ≠ (TX3 b).2.1 := by decide +kernel
theorem tyX3_ok : ∀ k, k < 7 → parseFieldDescriptor (TX3 k).2.2.1 = some (tyX3 k) := by decide +kernel
abbrev cX3_init : ByteArray := prog_1_method_1_code
def yX3_init : MethodName := ⟨RX3, "<init>", "()V"⟩
abbrev cX3_room : ByteArray := prog_1_method_2_code
def yX3_room : MethodName := ⟨RX3, "room", "(III)I"⟩
abbrev cX3_roomOf : ByteArray := prog_1_method_3_code
def yX3_roomOf : MethodName := ⟨RX3, "roomOf", "(II)I"⟩
abbrev cX3_door : ByteArray := prog_1_method_4_code
def yX3_door : MethodName := ⟨RX3, "door", "(II)I"⟩
abbrev cX3_cold : ByteArray := prog_1_method_5_code
def yX3_cold : MethodName := ⟨RX3, "cold", "(I)I"⟩
abbrev cX3_one : ByteArray := prog_1_method_6_code
def yX3_one : MethodName := ⟨RX3, "one", "(II)I"⟩
abbrev cX3_of : ByteArray := prog_1_method_7_code
def yX3_of : MethodName := ⟨RX3, "of", "(II)I"⟩
abbrev cX3_set : ByteArray := prog_1_method_8_code
def yX3_set : MethodName := ⟨RX3, "set", "(III)I"⟩
abbrev cX3_turn : ByteArray := prog_1_method_9_code
def yX3_turn : MethodName := ⟨RX3, "turn", "(II)I"⟩
abbrev cX3_as : ByteArray := prog_1_method_10_code
def yX3_as : MethodName := ⟨RX3, "as", "(II)I"⟩
abbrev cX3_goes : ByteArray := prog_1_method_11_code
def yX3_goes : MethodName := ⟨RX3, "goes", "(I)I"⟩
abbrev cX3_hours : ByteArray := prog_1_method_12_code
def yX3_hours : MethodName := ⟨RX3, "hours", "(I)I"⟩
abbrev cX3_now : ByteArray := prog_1_method_13_code
def yX3_now : MethodName := ⟨RX3, "now", "(I)I"⟩
abbrev cX3_on : ByteArray := prog_1_method_14_code
def yX3_on : MethodName := ⟨RX3, "on", "(III)I"⟩
abbrev cX3_when : ByteArray := prog_1_method_15_code
def yX3_when : MethodName := ⟨RX3, "when", "(I)I"⟩
abbrev cX3_first : ByteArray := prog_1_method_16_code
def yX3_first : MethodName := ⟨RX3, "first", "()I"⟩
abbrev cX3_well : ByteArray := prog_1_method_17_code
def yX3_well : MethodName := ⟨RX3, "well", "()I"⟩
abbrev cX3_doors : ByteArray := prog_1_method_18_code
def yX3_doors : MethodName := ⟨RX3, "doors", "()I"⟩
abbrev cX3_shut : ByteArray := prog_1_method_19_code
def yX3_shut : MethodName := ⟨RX3, "shut", "(I)I"⟩
abbrev cX3_fire : ByteArray := prog_1_method_20_code
def yX3_fire : MethodName := ⟨RX3, "fire", "(II)I"⟩
abbrev cX3_fires : ByteArray := prog_1_method_21_code
def yX3_fires : MethodName := ⟨RX3, "fires", "(III)I"⟩
abbrev cX3_sleep : ByteArray := prog_1_method_22_code
def yX3_sleep : MethodName := ⟨RX3, "sleep", "(I)I"⟩
abbrev cX3_kind : ByteArray := prog_1_method_23_code
def yX3_kind : MethodName := ⟨RX3, "kind", "(II)I"⟩
abbrev cX3_costs : ByteArray := prog_1_method_24_code
def yX3_costs : MethodName := ⟨RX3, "costs", "(II)I"⟩
abbrev cX3_share : ByteArray := prog_1_method_25_code
def yX3_share : MethodName := ⟨RX3, "share", "(II)J"⟩
abbrev cX3_swept : ByteArray := prog_1_method_26_code
def yX3_swept : MethodName := ⟨RX3, "swept", "(I)I"⟩
abbrev cX3_sweeps : ByteArray := prog_1_method_27_code
def yX3_sweeps : MethodName := ⟨RX3, "sweeps", "(I)I"⟩
abbrev cX3_owed : ByteArray := prog_1_method_28_code
def yX3_owed : MethodName := ⟨RX3, "owed", "()I"⟩
abbrev cX3_leaked : ByteArray := prog_1_method_29_code
def yX3_leaked : MethodName := ⟨RX3, "leaked", "(III)I"⟩
abbrev cX3_feed : ByteArray := prog_1_method_30_code
def yX3_feed : MethodName := ⟨RX3, "feed", "(II)I"⟩
abbrev cX3_wipe : ByteArray := prog_1_method_31_code
def yX3_wipe : MethodName := ⟨RX3, "wipe", "()I"⟩
abbrev cX3_text : ByteArray := prog_1_method_32_code
def yX3_text : MethodName := ⟨RX3, "text", "()I"⟩
abbrev cX3_sheet : ByteArray := prog_1_method_33_code
def yX3_sheet : MethodName := ⟨RX3, "sheet", "(III)I"⟩
abbrev cX3_write : ByteArray := prog_1_method_34_code
def yX3_write : MethodName := ⟨RX3, "write", "(IIJ)J"⟩
abbrev cX3_copy : ByteArray := prog_1_method_35_code
def yX3_copy : MethodName := ⟨RX3, "copy", "(IIIII)I"⟩
abbrev cX3_lays : ByteArray := prog_1_method_36_code
def yX3_lays : MethodName := ⟨RX3, "lays", "(I)I"⟩
abbrev cX3_book : ByteArray := prog_1_method_37_code
def yX3_book : MethodName := ⟨RX3, "book", "(II)I"⟩
abbrev cX3_read : ByteArray := prog_1_method_38_code
def yX3_read : MethodName := ⟨RX3, "read", "(II)I"⟩
abbrev cX3_image : ByteArray := prog_1_method_39_code
def yX3_image : MethodName := ⟨RX3, "image", "()I"⟩
abbrev cX3_undo : ByteArray := prog_1_method_40_code
def yX3_undo : MethodName := ⟨RX3, "undo", "()I"⟩
abbrev cX3_tear : ByteArray := prog_1_method_41_code
def yX3_tear : MethodName := ⟨RX3, "tear", "()I"⟩
abbrev cX3_count : ByteArray := prog_1_method_42_code
def yX3_count : MethodName := ⟨RX3, "count", "(I)I"⟩
abbrev cX3_status : ByteArray := prog_1_method_43_code
def yX3_status : MethodName := ⟨RX3, "status", "(I)I"⟩
abbrev cX3_finding : ByteArray := prog_1_method_44_code
def yX3_finding : MethodName := ⟨RX3, "finding", "(I)I"⟩
abbrev cX3_nobody : ByteArray := prog_1_method_45_code
def yX3_nobody : MethodName := ⟨RX3, "nobody", "(I)Z"⟩
abbrev cX3_startAhead : ByteArray := prog_1_method_46_code
def yX3_startAhead : MethodName := ⟨RX3, "startAhead", "()LNinthAir$Night;"⟩
abbrev cX3_twoFiresDo : ByteArray := prog_1_method_47_code
def yX3_twoFiresDo : MethodName := ⟨RX3, "twoFiresDo", "(IIII)Z"⟩
abbrev cX3_outside : ByteArray := prog_1_method_48_code
def yX3_outside : MethodName := ⟨RX3, "outside", "(III)Z"⟩
abbrev cX3_noRoom : ByteArray := prog_1_method_49_code
def yX3_noRoom : MethodName := ⟨RX3, "noRoom", "(I)Z"⟩
abbrev cX3_noKind : ByteArray := prog_1_method_50_code
def yX3_noKind : MethodName := ⟨RX3, "noKind", "(I)Z"⟩
abbrev cX3_noSheet : ByteArray := prog_1_method_51_code
def yX3_noSheet : MethodName := ⟨RX3, "noSheet", "(I)Z"⟩
abbrev cX3_isKindOf : ByteArray := prog_1_method_52_code
def yX3_isKindOf : MethodName := ⟨RX3, "isKindOf", "(II)Z"⟩
abbrev cX3_has : ByteArray := prog_1_method_53_code
def yX3_has : MethodName := ⟨RX3, "has", "(II)Z"⟩
abbrev cX3_exchange : ByteArray := prog_1_method_54_code
def yX3_exchange : MethodName := ⟨RX3, "exchange", "([III)I"⟩
abbrev cX3_sum : ByteArray := prog_1_method_55_code
def yX3_sum : MethodName := ⟨RX3, "sum", "([II)I"⟩
def RX4 : String := "NinthAirModel"
def TX4 : u_T := fun k => match k with
  | 0 => ("NinthAirModel", "row", "[I", true)
  | 1 => ("NinthAirModel", "found", "[I", true)
  | 2 => ("NinthAirModel", "tried", "[I", true)
  | 3 => ("NinthAirModel", "tape", "[I", true)
  | 4 => ("NinthAirModel", "tapeMany", "I", false)
  | 5 => ("NinthAirModel", "sort", "I", false)
  | 6 => ("NinthAirModel", "begins", "I", false)
  | 7 => ("NinthAirModel", "tokenEnds", "I", false)
  | 8 => ("NinthAirModel", "word", "J", false)
  | 9 => ("NinthAirModel", "value", "I", false)
  | 10 => ("NinthAirModel", "good", "Z", false)
  | 11 => ("NinthAirModel", "bitsOf", "[I", true)
  | 12 => ("NinthAirModel", "sizeOf", "[I", true)
  | 13 => ("NinthAirModel", "sheets", "[J", true)
  | 14 => ("NinthAirModel", "lent", "[J", true)
  | 15 => ("NinthAirModel", "image", "[I", true)
  | 16 => ("NinthAirModel", "before", "[I", true)
  | _ => ("NinthAirModel", "isKept", "Z", false)
def tyX4 : Nat → FieldType := fun k => match k with
  | 0 => .array .int
  | 1 => .array .int
  | 2 => .array .int
  | 3 => .array .int
  | 4 => .int
  | 5 => .int
  | 6 => .int
  | 7 => .int
  | 8 => .long
  | 9 => .int
  | 10 => .boolean
  | 11 => .array .int
  | 12 => .array .int
  | 13 => .array .long
  | 14 => .array .long
  | 15 => .array .int
  | 16 => .array .int
  | _ => .boolean
theorem nmX4 : ∀ a, a < 18 → ∀ b, b < 18 → a ≠ b → (TX4 a).2.1 ≠ (TX4 b).2.1 := by decide +kernel
theorem tyX4_ok : ∀ k, k < 18 → parseFieldDescriptor (TX4 k).2.2.1 = some (tyX4 k) := by decide +kernel
abbrev cX4_init : ByteArray := prog_6_method_1_code
def yX4_init : MethodName := ⟨RX4, "<init>", "()V"⟩
abbrev cX4_in : ByteArray := prog_6_method_2_code
def yX4_in : MethodName := ⟨RX4, "in", "(III)Z"⟩
abbrev cX4_finds : ByteArray := prog_6_method_3_code
def yX4_finds : MethodName := ⟨RX4, "finds", "(I)I"⟩
abbrev cX4_has : ByteArray := prog_6_method_4_code
def yX4_has : MethodName := ⟨RX4, "has", "(II)Z"⟩
abbrev cX4_bits : ByteArray := prog_6_method_5_code
def yX4_bits : MethodName := ⟨RX4, "bits", "(I)I"⟩
abbrev cX4_its : ByteArray := prog_6_method_6_code
def yX4_its : MethodName := ⟨RX4, "its", "(II)I"⟩
abbrev cX4_puts : ByteArray := prog_6_method_7_code
def yX4_puts : MethodName := ⟨RX4, "puts", "(III)V"⟩
abbrev cX4_there : ByteArray := prog_6_method_8_code
def yX4_there : MethodName := ⟨RX4, "there", "(II)I"⟩
abbrev cX4_lies : ByteArray := prog_6_method_9_code
def yX4_lies : MethodName := ⟨RX4, "lies", "(III)V"⟩
abbrev cX4_isOne : ByteArray := prog_6_method_10_code
def yX4_isOne : MethodName := ⟨RX4, "isOne", "(I)Z"⟩
abbrev cX4_isRoom : ByteArray := prog_6_method_11_code
def yX4_isRoom : MethodName := ⟨RX4, "isRoom", "(I)Z"⟩
abbrev cX4_isKind : ByteArray := prog_6_method_12_code
def yX4_isKind : MethodName := ⟨RX4, "isKind", "(I)Z"⟩
abbrev cX4_isSpan : ByteArray := prog_6_method_13_code
def yX4_isSpan : MethodName := ⟨RX4, "isSpan", "(I)Z"⟩
abbrev cX4_isTold : ByteArray := prog_6_method_14_code
def yX4_isTold : MethodName := ⟨RX4, "isTold", "(II)Z"⟩
abbrev cX4_room : ByteArray := prog_6_method_15_code
def yX4_room : MethodName := ⟨RX4, "room", "(III)I"⟩
abbrev cX4_inside : ByteArray := prog_6_method_16_code
def yX4_inside : MethodName := ⟨RX4, "inside", "(I)I"⟩
abbrev cX4_breathedIn : ByteArray := prog_6_method_17_code
def yX4_breathedIn : MethodName := ⟨RX4, "breathedIn", "(I)I"⟩
abbrev cX4_roomOf : ByteArray := prog_6_method_18_code
def yX4_roomOf : MethodName := ⟨RX4, "roomOf", "(II)I"⟩
abbrev cX4_opens : ByteArray := prog_6_method_19_code
def yX4_opens : MethodName := ⟨RX4, "opens", "(II)V"⟩
abbrev cX4_door : ByteArray := prog_6_method_20_code
def yX4_door : MethodName := ⟨RX4, "door", "(II)I"⟩
abbrev cX4_cold : ByteArray := prog_6_method_21_code
def yX4_cold : MethodName := ⟨RX4, "cold", "(I)I"⟩
abbrev cX4_addOne : ByteArray := prog_6_method_22_code
def yX4_addOne : MethodName := ⟨RX4, "addOne", "(III)V"⟩
abbrev cX4_one : ByteArray := prog_6_method_23_code
def yX4_one : MethodName := ⟨RX4, "one", "(II)I"⟩
abbrev cX4_singers : ByteArray := prog_6_method_24_code
def yX4_singers : MethodName := ⟨RX4, "singers", "(I)I"⟩
abbrev cX4_breathes : ByteArray := prog_6_method_25_code
def yX4_breathes : MethodName := ⟨RX4, "breathes", "(I)I"⟩
abbrev cX4_of : ByteArray := prog_6_method_26_code
def yX4_of : MethodName := ⟨RX4, "of", "(II)I"⟩
abbrev cX4_set : ByteArray := prog_6_method_27_code
def yX4_set : MethodName := ⟨RX4, "set", "(III)I"⟩
abbrev cX4_turn : ByteArray := prog_6_method_28_code
def yX4_turn : MethodName := ⟨RX4, "turn", "(II)I"⟩
abbrev cX4_as : ByteArray := prog_6_method_29_code
def yX4_as : MethodName := ⟨RX4, "as", "(II)I"⟩
abbrev cX4_leaves : ByteArray := prog_6_method_30_code
def yX4_leaves : MethodName := ⟨RX4, "leaves", "(I)V"⟩
abbrev cX4_goes : ByteArray := prog_6_method_31_code
def yX4_goes : MethodName := ⟨RX4, "goes", "(I)I"⟩
abbrev cX4_freezes : ByteArray := prog_6_method_32_code
def yX4_freezes : MethodName := ⟨RX4, "freezes", "(I)V"⟩
abbrev cX4_thaws : ByteArray := prog_6_method_33_code
def yX4_thaws : MethodName := ⟨RX4, "thaws", "(I)V"⟩
abbrev cX4_draughts : ByteArray := prog_6_method_34_code
def yX4_draughts : MethodName := ⟨RX4, "draughts", "(I)V"⟩
abbrev cX4_breathe : ByteArray := prog_6_method_35_code
def yX4_breathe : MethodName := ⟨RX4, "breathe", "(I)V"⟩
abbrev cX4_oneHour : ByteArray := prog_6_method_36_code
def yX4_oneHour : MethodName := ⟨RX4, "oneHour", "()V"⟩
abbrev cX4_sumOf : ByteArray := prog_6_method_37_code
def yX4_sumOf : MethodName := ⟨RX4, "sumOf", "(I)I"⟩
abbrev cX4_stifled : ByteArray := prog_6_method_38_code
def yX4_stifled : MethodName := ⟨RX4, "stifled", "()I"⟩
abbrev cX4_allBreathe : ByteArray := prog_6_method_39_code
def yX4_allBreathe : MethodName := ⟨RX4, "allBreathe", "()I"⟩
abbrev cX4_hours : ByteArray := prog_6_method_40_code
def yX4_hours : MethodName := ⟨RX4, "hours", "(I)I"⟩
abbrev cX4_now : ByteArray := prog_6_method_41_code
def yX4_now : MethodName := ⟨RX4, "now", "(I)I"⟩
abbrev cX4_passes : ByteArray := prog_6_method_42_code
def yX4_passes : MethodName := ⟨RX4, "passes", "(I)V"⟩
abbrev cX4_on : ByteArray := prog_6_method_43_code
def yX4_on : MethodName := ⟨RX4, "on", "(III)I"⟩
abbrev cX4_untilOf : ByteArray := prog_6_method_44_code
def yX4_untilOf : MethodName := ⟨RX4, "untilOf", "(I)I"⟩
abbrev cX4_when : ByteArray := prog_6_method_45_code
def yX4_when : MethodName := ⟨RX4, "when", "(I)I"⟩
abbrev cX4_wellOnes : ByteArray := prog_6_method_46_code
def yX4_wellOnes : MethodName := ⟨RX4, "wellOnes", "()I"⟩
abbrev cX4_first : ByteArray := prog_6_method_47_code
def yX4_first : MethodName := ⟨RX4, "first", "()I"⟩
abbrev cX4_wellFor : ByteArray := prog_6_method_48_code
def yX4_wellFor : MethodName := ⟨RX4, "wellFor", "()I"⟩
abbrev cX4_well : ByteArray := prog_6_method_49_code
def yX4_well : MethodName := ⟨RX4, "well", "()I"⟩
abbrev cX4_doors : ByteArray := prog_6_method_50_code
def yX4_doors : MethodName := ⟨RX4, "doors", "()I"⟩
abbrev cX4_stifledOn : ByteArray := prog_6_method_51_code
def yX4_stifledOn : MethodName := ⟨RX4, "stifledOn", "(I)I"⟩
abbrev cX4_shut : ByteArray := prog_6_method_52_code
def yX4_shut : MethodName := ⟨RX4, "shut", "(I)I"⟩
abbrev cX4_isWell : ByteArray := prog_6_method_53_code
def yX4_isWell : MethodName := ⟨RX4, "isWell", "(I)Z"⟩
abbrev cX4_fire : ByteArray := prog_6_method_54_code
def yX4_fire : MethodName := ⟨RX4, "fire", "(II)I"⟩
abbrev cX4_fires : ByteArray := prog_6_method_55_code
def yX4_fires : MethodName := ⟨RX4, "fires", "(III)I"⟩
abbrev cX4_sleep : ByteArray := prog_6_method_56_code
def yX4_sleep : MethodName := ⟨RX4, "sleep", "(I)I"⟩
abbrev cX4_kind : ByteArray := prog_6_method_57_code
def yX4_kind : MethodName := ⟨RX4, "kind", "(II)I"⟩
abbrev cX4_costs : ByteArray := prog_6_method_58_code
def yX4_costs : MethodName := ⟨RX4, "costs", "(II)I"⟩
abbrev cX4_product : ByteArray := prog_6_method_59_code
def yX4_product : MethodName := ⟨RX4, "product", "(I)J"⟩
abbrev cX4_greatest : ByteArray := prog_6_method_60_code
def yX4_greatest : MethodName := ⟨RX4, "greatest", "(I)I"⟩
abbrev cX4_share : ByteArray := prog_6_method_61_code
def yX4_share : MethodName := ⟨RX4, "share", "(II)J"⟩
abbrev cX4_frostOf : ByteArray := prog_6_method_62_code
def yX4_frostOf : MethodName := ⟨RX4, "frostOf", "(I)I"⟩
abbrev cX4_swept : ByteArray := prog_6_method_63_code
def yX4_swept : MethodName := ⟨RX4, "swept", "(I)I"⟩
abbrev cX4_sweeps : ByteArray := prog_6_method_64_code
def yX4_sweeps : MethodName := ⟨RX4, "sweeps", "(I)I"⟩
abbrev cX4_owed : ByteArray := prog_6_method_65_code
def yX4_owed : MethodName := ⟨RX4, "owed", "()I"⟩
abbrev cX4_leaked : ByteArray := prog_6_method_66_code
def yX4_leaked : MethodName := ⟨RX4, "leaked", "(III)I"⟩
abbrev cX4_feed : ByteArray := prog_6_method_67_code
def yX4_feed : MethodName := ⟨RX4, "feed", "(II)I"⟩
abbrev cX4_wipe : ByteArray := prog_6_method_68_code
def yX4_wipe : MethodName := ⟨RX4, "wipe", "()I"⟩
abbrev cX4_byteAt : ByteArray := prog_6_method_69_code
def yX4_byteAt : MethodName := ⟨RX4, "byteAt", "(I)I"⟩
abbrev cX4_isLetter : ByteArray := prog_6_method_70_code
def yX4_isLetter : MethodName := ⟨RX4, "isLetter", "(I)Z"⟩
abbrev cX4_isDigit : ByteArray := prog_6_method_71_code
def yX4_isDigit : MethodName := ⟨RX4, "isDigit", "(I)Z"⟩
abbrev cX4_advance : ByteArray := prog_6_method_72_code
def yX4_advance : MethodName := ⟨RX4, "advance", "()V"⟩
abbrev cX4_isWord : ByteArray := prog_6_method_73_code
def yX4_isWord : MethodName := ⟨RX4, "isWord", "(J)Z"⟩
abbrev cX4_kindHere : ByteArray := prog_6_method_74_code
def yX4_kindHere : MethodName := ⟨RX4, "kindHere", "()I"⟩
abbrev cX4_wantNumber : ByteArray := prog_6_method_75_code
def yX4_wantNumber : MethodName := ⟨RX4, "wantNumber", "(II)I"⟩
abbrev cX4_mayWant : ByteArray := prog_6_method_76_code
def yX4_mayWant : MethodName := ⟨RX4, "mayWant", "(JIII)I"⟩
abbrev cX4_wantOne : ByteArray := prog_6_method_77_code
def yX4_wantOne : MethodName := ⟨RX4, "wantOne", "(I)V"⟩
abbrev cX4_wantRoom : ByteArray := prog_6_method_78_code
def yX4_wantRoom : MethodName := ⟨RX4, "wantRoom", "()V"⟩
abbrev cX4_wantDoor : ByteArray := prog_6_method_79_code
def yX4_wantDoor : MethodName := ⟨RX4, "wantDoor", "(I)V"⟩
abbrev cX4_wantItem : ByteArray := prog_6_method_80_code
def yX4_wantItem : MethodName := ⟨RX4, "wantItem", "()V"⟩
abbrev cX4_text : ByteArray := prog_6_method_81_code
def yX4_text : MethodName := ⟨RX4, "text", "()I"⟩
abbrev cX4_isSheet : ByteArray := prog_6_method_82_code
def yX4_isSheet : MethodName := ⟨RX4, "isSheet", "(I)Z"⟩
abbrev cX4_narrow : ByteArray := prog_6_method_83_code
def yX4_narrow : MethodName := ⟨RX4, "narrow", "(IJ)J"⟩
abbrev cX4_sheet : ByteArray := prog_6_method_84_code
def yX4_sheet : MethodName := ⟨RX4, "sheet", "(III)I"⟩
abbrev cX4_write : ByteArray := prog_6_method_85_code
def yX4_write : MethodName := ⟨RX4, "write", "(IIJ)J"⟩
abbrev cX4_isPart : ByteArray := prog_6_method_86_code
def yX4_isPart : MethodName := ⟨RX4, "isPart", "(III)Z"⟩
abbrev cX4_copy : ByteArray := prog_6_method_87_code
def yX4_copy : MethodName := ⟨RX4, "copy", "(IIIII)I"⟩
abbrev cX4_badSheet : ByteArray := prog_6_method_88_code
def yX4_badSheet : MethodName := ⟨RX4, "badSheet", "(I)I"⟩
abbrev cX4_lays : ByteArray := prog_6_method_89_code
def yX4_lays : MethodName := ⟨RX4, "lays", "(I)I"⟩
abbrev cX4_book : ByteArray := prog_6_method_90_code
def yX4_book : MethodName := ⟨RX4, "book", "(II)I"⟩
abbrev cX4_isSo : ByteArray := prog_6_method_91_code
def yX4_isSo : MethodName := ⟨RX4, "isSo", "(II)Z"⟩
abbrev cX4_read : ByteArray := prog_6_method_92_code
def yX4_read : MethodName := ⟨RX4, "read", "(II)I"⟩
abbrev cX4_moveAll : ByteArray := prog_6_method_93_code
def yX4_moveAll : MethodName := ⟨RX4, "moveAll", "(Z[I)V"⟩
abbrev cX4_image : ByteArray := prog_6_method_94_code
def yX4_image : MethodName := ⟨RX4, "image", "()I"⟩
abbrev cX4_undo : ByteArray := prog_6_method_95_code
def yX4_undo : MethodName := ⟨RX4, "undo", "()I"⟩
abbrev cX4_tear : ByteArray := prog_6_method_96_code
def yX4_tear : MethodName := ⟨RX4, "tear", "()I"⟩
abbrev cX4_count : ByteArray := prog_6_method_97_code
def yX4_count : MethodName := ⟨RX4, "count", "(I)I"⟩
abbrev cX4_status : ByteArray := prog_6_method_98_code
def yX4_status : MethodName := ⟨RX4, "status", "(I)I"⟩
def RJ6 : String := "java/lang/Integer"
abbrev cJ6_numberOfTrailingZeros_0f7a4 : ByteArray := prog_7_method_48_code
def yJ6_numberOfTrailingZeros_0f7a4 : MethodName := ⟨RJ6, "numberOfTrailingZeros", "(I)I"⟩
abbrev cJ6_bitCount_0f7a4 : ByteArray := prog_7_method_49_code
def yJ6_bitCount_0f7a4 : MethodName := ⟨RJ6, "bitCount", "(I)I"⟩
def RJ9 : String := "java/lang/Math"
abbrev cJ9_max_7cf53 : ByteArray := prog_8_method_65_code
def yJ9_max_7cf53 : MethodName := ⟨RJ9, "max", "(II)I"⟩
abbrev cJ9_min_7cf53 : ByteArray := prog_8_method_69_code
def yJ9_min_7cf53 : MethodName := ⟨RJ9, "min", "(II)I"⟩
def RJ0 : String := "java/lang/String"
abbrev cJ0_length_8abf5 : ByteArray := prog_9_method_54_code
def yJ0_length_8abf5 : MethodName := ⟨RJ0, "length", "()I"⟩
abbrev cJ0_charAt_5068e : ByteArray := prog_9_method_56_code
def yJ0_charAt_5068e : MethodName := ⟨RJ0, "charAt", "(I)C"⟩
abbrev cJ0_coder_7d493 : ByteArray := prog_9_method_152_code
def yJ0_coder_7d493 : MethodName := ⟨RJ0, "coder", "()B"⟩
abbrev cJ0_isLatin1_aae02 : ByteArray := prog_9_method_154_code
def yJ0_isLatin1_aae02 : MethodName := ⟨RJ0, "isLatin1", "()Z"⟩
abbrev cJ0_checkIndex_df160 : ByteArray := prog_9_method_155_code
def yJ0_checkIndex_df160 : MethodName := ⟨RJ0, "checkIndex", "(II)V"⟩
def RJ1 : String := "java/lang/StringLatin1"
abbrev cJ1_charAt_3b067 : ByteArray := prog_10_method_2_code
def yJ1_charAt_3b067 : MethodName := ⟨RJ1, "charAt", "([BI)C"⟩
def RJ2 : String := "java/lang/StringUTF16"
abbrev cJ2_getChar_3b067 : ByteArray := prog_11_method_5_code
def yJ2_getChar_3b067 : MethodName := ⟨RJ2, "getChar", "([BI)C"⟩
abbrev cJ2_length_9d52b : ByteArray := prog_11_method_6_code
def yJ2_length_9d52b : MethodName := ⟨RJ2, "length", "([B)I"⟩
abbrev cJ2_charAt_3b067 : ByteArray := prog_11_method_83_code
def yJ2_charAt_3b067 : MethodName := ⟨RJ2, "charAt", "([BI)C"⟩
abbrev cJ2_checkIndex_2214a : ByteArray := prog_11_method_91_code
def yJ2_checkIndex_2214a : MethodName := ⟨RJ2, "checkIndex", "(I[B)V"⟩
def RJ10 : String := "java/lang/System"
def RJ3 : String := "jdk/internal/util/Preconditions"
abbrev cJ3_checkIndex_8e157 : ByteArray := prog_13_method_11_code
def yJ3_checkIndex_8e157 : MethodName := ⟨RJ3, "checkIndex", "(IILjava/util/function/BiFunction;)I"⟩
def RL : String := "NinthAirLaw"
abbrev cL_law : ByteArray := code
def yL_law : MethodName := ⟨RL, "law", "([I)Z"⟩
abbrev vwCl : List vw_C := [(RX0, TX0, 13), (RX1, TX1, 3), (RX2, TX2, 6), (RX3, TX3, 7), (RX4, TX4, 18)]
