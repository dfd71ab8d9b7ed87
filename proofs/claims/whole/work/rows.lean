section
-- ===== PART A: goes FIRST, ahead of the names: the tables' words, and 'selects' of the private methods out of them =====
/-- a private method of a class that the tables say can be made, by its rows of tables_1 -/
def lw_okq (q : MethodName × Nat) : Prop := (q.1.cls ≠ "java/lang/invoke/MethodHandle" ∧ q.1.cls ≠ "java/lang/invoke/VarHandle") ∧ Cond.instantiable q.1.cls q.2 ∈ tables_1 ∧ Cond.privateMethod q.1 ∈ tables_1 ∧ Cond.instanceMethod q.1 ∈ tables_1
theorem lw_p0 : lw_okq (⟨"NinthAir", "finding", "(I)I"⟩, 7) := ⟨⟨by decide +kernel, by decide +kernel⟩, List.mem_of_getElem? (i := 14) (by decide +kernel), List.mem_of_getElem? (i := 167) (by decide +kernel), List.mem_of_getElem? (i := 168) (by decide +kernel)⟩
theorem lw_p1 : lw_okq (⟨"NinthAir$Night", "otherVoices", "(I)I"⟩, 13) := ⟨⟨by decide +kernel, by decide +kernel⟩, List.mem_of_getElem? (i := 22) (by decide +kernel), List.mem_of_getElem? (i := 197) (by decide +kernel), List.mem_of_getElem? (i := 198) (by decide +kernel)⟩
theorem lw_p2 : lw_okq (⟨"NinthAir", "nobody", "(I)Z"⟩, 7) := ⟨⟨by decide +kernel, by decide +kernel⟩, List.mem_of_getElem? (i := 14) (by decide +kernel), List.mem_of_getElem? (i := 233) (by decide +kernel), List.mem_of_getElem? (i := 234) (by decide +kernel)⟩
theorem lw_p3 : lw_okq (⟨"NinthAir$Night", "freeze", "()V"⟩, 13) := ⟨⟨by decide +kernel, by decide +kernel⟩, List.mem_of_getElem? (i := 22) (by decide +kernel), List.mem_of_getElem? (i := 289) (by decide +kernel), List.mem_of_getElem? (i := 290) (by decide +kernel)⟩
theorem lw_p4 : lw_okq (⟨"NinthAir$Night", "burn", "()V"⟩, 13) := ⟨⟨by decide +kernel, by decide +kernel⟩, List.mem_of_getElem? (i := 22) (by decide +kernel), List.mem_of_getElem? (i := 296) (by decide +kernel), List.mem_of_getElem? (i := 297) (by decide +kernel)⟩
theorem lw_p5 : lw_okq (⟨"NinthAir$Night", "mix", "()V"⟩, 13) := ⟨⟨by decide +kernel, by decide +kernel⟩, List.mem_of_getElem? (i := 22) (by decide +kernel), List.mem_of_getElem? (i := 300) (by decide +kernel), List.mem_of_getElem? (i := 301) (by decide +kernel)⟩
theorem lw_p6 : lw_okq (⟨"NinthAir$Night", "breathe", "()I"⟩, 13) := ⟨⟨by decide +kernel, by decide +kernel⟩, List.mem_of_getElem? (i := 22) (by decide +kernel), List.mem_of_getElem? (i := 304) (by decide +kernel), List.mem_of_getElem? (i := 305) (by decide +kernel)⟩
theorem lw_p7 : lw_okq (⟨"NinthAir", "startAhead", "()LNinthAir$Night;"⟩, 7) := ⟨⟨by decide +kernel, by decide +kernel⟩, List.mem_of_getElem? (i := 14) (by decide +kernel), List.mem_of_getElem? (i := 323) (by decide +kernel), List.mem_of_getElem? (i := 324) (by decide +kernel)⟩
theorem lw_p8 : lw_okq (⟨"NinthAir", "twoFiresDo", "(IIII)Z"⟩, 7) := ⟨⟨by decide +kernel, by decide +kernel⟩, List.mem_of_getElem? (i := 14) (by decide +kernel), List.mem_of_getElem? (i := 382) (by decide +kernel), List.mem_of_getElem? (i := 383) (by decide +kernel)⟩
theorem lw_p9 : lw_okq (⟨"NinthAir$Tape", "step", "()V"⟩, 6) := ⟨⟨by decide +kernel, by decide +kernel⟩, List.mem_of_getElem? (i := 83) (by decide +kernel), List.mem_of_getElem? (i := 456) (by decide +kernel), List.mem_of_getElem? (i := 457) (by decide +kernel)⟩
theorem lw_p10 : lw_okq (⟨"NinthAir$Tape", "tellItem", "(LNinthAir$Night;)Z"⟩, 6) := ⟨⟨by decide +kernel, by decide +kernel⟩, List.mem_of_getElem? (i := 83) (by decide +kernel), List.mem_of_getElem? (i := 463) (by decide +kernel), List.mem_of_getElem? (i := 464) (by decide +kernel)⟩
theorem lw_p11 : lw_okq (⟨"NinthAir$Tape", "kindNamed", "()I"⟩, 6) := ⟨⟨by decide +kernel, by decide +kernel⟩, List.mem_of_getElem? (i := 83) (by decide +kernel), List.mem_of_getElem? (i := 467) (by decide +kernel), List.mem_of_getElem? (i := 468) (by decide +kernel)⟩
theorem lw_p12 : lw_okq (⟨"NinthAir$Tape", "isWord", "(Ljava/lang/String;)Z"⟩, 6) := ⟨⟨by decide +kernel, by decide +kernel⟩, List.mem_of_getElem? (i := 83) (by decide +kernel), List.mem_of_getElem? (i := 472) (by decide +kernel), List.mem_of_getElem? (i := 473) (by decide +kernel)⟩
theorem lw_p13 : lw_okq (⟨"NinthAir$Tape", "tellOne", "(LNinthAir$Night;I)Z"⟩, 6) := ⟨⟨by decide +kernel, by decide +kernel⟩, List.mem_of_getElem? (i := 83) (by decide +kernel), List.mem_of_getElem? (i := 529) (by decide +kernel), List.mem_of_getElem? (i := 530) (by decide +kernel)⟩
theorem lw_p14 : lw_okq (⟨"NinthAir$Tape", "isNumber", "(II)Z"⟩, 6) := ⟨⟨by decide +kernel, by decide +kernel⟩, List.mem_of_getElem? (i := 83) (by decide +kernel), List.mem_of_getElem? (i := 535) (by decide +kernel), List.mem_of_getElem? (i := 536) (by decide +kernel)⟩
theorem lw_p15 : lw_okq (⟨"NinthAir$Tape", "tellRoom", "(LNinthAir$Night;)Z"⟩, 6) := ⟨⟨by decide +kernel, by decide +kernel⟩, List.mem_of_getElem? (i := 83) (by decide +kernel), List.mem_of_getElem? (i := 544) (by decide +kernel), List.mem_of_getElem? (i := 545) (by decide +kernel)⟩
def lw_privs_1 : List (MethodName × Nat) := [(⟨"NinthAir", "finding", "(I)I"⟩, 7), (⟨"NinthAir$Night", "otherVoices", "(I)I"⟩, 13), (⟨"NinthAir", "nobody", "(I)Z"⟩, 7), (⟨"NinthAir$Night", "freeze", "()V"⟩, 13), (⟨"NinthAir$Night", "burn", "()V"⟩, 13), (⟨"NinthAir$Night", "mix", "()V"⟩, 13), (⟨"NinthAir$Night", "breathe", "()I"⟩, 13), (⟨"NinthAir", "startAhead", "()LNinthAir$Night;"⟩, 7), (⟨"NinthAir", "twoFiresDo", "(IIII)Z"⟩, 7), (⟨"NinthAir$Tape", "step", "()V"⟩, 6), (⟨"NinthAir$Tape", "tellItem", "(LNinthAir$Night;)Z"⟩, 6), (⟨"NinthAir$Tape", "kindNamed", "()I"⟩, 6), (⟨"NinthAir$Tape", "isWord", "(Ljava/lang/String;)Z"⟩, 6), (⟨"NinthAir$Tape", "tellOne", "(LNinthAir$Night;I)Z"⟩, 6), (⟨"NinthAir$Tape", "isNumber", "(II)Z"⟩, 6), (⟨"NinthAir$Tape", "tellRoom", "(LNinthAir$Night;)Z"⟩, 6)]
theorem lw_r1 : ∀ q ∈ lw_privs_1, lw_okq q := List.forall_mem_cons.mpr ⟨lw_p0, List.forall_mem_cons.mpr ⟨lw_p1, List.forall_mem_cons.mpr ⟨lw_p2, List.forall_mem_cons.mpr ⟨lw_p3, List.forall_mem_cons.mpr ⟨lw_p4, List.forall_mem_cons.mpr ⟨lw_p5, List.forall_mem_cons.mpr ⟨lw_p6, List.forall_mem_cons.mpr ⟨lw_p7, List.forall_mem_cons.mpr ⟨lw_p8, List.forall_mem_cons.mpr ⟨lw_p9, List.forall_mem_cons.mpr ⟨lw_p10, List.forall_mem_cons.mpr ⟨lw_p11, List.forall_mem_cons.mpr ⟨lw_p12, List.forall_mem_cons.mpr ⟨lw_p13, List.forall_mem_cons.mpr ⟨lw_p14, List.forall_mem_cons.mpr ⟨lw_p15, fun _ h => absurd h List.not_mem_nil⟩⟩⟩⟩⟩⟩⟩⟩⟩⟩⟩⟩⟩⟩⟩⟩
theorem lw_p16 : lw_okq (⟨"NinthAir$Tape", "mayTell", "(Ljava/lang/String;LNinthAir$Night;II)Z"⟩, 6) := ⟨⟨by decide +kernel, by decide +kernel⟩, List.mem_of_getElem? (i := 83) (by decide +kernel), List.mem_of_getElem? (i := 549) (by decide +kernel), List.mem_of_getElem? (i := 550) (by decide +kernel)⟩
theorem lw_p17 : lw_okq (⟨"NinthAir$Tape", "tellDoor", "(LNinthAir$Night;I)Z"⟩, 6) := ⟨⟨by decide +kernel, by decide +kernel⟩, List.mem_of_getElem? (i := 83) (by decide +kernel), List.mem_of_getElem? (i := 559) (by decide +kernel), List.mem_of_getElem? (i := 560) (by decide +kernel)⟩
theorem lw_p18 : lw_okq (⟨"NinthAir$Tape", "tellCold", "(LNinthAir$Night;I)Z"⟩, 6) := ⟨⟨by decide +kernel, by decide +kernel⟩, List.mem_of_getElem? (i := 83) (by decide +kernel), List.mem_of_getElem? (i := 566) (by decide +kernel), List.mem_of_getElem? (i := 567) (by decide +kernel)⟩
theorem lw_p19 : lw_okq (⟨"NinthAirModel", "finds", "(I)I"⟩, 18) := ⟨⟨by decide +kernel, by decide +kernel⟩, List.mem_of_getElem? (i := 643) (by decide +kernel), List.mem_of_getElem? (i := 718) (by decide +kernel), List.mem_of_getElem? (i := 719) (by decide +kernel)⟩
theorem lw_p20 : lw_okq (⟨"NinthAirModel", "there", "(II)I"⟩, 18) := ⟨⟨by decide +kernel, by decide +kernel⟩, List.mem_of_getElem? (i := 643) (by decide +kernel), List.mem_of_getElem? (i := 722) (by decide +kernel), List.mem_of_getElem? (i := 723) (by decide +kernel)⟩
theorem lw_p21 : lw_okq (⟨"NinthAirModel", "lies", "(III)V"⟩, 18) := ⟨⟨by decide +kernel, by decide +kernel⟩, List.mem_of_getElem? (i := 643) (by decide +kernel), List.mem_of_getElem? (i := 726) (by decide +kernel), List.mem_of_getElem? (i := 727) (by decide +kernel)⟩
theorem lw_p22 : lw_okq (⟨"NinthAirModel", "inside", "(I)I"⟩, 18) := ⟨⟨by decide +kernel, by decide +kernel⟩, List.mem_of_getElem? (i := 643) (by decide +kernel), List.mem_of_getElem? (i := 734) (by decide +kernel), List.mem_of_getElem? (i := 735) (by decide +kernel)⟩
theorem lw_p23 : lw_okq (⟨"NinthAirModel", "its", "(II)I"⟩, 18) := ⟨⟨by decide +kernel, by decide +kernel⟩, List.mem_of_getElem? (i := 643) (by decide +kernel), List.mem_of_getElem? (i := 738) (by decide +kernel), List.mem_of_getElem? (i := 739) (by decide +kernel)⟩
theorem lw_p24 : lw_okq (⟨"NinthAirModel", "breathedIn", "(I)I"⟩, 18) := ⟨⟨by decide +kernel, by decide +kernel⟩, List.mem_of_getElem? (i := 643) (by decide +kernel), List.mem_of_getElem? (i := 742) (by decide +kernel), List.mem_of_getElem? (i := 743) (by decide +kernel)⟩
theorem lw_p25 : lw_okq (⟨"NinthAirModel", "breathes", "(I)I"⟩, 18) := ⟨⟨by decide +kernel, by decide +kernel⟩, List.mem_of_getElem? (i := 643) (by decide +kernel), List.mem_of_getElem? (i := 746) (by decide +kernel), List.mem_of_getElem? (i := 747) (by decide +kernel)⟩
theorem lw_p26 : lw_okq (⟨"NinthAirModel", "singers", "(I)I"⟩, 18) := ⟨⟨by decide +kernel, by decide +kernel⟩, List.mem_of_getElem? (i := 643) (by decide +kernel), List.mem_of_getElem? (i := 750) (by decide +kernel), List.mem_of_getElem? (i := 751) (by decide +kernel)⟩
theorem lw_p27 : lw_okq (⟨"NinthAirModel", "opens", "(II)V"⟩, 18) := ⟨⟨by decide +kernel, by decide +kernel⟩, List.mem_of_getElem? (i := 643) (by decide +kernel), List.mem_of_getElem? (i := 758) (by decide +kernel), List.mem_of_getElem? (i := 759) (by decide +kernel)⟩
theorem lw_p28 : lw_okq (⟨"NinthAirModel", "addOne", "(III)V"⟩, 18) := ⟨⟨by decide +kernel, by decide +kernel⟩, List.mem_of_getElem? (i := 643) (by decide +kernel), List.mem_of_getElem? (i := 774) (by decide +kernel), List.mem_of_getElem? (i := 775) (by decide +kernel)⟩
theorem lw_p29 : lw_okq (⟨"NinthAirModel", "puts", "(III)V"⟩, 18) := ⟨⟨by decide +kernel, by decide +kernel⟩, List.mem_of_getElem? (i := 643) (by decide +kernel), List.mem_of_getElem? (i := 778) (by decide +kernel), List.mem_of_getElem? (i := 779) (by decide +kernel)⟩
theorem lw_p30 : lw_okq (⟨"NinthAirModel", "isOne", "(I)Z"⟩, 18) := ⟨⟨by decide +kernel, by decide +kernel⟩, List.mem_of_getElem? (i := 643) (by decide +kernel), List.mem_of_getElem? (i := 786) (by decide +kernel), List.mem_of_getElem? (i := 787) (by decide +kernel)⟩
theorem lw_p31 : lw_okq (⟨"NinthAirModel", "leaves", "(I)V"⟩, 18) := ⟨⟨by decide +kernel, by decide +kernel⟩, List.mem_of_getElem? (i := 643) (by decide +kernel), List.mem_of_getElem? (i := 807) (by decide +kernel), List.mem_of_getElem? (i := 808) (by decide +kernel)⟩
def lw_privs_2 : List (MethodName × Nat) := [(⟨"NinthAir$Tape", "mayTell", "(Ljava/lang/String;LNinthAir$Night;II)Z"⟩, 6), (⟨"NinthAir$Tape", "tellDoor", "(LNinthAir$Night;I)Z"⟩, 6), (⟨"NinthAir$Tape", "tellCold", "(LNinthAir$Night;I)Z"⟩, 6), (⟨"NinthAirModel", "finds", "(I)I"⟩, 18), (⟨"NinthAirModel", "there", "(II)I"⟩, 18), (⟨"NinthAirModel", "lies", "(III)V"⟩, 18), (⟨"NinthAirModel", "inside", "(I)I"⟩, 18), (⟨"NinthAirModel", "its", "(II)I"⟩, 18), (⟨"NinthAirModel", "breathedIn", "(I)I"⟩, 18), (⟨"NinthAirModel", "breathes", "(I)I"⟩, 18), (⟨"NinthAirModel", "singers", "(I)I"⟩, 18), (⟨"NinthAirModel", "opens", "(II)V"⟩, 18), (⟨"NinthAirModel", "addOne", "(III)V"⟩, 18), (⟨"NinthAirModel", "puts", "(III)V"⟩, 18), (⟨"NinthAirModel", "isOne", "(I)Z"⟩, 18), (⟨"NinthAirModel", "leaves", "(I)V"⟩, 18)]
theorem lw_r2 : ∀ q ∈ lw_privs_2, lw_okq q := List.forall_mem_cons.mpr ⟨lw_p16, List.forall_mem_cons.mpr ⟨lw_p17, List.forall_mem_cons.mpr ⟨lw_p18, List.forall_mem_cons.mpr ⟨lw_p19, List.forall_mem_cons.mpr ⟨lw_p20, List.forall_mem_cons.mpr ⟨lw_p21, List.forall_mem_cons.mpr ⟨lw_p22, List.forall_mem_cons.mpr ⟨lw_p23, List.forall_mem_cons.mpr ⟨lw_p24, List.forall_mem_cons.mpr ⟨lw_p25, List.forall_mem_cons.mpr ⟨lw_p26, List.forall_mem_cons.mpr ⟨lw_p27, List.forall_mem_cons.mpr ⟨lw_p28, List.forall_mem_cons.mpr ⟨lw_p29, List.forall_mem_cons.mpr ⟨lw_p30, List.forall_mem_cons.mpr ⟨lw_p31, fun _ h => absurd h List.not_mem_nil⟩⟩⟩⟩⟩⟩⟩⟩⟩⟩⟩⟩⟩⟩⟩⟩
theorem lw_p32 : lw_okq (⟨"NinthAirModel", "oneHour", "()V"⟩, 18) := ⟨⟨by decide +kernel, by decide +kernel⟩, List.mem_of_getElem? (i := 643) (by decide +kernel), List.mem_of_getElem? (i := 816) (by decide +kernel), List.mem_of_getElem? (i := 817) (by decide +kernel)⟩
theorem lw_p33 : lw_okq (⟨"NinthAirModel", "freezes", "(I)V"⟩, 18) := ⟨⟨by decide +kernel, by decide +kernel⟩, List.mem_of_getElem? (i := 643) (by decide +kernel), List.mem_of_getElem? (i := 820) (by decide +kernel), List.mem_of_getElem? (i := 821) (by decide +kernel)⟩
theorem lw_p34 : lw_okq (⟨"NinthAirModel", "thaws", "(I)V"⟩, 18) := ⟨⟨by decide +kernel, by decide +kernel⟩, List.mem_of_getElem? (i := 643) (by decide +kernel), List.mem_of_getElem? (i := 824) (by decide +kernel), List.mem_of_getElem? (i := 825) (by decide +kernel)⟩
theorem lw_p35 : lw_okq (⟨"NinthAirModel", "draughts", "(I)V"⟩, 18) := ⟨⟨by decide +kernel, by decide +kernel⟩, List.mem_of_getElem? (i := 643) (by decide +kernel), List.mem_of_getElem? (i := 831) (by decide +kernel), List.mem_of_getElem? (i := 832) (by decide +kernel)⟩
theorem lw_p36 : lw_okq (⟨"NinthAirModel", "breathe", "(I)V"⟩, 18) := ⟨⟨by decide +kernel, by decide +kernel⟩, List.mem_of_getElem? (i := 643) (by decide +kernel), List.mem_of_getElem? (i := 835) (by decide +kernel), List.mem_of_getElem? (i := 836) (by decide +kernel)⟩
theorem lw_p37 : lw_okq (⟨"NinthAirModel", "sumOf", "(I)I"⟩, 18) := ⟨⟨by decide +kernel, by decide +kernel⟩, List.mem_of_getElem? (i := 643) (by decide +kernel), List.mem_of_getElem? (i := 839) (by decide +kernel), List.mem_of_getElem? (i := 840) (by decide +kernel)⟩
theorem lw_p38 : lw_okq (⟨"NinthAirModel", "stifled", "()I"⟩, 18) := ⟨⟨by decide +kernel, by decide +kernel⟩, List.mem_of_getElem? (i := 643) (by decide +kernel), List.mem_of_getElem? (i := 847) (by decide +kernel), List.mem_of_getElem? (i := 848) (by decide +kernel)⟩
theorem lw_p39 : lw_okq (⟨"NinthAirModel", "allBreathe", "()I"⟩, 18) := ⟨⟨by decide +kernel, by decide +kernel⟩, List.mem_of_getElem? (i := 643) (by decide +kernel), List.mem_of_getElem? (i := 851) (by decide +kernel), List.mem_of_getElem? (i := 852) (by decide +kernel)⟩
theorem lw_p40 : lw_okq (⟨"NinthAirModel", "moveAll", "(Z[I)V"⟩, 18) := ⟨⟨by decide +kernel, by decide +kernel⟩, List.mem_of_getElem? (i := 643) (by decide +kernel), List.mem_of_getElem? (i := 859) (by decide +kernel), List.mem_of_getElem? (i := 860) (by decide +kernel)⟩
theorem lw_p41 : lw_okq (⟨"NinthAirModel", "passes", "(I)V"⟩, 18) := ⟨⟨by decide +kernel, by decide +kernel⟩, List.mem_of_getElem? (i := 643) (by decide +kernel), List.mem_of_getElem? (i := 863) (by decide +kernel), List.mem_of_getElem? (i := 864) (by decide +kernel)⟩
theorem lw_p42 : lw_okq (⟨"NinthAirModel", "untilOf", "(I)I"⟩, 18) := ⟨⟨by decide +kernel, by decide +kernel⟩, List.mem_of_getElem? (i := 643) (by decide +kernel), List.mem_of_getElem? (i := 871) (by decide +kernel), List.mem_of_getElem? (i := 872) (by decide +kernel)⟩
theorem lw_p43 : lw_okq (⟨"NinthAirModel", "wellOnes", "()I"⟩, 18) := ⟨⟨by decide +kernel, by decide +kernel⟩, List.mem_of_getElem? (i := 643) (by decide +kernel), List.mem_of_getElem? (i := 880) (by decide +kernel), List.mem_of_getElem? (i := 881) (by decide +kernel)⟩
theorem lw_p44 : lw_okq (⟨"NinthAirModel", "wellFor", "()I"⟩, 18) := ⟨⟨by decide +kernel, by decide +kernel⟩, List.mem_of_getElem? (i := 643) (by decide +kernel), List.mem_of_getElem? (i := 888) (by decide +kernel), List.mem_of_getElem? (i := 889) (by decide +kernel)⟩
theorem lw_p45 : lw_okq (⟨"NinthAirModel", "stifledOn", "(I)I"⟩, 18) := ⟨⟨by decide +kernel, by decide +kernel⟩, List.mem_of_getElem? (i := 643) (by decide +kernel), List.mem_of_getElem? (i := 903) (by decide +kernel), List.mem_of_getElem? (i := 904) (by decide +kernel)⟩
theorem lw_p46 : lw_okq (⟨"NinthAirModel", "isWell", "(I)Z"⟩, 18) := ⟨⟨by decide +kernel, by decide +kernel⟩, List.mem_of_getElem? (i := 643) (by decide +kernel), List.mem_of_getElem? (i := 914) (by decide +kernel), List.mem_of_getElem? (i := 915) (by decide +kernel)⟩
theorem lw_p47 : lw_okq (⟨"NinthAirModel", "greatest", "(I)I"⟩, 18) := ⟨⟨by decide +kernel, by decide +kernel⟩, List.mem_of_getElem? (i := 643) (by decide +kernel), List.mem_of_getElem? (i := 938) (by decide +kernel), List.mem_of_getElem? (i := 939) (by decide +kernel)⟩
def lw_privs_3 : List (MethodName × Nat) := [(⟨"NinthAirModel", "oneHour", "()V"⟩, 18), (⟨"NinthAirModel", "freezes", "(I)V"⟩, 18), (⟨"NinthAirModel", "thaws", "(I)V"⟩, 18), (⟨"NinthAirModel", "draughts", "(I)V"⟩, 18), (⟨"NinthAirModel", "breathe", "(I)V"⟩, 18), (⟨"NinthAirModel", "sumOf", "(I)I"⟩, 18), (⟨"NinthAirModel", "stifled", "()I"⟩, 18), (⟨"NinthAirModel", "allBreathe", "()I"⟩, 18), (⟨"NinthAirModel", "moveAll", "(Z[I)V"⟩, 18), (⟨"NinthAirModel", "passes", "(I)V"⟩, 18), (⟨"NinthAirModel", "untilOf", "(I)I"⟩, 18), (⟨"NinthAirModel", "wellOnes", "()I"⟩, 18), (⟨"NinthAirModel", "wellFor", "()I"⟩, 18), (⟨"NinthAirModel", "stifledOn", "(I)I"⟩, 18), (⟨"NinthAirModel", "isWell", "(I)Z"⟩, 18), (⟨"NinthAirModel", "greatest", "(I)I"⟩, 18)]
theorem lw_r3 : ∀ q ∈ lw_privs_3, lw_okq q := List.forall_mem_cons.mpr ⟨lw_p32, List.forall_mem_cons.mpr ⟨lw_p33, List.forall_mem_cons.mpr ⟨lw_p34, List.forall_mem_cons.mpr ⟨lw_p35, List.forall_mem_cons.mpr ⟨lw_p36, List.forall_mem_cons.mpr ⟨lw_p37, List.forall_mem_cons.mpr ⟨lw_p38, List.forall_mem_cons.mpr ⟨lw_p39, List.forall_mem_cons.mpr ⟨lw_p40, List.forall_mem_cons.mpr ⟨lw_p41, List.forall_mem_cons.mpr ⟨lw_p42, List.forall_mem_cons.mpr ⟨lw_p43, List.forall_mem_cons.mpr ⟨lw_p44, List.forall_mem_cons.mpr ⟨lw_p45, List.forall_mem_cons.mpr ⟨lw_p46, List.forall_mem_cons.mpr ⟨lw_p47, fun _ h => absurd h List.not_mem_nil⟩⟩⟩⟩⟩⟩⟩⟩⟩⟩⟩⟩⟩⟩⟩⟩
theorem lw_p48 : lw_okq (⟨"NinthAirModel", "frostOf", "(I)I"⟩, 18) := ⟨⟨by decide +kernel, by decide +kernel⟩, List.mem_of_getElem? (i := 643) (by decide +kernel), List.mem_of_getElem? (i := 951) (by decide +kernel), List.mem_of_getElem? (i := 952) (by decide +kernel)⟩
theorem lw_p49 : lw_okq (⟨"NinthAirModel", "advance", "()V"⟩, 18) := ⟨⟨by decide +kernel, by decide +kernel⟩, List.mem_of_getElem? (i := 643) (by decide +kernel), List.mem_of_getElem? (i := 979) (by decide +kernel), List.mem_of_getElem? (i := 980) (by decide +kernel)⟩
theorem lw_p50 : lw_okq (⟨"NinthAirModel", "byteAt", "(I)I"⟩, 18) := ⟨⟨by decide +kernel, by decide +kernel⟩, List.mem_of_getElem? (i := 643) (by decide +kernel), List.mem_of_getElem? (i := 983) (by decide +kernel), List.mem_of_getElem? (i := 984) (by decide +kernel)⟩
theorem lw_p51 : lw_okq (⟨"NinthAirModel", "wantItem", "()V"⟩, 18) := ⟨⟨by decide +kernel, by decide +kernel⟩, List.mem_of_getElem? (i := 643) (by decide +kernel), List.mem_of_getElem? (i := 996) (by decide +kernel), List.mem_of_getElem? (i := 997) (by decide +kernel)⟩
theorem lw_p52 : lw_okq (⟨"NinthAirModel", "kindHere", "()I"⟩, 18) := ⟨⟨by decide +kernel, by decide +kernel⟩, List.mem_of_getElem? (i := 643) (by decide +kernel), List.mem_of_getElem? (i := 1000) (by decide +kernel), List.mem_of_getElem? (i := 1001) (by decide +kernel)⟩
theorem lw_p53 : lw_okq (⟨"NinthAirModel", "isWord", "(J)Z"⟩, 18) := ⟨⟨by decide +kernel, by decide +kernel⟩, List.mem_of_getElem? (i := 643) (by decide +kernel), List.mem_of_getElem? (i := 1005) (by decide +kernel), List.mem_of_getElem? (i := 1006) (by decide +kernel)⟩
theorem lw_p54 : lw_okq (⟨"NinthAirModel", "wantOne", "(I)V"⟩, 18) := ⟨⟨by decide +kernel, by decide +kernel⟩, List.mem_of_getElem? (i := 643) (by decide +kernel), List.mem_of_getElem? (i := 1014) (by decide +kernel), List.mem_of_getElem? (i := 1015) (by decide +kernel)⟩
theorem lw_p55 : lw_okq (⟨"NinthAirModel", "wantNumber", "(II)I"⟩, 18) := ⟨⟨by decide +kernel, by decide +kernel⟩, List.mem_of_getElem? (i := 643) (by decide +kernel), List.mem_of_getElem? (i := 1019) (by decide +kernel), List.mem_of_getElem? (i := 1020) (by decide +kernel)⟩
theorem lw_p56 : lw_okq (⟨"NinthAirModel", "mayWant", "(JIII)I"⟩, 18) := ⟨⟨by decide +kernel, by decide +kernel⟩, List.mem_of_getElem? (i := 643) (by decide +kernel), List.mem_of_getElem? (i := 1024) (by decide +kernel), List.mem_of_getElem? (i := 1025) (by decide +kernel)⟩
theorem lw_p57 : lw_okq (⟨"NinthAirModel", "wantRoom", "()V"⟩, 18) := ⟨⟨by decide +kernel, by decide +kernel⟩, List.mem_of_getElem? (i := 643) (by decide +kernel), List.mem_of_getElem? (i := 1029) (by decide +kernel), List.mem_of_getElem? (i := 1030) (by decide +kernel)⟩
theorem lw_p58 : lw_okq (⟨"NinthAirModel", "wantDoor", "(I)V"⟩, 18) := ⟨⟨by decide +kernel, by decide +kernel⟩, List.mem_of_getElem? (i := 643) (by decide +kernel), List.mem_of_getElem? (i := 1038) (by decide +kernel), List.mem_of_getElem? (i := 1039) (by decide +kernel)⟩
theorem lw_p59 : lw_okq (⟨"NinthAirModel", "isPart", "(III)Z"⟩, 18) := ⟨⟨by decide +kernel, by decide +kernel⟩, List.mem_of_getElem? (i := 643) (by decide +kernel), List.mem_of_getElem? (i := 1065) (by decide +kernel), List.mem_of_getElem? (i := 1066) (by decide +kernel)⟩
theorem lw_p60 : lw_okq (⟨"NinthAirModel", "badSheet", "(I)I"⟩, 18) := ⟨⟨by decide +kernel, by decide +kernel⟩, List.mem_of_getElem? (i := 643) (by decide +kernel), List.mem_of_getElem? (i := 1073) (by decide +kernel), List.mem_of_getElem? (i := 1074) (by decide +kernel)⟩
theorem lw_p61 : lw_okq (⟨"NinthAirModel", "isSo", "(II)Z"⟩, 18) := ⟨⟨by decide +kernel, by decide +kernel⟩, List.mem_of_getElem? (i := 643) (by decide +kernel), List.mem_of_getElem? (i := 1086) (by decide +kernel), List.mem_of_getElem? (i := 1087) (by decide +kernel)⟩
def lw_privs_4 : List (MethodName × Nat) := [(⟨"NinthAirModel", "frostOf", "(I)I"⟩, 18), (⟨"NinthAirModel", "advance", "()V"⟩, 18), (⟨"NinthAirModel", "byteAt", "(I)I"⟩, 18), (⟨"NinthAirModel", "wantItem", "()V"⟩, 18), (⟨"NinthAirModel", "kindHere", "()I"⟩, 18), (⟨"NinthAirModel", "isWord", "(J)Z"⟩, 18), (⟨"NinthAirModel", "wantOne", "(I)V"⟩, 18), (⟨"NinthAirModel", "wantNumber", "(II)I"⟩, 18), (⟨"NinthAirModel", "mayWant", "(JIII)I"⟩, 18), (⟨"NinthAirModel", "wantRoom", "()V"⟩, 18), (⟨"NinthAirModel", "wantDoor", "(I)V"⟩, 18), (⟨"NinthAirModel", "isPart", "(III)Z"⟩, 18), (⟨"NinthAirModel", "badSheet", "(I)I"⟩, 18), (⟨"NinthAirModel", "isSo", "(II)Z"⟩, 18)]
theorem lw_r4 : ∀ q ∈ lw_privs_4, lw_okq q := List.forall_mem_cons.mpr ⟨lw_p48, List.forall_mem_cons.mpr ⟨lw_p49, List.forall_mem_cons.mpr ⟨lw_p50, List.forall_mem_cons.mpr ⟨lw_p51, List.forall_mem_cons.mpr ⟨lw_p52, List.forall_mem_cons.mpr ⟨lw_p53, List.forall_mem_cons.mpr ⟨lw_p54, List.forall_mem_cons.mpr ⟨lw_p55, List.forall_mem_cons.mpr ⟨lw_p56, List.forall_mem_cons.mpr ⟨lw_p57, List.forall_mem_cons.mpr ⟨lw_p58, List.forall_mem_cons.mpr ⟨lw_p59, List.forall_mem_cons.mpr ⟨lw_p60, List.forall_mem_cons.mpr ⟨lw_p61, fun _ h => absurd h List.not_mem_nil⟩⟩⟩⟩⟩⟩⟩⟩⟩⟩⟩⟩⟩⟩
def lw_privs : List (MethodName × Nat) := lw_privs_1 ++ (lw_privs_2 ++ (lw_privs_3 ++ (lw_privs_4)))
def lw_tbl : List Cond := k2_sels lw_privs ++ tables_1
theorem lw_privs_ok : ∀ q ∈ lw_privs, lw_okq q := by
  show ∀ q ∈ lw_privs_1 ++ (lw_privs_2 ++ (lw_privs_3 ++ (lw_privs_4))), lw_okq q
  exact List.forall_mem_append.mpr ⟨lw_r1, List.forall_mem_append.mpr ⟨lw_r2, List.forall_mem_append.mpr ⟨lw_r3, lw_r4⟩⟩⟩
-- ===== end of PART A; then your names; then what follows =====
def R_law : String := "NinthAirLaw"
def RX0 : String := "NinthAir$Night"
def TX0 : u_T := fun k => match k with
  | 0 => ("NinthAir$Night", "airs", "[I", true)
  | 1 => ("NinthAir$Night", "frosts", "[I", true)
  | 2 => ("NinthAir$Night", "fires", "[I", true)
  | 3 => ("NinthAir$Night", "tights", "[I", true)
  | 4 => ("NinthAir$Night", "openDoors", "I", false)
  | 5 => ("NinthAir$Night", "cold", "I", false)
  | 6 => ("NinthAir$Night", "hour", "I", false)
  | 7 => ("NinthAir$Night", "people", "I", false)
  | 8 => ("NinthAir$Night", "kinds", "[I", true)
  | 9 => ("NinthAir$Night", "places", "[I", true)
  | 10 => ("NinthAir$Night", "needs", "[I", true)
  | 11 => ("NinthAir$Night", "stays", "[I", true)
  | _ => ("NinthAir$Night", "stifled", "[I", true)
def tyX0 : Nat → FieldType := fun k => match k with
  | 0 => .array .int
  | 1 => .array .int
  | 2 => .array .int
  | 3 => .array .int
  | 4 => .int
  | 5 => .int
  | 6 => .int
  | 7 => .int
  | 8 => .array .int
  | 9 => .array .int
  | 10 => .array .int
  | 11 => .array .int
  | _ => .array .int
theorem nmX0 : ∀ a, a < 13 → ∀ b, b < 13 → a ≠ b → (TX0 a).2.1 ≠ (TX0 b).2.1 := by decide +kernel
theorem tyX0_ok : ∀ k, k < 13 → parseFieldDescriptor (TX0 k).2.2.1 = some (tyX0 k) := by decide +kernel
abbrev cX0_init : ByteArray := prog_2_method_1_code
def yX0_init : MethodName := ⟨RX0, "<init>", "()V"⟩
abbrev cX0_become : ByteArray := prog_2_method_2_code
def yX0_become : MethodName := ⟨RX0, "become", "(LNinthAir$Night;)V"⟩
abbrev cX0_rowOfRooms : ByteArray := prog_2_method_3_code
def yX0_rowOfRooms : MethodName := ⟨RX0, "rowOfRooms", "(I)[I"⟩
abbrev cX0_rowOfPeople : ByteArray := prog_2_method_4_code
def yX0_rowOfPeople : MethodName := ⟨RX0, "rowOfPeople", "(I)[I"⟩
abbrev cX0_turnDoor : ByteArray := prog_2_method_5_code
def yX0_turnDoor : MethodName := ⟨RX0, "turnDoor", "(II)I"⟩
abbrev cX0_isFull : ByteArray := prog_2_method_6_code
def yX0_isFull : MethodName := ⟨RX0, "isFull", "()Z"⟩
abbrev cX0_add : ByteArray := prog_2_method_7_code
def yX0_add : MethodName := ⟨RX0, "add", "(III)I"⟩
abbrev cX0_remove : ByteArray := prog_2_method_8_code
def yX0_remove : MethodName := ⟨RX0, "remove", "(I)V"⟩
abbrev cX0_peopleIn : ByteArray := prog_2_method_9_code
def yX0_peopleIn : MethodName := ⟨RX0, "peopleIn", "(I)I"⟩
abbrev cX0_stifledSet : ByteArray := prog_2_method_10_code
def yX0_stifledSet : MethodName := ⟨RX0, "stifledSet", "()I"⟩
abbrev cX0_breathIn : ByteArray := prog_2_method_11_code
def yX0_breathIn : MethodName := ⟨RX0, "breathIn", "(I)I"⟩
abbrev cX0_greatestBreathIn : ByteArray := prog_2_method_12_code
def yX0_greatestBreathIn : MethodName := ⟨RX0, "greatestBreathIn", "(I)I"⟩
abbrev cX0_frostIn : ByteArray := prog_2_method_13_code
def yX0_frostIn : MethodName := ⟨RX0, "frostIn", "(I)I"⟩
abbrev cX0_breathOf : ByteArray := prog_2_method_14_code
def yX0_breathOf : MethodName := ⟨RX0, "breathOf", "(I)I"⟩
abbrev cX0_otherVoices : ByteArray := prog_2_method_15_code
def yX0_otherVoices : MethodName := ⟨RX0, "otherVoices", "(I)I"⟩
abbrev cX0_passHours : ByteArray := prog_2_method_16_code
def yX0_passHours : MethodName := ⟨RX0, "passHours", "(I)V"⟩
abbrev cX0_passHour : ByteArray := prog_2_method_17_code
def yX0_passHour : MethodName := ⟨RX0, "passHour", "()I"⟩
abbrev cX0_freeze : ByteArray := prog_2_method_18_code
def yX0_freeze : MethodName := ⟨RX0, "freeze", "()V"⟩
abbrev cX0_burn : ByteArray := prog_2_method_19_code
def yX0_burn : MethodName := ⟨RX0, "burn", "()V"⟩
abbrev cX0_mix : ByteArray := prog_2_method_20_code
def yX0_mix : MethodName := ⟨RX0, "mix", "()V"⟩
abbrev cX0_breathe : ByteArray := prog_2_method_21_code
def yX0_breathe : MethodName := ⟨RX0, "breathe", "()I"⟩
abbrev cX0_wellHours : ByteArray := prog_2_method_22_code
def yX0_wellHours : MethodName := ⟨RX0, "wellHours", "(II)I"⟩
abbrev cX0_stifledAfter : ByteArray := prog_2_method_23_code
def yX0_stifledAfter : MethodName := ⟨RX0, "stifledAfter", "(I)I"⟩
abbrev cX0_goesAsTold : ByteArray := prog_2_method_24_code
def yX0_goesAsTold : MethodName := ⟨RX0, "goesAsTold", "(ILNinthAir$Sheet;)Z"⟩
def RX1 : String := "NinthAir$Sheet"
def TX1 : u_T := fun k => match k with
  | 0 => ("NinthAir$Sheet", "numbers", "[J", true)
  | 1 => ("NinthAir$Sheet", "bits", "I", false)
  | _ => ("NinthAir$Sheet", "length", "I", false)
def tyX1 : Nat → FieldType := fun k => match k with
  | 0 => .array .long
  | 1 => .int
  | _ => .int
theorem nmX1 : ∀ a, a < 3 → ∀ b, b < 3 → a ≠ b → (TX1 a).2.1 ≠ (TX1 b).2.1 := by decide +kernel
theorem tyX1_ok : ∀ k, k < 3 → parseFieldDescriptor (TX1 k).2.2.1 = some (tyX1 k) := by decide +kernel
abbrev cX1_init : ByteArray := prog_3_method_1_code
def yX1_init : MethodName := ⟨RX1, "<init>", "()V"⟩
abbrev cX1_isMissing : ByteArray := prog_3_method_2_code
def yX1_isMissing : MethodName := ⟨RX1, "isMissing", "()Z"⟩
abbrev cX1_start : ByteArray := prog_3_method_3_code
def yX1_start : MethodName := ⟨RX1, "start", "(II)V"⟩
abbrev cX1_put : ByteArray := prog_3_method_4_code
def yX1_put : MethodName := ⟨RX1, "put", "(IJ)V"⟩
abbrev cX1_hasStretch : ByteArray := prog_3_method_5_code
def yX1_hasStretch : MethodName := ⟨RX1, "hasStretch", "(II)Z"⟩
def RX2 : String := "NinthAir$Tape"
def TX2 : u_T := fun k => match k with
  | 0 => ("NinthAir$Tape", "bytes", "[I", true)
  | 1 => ("NinthAir$Tape", "length", "I", false)
  | 2 => ("NinthAir$Tape", "token", "I", false)
  | 3 => ("NinthAir$Tape", "start", "I", false)
  | 4 => ("NinthAir$Tape", "behind", "I", false)
  | _ => ("NinthAir$Tape", "number", "I", false)
def tyX2 : Nat → FieldType := fun k => match k with
  | 0 => .array .int
  | 1 => .int
  | 2 => .int
  | 3 => .int
  | 4 => .int
  | _ => .int
theorem nmX2 : ∀ a, a < 6 → ∀ b, b < 6 → a ≠ b → (TX2 a).2.1 ≠ (TX2 b).2.1 := by decide +kernel
theorem tyX2_ok : ∀ k, k < 6 → parseFieldDescriptor (TX2 k).2.2.1 = some (tyX2 k) := by decide +kernel
abbrev cX2_init : ByteArray := prog_4_method_1_code
def yX2_init : MethodName := ⟨RX2, "<init>", "()V"⟩
abbrev cX2_append : ByteArray := prog_4_method_2_code
def yX2_append : MethodName := ⟨RX2, "append", "(II)V"⟩
abbrev cX2_tell : ByteArray := prog_4_method_3_code
def yX2_tell : MethodName := ⟨RX2, "tell", "(LNinthAir$Night;)I"⟩
abbrev cX2_tellItem : ByteArray := prog_4_method_4_code
def yX2_tellItem : MethodName := ⟨RX2, "tellItem", "(LNinthAir$Night;)Z"⟩
abbrev cX2_kindNamed : ByteArray := prog_4_method_5_code
def yX2_kindNamed : MethodName := ⟨RX2, "kindNamed", "()I"⟩
abbrev cX2_tellOne : ByteArray := prog_4_method_6_code
def yX2_tellOne : MethodName := ⟨RX2, "tellOne", "(LNinthAir$Night;I)Z"⟩
abbrev cX2_tellRoom : ByteArray := prog_4_method_7_code
def yX2_tellRoom : MethodName := ⟨RX2, "tellRoom", "(LNinthAir$Night;)Z"⟩
abbrev cX2_mayTell : ByteArray := prog_4_method_8_code
def yX2_mayTell : MethodName := ⟨RX2, "mayTell", "(Ljava/lang/String;LNinthAir$Night;II)Z"⟩
abbrev cX2_tellDoor : ByteArray := prog_4_method_9_code
def yX2_tellDoor : MethodName := ⟨RX2, "tellDoor", "(LNinthAir$Night;I)Z"⟩
abbrev cX2_tellCold : ByteArray := prog_4_method_10_code
def yX2_tellCold : MethodName := ⟨RX2, "tellCold", "(LNinthAir$Night;I)Z"⟩
abbrev cX2_isWord : ByteArray := prog_4_method_11_code
def yX2_isWord : MethodName := ⟨RX2, "isWord", "(Ljava/lang/String;)Z"⟩
abbrev cX2_isNumber : ByteArray := prog_4_method_12_code
def yX2_isNumber : MethodName := ⟨RX2, "isNumber", "(II)Z"⟩
abbrev cX2_step : ByteArray := prog_4_method_13_code
def yX2_step : MethodName := ⟨RX2, "step", "()V"⟩
abbrev cX2_tokenBegunBy : ByteArray := prog_4_method_14_code
def yX2_tokenBegunBy : MethodName := ⟨RX2, "tokenBegunBy", "(I)I"⟩
def RX3 : String := "NinthAir"
def TX3 : u_T := fun k => match k with
  | 0 => ("NinthAir", "night", "LNinthAir$Night;", true)
  | 1 => ("NinthAir", "kept", "LNinthAir$Night;", true)
  | 2 => ("NinthAir", "ahead", "LNinthAir$Night;", true)
  | 3 => ("NinthAir", "imageKept", "Z", false)
  | 4 => ("NinthAir", "tape", "LNinthAir$Tape;", true)
  | 5 => ("NinthAir", "sheets", "[LNinthAir$Sheet;", true)
  | _ => ("NinthAir", "answered", "[I", true)
def tyX3 : Nat → FieldType := fun k => match k with
  | 0 => .object "NinthAir$Night"
  | 1 => .object "NinthAir$Night"
  | 2 => .object "NinthAir$Night"
  | 3 => .boolean
  | 4 => .object "NinthAir$Tape"
  | 5 => .array (.object "NinthAir$Sheet")
  | _ => .array .int
theorem nmX3 : ∀ a, a < 7 → ∀ b, b < 7 → a ≠ b → (TX3 a).2.1 ≠ (TX3 b).2.1 := by decide +kernel
theorem tyX3_ok : ∀ k, k < 7 → parseFieldDescriptor (TX3 k).2.2.1 = some (tyX3 k) := by decide +kernel
abbrev cX3_init : ByteArray := prog_1_method_1_code
def yX3_init : MethodName := ⟨RX3, "<init>", "()V"⟩
abbrev cX3_room : ByteArray := prog_1_method_2_code
def yX3_room : MethodName := ⟨RX3, "room", "(III)I"⟩
abbrev cX3_roomOf : ByteArray := prog_1_method_3_code
def yX3_roomOf : MethodName := ⟨RX3, "roomOf", "(II)I"⟩
abbrev cX3_door : ByteArray := prog_1_method_4_code
def yX3_door : MethodName := ⟨RX3, "door", "(II)I"⟩
abbrev cX3_cold : ByteArray := prog_1_method_5_code
def yX3_cold : MethodName := ⟨RX3, "cold", "(I)I"⟩
abbrev cX3_one : ByteArray := prog_1_method_6_code
def yX3_one : MethodName := ⟨RX3, "one", "(II)I"⟩
abbrev cX3_of : ByteArray := prog_1_method_7_code
def yX3_of : MethodName := ⟨RX3, "of", "(II)I"⟩
abbrev cX3_set : ByteArray := prog_1_method_8_code
def yX3_set : MethodName := ⟨RX3, "set", "(III)I"⟩
abbrev cX3_turn : ByteArray := prog_1_method_9_code
def yX3_turn : MethodName := ⟨RX3, "turn", "(II)I"⟩
abbrev cX3_as : ByteArray := prog_1_method_10_code
def yX3_as : MethodName := ⟨RX3, "as", "(II)I"⟩
abbrev cX3_goes : ByteArray := prog_1_method_11_code
def yX3_goes : MethodName := ⟨RX3, "goes", "(I)I"⟩
abbrev cX3_hours : ByteArray := prog_1_method_12_code
def yX3_hours : MethodName := ⟨RX3, "hours", "(I)I"⟩
abbrev cX3_now : ByteArray := prog_1_method_13_code
def yX3_now : MethodName := ⟨RX3, "now", "(I)I"⟩
abbrev cX3_on : ByteArray := prog_1_method_14_code
def yX3_on : MethodName := ⟨RX3, "on", "(III)I"⟩
abbrev cX3_when : ByteArray := prog_1_method_15_code
def yX3_when : MethodName := ⟨RX3, "when", "(I)I"⟩
abbrev cX3_first : ByteArray := prog_1_method_16_code
def yX3_first : MethodName := ⟨RX3, "first", "()I"⟩
abbrev cX3_well : ByteArray := prog_1_method_17_code
def yX3_well : MethodName := ⟨RX3, "well", "()I"⟩
abbrev cX3_doors : ByteArray := prog_1_method_18_code
def yX3_doors : MethodName := ⟨RX3, "doors", "()I"⟩
abbrev cX3_shut : ByteArray := prog_1_method_19_code
def yX3_shut : MethodName := ⟨RX3, "shut", "(I)I"⟩
abbrev cX3_fire : ByteArray := prog_1_method_20_code
def yX3_fire : MethodName := ⟨RX3, "fire", "(II)I"⟩
abbrev cX3_fires : ByteArray := prog_1_method_21_code
def yX3_fires : MethodName := ⟨RX3, "fires", "(III)I"⟩
abbrev cX3_sleep : ByteArray := prog_1_method_22_code
def yX3_sleep : MethodName := ⟨RX3, "sleep", "(I)I"⟩
abbrev cX3_kind : ByteArray := prog_1_method_23_code
def yX3_kind : MethodName := ⟨RX3, "kind", "(II)I"⟩
abbrev cX3_costs : ByteArray := prog_1_method_24_code
def yX3_costs : MethodName := ⟨RX3, "costs", "(II)I"⟩
abbrev cX3_share : ByteArray := prog_1_method_25_code
def yX3_share : MethodName := ⟨RX3, "share", "(II)J"⟩
abbrev cX3_swept : ByteArray := prog_1_method_26_code
def yX3_swept : MethodName := ⟨RX3, "swept", "(I)I"⟩
abbrev cX3_sweeps : ByteArray := prog_1_method_27_code
def yX3_sweeps : MethodName := ⟨RX3, "sweeps", "(I)I"⟩
abbrev cX3_owed : ByteArray := prog_1_method_28_code
def yX3_owed : MethodName := ⟨RX3, "owed", "()I"⟩
abbrev cX3_leaked : ByteArray := prog_1_method_29_code
def yX3_leaked : MethodName := ⟨RX3, "leaked", "(III)I"⟩
abbrev cX3_feed : ByteArray := prog_1_method_30_code
def yX3_feed : MethodName := ⟨RX3, "feed", "(II)I"⟩
abbrev cX3_wipe : ByteArray := prog_1_method_31_code
def yX3_wipe : MethodName := ⟨RX3, "wipe", "()I"⟩
abbrev cX3_text : ByteArray := prog_1_method_32_code
def yX3_text : MethodName := ⟨RX3, "text", "()I"⟩
abbrev cX3_sheet : ByteArray := prog_1_method_33_code
def yX3_sheet : MethodName := ⟨RX3, "sheet", "(III)I"⟩
abbrev cX3_write : ByteArray := prog_1_method_34_code
def yX3_write : MethodName := ⟨RX3, "write", "(IIJ)J"⟩
abbrev cX3_copy : ByteArray := prog_1_method_35_code
def yX3_copy : MethodName := ⟨RX3, "copy", "(IIIII)I"⟩
abbrev cX3_lays : ByteArray := prog_1_method_36_code
def yX3_lays : MethodName := ⟨RX3, "lays", "(I)I"⟩
abbrev cX3_book : ByteArray := prog_1_method_37_code
def yX3_book : MethodName := ⟨RX3, "book", "(II)I"⟩
abbrev cX3_read : ByteArray := prog_1_method_38_code
def yX3_read : MethodName := ⟨RX3, "read", "(II)I"⟩
abbrev cX3_image : ByteArray := prog_1_method_39_code
def yX3_image : MethodName := ⟨RX3, "image", "()I"⟩
abbrev cX3_undo : ByteArray := prog_1_method_40_code
def yX3_undo : MethodName := ⟨RX3, "undo", "()I"⟩
abbrev cX3_tear : ByteArray := prog_1_method_41_code
def yX3_tear : MethodName := ⟨RX3, "tear", "()I"⟩
abbrev cX3_count : ByteArray := prog_1_method_42_code
def yX3_count : MethodName := ⟨RX3, "count", "(I)I"⟩
abbrev cX3_status : ByteArray := prog_1_method_43_code
def yX3_status : MethodName := ⟨RX3, "status", "(I)I"⟩
abbrev cX3_finding : ByteArray := prog_1_method_44_code
def yX3_finding : MethodName := ⟨RX3, "finding", "(I)I"⟩
abbrev cX3_nobody : ByteArray := prog_1_method_45_code
def yX3_nobody : MethodName := ⟨RX3, "nobody", "(I)Z"⟩
abbrev cX3_startAhead : ByteArray := prog_1_method_46_code
def yX3_startAhead : MethodName := ⟨RX3, "startAhead", "()LNinthAir$Night;"⟩
abbrev cX3_twoFiresDo : ByteArray := prog_1_method_47_code
def yX3_twoFiresDo : MethodName := ⟨RX3, "twoFiresDo", "(IIII)Z"⟩
abbrev cX3_outside : ByteArray := prog_1_method_48_code
def yX3_outside : MethodName := ⟨RX3, "outside", "(III)Z"⟩
abbrev cX3_noRoom : ByteArray := prog_1_method_49_code
def yX3_noRoom : MethodName := ⟨RX3, "noRoom", "(I)Z"⟩
abbrev cX3_noKind : ByteArray := prog_1_method_50_code
def yX3_noKind : MethodName := ⟨RX3, "noKind", "(I)Z"⟩
abbrev cX3_noSheet : ByteArray := prog_1_method_51_code
def yX3_noSheet : MethodName := ⟨RX3, "noSheet", "(I)Z"⟩
abbrev cX3_isKindOf : ByteArray := prog_1_method_52_code
def yX3_isKindOf : MethodName := ⟨RX3, "isKindOf", "(II)Z"⟩
abbrev cX3_has : ByteArray := prog_1_method_53_code
def yX3_has : MethodName := ⟨RX3, "has", "(II)Z"⟩
abbrev cX3_exchange : ByteArray := prog_1_method_54_code
def yX3_exchange : MethodName := ⟨RX3, "exchange", "([III)I"⟩
abbrev cX3_sum : ByteArray := prog_1_method_55_code
def yX3_sum : MethodName := ⟨RX3, "sum", "([II)I"⟩
def RX4 : String := "NinthAirModel"
def TX4 : u_T := fun k => match k with
  | 0 => ("NinthAirModel", "row", "[I", true)
  | 1 => ("NinthAirModel", "found", "[I", true)
  | 2 => ("NinthAirModel", "tried", "[I", true)
  | 3 => ("NinthAirModel", "tape", "[I", true)
  | 4 => ("NinthAirModel", "tapeMany", "I", false)
  | 5 => ("NinthAirModel", "sort", "I", false)
  | 6 => ("NinthAirModel", "begins", "I", false)
  | 7 => ("NinthAirModel", "tokenEnds", "I", false)
  | 8 => ("NinthAirModel", "word", "J", false)
  | 9 => ("NinthAirModel", "value", "I", false)
  | 10 => ("NinthAirModel", "good", "Z", false)
  | 11 => ("NinthAirModel", "bitsOf", "[I", true)
  | 12 => ("NinthAirModel", "sizeOf", "[I", true)
  | 13 => ("NinthAirModel", "sheets", "[J", true)
  | 14 => ("NinthAirModel", "lent", "[J", true)
  | 15 => ("NinthAirModel", "image", "[I", true)
  | 16 => ("NinthAirModel", "before", "[I", true)
  | _ => ("NinthAirModel", "isKept", "Z", false)
def tyX4 : Nat → FieldType := fun k => match k with
  | 0 => .array .int
  | 1 => .array .int
  | 2 => .array .int
  | 3 => .array .int
  | 4 => .int
  | 5 => .int
  | 6 => .int
  | 7 => .int
  | 8 => .long
  | 9 => .int
  | 10 => .boolean
  | 11 => .array .int
  | 12 => .array .int
  | 13 => .array .long
  | 14 => .array .long
  | 15 => .array .int
  | 16 => .array .int
  | _ => .boolean
theorem nmX4 : ∀ a, a < 18 → ∀ b, b < 18 → a ≠ b → (TX4 a).2.1 ≠ (TX4 b).2.1 := by decide +kernel
theorem tyX4_ok : ∀ k, k < 18 → parseFieldDescriptor (TX4 k).2.2.1 = some (tyX4 k) := by decide +kernel
abbrev cX4_init : ByteArray := prog_6_method_1_code
def yX4_init : MethodName := ⟨RX4, "<init>", "()V"⟩
abbrev cX4_in : ByteArray := prog_6_method_2_code
def yX4_in : MethodName := ⟨RX4, "in", "(III)Z"⟩
abbrev cX4_finds : ByteArray := prog_6_method_3_code
def yX4_finds : MethodName := ⟨RX4, "finds", "(I)I"⟩
abbrev cX4_has : ByteArray := prog_6_method_4_code
def yX4_has : MethodName := ⟨RX4, "has", "(II)Z"⟩
abbrev cX4_bits : ByteArray := prog_6_method_5_code
def yX4_bits : MethodName := ⟨RX4, "bits", "(I)I"⟩
abbrev cX4_its : ByteArray := prog_6_method_6_code
def yX4_its : MethodName := ⟨RX4, "its", "(II)I"⟩
abbrev cX4_puts : ByteArray := prog_6_method_7_code
def yX4_puts : MethodName := ⟨RX4, "puts", "(III)V"⟩
abbrev cX4_there : ByteArray := prog_6_method_8_code
def yX4_there : MethodName := ⟨RX4, "there", "(II)I"⟩
abbrev cX4_lies : ByteArray := prog_6_method_9_code
def yX4_lies : MethodName := ⟨RX4, "lies", "(III)V"⟩
abbrev cX4_isOne : ByteArray := prog_6_method_10_code
def yX4_isOne : MethodName := ⟨RX4, "isOne", "(I)Z"⟩
abbrev cX4_isRoom : ByteArray := prog_6_method_11_code
def yX4_isRoom : MethodName := ⟨RX4, "isRoom", "(I)Z"⟩
abbrev cX4_isKind : ByteArray := prog_6_method_12_code
def yX4_isKind : MethodName := ⟨RX4, "isKind", "(I)Z"⟩
abbrev cX4_isSpan : ByteArray := prog_6_method_13_code
def yX4_isSpan : MethodName := ⟨RX4, "isSpan", "(I)Z"⟩
abbrev cX4_isTold : ByteArray := prog_6_method_14_code
def yX4_isTold : MethodName := ⟨RX4, "isTold", "(II)Z"⟩
abbrev cX4_room : ByteArray := prog_6_method_15_code
def yX4_room : MethodName := ⟨RX4, "room", "(III)I"⟩
abbrev cX4_inside : ByteArray := prog_6_method_16_code
def yX4_inside : MethodName := ⟨RX4, "inside", "(I)I"⟩
abbrev cX4_breathedIn : ByteArray := prog_6_method_17_code
def yX4_breathedIn : MethodName := ⟨RX4, "breathedIn", "(I)I"⟩
abbrev cX4_roomOf : ByteArray := prog_6_method_18_code
def yX4_roomOf : MethodName := ⟨RX4, "roomOf", "(II)I"⟩
abbrev cX4_opens : ByteArray := prog_6_method_19_code
def yX4_opens : MethodName := ⟨RX4, "opens", "(II)V"⟩
abbrev cX4_door : ByteArray := prog_6_method_20_code
def yX4_door : MethodName := ⟨RX4, "door", "(II)I"⟩
abbrev cX4_cold : ByteArray := prog_6_method_21_code
def yX4_cold : MethodName := ⟨RX4, "cold", "(I)I"⟩
abbrev cX4_addOne : ByteArray := prog_6_method_22_code
def yX4_addOne : MethodName := ⟨RX4, "addOne", "(III)V"⟩
abbrev cX4_one : ByteArray := prog_6_method_23_code
def yX4_one : MethodName := ⟨RX4, "one", "(II)I"⟩
abbrev cX4_singers : ByteArray := prog_6_method_24_code
def yX4_singers : MethodName := ⟨RX4, "singers", "(I)I"⟩
abbrev cX4_breathes : ByteArray := prog_6_method_25_code
def yX4_breathes : MethodName := ⟨RX4, "breathes", "(I)I"⟩
abbrev cX4_of : ByteArray := prog_6_method_26_code
def yX4_of : MethodName := ⟨RX4, "of", "(II)I"⟩
abbrev cX4_set : ByteArray := prog_6_method_27_code
def yX4_set : MethodName := ⟨RX4, "set", "(III)I"⟩
abbrev cX4_turn : ByteArray := prog_6_method_28_code
def yX4_turn : MethodName := ⟨RX4, "turn", "(II)I"⟩
abbrev cX4_as : ByteArray := prog_6_method_29_code
def yX4_as : MethodName := ⟨RX4, "as", "(II)I"⟩
abbrev cX4_leaves : ByteArray := prog_6_method_30_code
def yX4_leaves : MethodName := ⟨RX4, "leaves", "(I)V"⟩
abbrev cX4_goes : ByteArray := prog_6_method_31_code
def yX4_goes : MethodName := ⟨RX4, "goes", "(I)I"⟩
abbrev cX4_freezes : ByteArray := prog_6_method_32_code
def yX4_freezes : MethodName := ⟨RX4, "freezes", "(I)V"⟩
abbrev cX4_thaws : ByteArray := prog_6_method_33_code
def yX4_thaws : MethodName := ⟨RX4, "thaws", "(I)V"⟩
abbrev cX4_draughts : ByteArray := prog_6_method_34_code
def yX4_draughts : MethodName := ⟨RX4, "draughts", "(I)V"⟩
abbrev cX4_breathe : ByteArray := prog_6_method_35_code
def yX4_breathe : MethodName := ⟨RX4, "breathe", "(I)V"⟩
abbrev cX4_oneHour : ByteArray := prog_6_method_36_code
def yX4_oneHour : MethodName := ⟨RX4, "oneHour", "()V"⟩
abbrev cX4_sumOf : ByteArray := prog_6_method_37_code
def yX4_sumOf : MethodName := ⟨RX4, "sumOf", "(I)I"⟩
abbrev cX4_stifled : ByteArray := prog_6_method_38_code
def yX4_stifled : MethodName := ⟨RX4, "stifled", "()I"⟩
abbrev cX4_allBreathe : ByteArray := prog_6_method_39_code
def yX4_allBreathe : MethodName := ⟨RX4, "allBreathe", "()I"⟩
abbrev cX4_hours : ByteArray := prog_6_method_40_code
def yX4_hours : MethodName := ⟨RX4, "hours", "(I)I"⟩
abbrev cX4_now : ByteArray := prog_6_method_41_code
def yX4_now : MethodName := ⟨RX4, "now", "(I)I"⟩
abbrev cX4_passes : ByteArray := prog_6_method_42_code
def yX4_passes : MethodName := ⟨RX4, "passes", "(I)V"⟩
abbrev cX4_on : ByteArray := prog_6_method_43_code
def yX4_on : MethodName := ⟨RX4, "on", "(III)I"⟩
abbrev cX4_untilOf : ByteArray := prog_6_method_44_code
def yX4_untilOf : MethodName := ⟨RX4, "untilOf", "(I)I"⟩
abbrev cX4_when : ByteArray := prog_6_method_45_code
def yX4_when : MethodName := ⟨RX4, "when", "(I)I"⟩
abbrev cX4_wellOnes : ByteArray := prog_6_method_46_code
def yX4_wellOnes : MethodName := ⟨RX4, "wellOnes", "()I"⟩
abbrev cX4_first : ByteArray := prog_6_method_47_code
def yX4_first : MethodName := ⟨RX4, "first", "()I"⟩
abbrev cX4_wellFor : ByteArray := prog_6_method_48_code
def yX4_wellFor : MethodName := ⟨RX4, "wellFor", "()I"⟩
abbrev cX4_well : ByteArray := prog_6_method_49_code
def yX4_well : MethodName := ⟨RX4, "well", "()I"⟩
abbrev cX4_doors : ByteArray := prog_6_method_50_code
def yX4_doors : MethodName := ⟨RX4, "doors", "()I"⟩
abbrev cX4_stifledOn : ByteArray := prog_6_method_51_code
def yX4_stifledOn : MethodName := ⟨RX4, "stifledOn", "(I)I"⟩
abbrev cX4_shut : ByteArray := prog_6_method_52_code
def yX4_shut : MethodName := ⟨RX4, "shut", "(I)I"⟩
abbrev cX4_isWell : ByteArray := prog_6_method_53_code
def yX4_isWell : MethodName := ⟨RX4, "isWell", "(I)Z"⟩
abbrev cX4_fire : ByteArray := prog_6_method_54_code
def yX4_fire : MethodName := ⟨RX4, "fire", "(II)I"⟩
abbrev cX4_fires : ByteArray := prog_6_method_55_code
def yX4_fires : MethodName := ⟨RX4, "fires", "(III)I"⟩
abbrev cX4_sleep : ByteArray := prog_6_method_56_code
def yX4_sleep : MethodName := ⟨RX4, "sleep", "(I)I"⟩
abbrev cX4_kind : ByteArray := prog_6_method_57_code
def yX4_kind : MethodName := ⟨RX4, "kind", "(II)I"⟩
abbrev cX4_costs : ByteArray := prog_6_method_58_code
def yX4_costs : MethodName := ⟨RX4, "costs", "(II)I"⟩
abbrev cX4_product : ByteArray := prog_6_method_59_code
def yX4_product : MethodName := ⟨RX4, "product", "(I)J"⟩
abbrev cX4_greatest : ByteArray := prog_6_method_60_code
def yX4_greatest : MethodName := ⟨RX4, "greatest", "(I)I"⟩
abbrev cX4_share : ByteArray := prog_6_method_61_code
def yX4_share : MethodName := ⟨RX4, "share", "(II)J"⟩
abbrev cX4_frostOf : ByteArray := prog_6_method_62_code
def yX4_frostOf : MethodName := ⟨RX4, "frostOf", "(I)I"⟩
abbrev cX4_swept : ByteArray := prog_6_method_63_code
def yX4_swept : MethodName := ⟨RX4, "swept", "(I)I"⟩
abbrev cX4_sweeps : ByteArray := prog_6_method_64_code
def yX4_sweeps : MethodName := ⟨RX4, "sweeps", "(I)I"⟩
abbrev cX4_owed : ByteArray := prog_6_method_65_code
def yX4_owed : MethodName := ⟨RX4, "owed", "()I"⟩
abbrev cX4_leaked : ByteArray := prog_6_method_66_code
def yX4_leaked : MethodName := ⟨RX4, "leaked", "(III)I"⟩
abbrev cX4_feed : ByteArray := prog_6_method_67_code
def yX4_feed : MethodName := ⟨RX4, "feed", "(II)I"⟩
abbrev cX4_wipe : ByteArray := prog_6_method_68_code
def yX4_wipe : MethodName := ⟨RX4, "wipe", "()I"⟩
abbrev cX4_byteAt : ByteArray := prog_6_method_69_code
def yX4_byteAt : MethodName := ⟨RX4, "byteAt", "(I)I"⟩
abbrev cX4_isLetter : ByteArray := prog_6_method_70_code
def yX4_isLetter : MethodName := ⟨RX4, "isLetter", "(I)Z"⟩
abbrev cX4_isDigit : ByteArray := prog_6_method_71_code
def yX4_isDigit : MethodName := ⟨RX4, "isDigit", "(I)Z"⟩
abbrev cX4_advance : ByteArray := prog_6_method_72_code
def yX4_advance : MethodName := ⟨RX4, "advance", "()V"⟩
abbrev cX4_isWord : ByteArray := prog_6_method_73_code
def yX4_isWord : MethodName := ⟨RX4, "isWord", "(J)Z"⟩
abbrev cX4_kindHere : ByteArray := prog_6_method_74_code
def yX4_kindHere : MethodName := ⟨RX4, "kindHere", "()I"⟩
abbrev cX4_wantNumber : ByteArray := prog_6_method_75_code
def yX4_wantNumber : MethodName := ⟨RX4, "wantNumber", "(II)I"⟩
abbrev cX4_mayWant : ByteArray := prog_6_method_76_code
def yX4_mayWant : MethodName := ⟨RX4, "mayWant", "(JIII)I"⟩
abbrev cX4_wantOne : ByteArray := prog_6_method_77_code
def yX4_wantOne : MethodName := ⟨RX4, "wantOne", "(I)V"⟩
abbrev cX4_wantRoom : ByteArray := prog_6_method_78_code
def yX4_wantRoom : MethodName := ⟨RX4, "wantRoom", "()V"⟩
abbrev cX4_wantDoor : ByteArray := prog_6_method_79_code
def yX4_wantDoor : MethodName := ⟨RX4, "wantDoor", "(I)V"⟩
abbrev cX4_wantItem : ByteArray := prog_6_method_80_code
def yX4_wantItem : MethodName := ⟨RX4, "wantItem", "()V"⟩
abbrev cX4_text : ByteArray := prog_6_method_81_code
def yX4_text : MethodName := ⟨RX4, "text", "()I"⟩
abbrev cX4_isSheet : ByteArray := prog_6_method_82_code
def yX4_isSheet : MethodName := ⟨RX4, "isSheet", "(I)Z"⟩
abbrev cX4_narrow : ByteArray := prog_6_method_83_code
def yX4_narrow : MethodName := ⟨RX4, "narrow", "(IJ)J"⟩
abbrev cX4_sheet : ByteArray := prog_6_method_84_code
def yX4_sheet : MethodName := ⟨RX4, "sheet", "(III)I"⟩
abbrev cX4_write : ByteArray := prog_6_method_85_code
def yX4_write : MethodName := ⟨RX4, "write", "(IIJ)J"⟩
abbrev cX4_isPart : ByteArray := prog_6_method_86_code
def yX4_isPart : MethodName := ⟨RX4, "isPart", "(III)Z"⟩
abbrev cX4_copy : ByteArray := prog_6_method_87_code
def yX4_copy : MethodName := ⟨RX4, "copy", "(IIIII)I"⟩
abbrev cX4_badSheet : ByteArray := prog_6_method_88_code
def yX4_badSheet : MethodName := ⟨RX4, "badSheet", "(I)I"⟩
abbrev cX4_lays : ByteArray := prog_6_method_89_code
def yX4_lays : MethodName := ⟨RX4, "lays", "(I)I"⟩
abbrev cX4_book : ByteArray := prog_6_method_90_code
def yX4_book : MethodName := ⟨RX4, "book", "(II)I"⟩
abbrev cX4_isSo : ByteArray := prog_6_method_91_code
def yX4_isSo : MethodName := ⟨RX4, "isSo", "(II)Z"⟩
abbrev cX4_read : ByteArray := prog_6_method_92_code
def yX4_read : MethodName := ⟨RX4, "read", "(II)I"⟩
abbrev cX4_moveAll : ByteArray := prog_6_method_93_code
def yX4_moveAll : MethodName := ⟨RX4, "moveAll", "(Z[I)V"⟩
abbrev cX4_image : ByteArray := prog_6_method_94_code
def yX4_image : MethodName := ⟨RX4, "image", "()I"⟩
abbrev cX4_undo : ByteArray := prog_6_method_95_code
def yX4_undo : MethodName := ⟨RX4, "undo", "()I"⟩
abbrev cX4_tear : ByteArray := prog_6_method_96_code
def yX4_tear : MethodName := ⟨RX4, "tear", "()I"⟩
abbrev cX4_count : ByteArray := prog_6_method_97_code
def yX4_count : MethodName := ⟨RX4, "count", "(I)I"⟩
abbrev cX4_status : ByteArray := prog_6_method_98_code
def yX4_status : MethodName := ⟨RX4, "status", "(I)I"⟩
def RJ6 : String := "java/lang/Integer"
abbrev cJ6_numberOfTrailingZeros_0f7a4 : ByteArray := prog_7_method_48_code
def yJ6_numberOfTrailingZeros_0f7a4 : MethodName := ⟨RJ6, "numberOfTrailingZeros", "(I)I"⟩
abbrev cJ6_bitCount_0f7a4 : ByteArray := prog_7_method_49_code
def yJ6_bitCount_0f7a4 : MethodName := ⟨RJ6, "bitCount", "(I)I"⟩
def RJ9 : String := "java/lang/Math"
abbrev cJ9_max_7cf53 : ByteArray := prog_8_method_65_code
def yJ9_max_7cf53 : MethodName := ⟨RJ9, "max", "(II)I"⟩
abbrev cJ9_min_7cf53 : ByteArray := prog_8_method_69_code
def yJ9_min_7cf53 : MethodName := ⟨RJ9, "min", "(II)I"⟩
def RJ0 : String := "java/lang/String"
abbrev cJ0_length_8abf5 : ByteArray := prog_9_method_54_code
def yJ0_length_8abf5 : MethodName := ⟨RJ0, "length", "()I"⟩
abbrev cJ0_charAt_5068e : ByteArray := prog_9_method_56_code
def yJ0_charAt_5068e : MethodName := ⟨RJ0, "charAt", "(I)C"⟩
abbrev cJ0_coder_7d493 : ByteArray := prog_9_method_152_code
def yJ0_coder_7d493 : MethodName := ⟨RJ0, "coder", "()B"⟩
abbrev cJ0_isLatin1_aae02 : ByteArray := prog_9_method_154_code
def yJ0_isLatin1_aae02 : MethodName := ⟨RJ0, "isLatin1", "()Z"⟩
abbrev cJ0_checkIndex_df160 : ByteArray := prog_9_method_155_code
def yJ0_checkIndex_df160 : MethodName := ⟨RJ0, "checkIndex", "(II)V"⟩
def RJ1 : String := "java/lang/StringLatin1"
abbrev cJ1_charAt_3b067 : ByteArray := prog_10_method_2_code
def yJ1_charAt_3b067 : MethodName := ⟨RJ1, "charAt", "([BI)C"⟩
def RJ2 : String := "java/lang/StringUTF16"
abbrev cJ2_getChar_3b067 : ByteArray := prog_11_method_5_code
def yJ2_getChar_3b067 : MethodName := ⟨RJ2, "getChar", "([BI)C"⟩
abbrev cJ2_length_9d52b : ByteArray := prog_11_method_6_code
def yJ2_length_9d52b : MethodName := ⟨RJ2, "length", "([B)I"⟩
abbrev cJ2_charAt_3b067 : ByteArray := prog_11_method_83_code
def yJ2_charAt_3b067 : MethodName := ⟨RJ2, "charAt", "([BI)C"⟩
abbrev cJ2_checkIndex_2214a : ByteArray := prog_11_method_91_code
def yJ2_checkIndex_2214a : MethodName := ⟨RJ2, "checkIndex", "(I[B)V"⟩
def RJ10 : String := "java/lang/System"
def RJ3 : String := "jdk/internal/util/Preconditions"
abbrev cJ3_checkIndex_8e157 : ByteArray := prog_13_method_11_code
def yJ3_checkIndex_8e157 : MethodName := ⟨RJ3, "checkIndex", "(IILjava/util/function/BiFunction;)I"⟩
def RL : String := "NinthAirLaw"
abbrev cL_law : ByteArray := code
def yL_law : MethodName := ⟨RL, "law", "([I)Z"⟩
abbrev vwCl : List vw_C := [(RX0, TX0, 13), (RX1, TX1, 3), (RX2, TX2, 6), (RX3, TX3, 7), (RX4, TX4, 18)]
end
section
/-! THE SMALL MACHINE. A memory of ints I and a memory of longs J, by places; places 0 to 53 are the cells of the class and of the reference, read-only places lie above.
na_stp: what one instruction asks of the memory, goal first; na_wp: a stretch of instructions; both are tied to W in part 03. -/
abbrev Mm : Type := Nat → Nat → Int32
abbrev Ml : Type := Nat → Nat → Int64
abbrev Lo : Type := List (Option Value)
/-- what a cell is: an array (0 ints, 1 longs, 2 the row of sheets; its length) or an object (its class, its fields: 0 an int, 1 a long, n + 2 the cell at place n) -/
abbrev Ly : Type := (Nat × Nat) ⊕ (Nat × List Nat)
/-- an instruction: where it stands, its length, itself, hints (numbers, for the check), its constants -/
abbrev En : Type := Nat × Nat × Instr × List Nat × Int32 × Int64
def jmin (x y : Int32) : Int32 := if y < x then y else x
def jmax (x y : Int32) : Int32 := if x < y then y else x
def na_set (I : Mm) (k j : Nat) (v : Int32) : Mm := fun a => if a = k then upd (I k) j v else I a
def na_setL (J : Ml) (k j : Nat) (v : Int64) : Ml := fun a => if a = k then vp_updL (J k) j v else J a
def na_cpI (I : Mm) (a d sp dp n : Nat) : Mm := fun b => if b = d then va_cpy (I a) (I d) sp dp n else I b
def na_cpL (J : Ml) (a d sp dp n : Nat) : Ml := fun b => if b = d then va_cpy (J a) (J d) sp dp n else J b
def na_nth {α : Type} : List α → Nat → Option α
  | [], _ => none
  | a :: _, 0 => some a
  | _ :: r, n + 1 => na_nth r n
def na_dr {α : Type} : Nat → List α → List α
  | 0, l => l
  | _ + 1, [] => []
  | n + 1, _ :: r => na_dr n r
/-- places: 0 the class; 1, 11, 21 its three nights (night, kept, ahead), each an object and nine rows; 31, 32 the tape; 33 the row of sheets; 34 .. 41 four sheets, each an object and its numbers; 42 answered; 43 the reference; 44 .. 53 its rows -/
def na_lay : List Ly :=
  [.inr (3, [3, 13, 23, 0, 33, 35, 44]),
   .inr (0, [4, 5, 6, 7, 0, 0, 0, 0, 8, 9, 10, 11, 12]), .inl (0, 8), .inl (0, 8), .inl (0, 8), .inl (0, 8), .inl (0, 8), .inl (0, 8), .inl (0, 8), .inl (0, 8), .inl (0, 8),
   .inr (0, [14, 15, 16, 17, 0, 0, 0, 0, 18, 19, 20, 21, 22]), .inl (0, 8), .inl (0, 8), .inl (0, 8), .inl (0, 8), .inl (0, 8), .inl (0, 8), .inl (0, 8), .inl (0, 8), .inl (0, 8),
   .inr (0, [24, 25, 26, 27, 0, 0, 0, 0, 28, 29, 30, 31, 32]), .inl (0, 8), .inl (0, 8), .inl (0, 8), .inl (0, 8), .inl (0, 8), .inl (0, 8), .inl (0, 8), .inl (0, 8), .inl (0, 8),
   .inr (2, [34, 0, 0, 0, 0, 0]), .inl (0, 120),
   .inl (2, 4),
   .inr (1, [37, 0, 0]), .inl (1, 40), .inr (1, [39, 0, 0]), .inl (1, 40), .inr (1, [41, 0, 0]), .inl (1, 40), .inr (1, [43, 0, 0]), .inl (1, 40),
   .inl (0, 7),
   .inr (4, [46, 47, 48, 49, 0, 0, 0, 0, 1, 0, 0, 50, 51, 52, 53, 54, 55, 0]), .inl (0, 76), .inl (0, 7), .inl (0, 76), .inl (0, 120), .inl (0, 4), .inl (0, 4), .inl (1, 160), .inl (1, 40), .inl (0, 76), .inl (0, 76)]

/-- the place of sheet j -/
def na_shp (j : Nat) : Nat := 34 + 2 * j
/-- a value of the small machine in the true one: places become addresses; 90 is a value that nobody asks for -/
def na_tv (ad : Nat → Nat) (fm : Value) : Value → Value
  | .ref a => if a = 90 then fm else .ref (ad a)
  | v => v
def na_fw (I : Mm) (J : Ml) (k j : Nat) : Nat → Value
  | 0 => .int (I k j)
  | 1 => .long (J k j)
  | n + 2 => .ref n
def na_fv (ad : Nat → Nat) (I : Mm) (J : Ml) (k j : Nat) : Nat → Value
  | 0 => .int (I k j)
  | 1 => .long (J k j)
  | n + 2 => .ref (ad n)
def na_fs (ad : Nat → Nat) (I : Mm) (J : Ml) (k : Nat) : Nat → List Nat → List Value
  | _, [] => []
  | j, c :: r => na_fv ad I J k j c :: na_fs ad I J k (j + 1) r
def na_ce (ca ad : Nat → Nat) (I : Mm) (J : Ml) (k : Nat) (e : Ly) : va_E := match e with
  | .inl (0, n) => .inl (ca 0, n, .inl (I k))
  | .inl (1, n) => .inl (ca 1, n, .inr (.inl (J k)))
  | .inl (_ + 2, n) => .inl (ca 2, n, .inr (.inr (.inr (.inr (fun j => some (ad (na_shp j)))))))
  | .inr (c, fs) => .inr (c, na_fs ad I J k 0 fs)
def na_ws (ca ad : Nat → Nat) (I : Mm) (J : Ml) : Nat → List Ly → va_W
  | _, [] => []
  | k, e :: r => (ad k, na_ce ca ad I J k e) :: na_ws ca ad I J (k + 1) r
/-! read-only places: 60 .. 64 the class's tables, 70 the script, 100 .. 116 the words, 120 .. 136 their letters -/
def na_lst (l : List Int32) : Nat → Int32 := fun j => l.getD j 0
def na_sa (sx : Nat × (Nat → Int32)) : Nat → Option (Nat × (Nat → Int32))
  | 60 => some (4, na_lst [9999, 9999, 99, 9])
  | 61 => some (5, na_lst [0, 0, 1, 0, 0])
  | 62 => some (5, na_lst [5, 7, 20, 999, 1])
  | 63 => some (6, na_lst [-1, 0, 0, 0, 1, 2])
  | 64 => some (7, na_lst [1, 1, 2, 6, 24, 120, 720])
  | 70 => some sx
  | _ => none
def na_wd : List (Nat × String × List Int32) :=
  [(66, "person", [112, 101, 114, 115, 111, 110]), (68, "dancer", [100, 97, 110, 99, 101, 114]), (70, "sleeper", [115, 108, 101, 101, 112, 101, 114]), (72, "holder", [104, 111, 108, 100, 101, 114]), (74, "choir", [99, 104, 111, 105, 114]), (76, "dreamer", [100, 114, 101, 97, 109, 101, 114]),
   (84, "in", [105, 110]), (93, "need", [110, 101, 101, 100]), (43, "room", [114, 111, 111, 109]), (99, "air", [97, 105, 114]), (105, "frost", [102, 114, 111, 115, 116]), (107, "fire", [102, 105, 114, 101]), (109, "tight", [116, 105, 103, 104, 116]), (52, "open", [111, 112, 101, 110]), (57, "shut", [115, 104, 117, 116]), (59, "cold", [99, 111, 108, 100]), (64, "mild", [109, 105, 108, 100])]
/-- the letters of the word at place 120 + i -/
def na_sb (a : Nat) : Option (Nat × (Nat → Int32)) := if a < 120 then none else match na_nth na_wd (a - 120) with
  | some w => some (w.2.2.length, na_lst w.2.2)
  | none => none
def na_st : List (String × String × String × Value) :=
  [(RX3, "MOST_OF_ROOM", "[I", .ref 60), (RX3, "LEAST_OF_ONE", "[I", .ref 61), (RX3, "MOST_OF_ONE", "[I", .ref 62), (RX3, "UNDER", "[I", .ref 63), (RX3, "ORDERS", "[I", .ref 64), (RJ0, "COMPACT_STRINGS", "Z", .int 1), (RJ3, "SIOOBE_FORMATTER", "Ljava/util/function/BiFunction;", .ref 90)]
/-! the stack and the locals -/
def na_pI (st : List Value) (k : Int32 → List Value → Prop) : Prop := match st with
  | .int x :: r => k x r
  | _ => False
def na_pL (st : List Value) (k : Int64 → List Value → Prop) : Prop := match st with
  | .long x :: r => k x r
  | _ => False
def na_pR (st : List Value) (k : Nat → List Value → Prop) : Prop := match st with
  | .ref x :: r => k x r
  | _ => False
def na_p1 (st : List Value) (k : Value → List Value → Prop) : Prop := match st with
  | .int x :: r => k (.int x) r
  | .ref x :: r => k (.ref x) r
  | _ => False
def na_ld (l : Option (Option Value)) (k : Value → Prop) : Prop := match l with
  | some (some v) => k v
  | _ => False
/-- a store; the long that it cuts in two is gone -/
def na_s1 : Lo → Nat → Value → Lo
  | [], _, _ => []
  | _ :: r, 0, v => some v :: r
  | x :: r, 1, v => (match x with
    | some (.long _) => none
    | some (.double _) => none
    | y => y) :: na_s1 r 0 v
  | x :: r, i + 2, v => x :: na_s1 r (i + 1) v
def na_n1 : Lo → Lo
  | [] => []
  | _ :: r => none :: r
def na_s2 : Lo → Nat → Value → Lo
  | [], _, _ => []
  | _ :: r, 0, v => some v :: na_n1 r
  | x :: r, 1, v => (match x with
    | some (.long _) => none
    | some (.double _) => none
    | y => y) :: na_s2 r 0 v
  | x :: r, i + 2, v => x :: na_s2 r (i + 1) v
def na_tk : Nat → List Value → List Value → (List Value → List Value → Prop) → Prop
  | 0, acc, st, k => k acc st
  | n + 1, acc, v :: st, k => na_tk n (v :: acc) st k
  | _ + 1, _, [], _ => False
def na_cat (st : List Value) : Nat := (st.map fun v => v.category).sum
def na_nl (ty : FieldType) (v : Int32) : Prop := match ty with
  | .int => True
  | t => narrow t (.int v) = .int v
def na_h0 (h : List Nat) : Nat := match h with
  | [] => 0
  | a :: _ => a
def na_h1 (h : List Nat) : Nat := na_h0 h.tail
def na_h2 (h : List Nat) : Nat := na_h0 h.tail.tail
/-- an int row at a place: its length, its numbers -/
def na_ar (sx : Nat × (Nat → Int32)) (I : Mm) (a : Nat) (k : Nat → (Nat → Int32) → Prop) : Prop := match na_nth na_lay a with
  | some (.inl (0, n)) => k n (I a)
  | some _ => False
  | none => match na_sa sx a with
    | some q => k q.1 q.2
    | none => False
end
section
/-! the methods, by numbers: name, bytes, locals, what it answers, frames and words that it needs (by program) -/
abbrev MI : Type := MethodName × ByteArray × Nat × Option FieldType × Nat × Nat
abbrev MX0_become : Nat := 0
abbrev MX0_rowOfRooms : Nat := 1
abbrev MX0_rowOfPeople : Nat := 2
abbrev MX0_turnDoor : Nat := 3
abbrev MX0_isFull : Nat := 4
abbrev MX0_add : Nat := 5
abbrev MX0_remove : Nat := 6
abbrev MX0_peopleIn : Nat := 7
abbrev MX0_stifledSet : Nat := 8
abbrev MX0_breathIn : Nat := 9
abbrev MX0_greatestBreathIn : Nat := 10
abbrev MX0_frostIn : Nat := 11
abbrev MX0_breathOf : Nat := 12
abbrev MX0_otherVoices : Nat := 13
abbrev MX0_passHours : Nat := 14
abbrev MX0_passHour : Nat := 15
abbrev MX0_freeze : Nat := 16
abbrev MX0_burn : Nat := 17
abbrev MX0_mix : Nat := 18
abbrev MX0_breathe : Nat := 19
abbrev MX0_wellHours : Nat := 20
abbrev MX0_stifledAfter : Nat := 21
abbrev MX0_goesAsTold : Nat := 22
abbrev MX1_isMissing : Nat := 23
abbrev MX1_start : Nat := 24
abbrev MX1_put : Nat := 25
abbrev MX1_hasStretch : Nat := 26
abbrev MX2_append : Nat := 27
abbrev MX2_tell : Nat := 28
abbrev MX2_tellItem : Nat := 29
abbrev MX2_kindNamed : Nat := 30
abbrev MX2_tellOne : Nat := 31
abbrev MX2_tellRoom : Nat := 32
abbrev MX2_mayTell : Nat := 33
abbrev MX2_tellDoor : Nat := 34
abbrev MX2_tellCold : Nat := 35
abbrev MX2_isWord : Nat := 36
abbrev MX2_isNumber : Nat := 37
abbrev MX2_step : Nat := 38
abbrev MX2_tokenBegunBy : Nat := 39
abbrev MX3_room : Nat := 40
abbrev MX3_roomOf : Nat := 41
abbrev MX3_door : Nat := 42
abbrev MX3_cold : Nat := 43
abbrev MX3_one : Nat := 44
abbrev MX3_of : Nat := 45
abbrev MX3_set : Nat := 46
abbrev MX3_turn : Nat := 47
abbrev MX3_as : Nat := 48
abbrev MX3_goes : Nat := 49
abbrev MX3_hours : Nat := 50
abbrev MX3_now : Nat := 51
abbrev MX3_on : Nat := 52
abbrev MX3_when : Nat := 53
abbrev MX3_first : Nat := 54
abbrev MX3_well : Nat := 55
abbrev MX3_doors : Nat := 56
abbrev MX3_shut : Nat := 57
abbrev MX3_fire : Nat := 58
abbrev MX3_fires : Nat := 59
abbrev MX3_sleep : Nat := 60
abbrev MX3_kind : Nat := 61
abbrev MX3_costs : Nat := 62
abbrev MX3_share : Nat := 63
abbrev MX3_swept : Nat := 64
abbrev MX3_sweeps : Nat := 65
abbrev MX3_owed : Nat := 66
abbrev MX3_leaked : Nat := 67
abbrev MX3_feed : Nat := 68
abbrev MX3_wipe : Nat := 69
abbrev MX3_text : Nat := 70
abbrev MX3_sheet : Nat := 71
abbrev MX3_write : Nat := 72
abbrev MX3_copy : Nat := 73
abbrev MX3_lays : Nat := 74
abbrev MX3_book : Nat := 75
abbrev MX3_read : Nat := 76
abbrev MX3_image : Nat := 77
abbrev MX3_undo : Nat := 78
abbrev MX3_tear : Nat := 79
abbrev MX3_count : Nat := 80
abbrev MX3_status : Nat := 81
abbrev MX3_finding : Nat := 82
abbrev MX3_nobody : Nat := 83
abbrev MX3_startAhead : Nat := 84
abbrev MX3_twoFiresDo : Nat := 85
abbrev MX3_outside : Nat := 86
abbrev MX3_noRoom : Nat := 87
abbrev MX3_noKind : Nat := 88
abbrev MX3_noSheet : Nat := 89
abbrev MX3_isKindOf : Nat := 90
abbrev MX3_has : Nat := 91
abbrev MX3_exchange : Nat := 92
abbrev MX3_sum : Nat := 93
abbrev MX4_in : Nat := 94
abbrev MX4_finds : Nat := 95
abbrev MX4_has : Nat := 96
abbrev MX4_bits : Nat := 97
abbrev MX4_its : Nat := 98
abbrev MX4_puts : Nat := 99
abbrev MX4_there : Nat := 100
abbrev MX4_lies : Nat := 101
abbrev MX4_isOne : Nat := 102
abbrev MX4_isRoom : Nat := 103
abbrev MX4_isKind : Nat := 104
abbrev MX4_isSpan : Nat := 105
abbrev MX4_isTold : Nat := 106
abbrev MX4_room : Nat := 107
abbrev MX4_inside : Nat := 108
abbrev MX4_breathedIn : Nat := 109
abbrev MX4_roomOf : Nat := 110
abbrev MX4_opens : Nat := 111
abbrev MX4_door : Nat := 112
abbrev MX4_cold : Nat := 113
abbrev MX4_addOne : Nat := 114
abbrev MX4_one : Nat := 115
abbrev MX4_singers : Nat := 116
abbrev MX4_breathes : Nat := 117
abbrev MX4_of : Nat := 118
abbrev MX4_set : Nat := 119
abbrev MX4_turn : Nat := 120
abbrev MX4_as : Nat := 121
abbrev MX4_leaves : Nat := 122
abbrev MX4_goes : Nat := 123
abbrev MX4_freezes : Nat := 124
abbrev MX4_thaws : Nat := 125
abbrev MX4_draughts : Nat := 126
abbrev MX4_breathe : Nat := 127
abbrev MX4_oneHour : Nat := 128
abbrev MX4_sumOf : Nat := 129
abbrev MX4_stifled : Nat := 130
abbrev MX4_allBreathe : Nat := 131
abbrev MX4_hours : Nat := 132
abbrev MX4_now : Nat := 133
abbrev MX4_passes : Nat := 134
abbrev MX4_on : Nat := 135
abbrev MX4_untilOf : Nat := 136
abbrev MX4_when : Nat := 137
abbrev MX4_wellOnes : Nat := 138
abbrev MX4_first : Nat := 139
abbrev MX4_wellFor : Nat := 140
abbrev MX4_well : Nat := 141
abbrev MX4_doors : Nat := 142
abbrev MX4_stifledOn : Nat := 143
abbrev MX4_shut : Nat := 144
abbrev MX4_isWell : Nat := 145
abbrev MX4_fire : Nat := 146
abbrev MX4_fires : Nat := 147
abbrev MX4_sleep : Nat := 148
abbrev MX4_kind : Nat := 149
abbrev MX4_costs : Nat := 150
abbrev MX4_product : Nat := 151
abbrev MX4_greatest : Nat := 152
abbrev MX4_share : Nat := 153
abbrev MX4_frostOf : Nat := 154
abbrev MX4_swept : Nat := 155
abbrev MX4_sweeps : Nat := 156
abbrev MX4_owed : Nat := 157
abbrev MX4_leaked : Nat := 158
abbrev MX4_feed : Nat := 159
abbrev MX4_wipe : Nat := 160
abbrev MX4_byteAt : Nat := 161
abbrev MX4_isLetter : Nat := 162
abbrev MX4_isDigit : Nat := 163
abbrev MX4_advance : Nat := 164
abbrev MX4_isWord : Nat := 165
abbrev MX4_kindHere : Nat := 166
abbrev MX4_wantNumber : Nat := 167
abbrev MX4_mayWant : Nat := 168
abbrev MX4_wantOne : Nat := 169
abbrev MX4_wantRoom : Nat := 170
abbrev MX4_wantDoor : Nat := 171
abbrev MX4_wantItem : Nat := 172
abbrev MX4_text : Nat := 173
abbrev MX4_isSheet : Nat := 174
abbrev MX4_narrow : Nat := 175
abbrev MX4_sheet : Nat := 176
abbrev MX4_write : Nat := 177
abbrev MX4_isPart : Nat := 178
abbrev MX4_copy : Nat := 179
abbrev MX4_badSheet : Nat := 180
abbrev MX4_lays : Nat := 181
abbrev MX4_book : Nat := 182
abbrev MX4_isSo : Nat := 183
abbrev MX4_read : Nat := 184
abbrev MX4_moveAll : Nat := 185
abbrev MX4_image : Nat := 186
abbrev MX4_undo : Nat := 187
abbrev MX4_tear : Nat := 188
abbrev MX4_count : Nat := 189
abbrev MX4_status : Nat := 190
abbrev MJ6_numberOfTrailingZeros_0f7a4 : Nat := 191
abbrev MJ6_bitCount_0f7a4 : Nat := 192
abbrev MJ0_length_8abf5 : Nat := 193
abbrev MJ0_charAt_5068e : Nat := 194
abbrev MJ0_coder_7d493 : Nat := 195
abbrev MJ0_isLatin1_aae02 : Nat := 196
abbrev MJ0_checkIndex_df160 : Nat := 197
abbrev MJ1_charAt_3b067 : Nat := 198
abbrev MJ3_checkIndex_8e157 : Nat := 199
def na_mis0 : List MI := [(yX0_become, cX0_become, 3, none, 1, 26),
  (yX0_rowOfRooms, cX0_rowOfRooms, 2, (some (.array .int)), 0, 0),
  (yX0_rowOfPeople, cX0_rowOfPeople, 2, (some (.array .int)), 0, 0),
  (yX0_turnDoor, cX0_turnDoor, 4, (some .int), 0, 0),
  (yX0_isFull, cX0_isFull, 1, (some .boolean), 0, 0),
  (yX0_add, cX0_add, 5, (some .int), 0, 0),
  (yX0_remove, cX0_remove, 5, none, 1, 26),
  (yX0_peopleIn, cX0_peopleIn, 4, (some .int), 0, 0),
  (yX0_stifledSet, cX0_stifledSet, 3, (some .int), 0, 0),
  (yX0_breathIn, cX0_breathIn, 4, (some .int), 2, 45),
  (yX0_greatestBreathIn, cX0_greatestBreathIn, 4, (some .int), 2, 45),
  (yX0_frostIn, cX0_frostIn, 4, (some .int), 1, 21),
  (yX0_breathOf, cX0_breathOf, 3, (some .int), 1, 23),
  (yX0_otherVoices, cX0_otherVoices, 4, (some .int), 0, 0),
  (yX0_passHours, cX0_passHours, 3, none, 4, 89),
  (yX0_passHour, cX0_passHour, 1, (some .int), 3, 69),
  (yX0_freeze, cX0_freeze, 3, none, 1, 21),
  (yX0_burn, cX0_burn, 3, none, 1, 21),
  (yX0_mix, cX0_mix, 3, none, 1, 21),
  (yX0_breathe, cX0_breathe, 5, (some .int), 2, 45),
  (yX0_wellHours, cX0_wellHours, 4, (some .int), 4, 89),
  (yX0_stifledAfter, cX0_stifledAfter, 2, (some .int), 5, 111),
  (yX0_goesAsTold, cX0_goesAsTold, 4, (some .boolean), 4, 89),
  (yX1_isMissing, cX1_isMissing, 1, (some .boolean), 0, 0),
  (yX1_start, cX1_start, 4, none, 0, 0)]
def na_mis1 : List MI := [(yX1_put, cX1_put, 4, none, 0, 0),
  (yX1_hasStretch, cX1_hasStretch, 3, (some .boolean), 0, 0),
  (yX2_append, cX2_append, 4, none, 0, 0),
  (yX2_tell, cX2_tell, 3, (some .int), 8, 175),
  (yX2_tellItem, cX2_tellItem, 3, (some .boolean), 7, 153),
  (yX2_kindNamed, cX2_kindNamed, 1, (some .int), 5, 107),
  (yX2_tellOne, cX2_tellOne, 5, (some .boolean), 5, 107),
  (yX2_tellRoom, cX2_tellRoom, 3, (some .boolean), 6, 131),
  (yX2_mayTell, cX2_mayTell, 5, (some .boolean), 5, 107),
  (yX2_tellDoor, cX2_tellDoor, 3, (some .boolean), 2, 45),
  (yX2_tellCold, cX2_tellCold, 3, (some .boolean), 2, 40),
  (yX2_isWord, cX2_isWord, 3, (some .boolean), 4, 85),
  (yX2_isNumber, cX2_isNumber, 4, (some .boolean), 1, 22),
  (yX2_step, cX2_step, 1, none, 1, 20),
  (yX2_tokenBegunBy, cX2_tokenBegunBy, 1, (some .int), 0, 0),
  (yX3_room, cX3_room, 4, (some .int), 2, 44),
  (yX3_roomOf, cX3_roomOf, 3, (some .int), 3, 68),
  (yX3_door, cX3_door, 3, (some .int), 2, 44),
  (yX3_cold, cX3_cold, 3, (some .int), 2, 44),
  (yX3_one, cX3_one, 3, (some .int), 2, 44),
  (yX3_of, cX3_of, 3, (some .int), 2, 45),
  (yX3_set, cX3_set, 4, (some .int), 2, 44),
  (yX3_turn, cX3_turn, 3, (some .int), 2, 44),
  (yX3_as, cX3_as, 3, (some .int), 3, 65),
  (yX3_goes, cX3_goes, 3, (some .int), 2, 50)]
def na_mis2 : List MI := [(yX3_hours, cX3_hours, 2, (some .int), 5, 111),
  (yX3_now, cX3_now, 2, (some .int), 3, 68),
  (yX3_on, cX3_on, 5, (some .int), 5, 111),
  (yX3_when, cX3_when, 3, (some .int), 5, 112),
  (yX3_first, cX3_first, 4, (some .int), 4, 89),
  (yX3_well, cX3_well, 1, (some .int), 5, 112),
  (yX3_doors, cX3_doors, 6, (some .int), 5, 112),
  (yX3_shut, cX3_shut, 7, (some .int), 6, 132),
  (yX3_fire, cX3_fire, 5, (some .int), 5, 112),
  (yX3_fires, cX3_fires, 5, (some .int), 6, 139),
  (yX3_sleep, cX3_sleep, 7, (some .int), 5, 112),
  (yX3_kind, cX3_kind, 8, (some .int), 6, 132),
  (yX3_costs, cX3_costs, 4, (some .int), 5, 111),
  (yX3_share, cX3_share, 9, (some .long), 3, 68),
  (yX3_swept, cX3_swept, 4, (some .int), 2, 44),
  (yX3_sweeps, cX3_sweeps, 3, (some .int), 2, 44),
  (yX3_owed, cX3_owed, 3, (some .int), 0, 0),
  (yX3_leaked, cX3_leaked, 7, (some .int), 5, 111),
  (yX3_feed, cX3_feed, 3, (some .int), 2, 44),
  (yX3_wipe, cX3_wipe, 2, (some .int), 0, 0),
  (yX3_text, cX3_text, 2, (some .int), 9, 197),
  (yX3_sheet, cX3_sheet, 4, (some .int), 2, 44),
  (yX3_write, cX3_write, 8, (some .long), 2, 44),
  (yX3_copy, cX3_copy, 8, (some .int), 2, 44),
  (yX3_lays, cX3_lays, 7, (some .int), 2, 44)]
def na_mis3 : List MI := [(yX3_book, cX3_book, 6, (some .int), 4, 89),
  (yX3_read, cX3_read, 8, (some .int), 5, 112),
  (yX3_image, cX3_image, 1, (some .int), 2, 48),
  (yX3_undo, cX3_undo, 1, (some .int), 2, 48),
  (yX3_tear, cX3_tear, 2, (some .int), 0, 0),
  (yX3_count, cX3_count, 2, (some .int), 2, 44),
  (yX3_status, cX3_status, 2, (some .int), 2, 44),
  (yX3_finding, cX3_finding, 3, (some .int), 1, 22),
  (yX3_nobody, cX3_nobody, 2, (some .boolean), 1, 22),
  (yX3_startAhead, cX3_startAhead, 1, (some (.object "NinthAir$Night")), 2, 48),
  (yX3_twoFiresDo, cX3_twoFiresDo, 8, (some .boolean), 5, 112),
  (yX3_outside, cX3_outside, 3, (some .boolean), 0, 0),
  (yX3_noRoom, cX3_noRoom, 1, (some .boolean), 1, 22),
  (yX3_noKind, cX3_noKind, 1, (some .boolean), 1, 22),
  (yX3_noSheet, cX3_noSheet, 1, (some .boolean), 1, 22),
  (yX3_isKindOf, cX3_isKindOf, 4, (some .boolean), 2, 42),
  (yX3_has, cX3_has, 2, (some .boolean), 0, 0),
  (yX3_exchange, cX3_exchange, 4, (some .int), 0, 0),
  (yX3_sum, cX3_sum, 4, (some .int), 0, 0),
  (yX4_in, cX4_in, 3, (some .boolean), 0, 0),
  (yX4_finds, cX4_finds, 2, (some .int), 0, 0),
  (yX4_has, cX4_has, 2, (some .boolean), 0, 0),
  (yX4_bits, cX4_bits, 3, (some .int), 0, 0),
  (yX4_its, cX4_its, 3, (some .int), 0, 0),
  (yX4_puts, cX4_puts, 4, none, 0, 0)]
def na_mis4 : List MI := [(yX4_there, cX4_there, 3, (some .int), 0, 0),
  (yX4_lies, cX4_lies, 4, none, 0, 0),
  (yX4_isOne, cX4_isOne, 2, (some .boolean), 1, 22),
  (yX4_isRoom, cX4_isRoom, 1, (some .boolean), 1, 22),
  (yX4_isKind, cX4_isKind, 1, (some .boolean), 1, 22),
  (yX4_isSpan, cX4_isSpan, 1, (some .boolean), 1, 22),
  (yX4_isTold, cX4_isTold, 2, (some .boolean), 1, 22),
  (yX4_room, cX4_room, 5, (some .int), 2, 43),
  (yX4_inside, cX4_inside, 4, (some .int), 1, 22),
  (yX4_breathedIn, cX4_breathedIn, 4, (some .int), 3, 67),
  (yX4_roomOf, cX4_roomOf, 3, (some .int), 4, 90),
  (yX4_opens, cX4_opens, 3, none, 0, 0),
  (yX4_door, cX4_door, 4, (some .int), 1, 22),
  (yX4_cold, cX4_cold, 3, (some .int), 1, 22),
  (yX4_addOne, cX4_addOne, 5, none, 1, 23),
  (yX4_one, cX4_one, 3, (some .int), 2, 47),
  (yX4_singers, cX4_singers, 4, (some .int), 1, 22),
  (yX4_breathes, cX4_breathes, 3, (some .int), 2, 45),
  (yX4_of, cX4_of, 3, (some .int), 3, 67),
  (yX4_set, cX4_set, 6, (some .int), 2, 43),
  (yX4_turn, cX4_turn, 4, (some .int), 2, 43),
  (yX4_as, cX4_as, 5, (some .int), 2, 43),
  (yX4_leaves, cX4_leaves, 3, none, 0, 0),
  (yX4_goes, cX4_goes, 3, (some .int), 2, 43),
  (yX4_freezes, cX4_freezes, 3, none, 1, 23)]
def na_mis5 : List MI := [(yX4_thaws, cX4_thaws, 3, none, 1, 23),
  (yX4_draughts, cX4_draughts, 4, none, 1, 23),
  (yX4_breathe, cX4_breathe, 5, none, 3, 67),
  (yX4_oneHour, cX4_oneHour, 2, none, 4, 91),
  (yX4_sumOf, cX4_sumOf, 4, (some .int), 1, 22),
  (yX4_stifled, cX4_stifled, 3, (some .int), 1, 22),
  (yX4_allBreathe, cX4_allBreathe, 3, (some .int), 3, 67),
  (yX4_hours, cX4_hours, 3, (some .int), 5, 112),
  (yX4_now, cX4_now, 2, (some .int), 4, 89),
  (yX4_passes, cX4_passes, 3, none, 5, 112),
  (yX4_on, cX4_on, 5, (some .int), 6, 134),
  (yX4_untilOf, cX4_untilOf, 3, (some .int), 5, 112),
  (yX4_when, cX4_when, 3, (some .int), 6, 134),
  (yX4_wellOnes, cX4_wellOnes, 1, (some .int), 2, 44),
  (yX4_first, cX4_first, 4, (some .int), 5, 112),
  (yX4_wellFor, cX4_wellFor, 1, (some .int), 6, 134),
  (yX4_well, cX4_well, 1, (some .int), 7, 154),
  (yX4_doors, cX4_doors, 6, (some .int), 7, 154),
  (yX4_stifledOn, cX4_stifledOn, 3, (some .int), 6, 134),
  (yX4_shut, cX4_shut, 7, (some .int), 7, 156),
  (yX4_isWell, cX4_isWell, 4, (some .boolean), 6, 134),
  (yX4_fire, cX4_fire, 5, (some .int), 7, 157),
  (yX4_fires, cX4_fires, 9, (some .int), 7, 157),
  (yX4_sleep, cX4_sleep, 7, (some .int), 6, 134),
  (yX4_kind, cX4_kind, 8, (some .int), 7, 156)]
def na_mis6 : List MI := [(yX4_costs, cX4_costs, 5, (some .int), 6, 134),
  (yX4_product, cX4_product, 4, (some .long), 0, 0),
  (yX4_greatest, cX4_greatest, 5, (some .int), 3, 67),
  (yX4_share, cX4_share, 7, (some .long), 4, 91),
  (yX4_frostOf, cX4_frostOf, 4, (some .int), 1, 22),
  (yX4_swept, cX4_swept, 4, (some .int), 2, 45),
  (yX4_sweeps, cX4_sweeps, 3, (some .int), 2, 45),
  (yX4_owed, cX4_owed, 3, (some .int), 1, 22),
  (yX4_leaked, cX4_leaked, 6, (some .int), 6, 134),
  (yX4_feed, cX4_feed, 4, (some .int), 1, 22),
  (yX4_wipe, cX4_wipe, 2, (some .int), 0, 0),
  (yX4_byteAt, cX4_byteAt, 2, (some .int), 0, 0),
  (yX4_isLetter, cX4_isLetter, 1, (some .boolean), 1, 22),
  (yX4_isDigit, cX4_isDigit, 1, (some .boolean), 1, 22),
  (yX4_advance, cX4_advance, 2, none, 2, 42),
  (yX4_isWord, cX4_isWord, 3, (some .boolean), 0, 0),
  (yX4_kindHere, cX4_kindHere, 1, (some .int), 1, 22),
  (yX4_wantNumber, cX4_wantNumber, 4, (some .int), 3, 63),
  (yX4_mayWant, cX4_mayWant, 6, (some .int), 4, 86),
  (yX4_wantOne, cX4_wantOne, 4, none, 5, 111),
  (yX4_wantRoom, cX4_wantRoom, 6, none, 5, 111),
  (yX4_wantDoor, cX4_wantDoor, 3, none, 4, 86),
  (yX4_wantItem, cX4_wantItem, 1, none, 6, 136),
  (yX4_text, cX4_text, 3, (some .int), 7, 156),
  (yX4_isSheet, cX4_isSheet, 1, (some .boolean), 1, 22)]
def na_mis7 : List MI := [(yX4_narrow, cX4_narrow, 3, (some .long), 0, 0),
  (yX4_sheet, cX4_sheet, 5, (some .int), 2, 42),
  (yX4_write, cX4_write, 7, (some .long), 2, 42),
  (yX4_isPart, cX4_isPart, 4, (some .boolean), 0, 0),
  (yX4_copy, cX4_copy, 7, (some .int), 2, 42),
  (yX4_badSheet, cX4_badSheet, 2, (some .int), 2, 42),
  (yX4_lays, cX4_lays, 7, (some .int), 3, 63),
  (yX4_book, cX4_book, 5, (some .int), 5, 112),
  (yX4_isSo, cX4_isSo, 5, (some .boolean), 5, 112),
  (yX4_read, cX4_read, 6, (some .int), 6, 136),
  (yX4_moveAll, cX4_moveAll, 4, none, 0, 0),
  (yX4_image, cX4_image, 1, (some .int), 1, 23),
  (yX4_undo, cX4_undo, 1, (some .int), 1, 23),
  (yX4_tear, cX4_tear, 2, (some .int), 0, 0),
  (yX4_count, cX4_count, 4, (some .int), 2, 45),
  (yX4_status, cX4_status, 4, (some .int), 1, 22),
  (yJ6_numberOfTrailingZeros_0f7a4, cJ6_numberOfTrailingZeros_0f7a4, 2, (some .int), 0, 0),
  (yJ6_bitCount_0f7a4, cJ6_bitCount_0f7a4, 1, (some .int), 0, 0),
  (yJ0_length_8abf5, cJ0_length_8abf5, 1, (some .int), 1, 20),
  (yJ0_charAt_5068e, cJ0_charAt_5068e, 2, (some .char), 3, 64),
  (yJ0_coder_7d493, cJ0_coder_7d493, 1, (some .byte), 0, 0),
  (yJ0_isLatin1_aae02, cJ0_isLatin1_aae02, 1, (some .boolean), 0, 0),
  (yJ0_checkIndex_df160, cJ0_checkIndex_df160, 2, none, 1, 22),
  (yJ1_charAt_3b067, cJ1_charAt_3b067, 2, (some .char), 2, 43),
  (yJ3_checkIndex_8e157, cJ3_checkIndex_8e157, 3, (some .int), 0, 0)]
def na_mis : List MI := na_mis0 ++ na_mis1 ++ na_mis2 ++ na_mis3 ++ na_mis4 ++ na_mis5 ++ na_mis6 ++ na_mis7
def na_mi (j : Nat) : MI := match na_nth na_mis j with
  | some q => q
  | none => (yL_law, code, 4, some .boolean, 0, 0)
end
section
/-! THE SMALL MACHINE IN THE TRUE ONE: what holds of the true heap (na_R), what is given all along (na_C), a method's contract (Mt), one instruction (na_stp), a stretch (na_wp). -/
def na_Tg : List Cond := lw_tbl.filter goodWord
def na_ww (q : MI) : List Cond := .code q.1 q.2.1 q.2.2.1 q.2.2.2.1 :: na_Tg
def na_rm (q : MI) : Room := { frames := q.2.2.2.2.1, cells := 0, slots := 0, locals := q.2.2.2.2.2 }
/-- cells that may change: all that came behind the law's start -/
abbrev na_A (N0 : Nat) : Nat → Prop := fun q => N0 ≤ q
def na_tys (ca : Nat → Nat) : List (ClassId × FieldType) := [(ca 0, .int), (ca 1, .long), (ca 2, .object RX1)]
def na_R (D : va_G) (ca ad : Nat → Nat) (N0 : Nat) (s0 : State) (I : Mm) (J : Ml) (H : Heap) : Prop :=
  va_P D vwCl (na_ws ca ad I J 0 na_lay) H ∧ va_D (na_A N0) (na_ws ca ad I J 0 na_lay) ∧ N0 ≤ H.size ∧ ∀ q : Nat, q < N0 → H[q]? = s0.heap[q]?
/-- words of the tables that must be carried by hand -/
def na_Kw (ad : Nat → Nat) (U : State) : Prop :=
  va_Nw (.methodLinkNest RX0 65 yX3_has RX3) U ∧ va_Nw (.methodLinkNest RX2 137 yX3_outside RX3) U ∧ va_Nw (.fieldLinkNest RX2 111 RX3 "MOST_OF_ROOM" "[I" RX3) U ∧ ∀ (i : Nat) (q : Nat × String × List Int32), na_nth na_wd i = some q → vk_R RX2 q.1 q.2.1 (ad (100 + i)) U
def na_C (sx : Nat × (Nat → Int32)) (D : va_G) (ca ad : Nat → Nat) (fm : Value) (N0 : Nat) (s0 : State) : Prop :=
  va_K D vwCl (na_tys ca) s0 ∧ s0.heap.size = N0 ∧
  (∀ (a : Nat) (q : Nat × (Nat → Int32)), na_sa sx a = some q → va_T .int (ad a) q.1 (fun j => .int (q.2 j)) (na_A N0) s0 s0.heap) ∧
  (∀ (a : Nat) (q : Nat × (Nat → Int32)), na_sb a = some q → va_T .byte (ad a) q.1 (fun j => .int (q.2 j)) (na_A N0) s0 s0.heap) ∧
  (∀ q ∈ na_st, va_Z q.1 q.2.1 q.2.2.1 (na_tv ad fm q.2.2.2) (na_A N0) s0 s0.heap) ∧
  (∀ (i : Nat) (q : Nat × String × List Int32), na_nth na_wd i = some q → va_O RJ0 (ad (100 + i)) (na_A N0) s0 s0.heap ∧ va_OF RJ0 "coder" "B" (.int 0) (ad (100 + i)) (na_A N0) s0 s0.heap ∧ va_OF RJ0 "value" "[B" (.ref (ad (120 + i))) (ad (100 + i)) (na_A N0) s0 s0.heap) ∧
  (fm = .null ∨ ∃ t : Nat, fm = .ref t)
def na_Pc (D : va_G) (ca ad : Nat → Nat) (fm : Value) (N0 : Nat) (s0 : State) (av : List Value) (I : Mm) (J : Ml) : Array Value → State → Prop := fun v U =>
  v = (av.map (na_tv ad fm)).toArray ∧ s0.vm.Alike U.vm ∧ na_Kw ad U ∧ na_R D ca ad N0 s0 I J U.heap
def na_Qc (D : va_G) (ca ad : Nat → Nat) (fm : Value) (N0 : Nat) (s0 : State) (Post : Option Value → Mm → Ml → Prop) : Array Value → State → Outcome → State → Prop := fun _ st o t =>
  ∃ (r : Option Value) (I : Mm) (J : Ml), o = .returned (r.map (na_tv ad fm)) ∧ Post r I J ∧ na_R D ca ad N0 s0 I J t.heap ∧ st.heap.size ≤ t.heap.size
/-- method j, with these arguments over this memory, returns, and Post holds of its answer and of the memory behind it -/
def Mt (sx : Nat × (Nat → Int32)) (j : Nat) (av : List Value) (I : Mm) (J : Ml) (Post : Option Value → Mm → Ml → Prop) : Prop :=
  ∀ (l : Launch) (D : va_G) (ca ad : Nat → Nat) (fm : Value) (N0 : Nat) (s0 : State), na_C sx D ca ad fm N0 s0 →
    Met l (na_mi j).1 (na_ww (na_mi j)) (na_rm (na_mi j)) (na_Pc D ca ad fm N0 s0 av I J) (na_Qc D ca ad fm N0 s0 Post) 0 0 (na_A N0)
theorem Met.conseq {l : Launch} {y : MethodName} {ws : List Cond} {rm : Room} {Pc : Array Value → State → Prop} {Qc Qd : Array Value → State → Outcome → State → Prop} {mc ms : Nat} {free : Addr → Prop} (h : Met l y ws rm Pc Qc mc ms free) (hq : ∀ a st o t, Qc a st o t → Qd a st o t) : Met l y ws rm Pc Qd mc ms free := by
  intro p e ha hc hk s m args below hf happ hP hK
  obtain ⟨k, o, h1, h2, h3, h4, h5⟩ := h p e ha hc hk s m args below hf happ hP hK
  exact ⟨k, o, h1, h2, h3, hq _ _ _ _ h4, h5⟩
theorem Mt.conseq {sx : Nat × (Nat → Int32)} {j : Nat} {av : List Value} {I : Mm} {J : Ml} {P Q : Option Value → Mm → Ml → Prop} (h : Mt sx j av I J P) (hq : ∀ r I' J', P r I' J' → Q r I' J') : Mt sx j av I J Q :=
  fun l D ca ad fm N0 s0 hC => (h l D ca ad fm N0 s0 hC).conseq fun a st o t ⟨r, I', J', h1, h2, h3⟩ => ⟨r, I', J', h1, hq r I' J' h2, h3⟩
def na_pu (v : Option Value) (st : List Value) : List Value := match v with
  | none => st
  | some v => v :: st
def na_ct : List Value → Nat
  | [] => 0
  | .long _ :: r => 2 + na_ct r
  | .double _ :: r => 2 + na_ct r
  | _ :: r => 1 + na_ct r
def na_rc (c : Nat) (as : List Value) : Bool := match as with
  | .ref a :: _ => bif Nat.beq c 9 then Nat.ble 100 a && Nat.ble a 116 else match na_nth na_lay a with
    | some (.inr q) => Nat.beq q.1 c
    | _ => false
  | _ => false
def na_sw : List Nat → Int → Int32 → (Nat → Prop) → Prop
  | [], _, _, _ => True
  | t :: r, lo, x, k => (x.toInt = lo → k t) ∧ na_sw r (lo + 1) x k
/-- one instruction: what must hold so that the method goes on as k says, or ends as Rt says -/
def na_stp (P : List En) (sx : Nat × (Nat → Int32)) (rt : Option FieldType) (Rt : Option Value → Mm → Ml → Prop) (k : List En → Lo → List Value → Mm → Ml → Prop) (e : En) (r : List En) (ls : Lo) (st : List Value) (I : Mm) (J : Ml) : Prop :=
  match e.2.2.1 with
  | .iconst _ => k r ls (.int e.2.2.2.2.1 :: st) I J
  | .bipush _ => k r ls (.int e.2.2.2.2.1 :: st) I J
  | .sipush _ => k r ls (.int e.2.2.2.2.1 :: st) I J
  | .ldc_w _ => k r ls (.int e.2.2.2.2.1 :: st) I J
  | .ldc _ => match e.2.2.2.1 with
    | [] => k r ls (.int e.2.2.2.2.1 :: st) I J
    | a :: _ => k r ls (.ref (100 + a) :: st) I J
  | .lconst _ => k r ls (.long e.2.2.2.2.2 :: st) I J
  | .ldc2_w _ => k r ls (.long e.2.2.2.2.2 :: st) I J
  | .iload _ => na_ld (na_nth ls (na_h0 e.2.2.2.1)) fun v => na_pI [v] fun x _ => k r ls (.int x :: st) I J
  | .iload_n _ => na_ld (na_nth ls (na_h0 e.2.2.2.1)) fun v => na_pI [v] fun x _ => k r ls (.int x :: st) I J
  | .lload _ => na_ld (na_nth ls (na_h0 e.2.2.2.1)) fun v => na_pL [v] fun x _ => k r ls (.long x :: st) I J
  | .lload_n _ => na_ld (na_nth ls (na_h0 e.2.2.2.1)) fun v => na_pL [v] fun x _ => k r ls (.long x :: st) I J
  | .aload _ => na_ld (na_nth ls (na_h0 e.2.2.2.1)) fun v => na_pR [v] fun x _ => bif Nat.beq x 90 then False else k r ls (.ref x :: st) I J
  | .aload_n _ => na_ld (na_nth ls (na_h0 e.2.2.2.1)) fun v => na_pR [v] fun x _ => bif Nat.beq x 90 then False else k r ls (.ref x :: st) I J
  | .istore _ => na_pI st fun x st => k r (na_s1 ls (na_h0 e.2.2.2.1) (.int x)) st I J
  | .istore_n _ => na_pI st fun x st => k r (na_s1 ls (na_h0 e.2.2.2.1) (.int x)) st I J
  | .lstore _ => na_pL st fun x st => k r (na_s2 ls (na_h0 e.2.2.2.1) (.long x)) st I J
  | .lstore_n _ => na_pL st fun x st => k r (na_s2 ls (na_h0 e.2.2.2.1) (.long x)) st I J
  | .astore _ => na_pR st fun x st => bif Nat.beq x 90 then False else k r (na_s1 ls (na_h0 e.2.2.2.1) (.ref x)) st I J
  | .astore_n _ => na_pR st fun x st => bif Nat.beq x 90 then False else k r (na_s1 ls (na_h0 e.2.2.2.1) (.ref x)) st I J
  | .iinc _ _ => na_ld (na_nth ls (na_h0 e.2.2.2.1)) fun v => na_pI [v] fun x _ => k r (na_s1 ls (na_h0 e.2.2.2.1) (.int (x + e.2.2.2.2.1))) st I J
  | .iadd => na_pI st fun y st => na_pI st fun x st => k r ls (.int (x + y) :: st) I J
  | .isub => na_pI st fun y st => na_pI st fun x st => k r ls (.int (x - y) :: st) I J
  | .imul => na_pI st fun y st => na_pI st fun x st => k r ls (.int (x * y) :: st) I J
  | .iand => na_pI st fun y st => na_pI st fun x st => k r ls (.int (x &&& y) :: st) I J
  | .ior => na_pI st fun y st => na_pI st fun x st => k r ls (.int (x ||| y) :: st) I J
  | .ixor => na_pI st fun y st => na_pI st fun x st => k r ls (.int (x ^^^ y) :: st) I J
  | .ishl => na_pI st fun y st => na_pI st fun x st => k r ls (.int (x <<< (y &&& 31)) :: st) I J
  | .ishr => na_pI st fun y st => na_pI st fun x st => k r ls (.int (x >>> (y &&& 31)) :: st) I J
  | .iushr => na_pI st fun y st => na_pI st fun x st => k r ls (.int (x.toUInt32 >>> (y.toUInt32 &&& Int32.toUInt32 31)).toInt32 :: st) I J
  | .idiv => na_pI st fun y st => na_pI st fun x st => ¬ y = 0 ∧ k r ls (.int (x / y) :: st) I J
  | .irem => na_pI st fun y st => na_pI st fun x st => ¬ y = 0 ∧ k r ls (.int (x - x / y * y) :: st) I J
  | .ineg => na_pI st fun x st => k r ls (.int (-x) :: st) I J
  | .ladd => na_pL st fun y st => na_pL st fun x st => k r ls (.long (x + y) :: st) I J
  | .lsub => na_pL st fun y st => na_pL st fun x st => k r ls (.long (x - y) :: st) I J
  | .lmul => na_pL st fun y st => na_pL st fun x st => k r ls (.long (x * y) :: st) I J
  | .land => na_pL st fun y st => na_pL st fun x st => k r ls (.long (x &&& y) :: st) I J
  | .lor => na_pL st fun y st => na_pL st fun x st => k r ls (.long (x ||| y) :: st) I J
  | .ldiv => na_pL st fun y st => na_pL st fun x st => ¬ y = 0 ∧ k r ls (.long (x / y) :: st) I J
  | .lshl => na_pI st fun y st => na_pL st fun x st => k r ls (.long (x <<< (y.toInt64 &&& 63)) :: st) I J
  | .lshr => na_pI st fun y st => na_pL st fun x st => k r ls (.long (x >>> (y.toInt64 &&& 63)) :: st) I J
  | .lcmp => na_pL st fun y st => na_pL st fun x st => k r ls (.int (lg_cmp x y) :: st) I J
  | .i2l => na_pI st fun x st => k r ls (.long x.toInt64 :: st) I J
  | .l2i => na_pL st fun x st => k r ls (.int x.toInt32 :: st) I J
  | .i2b => na_pI st fun x st => k r ls (.int x.toInt8.toInt32 :: st) I J
  | .i2s => na_pI st fun x st => k r ls (.int x.toInt16.toInt32 :: st) I J
  | .i2c => na_pI st fun x st => k r ls (.int (x.toUInt32 % 65536).toInt32 :: st) I J
  | .dup => na_p1 st fun v st => k r ls (v :: v :: st) I J
  | .pop => na_p1 st fun _ st => k r ls st I J
  | .dup2 => na_p1 st fun v st => na_p1 st fun w st => k r ls (v :: w :: v :: w :: st) I J
  | .goto _ => k (na_dr (na_h0 e.2.2.2.1) P) ls st I J
  | .ifCond .eq _ => na_pI st fun x st => (x = 0 → k (na_dr (na_h0 e.2.2.2.1) P) ls st I J) ∧ (¬ x = 0 → k r ls st I J)
  | .ifCond .ne _ => na_pI st fun x st => (¬ x = 0 → k (na_dr (na_h0 e.2.2.2.1) P) ls st I J) ∧ (x = 0 → k r ls st I J)
  | .ifCond .lt _ => na_pI st fun x st => (x < 0 → k (na_dr (na_h0 e.2.2.2.1) P) ls st I J) ∧ (¬ x < 0 → k r ls st I J)
  | .ifCond .ge _ => na_pI st fun x st => (0 ≤ x → k (na_dr (na_h0 e.2.2.2.1) P) ls st I J) ∧ (¬ 0 ≤ x → k r ls st I J)
  | .ifCond .gt _ => na_pI st fun x st => (0 < x → k (na_dr (na_h0 e.2.2.2.1) P) ls st I J) ∧ (¬ 0 < x → k r ls st I J)
  | .ifCond .le _ => na_pI st fun x st => (x ≤ 0 → k (na_dr (na_h0 e.2.2.2.1) P) ls st I J) ∧ (¬ x ≤ 0 → k r ls st I J)
  | .if_icmp .eq _ => na_pI st fun y st => na_pI st fun x st => (x = y → k (na_dr (na_h0 e.2.2.2.1) P) ls st I J) ∧ (¬ x = y → k r ls st I J)
  | .if_icmp .ne _ => na_pI st fun y st => na_pI st fun x st => (¬ x = y → k (na_dr (na_h0 e.2.2.2.1) P) ls st I J) ∧ (x = y → k r ls st I J)
  | .if_icmp .lt _ => na_pI st fun y st => na_pI st fun x st => (x < y → k (na_dr (na_h0 e.2.2.2.1) P) ls st I J) ∧ (¬ x < y → k r ls st I J)
  | .if_icmp .ge _ => na_pI st fun y st => na_pI st fun x st => (y ≤ x → k (na_dr (na_h0 e.2.2.2.1) P) ls st I J) ∧ (¬ y ≤ x → k r ls st I J)
  | .if_icmp .gt _ => na_pI st fun y st => na_pI st fun x st => (y < x → k (na_dr (na_h0 e.2.2.2.1) P) ls st I J) ∧ (¬ y < x → k r ls st I J)
  | .if_icmp .le _ => na_pI st fun y st => na_pI st fun x st => (x ≤ y → k (na_dr (na_h0 e.2.2.2.1) P) ls st I J) ∧ (¬ x ≤ y → k r ls st I J)
  | .tableswitch _ lo hi _ => na_pI st fun x st => (x.toInt < lo ∨ hi < x.toInt → k (na_dr (na_h0 e.2.2.2.1) P) ls st I J) ∧ na_sw e.2.2.2.1.tail lo x fun t => k (na_dr t P) ls st I J
  | .iaload => na_pI st fun i st => na_pR st fun a st => na_ar sx I a fun n f => vp_in i n ∧ k r ls (.int (f i.toNatClampNeg) :: st) I J
  | .baload => na_pI st fun i st => na_pR st fun a st => match na_sb a with
    | some q => vp_in i q.1 ∧ k r ls (.int (q.2 i.toNatClampNeg) :: st) I J
    | none => False
  | .laload => na_pI st fun i st => na_pR st fun a st => match na_nth na_lay a with
    | some (.inl (1, n)) => vp_in i n ∧ k r ls (.long (J a i.toNatClampNeg) :: st) I J
    | _ => False
  | .aaload => na_pI st fun i st => na_pR st fun a st => match na_nth na_lay a with
    | some (.inl (2, n)) => vp_in i n ∧ k r ls (.ref (na_shp i.toNatClampNeg) :: st) I J
    | _ => False
  | .iastore => na_pI st fun v st => na_pI st fun i st => na_pR st fun a st => match na_nth na_lay a with
    | some (.inl (0, n)) => vp_in i n ∧ k r ls st (na_set I a i.toNatClampNeg v) J
    | _ => False
  | .lastore => na_pL st fun v st => na_pI st fun i st => na_pR st fun a st => match na_nth na_lay a with
    | some (.inl (1, n)) => vp_in i n ∧ k r ls st I (na_setL J a i.toNatClampNeg v)
    | _ => False
  | .arraylength => na_pR st fun a st => match na_nth na_lay a with
    | some (.inl (0, n)) => k r ls (.int (Int32.ofNat n) :: st) I J
    | some _ => False
    | none => match na_sa sx a with
      | some q => k r ls (.int (Int32.ofNat q.1) :: st) I J
      | none => match na_sb a with
        | some q => k r ls (.int (Int32.ofNat q.1) :: st) I J
        | none => False
  | .getfield _ => na_pR st fun a st => bif Nat.beq (na_h0 e.2.2.2.1) 9 then (bif Nat.ble 100 a && Nat.ble a 116 then (match na_h1 e.2.2.2.1 with
      | 0 => k r ls (.int 0 :: st) I J
      | 1 => k r ls (.ref (a + 20) :: st) I J
      | _ => False) else False) else match na_nth na_lay a with
    | some (.inr q) => bif Nat.beq q.1 (na_h0 e.2.2.2.1) then (match na_nth q.2 (na_h1 e.2.2.2.1) with
      | some f => k r ls (na_fw I J a (na_h1 e.2.2.2.1) f :: st) I J
      | none => False) else False
    | _ => False
  | .putfield _ => match st with
    | .int v :: .ref a :: st => (match na_nth na_lay a with
      | some (.inr q) => bif Nat.beq q.1 (na_h0 e.2.2.2.1) then (match na_nth q.2 (na_h1 e.2.2.2.1) with
        | some 0 => (match na_h2 e.2.2.2.1 with
          | 0 => k r ls st (na_set I a (na_h1 e.2.2.2.1) v) J
          | 1 => (v = 0 ∨ v = 1) ∧ k r ls st (na_set I a (na_h1 e.2.2.2.1) v) J
          | _ => False)
        | _ => False) else False
      | _ => False)
    | .long v :: .ref a :: st => (match na_nth na_lay a with
      | some (.inr q) => bif Nat.beq q.1 (na_h0 e.2.2.2.1) then (match na_nth q.2 (na_h1 e.2.2.2.1) with
        | some 1 => bif Nat.beq (na_h2 e.2.2.2.1) 2 then k r ls st I (na_setL J a (na_h1 e.2.2.2.1) v) else False
        | _ => False) else False
      | _ => False)
    | _ => False
  | .getstatic _ => match na_nth na_st (na_h0 e.2.2.2.1) with
    | some q => k r ls (q.2.2.2 :: st) I J
    | none => False
  | .invokestatic _ => bif Nat.beq (na_h0 e.2.2.2.1) 998 then False else bif Nat.beq (na_h0 e.2.2.2.1) 997 then (na_pI st fun y st => na_pI st fun x st => bif Nat.ble (na_ct st) 8 then k r ls (.int (jmin x y) :: st) I J else False) else bif Nat.beq (na_h0 e.2.2.2.1) 996 then (na_pI st fun y st => na_pI st fun x st => bif Nat.ble (na_ct st) 8 then k r ls (.int (jmax x y) :: st) I J else False) else bif Nat.beq (na_h0 e.2.2.2.1) 999 then
      na_pI st fun n st => na_pI st fun dp st => na_pR st fun d st => na_pI st fun sp st => na_pR st fun a st => bif Nat.ble (na_ct st) 8 then (match na_nth na_lay a, na_nth na_lay d with
      | some (.inl (0, n0)), some (.inl (0, n1)) => (¬ sp < 0 ∧ ¬ dp < 0 ∧ ¬ n < 0 ∧ sp.toNatClampNeg + n.toNatClampNeg ≤ n0 ∧ dp.toNatClampNeg + n.toNatClampNeg ≤ n1) ∧ k r ls st (na_cpI I a d sp.toNatClampNeg dp.toNatClampNeg n.toNatClampNeg) J
      | some (.inl (1, n0)), some (.inl (1, n1)) => (¬ sp < 0 ∧ ¬ dp < 0 ∧ ¬ n < 0 ∧ sp.toNatClampNeg + n.toNatClampNeg ≤ n0 ∧ dp.toNatClampNeg + n.toNatClampNeg ≤ n1) ∧ k r ls st I (na_cpL J a d sp.toNatClampNeg dp.toNatClampNeg n.toNatClampNeg)
      | _, _ => False) else False
    else na_tk (na_h1 e.2.2.2.1) [] st fun as st => bif Nat.ble (na_ct st) 8 then Mt sx (na_h0 e.2.2.2.1) as I J (fun v I' J' => k r ls (na_pu v st) I' J') else False
  | .invokevirtual _ => na_tk (na_h1 e.2.2.2.1) [] st fun as st => bif Nat.ble (na_ct st) 8 && na_rc (na_h2 e.2.2.2.1) as then Mt sx (na_h0 e.2.2.2.1) as I J (fun v I' J' => k r ls (na_pu v st) I' J') else False
  | .return_ => match st with
    | [] => Rt none I J
    | _ => False
  | .ireturn => match st, rt with
    | [.int v], some ty => na_nl ty v ∧ Rt (some (.int v)) I J
    | _, _ => False
  | .lreturn => match st with
    | [.long v] => Rt (some (.long v)) I J
    | _ => False
  | .areturn => match st with
    | [.ref a] => bif Nat.beq a 90 then False else Rt (some (.ref a)) I J
    | _ => False
  | _ => False
/-- the stretch goes on, or stops at a row that 'cut' names -/
def na_go (K : Nat → Lo → List Value → Mm → Ml → Prop) (cut : Nat → Bool) (ih : List En → Lo → List Value → Mm → Ml → Prop) (sfx : List En) (ls : Lo) (st : List Value) (I : Mm) (J : Ml) : Prop := match sfx with
  | [] => False
  | e :: _ => bif cut e.1 then K e.1 ls st I J else ih sfx ls st I J
def na_wp (P : List En) (sx : Nat × (Nat → Int32)) (rt : Option FieldType) (Rt : Option Value → Mm → Ml → Prop) (K : Nat → Lo → List Value → Mm → Ml → Prop) (cut : Nat → Bool) : Nat → List En → Lo → List Value → Mm → Ml → Prop
  | 0 => fun sfx ls st I J => match sfx with
    | [] => False
    | e :: _ => K e.1 ls st I J
  | n + 1 => fun sfx ls st I J => match sfx with
    | [] => False
    | e :: r => na_stp P sx rt Rt (na_go K cut (na_wp P sx rt Rt K cut n)) e r ls st I J
end
section
/-! lists, worlds and locals of the small machine -/
theorem na_nth_eq {α : Type} : ∀ (l : List α) (i : Nat), na_nth l i = l[i]?
  | [], i => by simp [na_nth]
  | a :: r, 0 => by simp [na_nth]
  | a :: r, i + 1 => by simp [na_nth, na_nth_eq r i]
theorem na_dr_eq {α : Type} : ∀ (n : Nat) (l : List α), na_dr n l = l.drop n
  | 0, l => by simp [na_dr]
  | n + 1, [] => by simp [na_dr]
  | n + 1, a :: r => by simp [na_dr, na_dr_eq n r]
theorem na_fs_get (ad : Nat → Nat) (I : Mm) (J : Ml) (k : Nat) : ∀ (fs : List Nat) (j i : Nat), (na_fs ad I J k j fs)[i]? = (fs[i]?).map (na_fv ad I J k (j + i))
  | [], j, i => by simp [na_fs]
  | c :: r, j, 0 => by simp [na_fs]
  | c :: r, j, i + 1 => by
    have h := na_fs_get ad I J k r (j + 1) i
    simp only [na_fs, List.getElem?_cons_succ, h]
    rw [show j + 1 + i = j + (i + 1) by omega]
theorem na_fs_len (ad : Nat → Nat) (I : Mm) (J : Ml) (k : Nat) : ∀ (fs : List Nat) (j : Nat), (na_fs ad I J k j fs).length = fs.length
  | [], j => rfl
  | c :: r, j => by simp [na_fs, na_fs_len ad I J k r (j + 1)]
theorem na_ws_get (ca ad : Nat → Nat) (I : Mm) (J : Ml) : ∀ (L : List Ly) (k i : Nat), (na_ws ca ad I J k L)[i]? = (L[i]?).map (fun e => (ad (k + i), na_ce ca ad I J (k + i) e))
  | [], k, i => by simp [na_ws]
  | c :: r, k, 0 => by simp [na_ws]
  | c :: r, k, i + 1 => by
    have h := na_ws_get ca ad I J r (k + 1) i
    simp only [na_ws, List.getElem?_cons_succ, h]
    rw [show k + 1 + i = k + (i + 1) by omega]
theorem na_ws_at {ca ad : Nat → Nat} {I : Mm} {J : Ml} {k : Nat} {e : Ly} (h : na_nth na_lay k = some e) : (na_ws ca ad I J 0 na_lay)[k]? = some (ad k, na_ce ca ad I J k e) := by
  rw [na_nth_eq] at h
  rw [na_ws_get, h]
  simp
theorem na_fv_congr {ad : Nat → Nat} {I I' : Mm} {J J' : Ml} {k j : Nat} (hI : I' k = I k) (hJ : J' k = J k) : ∀ c : Nat, na_fv ad I' J' k j c = na_fv ad I J k j c
  | 0 => by simp [na_fv, hI]
  | 1 => by simp [na_fv, hJ]
  | n + 2 => rfl
theorem na_ce_congr {ca ad : Nat → Nat} {I I' : Mm} {J J' : Ml} {k : Nat} (hI : I' k = I k) (hJ : J' k = J k) (e : Ly) : na_ce ca ad I' J' k e = na_ce ca ad I J k e := by
  rcases e with ⟨t, n⟩ | ⟨c, fs⟩
  · match t with
    | 0 => simp [na_ce, hI]
    | 1 => simp [na_ce, hJ]
    | t + 2 => simp [na_ce]
  · have : na_fs ad I' J' k 0 fs = na_fs ad I J k 0 fs := by
      apply List.ext_getElem?
      intro i
      rw [na_fs_get, na_fs_get]
      congr 1
      exact funext fun c => na_fv_congr hI hJ c
    simp [na_ce, this]
theorem na_ws_set {ca ad : Nat → Nat} {I I' : Mm} {J J' : Ml} {k : Nat} {e : Ly} (h : na_nth na_lay k = some e) (ho : ∀ a, a ≠ k → I' a = I a ∧ J' a = J a) : (na_ws ca ad I J 0 na_lay).set k (ad k, na_ce ca ad I' J' k e) = na_ws ca ad I' J' 0 na_lay := by
  have h' := h
  rw [na_nth_eq] at h
  apply List.ext_getElem?
  intro i
  rw [List.getElem?_set]
  by_cases hi : k = i
  · subst hi
    have hl : k < (na_ws ca ad I J 0 na_lay).length := by
      rcases Nat.lt_or_ge k (na_ws ca ad I J 0 na_lay).length with q | q
      · exact q
      · have := na_ws_at (ca := ca) (ad := ad) (I := I) (J := J) h'
        rw [List.getElem?_eq_none q] at this
        cases this
    rw [if_pos rfl, if_pos hl, na_ws_at h']
  · rw [if_neg hi, na_ws_get, na_ws_get]
    congr 1
    funext e'
    rw [na_ce_congr (ho _ (by omega)).1 (ho _ (by omega)).2]
theorem na_set_off {I : Mm} {k j : Nat} {v : Int32} {a : Nat} (h : a ≠ k) : na_set I k j v a = I a := by simp [na_set, h]
theorem na_set_on {I : Mm} {k j : Nat} {v : Int32} : na_set I k j v k = upd (I k) j v := by simp [na_set]
theorem na_setL_off {J : Ml} {k j : Nat} {v : Int64} {a : Nat} (h : a ≠ k) : na_setL J k j v a = J a := by simp [na_setL, h]
theorem na_setL_on {J : Ml} {k j : Nat} {v : Int64} : na_setL J k j v k = vp_updL (J k) j v := by simp [na_setL]
theorem na_cpI_off {I : Mm} {a d sp dp n b : Nat} (h : b ≠ d) : na_cpI I a d sp dp n b = I b := by simp [na_cpI, h]
theorem na_cpI_on {I : Mm} {a d sp dp n : Nat} : na_cpI I a d sp dp n d = va_cpy (I a) (I d) sp dp n := by simp [na_cpI]
theorem na_cpL_off {J : Ml} {a d sp dp n b : Nat} (h : b ≠ d) : na_cpL J a d sp dp n b = J b := by simp [na_cpL, h]
theorem na_cpL_on {J : Ml} {a d sp dp n : Nat} : na_cpL J a d sp dp n d = va_cpy (J a) (J d) sp dp n := by simp [na_cpL]
/-- an object's cell with one field changed -/
theorem na_fs_set {ad : Nat → Nat} {I I' : Mm} {J J' : Ml} {k j : Nat} {fs : List Nat} {c : Nat} {v : Value} (hc : fs[j]? = some c) (hv : na_fv ad I' J' k j c = v) (ho : ∀ b, b ≠ j → I' k b = I k b ∧ J' k b = J k b) : (na_fs ad I J k 0 fs).set j v = na_fs ad I' J' k 0 fs := by
  apply List.ext_getElem?
  intro i
  rw [List.getElem?_set]
  by_cases hi : j = i
  · subst hi
    have hl : j < (na_fs ad I J k 0 fs).length := by
      rw [na_fs_len]
      exact (List.getElem?_eq_some_iff.mp hc).1
    rw [if_pos rfl, if_pos hl, na_fs_get, hc]
    simp [hv]
  · rw [if_neg hi, na_fs_get, na_fs_get]
    congr 1
    funext c'
    have h1 := ho (0 + i) (by omega)
    match c' with
    | 0 => simp only [na_fv, h1.1]
    | 1 => simp only [na_fv, h1.2]
    | n + 2 => rfl
/-! locals -/
def na_lv (ad : Nat → Nat) (fm : Value) (lsA : Array Slot) (nL : Nat) (ls : Lo) : Prop := lsA.size = nL ∧ lv_wf lsA ∧ ∀ (i : Nat) (v : Value), ls[i]? = some (some v) → lsA[i]? = some (.val (na_tv ad fm v))
def na_al (ad : Nat → Nat) (fm : Value) (ls : Lo) : List (Nat × Value) := (List.range ls.length).filterMap fun i => match ls[i]? with
  | some (some v) => some (i, na_tv ad fm v)
  | _ => none
theorem na_al_mem {ad : Nat → Nat} {fm : Value} {ls : Lo} {q : Nat × Value} : q ∈ na_al ad fm ls ↔ ∃ v, ls[q.1]? = some (some v) ∧ q.2 = na_tv ad fm v := by
  unfold na_al
  rw [List.mem_filterMap]
  constructor
  · rintro ⟨i, -, h⟩
    cases hl : ls[i]? with
    | none => simp [hl] at h
    | some o =>
      cases o with
      | none => simp [hl] at h
      | some v =>
        simp only [hl, Option.some.injEq] at h
        subst h
        exact ⟨v, hl, rfl⟩
  · rintro ⟨v, h1, h2⟩
    refine ⟨q.1, ?_, ?_⟩
    · rw [List.mem_range]
      exact (List.getElem?_eq_some_iff.mp h1).1
    · simp [h1, ← h2]
theorem na_lv.has {ad : Nat → Nat} {fm : Value} {lsA : Array Slot} {nL : Nat} {ls : Lo} (h : na_lv ad fm lsA nL ls) : lv_has lsA nL (na_al ad fm ls) :=
  ⟨h.1, h.2.1, fun q hq => by
    obtain ⟨v, h1, h2⟩ := na_al_mem.mp hq
    rw [h2]
    exact h.2.2 q.1 v h1⟩
theorem na_tv_cat {ad : Nat → Nat} {fm : Value} (hf : fm = .null ∨ ∃ t : Nat, fm = .ref t) (v : Value) : (na_tv ad fm v).category = v.category := by
  cases v <;> simp only [na_tv]
  split
  · rcases hf with rfl | ⟨t, rfl⟩ <;> rfl
  · rfl
theorem na_s1_get : ∀ (ls : Lo) (i j : Nat) (v w : Value), (na_s1 ls i v)[j]? = some (some w) → (j = i ∧ w = v) ∨ (j ≠ i ∧ ls[j]? = some (some w) ∧ ¬ (j + 1 = i ∧ ((∃ x, w = .long x) ∨ ∃ x, w = .double x)))
  | [], i, j, v, w, h => by simp [na_s1] at h
  | x :: r, 0, 0, v, w, h => by
    simp only [na_s1, List.getElem?_cons_zero, Option.some.injEq] at h
    exact Or.inl ⟨rfl, h.symm⟩
  | x :: r, 0, j + 1, v, w, h => by
    simp only [na_s1, List.getElem?_cons_succ] at h
    exact Or.inr ⟨by omega, by simpa using h, fun q => by omega⟩
  | x :: r, 1, 0, v, w, h => by
    simp only [na_s1, List.getElem?_cons_zero, Option.some.injEq] at h
    split at h
    · cases h
    · cases h
    · rename_i h1 h2
      subst h
      refine Or.inr ⟨by omega, by simp, fun q => ?_⟩
      rcases q.2 with ⟨y, hy⟩ | ⟨y, hy⟩
      · exact h1 y (by rw [hy])
      · exact h2 y (by rw [hy])
  | x :: r, 1, j + 1, v, w, h => by
    simp only [na_s1, List.getElem?_cons_succ] at h
    rcases na_s1_get r 0 j v w h with ⟨h1, h2⟩ | ⟨h1, h2, h3⟩
    · exact Or.inl ⟨by omega, h2⟩
    · exact Or.inr ⟨by omega, by simpa using h2, fun q => by omega⟩
  | x :: r, i + 2, 0, v, w, h => by
    simp only [na_s1, List.getElem?_cons_zero, Option.some.injEq] at h
    exact Or.inr ⟨by omega, by simpa using h, fun q => by omega⟩
  | x :: r, i + 2, j + 1, v, w, h => by
    simp only [na_s1, List.getElem?_cons_succ] at h
    rcases na_s1_get r (i + 1) j v w h with ⟨h1, h2⟩ | ⟨h1, h2, h3⟩
    · exact Or.inl ⟨by omega, h2⟩
    · exact Or.inr ⟨by omega, by simpa using h2, fun q => h3 ⟨by omega, q.2⟩⟩
theorem na_s2_get : ∀ (ls : Lo) (i j : Nat) (v w : Value), (na_s2 ls i v)[j]? = some (some w) → (j = i ∧ w = v) ∨ (j ≠ i ∧ j ≠ i + 1 ∧ ls[j]? = some (some w) ∧ ¬ (j + 1 = i ∧ ((∃ x, w = .long x) ∨ ∃ x, w = .double x)))
  | [], i, j, v, w, h => by simp [na_s2] at h
  | x :: r, 0, 0, v, w, h => by
    simp only [na_s2, List.getElem?_cons_zero, Option.some.injEq] at h
    exact Or.inl ⟨rfl, h.symm⟩
  | x :: r, 0, j + 1, v, w, h => by
    simp only [na_s2, List.getElem?_cons_succ] at h
    cases r with
    | nil => simp [na_n1] at h
    | cons y r =>
      cases j with
      | zero => simp [na_n1] at h
      | succ j => exact Or.inr ⟨by omega, by omega, by simpa [na_n1] using h, fun q => by omega⟩
  | x :: r, 1, 0, v, w, h => by
    simp only [na_s2, List.getElem?_cons_zero, Option.some.injEq] at h
    split at h
    · cases h
    · cases h
    · rename_i h1 h2
      subst h
      refine Or.inr ⟨by omega, by omega, by simp, fun q => ?_⟩
      rcases q.2 with ⟨y, hy⟩ | ⟨y, hy⟩
      · exact h1 y (by rw [hy])
      · exact h2 y (by rw [hy])
  | x :: r, 1, j + 1, v, w, h => by
    simp only [na_s2, List.getElem?_cons_succ] at h
    rcases na_s2_get r 0 j v w h with ⟨h1, h2⟩ | ⟨h1, h4, h2, h3⟩
    · exact Or.inl ⟨by omega, h2⟩
    · exact Or.inr ⟨by omega, by omega, by simpa using h2, fun q => by omega⟩
  | x :: r, i + 2, 0, v, w, h => by
    simp only [na_s2, List.getElem?_cons_zero, Option.some.injEq] at h
    exact Or.inr ⟨by omega, by omega, by simpa using h, fun q => by omega⟩
  | x :: r, i + 2, j + 1, v, w, h => by
    simp only [na_s2, List.getElem?_cons_succ] at h
    rcases na_s2_get r (i + 1) j v w h with ⟨h1, h2⟩ | ⟨h1, h4, h2, h3⟩
    · exact Or.inl ⟨by omega, h2⟩
    · exact Or.inr ⟨by omega, by omega, by simpa using h2, fun q => h3 ⟨by omega, q.2⟩⟩
/-- a store of one slot -/
theorem na_lv.s1 {ad : Nat → Nat} {fm : Value} {lsA : Array Slot} {nL i : Nat} {ls : Lo} {v : Value} (hf : fm = .null ∨ ∃ t : Nat, fm = .ref t) (h : lv_has lsA nL ((i, na_tv ad fm v) :: (na_al ad fm ls).filter (fun q => !(q.1 == i) && !(q.1 + 1 == i && q.2.category == 2)))) : na_lv ad fm lsA nL (na_s1 ls i v) := by
  refine ⟨h.1, h.2.1, fun j w hj => ?_⟩
  rcases na_s1_get ls i j v w hj with ⟨rfl, rfl⟩ | ⟨hi, h1, h2⟩
  · exact h.2.2 (j, na_tv ad fm w) List.mem_cons_self
  · refine h.2.2 (j, na_tv ad fm w) (List.mem_cons_of_mem _ (List.mem_filter.mpr ⟨na_al_mem.mpr ⟨w, h1, rfl⟩, ?_⟩))
    simp only [Bool.and_eq_true, Bool.not_eq_true', beq_eq_false_iff_ne, ne_eq, Bool.and_eq_false_iff]
    refine ⟨hi, ?_⟩
    by_cases hj1 : j + 1 = i
    · refine Or.inr fun hc => ?_
      rw [na_tv_cat hf] at hc
      cases w with
      | long x => exact h2 ⟨hj1, Or.inl ⟨x, rfl⟩⟩
      | double x => exact h2 ⟨hj1, Or.inr ⟨x, rfl⟩⟩
      | _ => simp [Value.category] at hc
    · exact Or.inl hj1
theorem na_lv.s2 {ad : Nat → Nat} {fm : Value} {lsA : Array Slot} {nL i : Nat} {ls : Lo} {v : Value} (hf : fm = .null ∨ ∃ t : Nat, fm = .ref t) (h : lv_has lsA nL ((i, na_tv ad fm v) :: (na_al ad fm ls).filter (fun q => !(q.1 == i) && (!(q.1 == i + 1) && !(q.1 + 1 == i && q.2.category == 2))))) : na_lv ad fm lsA nL (na_s2 ls i v) := by
  refine ⟨h.1, h.2.1, fun j w hj => ?_⟩
  rcases na_s2_get ls i j v w hj with ⟨rfl, rfl⟩ | ⟨hi, hi2, h1, h2⟩
  · exact h.2.2 (j, na_tv ad fm w) List.mem_cons_self
  · refine h.2.2 (j, na_tv ad fm w) (List.mem_cons_of_mem _ (List.mem_filter.mpr ⟨na_al_mem.mpr ⟨w, h1, rfl⟩, ?_⟩))
    simp only [Bool.and_eq_true, Bool.not_eq_true', beq_eq_false_iff_ne, ne_eq, Bool.and_eq_false_iff]
    refine ⟨hi, hi2, ?_⟩
    by_cases hj1 : j + 1 = i
    · refine Or.inr fun hc => ?_
      rw [na_tv_cat hf] at hc
      cases w with
      | long x => exact h2 ⟨hj1, Or.inl ⟨x, rfl⟩⟩
      | double x => exact h2 ⟨hj1, Or.inr ⟨x, rfl⟩⟩
      | _ => simp [Value.category] at hc
    · exact Or.inl hj1
end
section
/-! ONE INSTRUCTION OF THE SMALL MACHINE IS ONE OF THE TRUE ONE -/
theorem na_pI_s {st : List Value} {k : Int32 → List Value → Prop} (h : na_pI st k) : ∃ x r, st = .int x :: r ∧ k x r := by
  unfold na_pI at h
  split at h
  · exact ⟨_, _, rfl, h⟩
  · exact h.elim
theorem na_pL_s {st : List Value} {k : Int64 → List Value → Prop} (h : na_pL st k) : ∃ x r, st = .long x :: r ∧ k x r := by
  unfold na_pL at h
  split at h
  · exact ⟨_, _, rfl, h⟩
  · exact h.elim
theorem na_pR_s {st : List Value} {k : Nat → List Value → Prop} (h : na_pR st k) : ∃ (x : Nat) (r : List Value), st = .ref x :: r ∧ k x r := by
  unfold na_pR at h
  split at h
  · exact ⟨_, _, rfl, h⟩
  · exact h.elim
theorem na_p1_s {st : List Value} {k : Value → List Value → Prop} (h : na_p1 st k) : ∃ v r, st = v :: r ∧ v.category = 1 ∧ k v r := by
  unfold na_p1 at h
  split at h
  · exact ⟨_, _, rfl, rfl, h⟩
  · exact ⟨_, _, rfl, rfl, h⟩
  · exact h.elim
theorem na_ld_s {l : Option (Option Value)} {k : Value → Prop} (h : na_ld l k) : ∃ v, l = some (some v) ∧ k v := by
  unfold na_ld at h
  split at h
  · exact ⟨_, rfl, h⟩
  · exact h.elim
theorem na_tk_s : ∀ (n : Nat) (acc st : List Value) (k : List Value → List Value → Prop), na_tk n acc st k → ∃ vs r, st = vs ++ r ∧ vs.length = n ∧ k (vs.reverse ++ acc) r
  | 0, acc, st, k, h => ⟨[], st, rfl, rfl, h⟩
  | n + 1, acc, [], k, h => by simp [na_tk] at h
  | n + 1, acc, v :: st, k, h => by
    obtain ⟨vs, r, h1, h2, h3⟩ := na_tk_s n (v :: acc) st k h
    exact ⟨v :: vs, r, by rw [h1]; rfl, by simp [h2], by simpa using h3⟩
theorem na_ct_eq : ∀ st : List Value, na_ct st = (st.map fun v => v.category).sum
  | [] => rfl
  | v :: r => by
    have h := na_ct_eq r
    cases v <;> simp [na_ct, Value.category, h]
theorem na_tvs_cat {ad : Nat → Nat} {fm : Value} (hf : fm = .null ∨ ∃ t : Nat, fm = .ref t) (st : List Value) : ((st.map (na_tv ad fm)).map fun v => v.category).sum = na_ct st := by
  rw [na_ct_eq, List.map_map]
  congr 2
  funext v
  exact na_tv_cat hf v
/-- what the check of a linking instruction says -/
def na_lk (own : String) (i : Instr) (h : List Nat) (v : Int32) (w : Int64) : Prop := match i with
  | .ldc idx => match h with
    | [] => Cond.constant own idx v ∈ na_Tg
    | a :: _ => own = RX2 ∧ ∃ q, na_nth na_wd a = some q ∧ q.1 = idx
  | .ldc_w idx => Cond.constant own idx v ∈ na_Tg
  | .ldc2_w idx => Cond.constantLong own idx w ∈ na_Tg
  | .getfield idx => if na_h0 h = 9 then (na_h1 h = 0 → Cond.fieldLink own idx RJ0 "coder" "B" ∈ na_Tg) ∧ (na_h1 h = 1 → Cond.fieldLink own idx RJ0 "value" "[B" ∈ na_Tg) else
      ∃ (C : String) (T : u_T) (N : Nat), vwCl[na_h0 h]? = some (C, T, N) ∧ (∀ w ∈ u_ws C T N, w ∈ na_Tg) ∧ na_h1 h < N ∧ Cond.fieldLink own idx (T (na_h1 h)).1 (T (na_h1 h)).2.1 (T (na_h1 h)).2.2.1 ∈ na_Tg
  | .putfield idx => ∃ (C : String) (T : u_T) (N : Nat) (ty : Nat → FieldType), vwCl[na_h0 h]? = some (C, T, N) ∧ (∀ w ∈ u_ws C T N, w ∈ na_Tg) ∧ (∀ k, k < N → parseFieldDescriptor (T k).2.2.1 = some (ty k)) ∧ (∀ a, a < N → ∀ b, b < N → a ≠ b → (T a).2.1 ≠ (T b).2.1) ∧ na_h1 h < N ∧ Cond.fieldLink own idx (T (na_h1 h)).1 (T (na_h1 h)).2.1 (T (na_h1 h)).2.2.1 ∈ na_Tg ∧ (T (na_h1 h)).2.2.2 = false ∧ ((na_h2 h = 0 ∧ ty (na_h1 h) = .int) ∨ (na_h2 h = 1 ∧ ty (na_h1 h) = .boolean) ∨ (na_h2 h = 2 ∧ ty (na_h1 h) = .long))
  | .getstatic idx => ∃ q, na_nth na_st (na_h0 h) = some q ∧ (Cond.fieldLink own idx q.1 q.2.1 q.2.2.1 ∈ na_Tg ∨ (own = RX2 ∧ idx = 111 ∧ q.1 = RX3 ∧ q.2.1 = "MOST_OF_ROOM" ∧ q.2.2.1 = "[I"))
  | .invokestatic idx => if na_h0 h = 998 then True else if na_h0 h = 997 then Cond.methodLink own idx Lib.Math.min.name ∈ na_Tg else if na_h0 h = 996 then Cond.methodLink own idx Lib.Math.max.name ∈ na_Tg else if na_h0 h = 999 then Cond.methodLink own idx arraycopyName ∈ na_Tg else
      (Cond.methodLink own idx (na_mi (na_h0 h)).1 ∈ na_Tg ∨ (own = RX0 ∧ idx = 65 ∧ (na_mi (na_h0 h)).1 = yX3_has) ∨ (own = RX2 ∧ idx = 137 ∧ (na_mi (na_h0 h)).1 = yX3_outside)) ∧ Cond.static (na_mi (na_h0 h)).1 ∈ na_Tg ∧ Cond.initialized (na_mi (na_h0 h)).1.cls ∈ na_Tg ∧ (na_ww (na_mi (na_h0 h))).head? = some (.code (na_mi (na_h0 h)).1 (na_mi (na_h0 h)).2.1 (na_mi (na_h0 h)).2.2.1 (na_mi (na_h0 h)).2.2.2.1) ∧ Cond.code (na_mi (na_h0 h)).1 (na_mi (na_h0 h)).2.1 (na_mi (na_h0 h)).2.2.1 (na_mi (na_h0 h)).2.2.2.1 ∈ na_Tg ∧ (na_mi (na_h0 h)).1.cls ≠ "java/lang/invoke/MethodHandle" ∧ (na_mi (na_h0 h)).1.cls ≠ "java/lang/invoke/VarHandle" ∧ (parseMethodDescriptor (na_mi (na_h0 h)).1.desc).map (fun d => d.parameters.length) = some (na_h1 h)
  | .invokevirtual idx => Cond.methodLink own idx (na_mi (na_h0 h)).1 ∈ na_Tg ∧ Cond.instanceMethod (na_mi (na_h0 h)).1 ∈ na_Tg ∧ Cond.selects (na_mi (na_h0 h)).1.cls (na_mi (na_h0 h)).1 (na_mi (na_h0 h)).1 ∈ na_Tg ∧ Cond.initialized (na_mi (na_h0 h)).1.cls ∈ na_Tg ∧ Cond.code (na_mi (na_h0 h)).1 (na_mi (na_h0 h)).2.1 (na_mi (na_h0 h)).2.2.1 (na_mi (na_h0 h)).2.2.2.1 ∈ na_Tg ∧ (na_mi (na_h0 h)).1.cls ≠ "java/lang/invoke/MethodHandle" ∧ (na_mi (na_h0 h)).1.cls ≠ "java/lang/invoke/VarHandle" ∧ (parseMethodDescriptor (na_mi (na_h0 h)).1.desc).map (fun d => d.parameters.length) = some (na_h1 h - 1) ∧ 1 ≤ na_h1 h ∧ ((na_h2 h = 9 ∧ (na_mi (na_h0 h)).1.cls = RJ0) ∨ (na_h2 h ≠ 9 ∧ ∃ q, vwCl[na_h2 h]? = some q ∧ q.1 = (na_mi (na_h0 h)).1.cls))
  | _ => True
end
section
/-! the check of a program, by the kernel -/
def na_tg (P : List En) (pc : Nat) (off : Int) (t : Nat) : Bool := match na_dr t P with
  | [] => false
  | e :: _ => decide ((pc : Int) + off = (e.1 : Int))
def na_tgs (P : List En) (pc : Nat) : List Int → List Nat → Bool
  | [], [] => true
  | o :: os, t :: ts => na_tg P pc o t && na_tgs P pc os ts
  | _, _ => false
def na_ity : FieldType → Bool
  | .int => true
  | .boolean => true
  | .byte => true
  | .char => true
  | .short => true
  | _ => false
def na_rty : FieldType → Bool
  | .object _ => true
  | .array _ => true
  | _ => false
def na_lty : FieldType → Bool
  | .long => true
  | _ => false
def na_ot (p : FieldType → Bool) (o : Option FieldType) : Bool := match o with
  | some t => p t
  | none => false
def na_okI (P : List En) (nL : Nat) (rt : Option FieldType) (fr lo : Nat) (e : En) : Bool :=
  match e.2.2.1 with
  | .iconst n => e.2.1 == 1 && Int32.ofInt n == e.2.2.2.2.1
  | .bipush n => e.2.1 == 2 && (Int8.ofInt n).toInt32 == e.2.2.2.2.1
  | .sipush n => e.2.1 == 3 && (Int16.ofInt n).toInt32 == e.2.2.2.2.1
  | .ldc_w _ => e.2.1 == 3
  | .ldc _ => e.2.1 == 2
  | .lconst n => e.2.1 == 1 && Int64.ofNat (n : Nat) == e.2.2.2.2.2
  | .ldc2_w _ => e.2.1 == 3
  | .iload i => e.2.1 == 2 && i == na_h0 e.2.2.2.1
  | .lload i => e.2.1 == 2 && i == na_h0 e.2.2.2.1
  | .aload i => e.2.1 == 2 && i == na_h0 e.2.2.2.1
  | .iload_n i => e.2.1 == 1 && (i : Nat) == na_h0 e.2.2.2.1
  | .lload_n i => e.2.1 == 1 && (i : Nat) == na_h0 e.2.2.2.1
  | .aload_n i => e.2.1 == 1 && (i : Nat) == na_h0 e.2.2.2.1
  | .istore i => e.2.1 == 2 && i == na_h0 e.2.2.2.1 && Nat.blt i nL
  | .lstore i => e.2.1 == 2 && i == na_h0 e.2.2.2.1 && Nat.blt (i + 1) nL
  | .astore i => e.2.1 == 2 && i == na_h0 e.2.2.2.1 && Nat.blt i nL
  | .istore_n i => e.2.1 == 1 && (i : Nat) == na_h0 e.2.2.2.1 && Nat.blt (na_h0 e.2.2.2.1) nL
  | .lstore_n i => e.2.1 == 1 && (i : Nat) == na_h0 e.2.2.2.1 && Nat.blt (na_h0 e.2.2.2.1 + 1) nL
  | .astore_n i => e.2.1 == 1 && (i : Nat) == na_h0 e.2.2.2.1 && Nat.blt (na_h0 e.2.2.2.1) nL
  | .iinc i n => e.2.1 == 3 && i == na_h0 e.2.2.2.1 && Nat.blt i nL && Int32.ofInt n == e.2.2.2.2.1
  | .goto off => e.2.1 == 3 && na_tg P e.1 off (na_h0 e.2.2.2.1)
  | .ifCond _ off => e.2.1 == 3 && na_tg P e.1 off (na_h0 e.2.2.2.1)
  | .if_icmp _ off => e.2.1 == 3 && na_tg P e.1 off (na_h0 e.2.2.2.1)
  | .tableswitch d lo hi offs => na_tg P e.1 d (na_h0 e.2.2.2.1) && na_tgs P e.1 offs.toList e.2.2.2.1.tail && decide (lo + offs.toList.length = hi + 1)
  | .getfield _ => e.2.1 == 3
  | .putfield _ => e.2.1 == 3
  | .getstatic _ => e.2.1 == 3
  | .invokestatic _ => e.2.1 == 3 && bif Nat.beq (na_h0 e.2.2.2.1) 998 then true else bif Nat.beq (na_h0 e.2.2.2.1) 997 || Nat.beq (na_h0 e.2.2.2.1) 996 then Nat.ble 1 fr && Nat.ble 21 lo else bif Nat.beq (na_h0 e.2.2.2.1) 999 then Nat.ble 1 fr && Nat.ble 26 lo else Nat.ble ((na_mi (na_h0 e.2.2.2.1)).2.2.2.2.1 + 1) fr && Nat.ble (8 + ((na_mi (na_h0 e.2.2.2.1)).2.2.1 + 11) + (na_mi (na_h0 e.2.2.2.1)).2.2.2.2.2) lo
  | .invokevirtual _ => e.2.1 == 3 && Nat.ble ((na_mi (na_h0 e.2.2.2.1)).2.2.2.2.1 + 1) fr && Nat.ble (8 + ((na_mi (na_h0 e.2.2.2.1)).2.2.1 + 11) + (na_mi (na_h0 e.2.2.2.1)).2.2.2.2.2) lo
  | .return_ => e.2.1 == 1 && rt.isNone
  | .ireturn => e.2.1 == 1 && na_ot na_ity rt
  | .lreturn => e.2.1 == 1 && na_ot na_lty rt
  | .areturn => e.2.1 == 1 && na_ot na_rty rt
  | _ => e.2.1 == 1
def na_okL (cc : ByteArray) (P : List En) (nL : Nat) (rt : Option FieldType) (fr lo : Nat) : List En → Bool
  | [] => true
  | e :: r => decide (decode cc e.1 = .ok (e.2.2.1, e.2.1)) && (match r with
    | [] => true
    | e' :: _ => Nat.beq e'.1 (e.1 + e.2.1)) && na_okI P nL rt fr lo e && na_okL cc P nL rt fr lo r
/-- a part of a program, checked -/
def na_okS (own : String) (cc : ByteArray) (P : List En) (nL : Nat) (rt : Option FieldType) (fr lo : Nat) (sfx : List En) : Prop := na_okL cc P nL rt fr lo sfx = true ∧ ∀ e ∈ sfx, na_lk own e.2.2.1 e.2.2.2.1 e.2.2.2.2.1 e.2.2.2.2.2
theorem na_okL_drop {cc : ByteArray} {P : List En} {nL : Nat} {rt : Option FieldType} {fr lo : Nat} : ∀ (n : Nat) (l : List En), na_okL cc P nL rt fr lo l = true → na_okL cc P nL rt fr lo (l.drop n) = true
  | 0, l, h => by simpa using h
  | n + 1, [], h => by simp [na_okL]
  | n + 1, a :: r, h => by
    simp only [List.drop_succ_cons]
    refine na_okL_drop n r ?_
    simp only [na_okL, Bool.and_eq_true] at h
    exact h.2
theorem na_okS.drop {own : String} {cc : ByteArray} {P : List En} {nL : Nat} {rt : Option FieldType} {fr lo : Nat} (h : na_okS own cc P nL rt fr lo P) (t : Nat) : na_okS own cc P nL rt fr lo (na_dr t P) := by
  rw [na_dr_eq]
  exact ⟨na_okL_drop t P h.1, fun e he => h.2 e (List.mem_of_mem_drop he)⟩
theorem na_okS.tail {own : String} {cc : ByteArray} {P : List En} {nL : Nat} {rt : Option FieldType} {fr lo : Nat} {e : En} {r : List En} (h : na_okS own cc P nL rt fr lo (e :: r)) : na_okS own cc P nL rt fr lo r := by
  have h1 := h.1
  simp only [na_okL, Bool.and_eq_true] at h1
  exact ⟨h1.2, fun e he => h.2 e (List.mem_cons_of_mem _ he)⟩
end
section
section NaSound
variable {p : Program} {l : Launch} {e : Env} {R : Room} {s s0 : State} {m : MethodId} {args : Array Value} {below : List Frame} {meth : Method} {c : Code} {cells slots : Nat} {Q : State → Prop}
variable {sx : Nat × (Nat → Int32)} {D : va_G} {ca ad : Nat → Nat} {fm : Value} {N0 : Nat} {own : String} {cc : ByteArray} {P : List En} {nL fr lo : Nat} {rt : Option FieldType} {Rt : Option Value → Mm → Ml → Prop}
/-- the true machine holds the small one's memory and locals -/
def na_iv (D : va_G) (ca ad : Nat → Nat) (fm : Value) (N0 : Nat) (s : State) (nL : Nat) (H : Heap) (locs : List Loc) (lsA : Array Slot) (ls : Lo) (I : Mm) (J : Ml) : Prop :=
  va_P D vwCl (na_ws ca ad I J 0 na_lay) H ∧ va_D (na_A N0) (na_ws ca ad I J 0 na_lay) ∧ va_S (na_A N0) s.heap H locs ∧ na_lv ad fm lsA nL ls
/-- what is given at a method's body -/
def na_B (sx : Nat × (Nat → Int32)) (D : va_G) (ca ad : Nat → Nat) (fm : Value) (N0 : Nat) (s0 : State) (own : String) (cc : ByteArray) (nL fr lo : Nat) (p : Program) (R : Room) (s : State) (m : MethodId) (args : Array Value) (c : Code) (cells slots : Nat) : Prop :=
  na_C sx D ca ad fm N0 s0 ∧ p.tables.exec = Jvm.exec ∧ c.code = cc ∧ c.maxLocals = nL ∧ s.vm.findClass own = some m.cls ∧ (∀ w ∈ na_Tg, w.before args s = true) ∧ na_Kw ad s ∧ s0.vm.Alike s.vm ∧ (∀ q : Nat, q < N0 → s.heap[q]? = s0.heap[q]?) ∧ N0 ≤ s.heap.size ∧ fr ≤ R.frames ∧ lo ≤ R.locals ∧ cells ≤ R.cells ∧ slots ≤ R.slots
/-- from these rows on, with these locals, this stack, this memory, the true machine comes to Q -/
def na_At (D : va_G) (ca ad : Nat → Nat) (fm : Value) (N0 : Nat) (nL : Nat) (p : Program) (l : Launch) (e : Env) (R : Room) (s : State) (m : MethodId) (args : Array Value) (below : List Frame) (meth : Method) (c : Code) (cells slots : Nat) (Q : State → Prop) (sfx : List En) (ls : Lo) (st : List Value) (I : Mm) (J : Ml) : Prop :=
  ∀ (x : En) (r : List En), sfx = x :: r → ∀ (H : Heap) (locs : List Loc) (lsA : Array Slot), na_iv D ca ad fm N0 s nL H locs lsA ls I J → W p l e R s m args below meth c H locs cells slots Q (F0 m x.1 lsA (st.map (na_tv ad fm)))
/-- the method's end at pc -/
def na_rd (cc : ByteArray) (rt : Option FieldType) (pc : Nat) (v : Option Value) : Prop := match v with
  | none => decode cc pc = .ok (.return_, 1) ∧ rt = none
  | some (.int v) => decode cc pc = .ok (.ireturn, 1) ∧ ∃ ty, rt = some ty ∧ na_ity ty = true ∧ na_nl ty v
  | some (.long _) => decode cc pc = .ok (.lreturn, 1) ∧ rt = some .long
  | some (.ref a) => decode cc pc = .ok (.areturn, 1) ∧ a ≠ 90 ∧ ∃ ty, rt = some ty ∧ na_rty ty = true
  | _ => False
def na_En (D : va_G) (ca ad : Nat → Nat) (fm : Value) (N0 : Nat) (cc : ByteArray) (rt : Option FieldType) (Rt : Option Value → Mm → Ml → Prop) (p : Program) (l : Launch) (e : Env) (R : Room) (s : State) (m : MethodId) (args : Array Value) (below : List Frame) (meth : Method) (c : Code) (cells slots : Nat) (Q : State → Prop) : Prop :=
  ∀ (v : Option Value) (I : Mm) (J : Ml) (H : Heap) (locs : List Loc) (pc : Nat) (lsA : Array Slot), Rt v I J → va_P D vwCl (na_ws ca ad I J 0 na_lay) H → va_D (na_A N0) (na_ws ca ad I J 0 na_lay) → va_S (na_A N0) s.heap H locs → na_rd cc rt pc v → W p l e R s m args below meth c H locs cells slots Q (F0 m pc lsA (v.map (na_tv ad fm)).toList)
theorem na_run {H : Heap} {locs : List Loc} {pc : Nat} {lsA : Array Slot} {st0 rest : List Value} {Qa : State → Outcome → State → Prop} {A : Nat → Prop} (hr : va_Run p l e R s m args below meth c H locs cells slots 0 0 (F0 m pc lsA st0) rest Qa A) (hL : ∀ q ∈ locs, A q.base)
    (kk : ∀ (v : Option Value) (st t : State) (locs1 : List Loc), st.heap = H → Qa st (.returned v) t → (∀ q ∈ locs1, A q.base) → W p l e R s m args below meth c t.heap locs1 cells slots Q (F0 m (pc + 3) lsA (v.toList ++ rest))) : W p l e R s m args below meth c H locs cells slots Q (F0 m pc lsA st0) := by
  intro T hT X
  obtain ⟨v, st₀, t, T', L, h0, X', hL1, e1, e2, hq, st⟩ := hr T hT X
  obtain ⟨t2, a1, b1⟩ := kk v st₀ t (locs ++ L) h0 hq (fun q hq => by
    rcases List.mem_append.mp hq with h | h
    · exact hL q h
    · exact hL1 q h) T' e1 X'
  exact ⟨t2, st t2 a1, b1⟩
end NaSound
end
section
section NaStep
variable {p : Program} {l : Launch} {e : Env} {R : Room} {s s0 : State} {m : MethodId} {args : Array Value} {below : List Frame} {meth : Method} {c : Code} {cells slots : Nat} {Q : State → Prop}
variable {sx : Nat × (Nat → Int32)} {D : va_G} {ca ad : Nat → Nat} {fm : Value} {N0 : Nat} {own : String} {cc : ByteArray} {P : List En} {nL fr lo : Nat} {rt : Option FieldType} {Rt : Option Value → Mm → Ml → Prop}
theorem na_tv_ref {ad : Nat → Nat} {fm : Value} {a : Nat} (h : a ≠ 90) : na_tv ad fm (.ref a) = .ref (ad a) := if_neg h
theorem na_lay_lt {a : Nat} {x : Ly} (h : na_nth na_lay a = some x) : a ≠ 90 := by
  intro q
  subst q
  have h2 : na_nth na_lay 90 = none := by decide +kernel
  rw [h2] at h
  cases h
theorem na_sa_ne {sx : Nat × (Nat → Int32)} {a : Nat} {x : Nat × (Nat → Int32)} (h : na_sa sx a = some x) : a ≠ 90 := by
  intro q
  subst q
  simp [na_sa] at h
theorem na_sb_ne {a : Nat} {x : Nat × (Nat → Int32)} (h : na_sb a = some x) : a ≠ 90 := by
  intro q
  subst q
  simp [na_sb] at h
theorem na_wd_lt {i : Nat} {q : Nat × String × List Int32} (h : na_nth na_wd i = some q) : i < 17 := by
  rw [na_nth_eq] at h
  exact (List.getElem?_eq_some_iff.mp h).1
theorem na_wd_at {i : Nat} (h : i < 17) : ∃ q, na_nth na_wd i = some q := by
  rw [na_nth_eq]
  exact ⟨_, List.getElem?_eq_getElem h⟩
theorem na_C.T {A' : Nat → Prop} {ty : FieldType} {a n : Nat} {f : Nat → Value} (h : va_T ty a n f A' s0 s0.heap) (hal : s0.vm.Alike s.vm) (hh : ∀ q : Nat, ¬ A' q → s.heap[q]? = s0.heap[q]?) : va_T ty a n f A' s s.heap := (h.moved hal).kept (fun q _ hq => hh q hq)
theorem na_C.Z {A' : Nat → Prop} {C n d : String} {v : Value} (h : va_Z C n d v A' s0 s0.heap) (hal : s0.vm.Alike s.vm) (hh : ∀ q : Nat, ¬ A' q → s.heap[q]? = s0.heap[q]?) : va_Z C n d v A' s s.heap := (h.moved hal).kept (fun q _ hq => hh q hq)
theorem na_C.OF {A' : Nat → Prop} {o n d : String} {v : Value} {a : Nat} (h : va_OF o n d v a A' s0 s0.heap) (hal : s0.vm.Alike s.vm) (hh : ∀ q : Nat, ¬ A' q → s.heap[q]? = s0.heap[q]?) : va_OF o n d v a A' s s.heap := (h.moved hal).kept (fun q _ hq => hh q hq)
theorem na_C.O {A' : Nat → Prop} {E : String} {a : Nat} (h : va_O E a A' s0 s0.heap) (hal : s0.vm.Alike s.vm) (hh : ∀ q : Nat, ¬ A' q → s.heap[q]? = s0.heap[q]?) : va_O E a A' s s.heap := (va_O.moved hal h).kept (fun q _ hq => hh q hq)
theorem na_beqF {a b : Nat} (h : ¬ a = b) : Nat.beq a b = false := by
  cases hq : Nat.beq a b with
  | false => rfl
  | true => exact absurd (Nat.eq_of_beq_eq_true hq) h
theorem na_lay_f : ∀ x ∈ na_lay, (match x with | .inr q => q.2.all (fun f => Nat.blt f 90) | .inl _ => true) = true := by decide +kernel
theorem na_lay_fl {a c j f : Nat} {fs : List Nat} (h : na_nth na_lay a = some (.inr (c, fs))) (hf : na_nth fs j = some f) : f < 90 := by
  rw [na_nth_eq] at h hf
  have h1 := na_lay_f _ (List.mem_of_getElem? h)
  have h2 := List.all_eq_true.mp h1 f (List.mem_of_getElem? hf)
  exact Nat.le_of_ble_eq_true h2
theorem na_fw_tv {ad : Nat → Nat} {fm : Value} {I : Mm} {J : Ml} {k j : Nat} : ∀ (f : Nat), f < 90 → na_tv ad fm (na_fw I J k j f) = na_fv ad I J k j f
  | 0, _ => rfl
  | 1, _ => rfl
  | n + 2, h => na_tv_ref (by omega)
theorem na_good : ∀ w ∈ na_Tg, (w.onTables && w.keeps) = true ∨ ∃ ty, w = .arrayClass ty := fun w h => good_of_word (List.mem_filter.mp h).2
theorem na_mem {i : Nat} {w : Cond} (h : lw_tbl[i]? = some w) (hg : goodWord w = true) : w ∈ na_Tg := List.mem_filter.mpr ⟨List.mem_of_getElem? h, hg⟩
theorem na_natT : Cond.native arraycopyName ∈ na_Tg := na_mem (i := 336) (by decide +kernel) (by decide +kernel)
theorem na_statT : Cond.static arraycopyName ∈ na_Tg := na_mem (i := 335) (by decide +kernel) (by decide +kernel)
theorem na_sysT : Cond.initialized "java/lang/System" ∈ na_Tg := na_mem (i := 68) (by decide +kernel) (by decide +kernel)
theorem na_mathT : Cond.initialized "java/lang/Math" ∈ na_Tg := na_mem (i := 69) (by decide +kernel) (by decide +kernel)
theorem na_mminS : Cond.static Lib.Math.min.name ∈ na_Tg := na_mem (i := 355) (by decide +kernel) (by decide +kernel)
theorem na_mminC : Cond.code Lib.Math.min.name Lib.Math.min.code 2 (some .int) ∈ na_Tg := na_mem (i := 356) (by decide +kernel) (by decide +kernel)
theorem na_mmaxS : Cond.static Lib.Math.max.name ∈ na_Tg := na_mem (i := 470) (by decide +kernel) (by decide +kernel)
theorem na_mmaxC : Cond.code Lib.Math.max.name Lib.Math.max.code 2 (some .int) ∈ na_Tg := na_mem (i := 471) (by decide +kernel) (by decide +kernel)
theorem na_Kw.same {ad : Nat → Nat} {u U : State} (h : na_Kw ad u) (hv : u.vm = U.vm) : na_Kw ad U := ⟨va_Nw.same rfl hv h.1, va_Nw.same rfl hv h.2.1, va_Nw.same rfl hv h.2.2.1, fun i q hq => vk_R.same hv.symm (h.2.2.2 i q hq)⟩
theorem na_Kw.warm {ad : Nat → Nat} {u U : State} (h : na_Kw ad u) (hW : u.WarmedH U.vm) : na_Kw ad U := ⟨va_Nw.warmM hW h.1, va_Nw.warmM hW h.2.1, va_Nw.warmF hW h.2.2.1, fun i q hq => vk_R.warm hW (h.2.2.2 i q hq)⟩
theorem na_blind {D : va_G} {ca ad : Nat → Nat} {fm : Value} {N0 : Nat} {s0 : State} {av : List Value} {I : Mm} {J : Ml} : FrameBlind (na_Pc D ca ad fm N0 s0 av I J) := fun a U g mk ⟨h1, h2, h3, h4⟩ => ⟨h1, h2, h3.same rfl, h4⟩
/-- what a callee is given -/
theorem na_pre (hB : na_B sx D ca ad fm N0 s0 own cc nL fr lo p R s m args c cells slots) {H : Heap} {locs : List Loc} {av : List Value} {I : Mm} {J : Ml} (hPw : va_P D vwCl (na_ws ca ad I J 0 na_lay) H) (hDw : va_D (na_A N0) (na_ws ca ad I J 0 na_lay)) (hSw : va_S (na_A N0) s.heap H locs) : ∀ U : State, U.heap = H → s.WarmedH U.vm → na_Pc D ca ad fm N0 s0 av I J (av.map (na_tv ad fm)).toArray U := by
  intro U hU hW
  obtain ⟨hC, hx, hb, hml, hown, hts, hKw, hal, hh, hn0, hfr, hlo, hcs, hss⟩ := id hB
  refine ⟨rfl, hal.trans hW.alike, hKw.warm hW, ?_⟩
  rw [hU]
  exact ⟨hPw, hDw, Nat.le_trans hn0 hSw.1, fun q hq => (hSw.2.1 q (Nat.lt_of_lt_of_le hq hn0) (Nat.not_le.mpr hq)).trans (hh q hq)⟩
/-- behind a call -/
theorem na_back {H : Heap} {locs : List Loc} {pc : Nat} {lsA : Array Slot} {st0 rest : List Value} {Post : Option Value → Mm → Ml → Prop} {a : Array Value} {ls : Lo} (hB : na_B sx D ca ad fm N0 s0 own cc nL fr lo p R s m args c cells slots) (hSw : va_S (na_A N0) s.heap H locs) (hlv : na_lv ad fm lsA nL ls)
    (hr : va_Run p l e R s m args below meth c H locs cells slots 0 0 (F0 m pc lsA st0) (rest.map (na_tv ad fm)) (na_Qc D ca ad fm N0 s0 Post a) (na_A N0))
    (kk : ∀ (r : Option Value) (I' : Mm) (J' : Ml), Post r I' J' → ∀ (H' : Heap) (locs' : List Loc), na_iv D ca ad fm N0 s nL H' locs' lsA ls I' J' → W p l e R s m args below meth c H' locs' cells slots Q (F0 m (pc + 3) lsA ((na_pu r rest).map (na_tv ad fm)))) : W p l e R s m args below meth c H locs cells slots Q (F0 m pc lsA st0) := by
  obtain ⟨hC, hx, hb, hml, hown, hts, hKw, hal, hh, hn0, hfr, hlo, hcs, hss⟩ := id hB
  refine na_run hr hSw.2.2 (fun v st t locs1 hst hq hl1 => ?_)
  obtain ⟨r, I', J', ho, hpost, hR, hsz⟩ := hq
  have ev : v = r.map (na_tv ad fm) := by cases ho; rfl
  have g := kk r I' J' hpost t.heap locs1 ⟨hR.1, hR.2.1, ⟨by rw [hst] at hsz; exact Nat.le_trans hSw.1 hsz, fun q h1 h2 => (hR.2.2.2 q (Nat.not_le.mp h2)).trans (hh q (Nat.not_le.mp h2)).symm, hl1⟩, hlv⟩
  rw [ev]
  cases r with
  | none => exact g
  | some v => exact g
theorem na_sw_s : ∀ (ts : List Nat) (lo : Int) (x : Int32) (k : Nat → Prop), na_sw ts lo x k → ∀ (j t : Nat), ts[j]? = some t → x.toInt = lo + j → k t
  | [], lo, x, k, h, j, t, hj, hx => by simp at hj
  | t0 :: ts, lo, x, k, h, 0, t, hj, hx => by
    simp only [List.getElem?_cons_zero, Option.some.injEq] at hj
    subst hj
    exact h.1 (by omega)
  | t0 :: ts, lo, x, k, h, j + 1, t, hj, hx => na_sw_s ts (lo + 1) x k h.2 j t (by simpa using hj) (by omega)
theorem na_tgs_s {P : List En} {pc : Nat} : ∀ (os : List Int) (ts : List Nat), na_tgs P pc os ts = true → ∀ (j : Nat) (o : Int), os[j]? = some o → ∃ t, ts[j]? = some t ∧ na_tg P pc o t = true
  | [], ts, h, j, o, hj => by simp at hj
  | o0 :: os, [], h, j, o, hj => by simp [na_tgs] at h
  | o0 :: os, t0 :: ts, h, j, o, hj => by
    simp only [na_tgs, Bool.and_eq_true] at h
    cases j with
    | zero =>
      simp only [List.getElem?_cons_zero, Option.some.injEq] at hj
      subst hj
      exact ⟨t0, by simp, h.1⟩
    | succ j =>
      obtain ⟨t, h1, h2⟩ := na_tgs_s os ts h.2 j o (by simpa using hj)
      exact ⟨t, by simpa using h1, h2⟩
theorem na_shp_ne {a n : Nat} {i : Int32} (h : na_nth na_lay a = some (.inl (2, n))) (hi : vp_in i n) : na_shp i.toNatClampNeg ≠ 90 := by
  have hlt : i.toNatClampNeg < n := Nat.not_le.mp fun q => hi (Or.inr q)
  have hn : n ≤ 4 := by
    rw [na_nth_eq] at h
    have hm := List.mem_of_getElem? h
    simp [na_lay] at hm
    omega
  unfold na_shp
  omega
theorem na_lty_s {o : Option FieldType} (h : na_ot na_lty o = true) : o = some .long := by
  cases o with
  | none => cases h
  | some t =>
    cases t <;> first | rfl | cases h
theorem na_ot_s {f : FieldType → Bool} {o : Option FieldType} (h : na_ot f o = true) : ∃ t, o = some t ∧ f t = true := by
  cases o with
  | none => cases h
  | some t => exact ⟨t, rfl, h⟩
set_option maxHeartbeats 4000000 in
set_option maxRecDepth 100000 in
theorem na_step (hB : na_B sx D ca ad fm N0 s0 own cc nL fr lo p R s m args c cells slots) (hE : na_En D ca ad fm N0 cc rt Rt p l e R s m args below meth c cells slots Q) (hP : na_okS own cc P nL rt fr lo P)
    {k : List En → Lo → List Value → Mm → Ml → Prop} (hk0 : ∀ ls st I J, ¬ k [] ls st I J) (hk : ∀ sfx ls st I J, na_okS own cc P nL rt fr lo sfx → k sfx ls st I J → na_At D ca ad fm N0 nL p l e R s m args below meth c cells slots Q sfx ls st I J)
    {x : En} {r : List En} (hS : na_okS own cc P nL rt fr lo (x :: r)) {ls : Lo} {st : List Value} {I : Mm} {J : Ml} (h : na_stp P sx rt Rt k x r ls st I J) : na_At D ca ad fm N0 nL p l e R s m args below meth c cells slots Q (x :: r) ls st I J := by
  intro x' r' hxr H locs lsA hiv
  cases hxr
  obtain ⟨pc, len, ins, hi, v32, v64⟩ := x
  have hok := hS.1
  have hlk := hS.2 _ List.mem_cons_self
  simp only [na_okL, Bool.and_eq_true, decide_eq_true_eq] at hok
  obtain ⟨⟨⟨hd, hnx⟩, hI⟩, -⟩ := hok
  have hSt := hS.tail
  obtain ⟨hC, hx, hb, hml, hown, hts, hKw, hal, hh, hn0, hfr, hlo, hcs, hss⟩ := id hB
  obtain ⟨hK0, hsz0, hsa, hsb, hst, hwd, hfm⟩ := id hC
  have hh' : ∀ q : Nat, ¬ na_A N0 q → s.heap[q]? = s0.heap[q]? := fun q hq => hh q (Nat.not_le.mp hq)
  have hK : va_K D vwCl (na_tys ca) s := va_K.moved hal hK0
  obtain ⟨hPw, hDw, hSw, hlv⟩ := id hiv
  have nx : ∀ (ls' : Lo) (st' : List Value) (I' : Mm) (J' : Ml), k r ls' st' I' J' → ∀ (H' : Heap) (locs' : List Loc) (lsA' : Array Slot), na_iv D ca ad fm N0 s nL H' locs' lsA' ls' I' J' → W p l e R s m args below meth c H' locs' cells slots Q (F0 m (pc + len) lsA' (st'.map (na_tv ad fm))) := by
    intro ls' st' I' J' hk' H' locs' lsA' hiv'
    cases r with
    | nil => exact absurd hk' (hk0 _ _ _ _)
    | cons y r2 =>
      have h1 := hk _ _ _ _ _ hSt hk' y r2 rfl H' locs' lsA' hiv'
      have h2 : y.1 = pc + len := Nat.eq_of_beq_eq_true hnx
      rw [h2] at h1
      exact h1
  have jp : ∀ (off : Int) (t : Nat), na_tg P pc off t = true → ∃ tgt : Nat, (pc : Int) + off = (tgt : Int) ∧ ∀ (ls' : Lo) (st' : List Value) (I' : Mm) (J' : Ml), k (na_dr t P) ls' st' I' J' → ∀ (H' : Heap) (locs' : List Loc) (lsA' : Array Slot), na_iv D ca ad fm N0 s nL H' locs' lsA' ls' I' J' → W p l e R s m args below meth c H' locs' cells slots Q (F0 m tgt lsA' (st'.map (na_tv ad fm))) := by
    intro off t ht
    have hdS := hP.drop t
    unfold na_tg at ht
    split at ht
    · cases ht
    · rename_i y r2 hy
      refine ⟨y.1, by simpa using ht, fun ls' st' I' J' hk' H' locs' lsA' hiv' => ?_⟩
      exact hk _ _ _ _ _ hdS hk' y r2 hy H' locs' lsA' hiv'
  have key : W p l e R s m args below meth c H locs cells slots Q (F0 m pc lsA (st.map (na_tv ad fm))) := by
    cases ins with
    | iconst n =>
      dsimp only [na_stp] at h
      simp only [na_okI, Bool.and_eq_true, beq_iff_eq] at hI
      obtain ⟨h1, h2⟩ := hI
      subst h1
      exact lv_iconst hx hb hd h2 (nx _ _ _ _ h _ _ _ hiv)
    | bipush n =>
      dsimp only [na_stp] at h
      simp only [na_okI, Bool.and_eq_true, beq_iff_eq] at hI
      obtain ⟨h1, h2⟩ := hI
      subst h1
      exact lv_bipush hx hb hd h2 (nx _ _ _ _ h _ _ _ hiv)
    | sipush n =>
      dsimp only [na_stp] at h
      simp only [na_okI, Bool.and_eq_true, beq_iff_eq] at hI
      obtain ⟨h1, h2⟩ := hI
      subst h1
      exact lv_sipush hx hb hd h2 (nx _ _ _ _ h _ _ _ hiv)
    | lconst n =>
      dsimp only [na_stp] at h
      simp only [na_okI, Bool.and_eq_true, beq_iff_eq] at hI
      obtain ⟨h1, h2⟩ := hI
      subst h1
      exact lv_lconst hx hb hd h2 (nx _ _ _ _ h _ _ _ hiv)
    | ldc_w n =>
      dsimp only [na_stp] at h
      simp only [na_okI, Bool.and_eq_true, beq_iff_eq] at hI
      subst hI
      exact lv_ldcw hx hb hown (hts _ hlk) hd (nx _ _ _ _ h _ _ _ hiv)
    | ldc2_w n =>
      dsimp only [na_stp] at h
      simp only [na_okI, Bool.and_eq_true, beq_iff_eq] at hI
      subst hI
      exact lv_ldc2 hx hb hown (hts _ hlk) hd (nx _ _ _ _ h _ _ _ hiv)
    | ldc n =>
      dsimp only [na_stp] at h
      simp only [na_okI, Bool.and_eq_true, beq_iff_eq] at hI
      subst hI
      cases hi with
      | nil => exact lv_ldc hx hb hown (hts _ hlk) hd (nx _ _ _ _ h _ _ _ hiv)
      | cons a hr =>
        obtain ⟨ho, q, hq, hqi⟩ := hlk
        have hl17 := na_wd_lt hq
        have g := nx _ _ _ _ h _ _ _ hiv
        simp only [List.map_cons, na_tv_ref (ad := ad) (fm := fm) (show 100 + a ≠ 90 by omega)] at g
        subst ho
        subst hqi
        exact va_ldcS hx hb hown (hKw.2.2.2 a q hq) hd g
    | iload n =>
      dsimp only [na_stp] at h
      simp only [na_okI, Bool.and_eq_true, beq_iff_eq] at hI
      obtain ⟨h1, h2⟩ := hI
      subst h1
      obtain ⟨v, hv, h1_⟩ := na_ld_s h
      try dsimp only at h1_
      obtain ⟨y, r3, e3, h2_⟩ := na_pI_s h1_
      try dsimp only at h2_
      cases e3
      rw [na_nth_eq] at hv
      have g := hlv.2.2 _ _ hv
      subst h2
      exact lv_iload hx hb hd g (nx _ _ _ _ h2_ _ _ _ hiv)
    | iload_n n =>
      dsimp only [na_stp] at h
      simp only [na_okI, Bool.and_eq_true, beq_iff_eq] at hI
      obtain ⟨h1, h2⟩ := hI
      subst h1
      obtain ⟨v, hv, h1_⟩ := na_ld_s h
      try dsimp only at h1_
      obtain ⟨y, r3, e3, h2_⟩ := na_pI_s h1_
      try dsimp only at h2_
      cases e3
      rw [na_nth_eq] at hv
      have g := hlv.2.2 _ _ hv
      exact lv_iload_n hx hb hd h2 g (nx _ _ _ _ h2_ _ _ _ hiv)
    | lload n =>
      dsimp only [na_stp] at h
      simp only [na_okI, Bool.and_eq_true, beq_iff_eq] at hI
      obtain ⟨h1, h2⟩ := hI
      subst h1
      obtain ⟨v, hv, h1_⟩ := na_ld_s h
      try dsimp only at h1_
      obtain ⟨y, r3, e3, h2_⟩ := na_pL_s h1_
      try dsimp only at h2_
      cases e3
      rw [na_nth_eq] at hv
      have g := hlv.2.2 _ _ hv
      subst h2
      exact lv_lload hx hb hd g (nx _ _ _ _ h2_ _ _ _ hiv)
    | lload_n n =>
      dsimp only [na_stp] at h
      simp only [na_okI, Bool.and_eq_true, beq_iff_eq] at hI
      obtain ⟨h1, h2⟩ := hI
      subst h1
      obtain ⟨v, hv, h1_⟩ := na_ld_s h
      try dsimp only at h1_
      obtain ⟨y, r3, e3, h2_⟩ := na_pL_s h1_
      try dsimp only at h2_
      cases e3
      rw [na_nth_eq] at hv
      have g := hlv.2.2 _ _ hv
      exact lv_lload_n hx hb hd h2 g (nx _ _ _ _ h2_ _ _ _ hiv)
    | aload n =>
      dsimp only [na_stp] at h
      simp only [na_okI, Bool.and_eq_true, beq_iff_eq] at hI
      obtain ⟨h1, h2⟩ := hI
      subst h1
      obtain ⟨v, hv, h1_⟩ := na_ld_s h
      try dsimp only at h1_
      obtain ⟨y, r3, e3, h2_⟩ := na_pR_s h1_
      try dsimp only at h2_
      cases e3
      rw [na_nth_eq] at hv
      have g := hlv.2.2 _ _ hv
      cases h9 : Nat.beq y 90 with
      | true => rw [h9] at h2_; exact (show False from h2_).elim
      | false =>
        rw [h9] at h2_
        have h90 : y ≠ 90 := Nat.ne_of_beq_eq_false h9
        rw [na_tv_ref h90] at g
        have g2 := nx _ _ _ _ h2_ _ _ _ hiv
        simp only [List.map_cons, na_tv_ref (ad := ad) (fm := fm) h90] at g2
        subst h2
        exact lv_aload hx hb hd g g2
    | aload_n n =>
      dsimp only [na_stp] at h
      simp only [na_okI, Bool.and_eq_true, beq_iff_eq] at hI
      obtain ⟨h1, h2⟩ := hI
      subst h1
      obtain ⟨v, hv, h1_⟩ := na_ld_s h
      try dsimp only at h1_
      obtain ⟨y, r3, e3, h2_⟩ := na_pR_s h1_
      try dsimp only at h2_
      cases e3
      rw [na_nth_eq] at hv
      have g := hlv.2.2 _ _ hv
      cases h9 : Nat.beq y 90 with
      | true => rw [h9] at h2_; exact (show False from h2_).elim
      | false =>
        rw [h9] at h2_
        have h90 : y ≠ 90 := Nat.ne_of_beq_eq_false h9
        rw [na_tv_ref h90] at g
        have g2 := nx _ _ _ _ h2_ _ _ _ hiv
        simp only [List.map_cons, na_tv_ref (ad := ad) (fm := fm) h90] at g2
        exact lv_aload_n hx hb hd h2 g g2
    | istore n =>
      dsimp only [na_stp] at h
      simp only [na_okI, Bool.and_eq_true, beq_iff_eq] at hI
      obtain ⟨⟨h1, h2⟩, h3⟩ := hI
      subst h1
      obtain ⟨y, r3, e3, h1_⟩ := na_pI_s h
      try dsimp only at h1_
      subst e3
      subst h2
      exact lv_istore hx hb hd hlv.has (Nat.le_of_ble_eq_true h3) rfl (fun lsB hl => nx _ _ _ _ h1_ _ _ _ ⟨hPw, hDw, hSw, na_lv.s1 (v := .int y) hfm hl⟩)
    | istore_n n =>
      dsimp only [na_stp] at h
      simp only [na_okI, Bool.and_eq_true, beq_iff_eq] at hI
      obtain ⟨⟨h1, h2⟩, h3⟩ := hI
      subst h1
      obtain ⟨y, r3, e3, h1_⟩ := na_pI_s h
      try dsimp only at h1_
      subst e3
      exact lv_istore_n hx hb hd h2 hlv.has (Nat.le_of_ble_eq_true h3) rfl (fun lsB hl => nx _ _ _ _ h1_ _ _ _ ⟨hPw, hDw, hSw, na_lv.s1 (v := .int y) hfm hl⟩)
    | lstore n =>
      dsimp only [na_stp] at h
      simp only [na_okI, Bool.and_eq_true, beq_iff_eq] at hI
      obtain ⟨⟨h1, h2⟩, h3⟩ := hI
      subst h1
      obtain ⟨y, r3, e3, h1_⟩ := na_pL_s h
      try dsimp only at h1_
      subst e3
      subst h2
      exact lv_lstore hx hb hd hlv.has (Nat.le_of_ble_eq_true h3) rfl (fun lsB hl => nx _ _ _ _ h1_ _ _ _ ⟨hPw, hDw, hSw, na_lv.s2 (v := .long y) hfm hl⟩)
    | lstore_n n =>
      dsimp only [na_stp] at h
      simp only [na_okI, Bool.and_eq_true, beq_iff_eq] at hI
      obtain ⟨⟨h1, h2⟩, h3⟩ := hI
      subst h1
      obtain ⟨y, r3, e3, h1_⟩ := na_pL_s h
      try dsimp only at h1_
      subst e3
      exact lv_lstore_n hx hb hd h2 hlv.has (Nat.le_of_ble_eq_true h3) rfl (fun lsB hl => nx _ _ _ _ h1_ _ _ _ ⟨hPw, hDw, hSw, na_lv.s2 (v := .long y) hfm hl⟩)
    | astore n =>
      dsimp only [na_stp] at h
      simp only [na_okI, Bool.and_eq_true, beq_iff_eq] at hI
      obtain ⟨⟨h1, h2⟩, h3⟩ := hI
      subst h1
      obtain ⟨y, r3, e3, h1_⟩ := na_pR_s h
      try dsimp only at h1_
      subst e3
      cases h9 : Nat.beq y 90 with
      | true => rw [h9] at h1_; exact (show False from h1_).elim
      | false =>
        rw [h9] at h1_
        have h90 : y ≠ 90 := Nat.ne_of_beq_eq_false h9
        simp only [List.map_cons, na_tv_ref (ad := ad) (fm := fm) h90]
        subst h2
        exact lv_astore hx hb hd hlv.has (Nat.le_of_ble_eq_true h3) rfl (fun lsB hl => nx _ _ _ _ h1_ _ _ _ ⟨hPw, hDw, hSw, na_lv.s1 (v := .ref y) hfm (by rw [na_tv_ref h90]; exact hl)⟩)
    | astore_n n =>
      dsimp only [na_stp] at h
      simp only [na_okI, Bool.and_eq_true, beq_iff_eq] at hI
      obtain ⟨⟨h1, h2⟩, h3⟩ := hI
      subst h1
      obtain ⟨y, r3, e3, h1_⟩ := na_pR_s h
      try dsimp only at h1_
      subst e3
      cases h9 : Nat.beq y 90 with
      | true => rw [h9] at h1_; exact (show False from h1_).elim
      | false =>
        rw [h9] at h1_
        have h90 : y ≠ 90 := Nat.ne_of_beq_eq_false h9
        simp only [List.map_cons, na_tv_ref (ad := ad) (fm := fm) h90]
        exact lv_astore_n hx hb hd h2 hlv.has (Nat.le_of_ble_eq_true h3) rfl (fun lsB hl => nx _ _ _ _ h1_ _ _ _ ⟨hPw, hDw, hSw, na_lv.s1 (v := .ref y) hfm (by rw [na_tv_ref h90]; exact hl)⟩)
    | iinc i n =>
      dsimp only [na_stp] at h
      simp only [na_okI, Bool.and_eq_true, beq_iff_eq] at hI
      obtain ⟨⟨⟨h1, h2⟩, h3⟩, h4⟩ := hI
      subst h1
      subst h2
      obtain ⟨v, hv, h1_⟩ := na_ld_s h
      try dsimp only at h1_
      obtain ⟨y, r3, e3, h2_⟩ := na_pI_s h1_
      try dsimp only at h2_
      cases e3
      rw [na_nth_eq] at hv
      obtain ⟨kk, hkk⟩ := List.getElem?_of_mem (na_al_mem (ad := ad) (fm := fm) (q := (na_h0 hi, .int y)) |>.mpr ⟨_, hv, rfl⟩)
      exact lv_iinc (v := y + v32) hx hb hd hlv.has hkk (by rw [h4]) (Nat.le_of_ble_eq_true h3) rfl (fun lsB hl => nx _ _ _ _ h2_ _ _ _ ⟨hPw, hDw, hSw, na_lv.s1 (v := .int (y + v32)) hfm hl⟩)
    | iadd =>
      dsimp only [na_stp] at h
      simp only [na_okI, Bool.and_eq_true, beq_iff_eq] at hI
      subst hI
      obtain ⟨y, r1, e1, h1_⟩ := na_pI_s h
      try dsimp only at h1_
      obtain ⟨z, r2, e2, h2_⟩ := na_pI_s h1_
      try dsimp only at h2_
      subst e1 e2
      exact lv_iadd hx hb hd (nx _ _ _ _ h2_ _ _ _ hiv)
    | isub =>
      dsimp only [na_stp] at h
      simp only [na_okI, Bool.and_eq_true, beq_iff_eq] at hI
      subst hI
      obtain ⟨y, r1, e1, h1_⟩ := na_pI_s h
      try dsimp only at h1_
      obtain ⟨z, r2, e2, h2_⟩ := na_pI_s h1_
      try dsimp only at h2_
      subst e1 e2
      exact lv_isub hx hb hd (nx _ _ _ _ h2_ _ _ _ hiv)
    | imul =>
      dsimp only [na_stp] at h
      simp only [na_okI, Bool.and_eq_true, beq_iff_eq] at hI
      subst hI
      obtain ⟨y, r1, e1, h1_⟩ := na_pI_s h
      try dsimp only at h1_
      obtain ⟨z, r2, e2, h2_⟩ := na_pI_s h1_
      try dsimp only at h2_
      subst e1 e2
      exact lv_imul hx hb hd (nx _ _ _ _ h2_ _ _ _ hiv)
    | iand =>
      dsimp only [na_stp] at h
      simp only [na_okI, Bool.and_eq_true, beq_iff_eq] at hI
      subst hI
      obtain ⟨y, r1, e1, h1_⟩ := na_pI_s h
      try dsimp only at h1_
      obtain ⟨z, r2, e2, h2_⟩ := na_pI_s h1_
      try dsimp only at h2_
      subst e1 e2
      exact lv_iand hx hb hd (nx _ _ _ _ h2_ _ _ _ hiv)
    | ior =>
      dsimp only [na_stp] at h
      simp only [na_okI, Bool.and_eq_true, beq_iff_eq] at hI
      subst hI
      obtain ⟨y, r1, e1, h1_⟩ := na_pI_s h
      try dsimp only at h1_
      obtain ⟨z, r2, e2, h2_⟩ := na_pI_s h1_
      try dsimp only at h2_
      subst e1 e2
      exact lv_ior hx hb hd (nx _ _ _ _ h2_ _ _ _ hiv)
    | ixor =>
      dsimp only [na_stp] at h
      simp only [na_okI, Bool.and_eq_true, beq_iff_eq] at hI
      subst hI
      obtain ⟨y, r1, e1, h1_⟩ := na_pI_s h
      try dsimp only at h1_
      obtain ⟨z, r2, e2, h2_⟩ := na_pI_s h1_
      try dsimp only at h2_
      subst e1 e2
      exact lv_ixor hx hb hd (nx _ _ _ _ h2_ _ _ _ hiv)
    | ishl =>
      dsimp only [na_stp] at h
      simp only [na_okI, Bool.and_eq_true, beq_iff_eq] at hI
      subst hI
      obtain ⟨y, r1, e1, h1_⟩ := na_pI_s h
      try dsimp only at h1_
      obtain ⟨z, r2, e2, h2_⟩ := na_pI_s h1_
      try dsimp only at h2_
      subst e1 e2
      exact lv_ishl hx hb hd (nx _ _ _ _ h2_ _ _ _ hiv)
    | ishr =>
      dsimp only [na_stp] at h
      simp only [na_okI, Bool.and_eq_true, beq_iff_eq] at hI
      subst hI
      obtain ⟨y, r1, e1, h1_⟩ := na_pI_s h
      try dsimp only at h1_
      obtain ⟨z, r2, e2, h2_⟩ := na_pI_s h1_
      try dsimp only at h2_
      subst e1 e2
      exact lv_ishr hx hb hd (nx _ _ _ _ h2_ _ _ _ hiv)
    | iushr =>
      dsimp only [na_stp] at h
      simp only [na_okI, Bool.and_eq_true, beq_iff_eq] at hI
      subst hI
      obtain ⟨y, r1, e1, h1_⟩ := na_pI_s h
      try dsimp only at h1_
      obtain ⟨z, r2, e2, h2_⟩ := na_pI_s h1_
      try dsimp only at h2_
      subst e1 e2
      exact lv_iushr hx hb hd rfl (nx _ _ _ _ h2_ _ _ _ hiv)
    | idiv =>
      dsimp only [na_stp] at h
      simp only [na_okI, Bool.and_eq_true, beq_iff_eq] at hI
      subst hI
      obtain ⟨y, r1, e1, h1_⟩ := na_pI_s h
      try dsimp only at h1_
      obtain ⟨z, r2, e2, h2_⟩ := na_pI_s h1_
      try dsimp only at h2_
      subst e1 e2
      exact lv_idiv hx hb hd h2_.1 (nx _ _ _ _ h2_.2 _ _ _ hiv)
    | irem =>
      dsimp only [na_stp] at h
      simp only [na_okI, Bool.and_eq_true, beq_iff_eq] at hI
      subst hI
      obtain ⟨y, r1, e1, h1_⟩ := na_pI_s h
      try dsimp only at h1_
      obtain ⟨z, r2, e2, h2_⟩ := na_pI_s h1_
      try dsimp only at h2_
      subst e1 e2
      exact lv_irem hx hb hd h2_.1 (nx _ _ _ _ h2_.2 _ _ _ hiv)
    | ineg =>
      dsimp only [na_stp] at h
      simp only [na_okI, Bool.and_eq_true, beq_iff_eq] at hI
      subst hI
      obtain ⟨y, r1, e1, h1_⟩ := na_pI_s h
      try dsimp only at h1_
      subst e1
      exact lv_ineg hx hb hd (nx _ _ _ _ h1_ _ _ _ hiv)
    | ladd =>
      dsimp only [na_stp] at h
      simp only [na_okI, Bool.and_eq_true, beq_iff_eq] at hI
      subst hI
      obtain ⟨y, r1, e1, h1_⟩ := na_pL_s h
      try dsimp only at h1_
      obtain ⟨z, r2, e2, h2_⟩ := na_pL_s h1_
      try dsimp only at h2_
      subst e1 e2
      exact lv_ladd hx hb hd (nx _ _ _ _ h2_ _ _ _ hiv)
    | lsub =>
      dsimp only [na_stp] at h
      simp only [na_okI, Bool.and_eq_true, beq_iff_eq] at hI
      subst hI
      obtain ⟨y, r1, e1, h1_⟩ := na_pL_s h
      try dsimp only at h1_
      obtain ⟨z, r2, e2, h2_⟩ := na_pL_s h1_
      try dsimp only at h2_
      subst e1 e2
      exact lv_lsub hx hb hd (nx _ _ _ _ h2_ _ _ _ hiv)
    | lmul =>
      dsimp only [na_stp] at h
      simp only [na_okI, Bool.and_eq_true, beq_iff_eq] at hI
      subst hI
      obtain ⟨y, r1, e1, h1_⟩ := na_pL_s h
      try dsimp only at h1_
      obtain ⟨z, r2, e2, h2_⟩ := na_pL_s h1_
      try dsimp only at h2_
      subst e1 e2
      exact lv_lmul hx hb hd (nx _ _ _ _ h2_ _ _ _ hiv)
    | land =>
      dsimp only [na_stp] at h
      simp only [na_okI, Bool.and_eq_true, beq_iff_eq] at hI
      subst hI
      obtain ⟨y, r1, e1, h1_⟩ := na_pL_s h
      try dsimp only at h1_
      obtain ⟨z, r2, e2, h2_⟩ := na_pL_s h1_
      try dsimp only at h2_
      subst e1 e2
      exact lv_land hx hb hd (nx _ _ _ _ h2_ _ _ _ hiv)
    | lor =>
      dsimp only [na_stp] at h
      simp only [na_okI, Bool.and_eq_true, beq_iff_eq] at hI
      subst hI
      obtain ⟨y, r1, e1, h1_⟩ := na_pL_s h
      try dsimp only at h1_
      obtain ⟨z, r2, e2, h2_⟩ := na_pL_s h1_
      try dsimp only at h2_
      subst e1 e2
      exact lv_lor hx hb hd (nx _ _ _ _ h2_ _ _ _ hiv)
    | ldiv =>
      dsimp only [na_stp] at h
      simp only [na_okI, Bool.and_eq_true, beq_iff_eq] at hI
      subst hI
      obtain ⟨y, r1, e1, h1_⟩ := na_pL_s h
      try dsimp only at h1_
      obtain ⟨z, r2, e2, h2_⟩ := na_pL_s h1_
      try dsimp only at h2_
      subst e1 e2
      exact lv_ldiv hx hb hd h2_.1 (nx _ _ _ _ h2_.2 _ _ _ hiv)
    | lcmp =>
      dsimp only [na_stp] at h
      simp only [na_okI, Bool.and_eq_true, beq_iff_eq] at hI
      subst hI
      obtain ⟨y, r1, e1, h1_⟩ := na_pL_s h
      try dsimp only at h1_
      obtain ⟨z, r2, e2, h2_⟩ := na_pL_s h1_
      try dsimp only at h2_
      subst e1 e2
      exact W.lcmp hx hb hd (nx _ _ _ _ h2_ _ _ _ hiv)
    | lshl =>
      dsimp only [na_stp] at h
      simp only [na_okI, Bool.and_eq_true, beq_iff_eq] at hI
      subst hI
      obtain ⟨y, r1, e1, h1_⟩ := na_pI_s h
      try dsimp only at h1_
      obtain ⟨z, r2, e2, h2_⟩ := na_pL_s h1_
      try dsimp only at h2_
      subst e1 e2
      exact lv_lshl hx hb hd rfl (nx _ _ _ _ h2_ _ _ _ hiv)
    | lshr =>
      dsimp only [na_stp] at h
      simp only [na_okI, Bool.and_eq_true, beq_iff_eq] at hI
      subst hI
      obtain ⟨y, r1, e1, h1_⟩ := na_pI_s h
      try dsimp only at h1_
      obtain ⟨z, r2, e2, h2_⟩ := na_pL_s h1_
      try dsimp only at h2_
      subst e1 e2
      exact lv_lshr hx hb hd rfl (nx _ _ _ _ h2_ _ _ _ hiv)
    | i2l =>
      dsimp only [na_stp] at h
      simp only [na_okI, Bool.and_eq_true, beq_iff_eq] at hI
      subst hI
      obtain ⟨y, r1, e1, h1_⟩ := na_pI_s h
      try dsimp only at h1_
      subst e1
      exact lv_i2l hx hb hd rfl (nx _ _ _ _ h1_ _ _ _ hiv)
    | l2i =>
      dsimp only [na_stp] at h
      simp only [na_okI, Bool.and_eq_true, beq_iff_eq] at hI
      subst hI
      obtain ⟨y, r1, e1, h1_⟩ := na_pL_s h
      try dsimp only at h1_
      subst e1
      exact lv_l2i hx hb hd rfl (nx _ _ _ _ h1_ _ _ _ hiv)
    | i2b =>
      dsimp only [na_stp] at h
      simp only [na_okI, Bool.and_eq_true, beq_iff_eq] at hI
      subst hI
      obtain ⟨y, r1, e1, h1_⟩ := na_pI_s h
      try dsimp only at h1_
      subst e1
      exact lv_i2b hx hb hd rfl (nx _ _ _ _ h1_ _ _ _ hiv)
    | i2s =>
      dsimp only [na_stp] at h
      simp only [na_okI, Bool.and_eq_true, beq_iff_eq] at hI
      subst hI
      obtain ⟨y, r1, e1, h1_⟩ := na_pI_s h
      try dsimp only at h1_
      subst e1
      exact lv_i2s hx hb hd rfl (nx _ _ _ _ h1_ _ _ _ hiv)
    | i2c =>
      dsimp only [na_stp] at h
      simp only [na_okI, Bool.and_eq_true, beq_iff_eq] at hI
      subst hI
      obtain ⟨y, r1, e1, h1_⟩ := na_pI_s h
      try dsimp only at h1_
      subst e1
      exact lv_i2c hx hb hd rfl (nx _ _ _ _ h1_ _ _ _ hiv)
    | dup =>
      dsimp only [na_stp] at h
      simp only [na_okI, Bool.and_eq_true, beq_iff_eq] at hI
      subst hI
      obtain ⟨y, r1, e1, hc, h1_⟩ := na_p1_s h
      try dsimp only at h1_
      subst e1
      exact lv_dup hx hb hd ((na_tv_cat hfm y).trans hc) (nx _ _ _ _ h1_ _ _ _ hiv)
    | pop =>
      dsimp only [na_stp] at h
      simp only [na_okI, Bool.and_eq_true, beq_iff_eq] at hI
      subst hI
      obtain ⟨y, r1, e1, hc, h1_⟩ := na_p1_s h
      try dsimp only at h1_
      subst e1
      exact lv_pop hx hb hd ((na_tv_cat hfm y).trans hc) (nx _ _ _ _ h1_ _ _ _ hiv)
    | dup2 =>
      dsimp only [na_stp] at h
      simp only [na_okI, Bool.and_eq_true, beq_iff_eq] at hI
      subst hI
      obtain ⟨y, r1, e1, hc, h1_⟩ := na_p1_s h
      try dsimp only at h1_
      obtain ⟨z, r2, e2, hc2, h2_⟩ := na_p1_s h1_
      try dsimp only at h2_
      subst e1 e2
      exact lv_dup2_11 hx hb hd ((na_tv_cat hfm y).trans hc) ((na_tv_cat hfm z).trans hc2) (nx _ _ _ _ h2_ _ _ _ hiv)
    | goto off =>
      dsimp only [na_stp] at h
      simp only [na_okI, Bool.and_eq_true, beq_iff_eq] at hI
      obtain ⟨h1, h2⟩ := hI
      subst h1
      obtain ⟨tgt, ht, kt⟩ := jp _ _ h2
      exact lv_goto hx hb hd ht (kt _ _ _ _ h _ _ _ hiv)
    | ifCond cd off =>
      simp only [na_okI, Bool.and_eq_true, beq_iff_eq] at hI
      obtain ⟨h1, h2⟩ := hI
      subst h1
      obtain ⟨tgt, ht, kt⟩ := jp _ _ h2
      cases cd with
      | eq =>
        try dsimp only [na_stp] at h
        obtain ⟨y, r1, e1, h1_⟩ := na_pI_s h
        try dsimp only at h1_
        subst e1
        exact lv_if_eq hx hb hd ht (fun q => kt _ _ _ _ (h1_.1 q) _ _ _ hiv) (fun q => nx _ _ _ _ (h1_.2 q) _ _ _ hiv)
      | ne =>
        try dsimp only [na_stp] at h
        obtain ⟨y, r1, e1, h2_⟩ := na_pI_s h
        try dsimp only at h2_
        subst e1
        exact lv_if_ne hx hb hd ht (fun q => kt _ _ _ _ (h2_.1 q) _ _ _ hiv) (fun q => nx _ _ _ _ (h2_.2 q) _ _ _ hiv)
      | lt =>
        try dsimp only [na_stp] at h
        obtain ⟨y, r1, e1, h3_⟩ := na_pI_s h
        try dsimp only at h3_
        subst e1
        exact lv_if_lt hx hb hd ht (fun q => kt _ _ _ _ (h3_.1 q) _ _ _ hiv) (fun q => nx _ _ _ _ (h3_.2 q) _ _ _ hiv)
      | ge =>
        try dsimp only [na_stp] at h
        obtain ⟨y, r1, e1, h4_⟩ := na_pI_s h
        try dsimp only at h4_
        subst e1
        exact lv_if_ge hx hb hd ht (fun q => kt _ _ _ _ (h4_.1 q) _ _ _ hiv) (fun q => nx _ _ _ _ (h4_.2 q) _ _ _ hiv)
      | gt =>
        try dsimp only [na_stp] at h
        obtain ⟨y, r1, e1, h5_⟩ := na_pI_s h
        try dsimp only at h5_
        subst e1
        exact lv_if_gt hx hb hd ht (fun q => kt _ _ _ _ (h5_.1 q) _ _ _ hiv) (fun q => nx _ _ _ _ (h5_.2 q) _ _ _ hiv)
      | le =>
        try dsimp only [na_stp] at h
        obtain ⟨y, r1, e1, h6_⟩ := na_pI_s h
        try dsimp only at h6_
        subst e1
        exact lv_if_le hx hb hd ht (fun q => kt _ _ _ _ (h6_.1 q) _ _ _ hiv) (fun q => nx _ _ _ _ (h6_.2 q) _ _ _ hiv)
    | if_icmp cd off =>
      simp only [na_okI, Bool.and_eq_true, beq_iff_eq] at hI
      obtain ⟨h1, h2⟩ := hI
      subst h1
      obtain ⟨tgt, ht, kt⟩ := jp _ _ h2
      cases cd with
      | eq =>
        try dsimp only [na_stp] at h
        obtain ⟨y, r1, e1, h1_⟩ := na_pI_s h
        try dsimp only at h1_
        obtain ⟨z, r2, e2, h2_⟩ := na_pI_s h1_
        try dsimp only at h2_
        subst e1 e2
        exact lv_icmp_eq hx hb hd ht (fun q => kt _ _ _ _ (h2_.1 q) _ _ _ hiv) (fun q => nx _ _ _ _ (h2_.2 q) _ _ _ hiv)
      | ne =>
        try dsimp only [na_stp] at h
        obtain ⟨y, r1, e1, h3_⟩ := na_pI_s h
        try dsimp only at h3_
        obtain ⟨z, r2, e2, h4_⟩ := na_pI_s h3_
        try dsimp only at h4_
        subst e1 e2
        exact lv_icmp_ne hx hb hd ht (fun q => kt _ _ _ _ (h4_.1 q) _ _ _ hiv) (fun q => nx _ _ _ _ (h4_.2 q) _ _ _ hiv)
      | lt =>
        try dsimp only [na_stp] at h
        obtain ⟨y, r1, e1, h5_⟩ := na_pI_s h
        try dsimp only at h5_
        obtain ⟨z, r2, e2, h6_⟩ := na_pI_s h5_
        try dsimp only at h6_
        subst e1 e2
        exact lv_icmp_lt hx hb hd ht (fun q => kt _ _ _ _ (h6_.1 q) _ _ _ hiv) (fun q => nx _ _ _ _ (h6_.2 q) _ _ _ hiv)
      | ge =>
        try dsimp only [na_stp] at h
        obtain ⟨y, r1, e1, h7_⟩ := na_pI_s h
        try dsimp only at h7_
        obtain ⟨z, r2, e2, h8_⟩ := na_pI_s h7_
        try dsimp only at h8_
        subst e1 e2
        exact lv_icmp_ge hx hb hd ht (fun q => kt _ _ _ _ (h8_.1 q) _ _ _ hiv) (fun q => nx _ _ _ _ (h8_.2 q) _ _ _ hiv)
      | gt =>
        try dsimp only [na_stp] at h
        obtain ⟨y, r1, e1, h9_⟩ := na_pI_s h
        try dsimp only at h9_
        obtain ⟨z, r2, e2, h10_⟩ := na_pI_s h9_
        try dsimp only at h10_
        subst e1 e2
        exact lv_icmp_gt hx hb hd ht (fun q => kt _ _ _ _ (h10_.1 q) _ _ _ hiv) (fun q => nx _ _ _ _ (h10_.2 q) _ _ _ hiv)
      | le =>
        try dsimp only [na_stp] at h
        obtain ⟨y, r1, e1, h11_⟩ := na_pI_s h
        try dsimp only at h11_
        obtain ⟨z, r2, e2, h12_⟩ := na_pI_s h11_
        try dsimp only at h12_
        subst e1 e2
        exact lv_icmp_le hx hb hd ht (fun q => kt _ _ _ _ (h12_.1 q) _ _ _ hiv) (fun q => nx _ _ _ _ (h12_.2 q) _ _ _ hiv)
    | tableswitch d lo2 hi2 offs =>
      dsimp only [na_stp] at h
      simp only [na_okI, Bool.and_eq_true, decide_eq_true_eq] at hI
      obtain ⟨⟨h1, h2⟩, h3⟩ := hI
      obtain ⟨y, r1, e1, h1_⟩ := na_pI_s h
      try dsimp only at h1_
      subst e1
      by_cases hin : y.toInt < lo2 ∨ hi2 < y.toInt
      · obtain ⟨tgt, ht, kt⟩ := jp _ _ h1
        exact lv_tableOut hx hb hd hin ht (kt _ _ _ _ (h1_.1 hin) _ _ _ hiv)
      · have hlt : (y.toInt - lo2).toNat < offs.toList.length := by omega
        obtain ⟨o, ho⟩ : ∃ o, offs.toList[(y.toInt - lo2).toNat]? = some o := ⟨_, List.getElem?_eq_getElem hlt⟩
        obtain ⟨t, ht1, ht2⟩ := na_tgs_s _ _ h2 _ _ ho
        obtain ⟨tgt, ht, kt⟩ := jp _ _ ht2
        exact lv_tableIn hx hb hd (fun q => hin (Or.inl q)) (fun q => hin (Or.inr q)) (by rw [← Array.getElem?_toList]; exact ho) ht (kt _ _ _ _ (na_sw_s _ _ _ _ h1_.2 _ t ht1 (by omega)) _ _ _ hiv)
    | iaload =>
      dsimp only [na_stp] at h
      simp only [na_okI, Bool.and_eq_true, beq_iff_eq] at hI
      subst hI
      obtain ⟨i, r1, e1, h1_⟩ := na_pI_s h
      try dsimp only at h1_
      obtain ⟨a, r2, e2, h2_⟩ := na_pR_s h1_
      try dsimp only at h2_
      subst e1 e2
      unfold na_ar at h2_
      split at h2_
      · rename_i n hn
        show W p l e R s m args below meth c H locs cells slots Q (F0 m pc lsA (.int i :: na_tv ad fm (.ref a) :: r2.map (na_tv ad fm)))
        rw [na_tv_ref (na_lay_lt hn)]
        exact va_iald hx hb hK hPw a 0 (na_ws_at hn) rfl h2_.1 hd (nx _ _ _ _ h2_.2 _ _ _ hiv)
      · exact h2_.elim
      · split at h2_
        · rename_i q hq
          show W p l e R s m args below meth c H locs cells slots Q (F0 m pc lsA (.int i :: na_tv ad fm (.ref a) :: r2.map (na_tv ad fm)))
          rw [na_tv_ref (na_sa_ne hq)]
          exact va_ti hx hb (na_C.T (hsa a q hq) hal hh') hSw h2_.1 rfl hd (nx _ _ _ _ h2_.2 _ _ _ hiv)
        · exact h2_.elim
    | baload =>
      dsimp only [na_stp] at h
      simp only [na_okI, Bool.and_eq_true, beq_iff_eq] at hI
      subst hI
      obtain ⟨i, r1, e1, h1_⟩ := na_pI_s h
      try dsimp only at h1_
      obtain ⟨a, r2, e2, h2_⟩ := na_pR_s h1_
      try dsimp only at h2_
      subst e1 e2
      split at h2_
      · rename_i q hq
        show W p l e R s m args below meth c H locs cells slots Q (F0 m pc lsA (.int i :: na_tv ad fm (.ref a) :: r2.map (na_tv ad fm)))
        rw [na_tv_ref (na_sb_ne hq)]
        exact va_tb hx hb (na_C.T (hsb a q hq) hal hh') hSw h2_.1 rfl hd (nx _ _ _ _ h2_.2 _ _ _ hiv)
      · exact h2_.elim
    | laload =>
      dsimp only [na_stp] at h
      simp only [na_okI, Bool.and_eq_true, beq_iff_eq] at hI
      subst hI
      obtain ⟨i, r1, e1, h1_⟩ := na_pI_s h
      try dsimp only at h1_
      obtain ⟨a, r2, e2, h2_⟩ := na_pR_s h1_
      try dsimp only at h2_
      subst e1 e2
      split at h2_
      · rename_i n hn
        show W p l e R s m args below meth c H locs cells slots Q (F0 m pc lsA (.int i :: na_tv ad fm (.ref a) :: r2.map (na_tv ad fm)))
        rw [na_tv_ref (na_lay_lt hn)]
        exact va_lald hx hb hK hPw a 1 (na_ws_at hn) rfl h2_.1 hd (nx _ _ _ _ h2_.2 _ _ _ hiv)
      · exact h2_.elim
    | aaload =>
      dsimp only [na_stp] at h
      simp only [na_okI, Bool.and_eq_true, beq_iff_eq] at hI
      subst hI
      obtain ⟨i, r1, e1, h1_⟩ := na_pI_s h
      try dsimp only at h1_
      obtain ⟨a, r2, e2, h2_⟩ := na_pR_s h1_
      try dsimp only at h2_
      subst e1 e2
      split at h2_
      · rename_i n hn
        show W p l e R s m args below meth c H locs cells slots Q (F0 m pc lsA (.int i :: na_tv ad fm (.ref a) :: r2.map (na_tv ad fm)))
        rw [na_tv_ref (na_lay_lt hn)]
        have g := nx _ _ _ _ h2_.2 _ _ _ hiv
        simp only [List.map_cons, na_tv_ref (ad := ad) (fm := fm) (na_shp_ne hn h2_.1)] at g
        exact va_aldq (C := RX1) hx hb hK hPw a 2 (na_ws_at hn) rfl h2_.1 hd g
      · exact h2_.elim
    | iastore =>
      dsimp only [na_stp] at h
      simp only [na_okI, Bool.and_eq_true, beq_iff_eq] at hI
      subst hI
      obtain ⟨v, r0, e0, h1_⟩ := na_pI_s h
      try dsimp only at h1_
      obtain ⟨i, r1, e1, h2_⟩ := na_pI_s h1_
      try dsimp only at h2_
      obtain ⟨a, r2, e2, h3_⟩ := na_pR_s h2_
      try dsimp only at h3_
      subst e0 e1 e2
      split at h3_
      · rename_i n hn
        show W p l e R s m args below meth c H locs cells slots Q (F0 m pc lsA (.int v :: .int i :: na_tv ad fm (.ref a) :: r2.map (na_tv ad fm)))
        rw [na_tv_ref (na_lay_lt hn)]
        refine va_iast hx hb hK hPw hDw hSw a 0 (na_ws_at hn) rfl h3_.1 hd (fun H1 locs1 p1 d1 s1 => ?_)
        have es : (na_ws ca ad I J 0 na_lay).set a (ad a, .inl (ca 0, n, .inl (upd (I a) i.toNatClampNeg v))) = na_ws ca ad (na_set I a i.toNatClampNeg v) J 0 na_lay := by
          rw [← na_ws_set hn (I := I) (J := J) (fun b hb => ⟨na_set_off hb, rfl⟩)]
          simp [na_ce, na_set_on]
        rw [es] at p1 d1
        exact nx _ _ _ _ h3_.2 _ _ _ ⟨p1, d1, s1, hlv⟩
      · exact h3_.elim
    | lastore =>
      dsimp only [na_stp] at h
      simp only [na_okI, Bool.and_eq_true, beq_iff_eq] at hI
      subst hI
      obtain ⟨v, r0, e0, h1_⟩ := na_pL_s h
      try dsimp only at h1_
      obtain ⟨i, r1, e1, h2_⟩ := na_pI_s h1_
      try dsimp only at h2_
      obtain ⟨a, r2, e2, h3_⟩ := na_pR_s h2_
      try dsimp only at h3_
      subst e0 e1 e2
      split at h3_
      · rename_i n hn
        show W p l e R s m args below meth c H locs cells slots Q (F0 m pc lsA (.long v :: .int i :: na_tv ad fm (.ref a) :: r2.map (na_tv ad fm)))
        rw [na_tv_ref (na_lay_lt hn)]
        refine va_last hx hb hK hPw hDw hSw a 1 (na_ws_at hn) rfl h3_.1 hd (fun H1 locs1 p1 d1 s1 => ?_)
        have es : (na_ws ca ad I J 0 na_lay).set a (ad a, .inl (ca 1, n, .inr (.inl (vp_updL (J a) i.toNatClampNeg v)))) = na_ws ca ad I (na_setL J a i.toNatClampNeg v) 0 na_lay := by
          rw [← na_ws_set hn (I := I) (J := J) (fun b hb => ⟨rfl, na_setL_off hb⟩)]
          simp [na_ce, na_setL_on]
        rw [es] at p1 d1
        exact nx _ _ _ _ h3_.2 _ _ _ ⟨p1, d1, s1, hlv⟩
      · exact h3_.elim
    | arraylength =>
      dsimp only [na_stp] at h
      simp only [na_okI, Bool.and_eq_true, beq_iff_eq] at hI
      subst hI
      obtain ⟨a, r2, e2, h1_⟩ := na_pR_s h
      try dsimp only at h1_
      subst e2
      split at h1_
      · rename_i n hn
        show W p l e R s m args below meth c H locs cells slots Q (F0 m pc lsA (na_tv ad fm (.ref a) :: r2.map (na_tv ad fm)))
        rw [na_tv_ref (na_lay_lt hn)]
        exact va_alen hx hb hK hPw a 0 (na_ws_at hn) rfl rfl hd (nx _ _ _ _ h1_ _ _ _ hiv)
      · exact h1_.elim
      · split at h1_
        · rename_i q hq
          show W p l e R s m args below meth c H locs cells slots Q (F0 m pc lsA (na_tv ad fm (.ref a) :: r2.map (na_tv ad fm)))
          rw [na_tv_ref (na_sa_ne hq)]
          exact va_tlen hx hb (na_C.T (hsa a q hq) hal hh') hSw rfl hd (nx _ _ _ _ h1_ _ _ _ hiv)
        · split at h1_
          · rename_i q hq
            show W p l e R s m args below meth c H locs cells slots Q (F0 m pc lsA (na_tv ad fm (.ref a) :: r2.map (na_tv ad fm)))
            rw [na_tv_ref (na_sb_ne hq)]
            exact va_tlen hx hb (na_C.T (hsb a q hq) hal hh') hSw rfl hd (nx _ _ _ _ h1_ _ _ _ hiv)
          · exact h1_.elim
    | getfield idx =>
      dsimp only [na_stp] at h
      simp only [na_okI, beq_iff_eq] at hI
      subst hI
      obtain ⟨a, r2, e2, h1⟩ := na_pR_s h
      subst e2
      simp only [na_lk] at hlk
      by_cases h9 : na_h0 hi = 9
      · rw [if_pos h9] at hlk
        have h1 : (bif Nat.ble 100 a && Nat.ble a 116 then (match na_h1 hi with
          | 0 => k r ls (.int 0 :: r2) I J
          | 1 => k r ls (.ref (a + 20) :: r2) I J
          | _ => False) else False) := by
          have e9 : Nat.beq (na_h0 hi) 9 = true := by rw [h9]; rfl
          rw [e9] at h1
          exact h1
        cases hr : (Nat.ble 100 a && Nat.ble a 116) with
        | false => rw [hr] at h1; exact (show False from h1).elim
        | true =>
          rw [hr] at h1
          simp only [Bool.and_eq_true] at hr
          have ha1 := Nat.le_of_ble_eq_true hr.1
          have ha2 := Nat.le_of_ble_eq_true hr.2
          obtain ⟨i, rfl⟩ : ∃ i, a = 100 + i := ⟨a - 100, by omega⟩
          obtain ⟨q, hq⟩ := na_wd_at (i := i) (by omega)
          show W p l e R s m args below meth c H locs cells slots Q (F0 m pc lsA (na_tv ad fm (.ref (100 + i)) :: r2.map (na_tv ad fm)))
          rw [na_tv_ref (by omega)]
          have h1 : (match na_h1 hi with
            | 0 => k r ls (.int 0 :: r2) I J
            | 1 => k r ls (.ref (100 + i + 20) :: r2) I J
            | _ => False) := h1
          split at h1
          · rename_i hz
            exact vk_getf hx hb (na_C.OF (hwd i q hq).2.1 hal hh') hSw hown (hts _ (hlk.1 hz)) (fun x hx => hx) hd (nx _ _ _ _ h1 _ _ _ hiv)
          · rename_i hz
            have g := nx _ _ _ _ h1 _ _ _ hiv
            simp only [List.map_cons, na_tv_ref (ad := ad) (fm := fm) (show 100 + i + 20 ≠ 90 by omega)] at g
            rw [show 100 + i + 20 = 120 + i by omega] at g
            exact vk_getf hx hb (na_C.OF (hwd i q hq).2.2 hal hh') hSw hown (hts _ (hlk.2 hz)) (fun x hx => hx) hd g
          · exact h1.elim
      · rw [if_neg h9] at hlk
        obtain ⟨C, T, N, hc, hin, hkN, hfl⟩ := hlk
        have e9 : Nat.beq (na_h0 hi) 9 = false := na_beqF h9
        rw [e9] at h1
        simp only [cond_false] at h1
        split at h1
        · rename_i q hq
          obtain ⟨c0, fs⟩ := q
          cases hcc : Nat.beq c0 (na_h0 hi) with
          | false => simp only [hcc, cond_false] at h1
          | true =>
            simp only [hcc, cond_true] at h1
            have hcc := Nat.eq_of_beq_eq_true hcc
            split at h1
            · rename_i f hf
              have g := nx _ _ _ _ h1 _ _ _ hiv
              simp only [List.map_cons, na_fw_tv (ad := ad) (fm := fm) f (na_lay_fl hq hf)] at g
              show W p l e R s m args below meth c H locs cells slots Q (F0 m pc lsA (na_tv ad fm (.ref a) :: r2.map (na_tv ad fm)))
              rw [na_tv_ref (na_lay_lt hq)]
              refine va_get hx hb hts hin hown hK hPw a (na_ws_at hq) (by rw [hcc]; exact hc) (na_h1 hi) hkN (hts _ hfl) (fun x hx => hx) (v := na_fv ad I J a (na_h1 hi) f) ?_ hd g
              rw [na_nth_eq] at hf
              rw [na_fs_get, hf]
              simp
            · exact h1.elim
        · exact h1.elim
    | putfield idx =>
      dsimp only [na_stp] at h
      simp only [na_okI, beq_iff_eq] at hI
      subst hI
      simp only [na_lk] at hlk
      obtain ⟨C, T, N, ty, hc, hin, hty, hnm, hkN, hfl, hfin, hkind⟩ := hlk
      split at h
      · rename_i v a r2
        split at h
        · rename_i q hq
          obtain ⟨c0, fs⟩ := q
          cases hcc : Nat.beq c0 (na_h0 hi) with
          | false => simp only [hcc, cond_false] at h
          | true =>
            simp only [hcc, cond_true] at h
            have hcc := Nat.eq_of_beq_eq_true hcc
            split at h
            · rename_i hf
              rw [na_nth_eq] at hf
              have hkn2 : k r ls r2 (na_set I a (na_h1 hi) v) J ∧ narrow (ty (na_h1 hi)) (.int v) = .int v ∧ fits (ty (na_h1 hi)) (.int v) = true := by
                split at h
                · rename_i hz
                  rcases hkind with ⟨z1, z2⟩ | ⟨z1, z2⟩ | ⟨z1, z2⟩
                  · rw [z2]
                    exact ⟨h, rfl, rfl⟩
                  · omega
                  · omega
                · rename_i hz
                  rcases hkind with ⟨z1, z2⟩ | ⟨z1, z2⟩ | ⟨z1, z2⟩
                  · omega
                  · rw [z2]
                    refine ⟨h.2, ?_⟩
                    rcases h.1 with rfl | rfl <;> exact ⟨by decide, by decide⟩
                  · omega
                · exact h.elim
              show W p l e R s m args below meth c H locs cells slots Q (F0 m pc lsA (.int v :: na_tv ad fm (.ref a) :: r2.map (na_tv ad fm)))
              rw [na_tv_ref (na_lay_lt hq)]
              refine va_put hx hb hts hin ty hty hnm hown hK hPw hDw hSw a (na_ws_at hq) (by rw [hcc]; exact hc) (na_h1 hi) hkN (hts _ hfl) (fun x hx => hx) hfin (hty _ hkN) hkn2.2.1 hkn2.2.2 (by rw [na_fs_len]; exact (List.getElem?_eq_some_iff.mp hf).1) hd (fun H1 locs1 p1 d1 s1 => ?_)
              have es : (na_ws ca ad I J 0 na_lay).set a (ad a, .inr (c0, (na_fs ad I J a 0 fs).set (na_h1 hi) (.int v))) = na_ws ca ad (na_set I a (na_h1 hi) v) J 0 na_lay := by
                rw [← na_ws_set hq (I := I) (J := J) (fun b hb => ⟨na_set_off hb, rfl⟩)]
                rw [na_fs_set (I' := na_set I a (na_h1 hi) v) (J' := J) hf (by simp [na_fv, na_set_on, upd]) (fun b hb => ⟨by simp [na_set_on, upd, hb], rfl⟩)]
                rfl
              rw [es] at p1 d1
              exact nx _ _ _ _ hkn2.1 _ _ _ ⟨p1, d1, s1, hlv⟩
            · exact h.elim
        · exact h.elim
      · rename_i v a r2
        split at h
        · rename_i q hq
          obtain ⟨c0, fs⟩ := q
          cases hcc : Nat.beq c0 (na_h0 hi) with
          | false => simp only [hcc, cond_false] at h
          | true =>
            simp only [hcc, cond_true] at h
            have hcc := Nat.eq_of_beq_eq_true hcc
            split at h
            · rename_i hf
              rw [na_nth_eq] at hf
              have hkn2 : k r ls r2 I (na_setL J a (na_h1 hi) v) ∧ narrow (ty (na_h1 hi)) (.long v) = .long v ∧ fits (ty (na_h1 hi)) (.long v) = true := by
                cases h2b : Nat.beq (na_h2 hi) 2 with
                | false => simp only [h2b, cond_false] at h
                | true =>
                  simp only [h2b, cond_true] at h
                  have h2b := Nat.eq_of_beq_eq_true h2b
                  rcases hkind with ⟨z1, z2⟩ | ⟨z1, z2⟩ | ⟨z1, z2⟩
                  · omega
                  · omega
                  · rw [z2]
                    exact ⟨h, rfl, rfl⟩
              show W p l e R s m args below meth c H locs cells slots Q (F0 m pc lsA (.long v :: na_tv ad fm (.ref a) :: r2.map (na_tv ad fm)))
              rw [na_tv_ref (na_lay_lt hq)]
              refine va_put hx hb hts hin ty hty hnm hown hK hPw hDw hSw a (na_ws_at hq) (by rw [hcc]; exact hc) (na_h1 hi) hkN (hts _ hfl) (fun x hx => hx) hfin (hty _ hkN) hkn2.2.1 hkn2.2.2 (by rw [na_fs_len]; exact (List.getElem?_eq_some_iff.mp hf).1) hd (fun H1 locs1 p1 d1 s1 => ?_)
              have es : (na_ws ca ad I J 0 na_lay).set a (ad a, .inr (c0, (na_fs ad I J a 0 fs).set (na_h1 hi) (.long v))) = na_ws ca ad I (na_setL J a (na_h1 hi) v) 0 na_lay := by
                rw [← na_ws_set hq (I := I) (J := J) (fun b hb => ⟨rfl, na_setL_off hb⟩)]
                rw [na_fs_set (I' := I) (J' := na_setL J a (na_h1 hi) v) hf (by simp [na_fv, na_setL_on, vp_updL]) (fun b hb => ⟨rfl, by simp [na_setL_on, vp_updL, hb]⟩)]
                rfl
              rw [es] at p1 d1
              exact nx _ _ _ _ hkn2.1 _ _ _ ⟨p1, d1, s1, hlv⟩
            · exact h.elim
        · exact h.elim
      · exact h.elim
    | getstatic idx =>
      dsimp only [na_stp] at h
      simp only [na_okI, beq_iff_eq] at hI
      subst hI
      simp only [na_lk] at hlk
      obtain ⟨q, hq, hlk⟩ := hlk
      rw [hq] at h
      have hqm : q ∈ na_st := by rw [na_nth_eq] at hq; exact List.mem_of_getElem? hq
      have hZ := na_C.Z (hst q hqm) hal hh'
      have g := nx _ _ _ _ h _ _ _ hiv
      rcases hlk with hlk | ⟨z1, z2, z3, z4, z5⟩
      · exact va_gets hx hb hZ hSw hown (hts _ hlk) (fun x hx => hx) hd g
      · rw [z3, z4, z5] at hZ
        subst z1 z2
        exact va_getsN hx hb hZ hSw hown (va_Nw.use rfl hKw.2.2.1) (fun x hx => hx) hd g
    | invokestatic idx =>
      dsimp only [na_stp] at h
      simp only [na_okI, Bool.and_eq_true, beq_iff_eq] at hI
      obtain ⟨hlen, hI⟩ := hI
      subst hlen
      simp only [na_lk] at hlk
      by_cases h8 : na_h0 hi = 998
      · have e8 : Nat.beq (na_h0 hi) 998 = true := by rw [h8]; rfl
        rw [e8] at h
        exact (show False from h).elim
      have e8 : Nat.beq (na_h0 hi) 998 = false := na_beqF h8
      rw [if_neg h8] at hlk
      rw [e8] at h hI
      simp only [cond_false] at h hI
      by_cases h7 : na_h0 hi = 997
      · have e7 : Nat.beq (na_h0 hi) 997 = true := by rw [h7]; rfl
        rw [if_pos h7] at hlk
        rw [e7] at h hI
        simp only [cond_true, Bool.true_or, Bool.or_true, Bool.and_eq_true] at h hI
        have hI1 := Nat.le_of_ble_eq_true hI.1
        have hI2 := Nat.le_of_ble_eq_true hI.2
        obtain ⟨y, r1, e1, h1⟩ := na_pI_s h
        obtain ⟨z, r2, e2, h2⟩ := na_pI_s h1
        subst e1 e2
        cases hct : Nat.ble (na_ct r2) 8 with
        | false => simp only [hct, cond_false] at h2
        | true =>
          simp only [hct, cond_true] at h2
          have hct := Nat.le_of_ble_eq_true hct
          exact va_mmin hx hb (hml.trans hlv.1.symm) hown (hts _ hlk) (hts _ na_mminS) (hts _ na_mathT) (hts _ na_mminC) (by omega) (by rw [na_tvs_cat hfm]; omega) hcs hss hd (nx _ _ _ _ h2 _ _ _ hiv)
      have e7 : Nat.beq (na_h0 hi) 997 = false := na_beqF h7
      rw [if_neg h7] at hlk
      rw [e7] at h hI
      simp only [cond_false, Bool.false_or] at h hI
      by_cases h7 : na_h0 hi = 996
      · have e7 : Nat.beq (na_h0 hi) 996 = true := by rw [h7]; rfl
        rw [if_pos h7] at hlk
        rw [e7] at h hI
        simp only [cond_true, Bool.true_or, Bool.or_true, Bool.and_eq_true] at h hI
        have hI1 := Nat.le_of_ble_eq_true hI.1
        have hI2 := Nat.le_of_ble_eq_true hI.2
        obtain ⟨y, r1, e1, h1⟩ := na_pI_s h
        obtain ⟨z, r2, e2, h2⟩ := na_pI_s h1
        subst e1 e2
        cases hct : Nat.ble (na_ct r2) 8 with
        | false => simp only [hct, cond_false] at h2
        | true =>
          simp only [hct, cond_true] at h2
          have hct := Nat.le_of_ble_eq_true hct
          exact va_mmax hx hb (hml.trans hlv.1.symm) hown (hts _ hlk) (hts _ na_mmaxS) (hts _ na_mathT) (hts _ na_mmaxC) (by omega) (by rw [na_tvs_cat hfm]; omega) hcs hss hd (nx _ _ _ _ h2 _ _ _ hiv)
      have e7 : Nat.beq (na_h0 hi) 996 = false := na_beqF h7
      rw [if_neg h7] at hlk
      rw [e7] at h hI
      simp only [cond_false, Bool.false_or] at h hI
      by_cases h9 : na_h0 hi = 999
      · rw [if_pos h9] at hlk
        have e9 : Nat.beq (na_h0 hi) 999 = true := by rw [h9]; rfl
        rw [e9] at h hI
        simp only [cond_true, Bool.and_eq_true] at hI
        have hI1 := Nat.le_of_ble_eq_true hI.1
        have hI2 := Nat.le_of_ble_eq_true hI.2
        simp only [cond_true] at h
        obtain ⟨n, r1, e1, h1⟩ := na_pI_s h
        obtain ⟨dp, r2, e2, h2⟩ := na_pI_s h1
        obtain ⟨d, r3, e3, h3⟩ := na_pR_s h2
        obtain ⟨sp, r4, e4, h4⟩ := na_pI_s h3
        obtain ⟨a, r5, e5, h5⟩ := na_pR_s h4
        subst e1 e2 e3 e4 e5
        cases hct : Nat.ble (na_ct r5) 8 with
        | false => simp only [hct, cond_false] at h5
        | true =>
          simp only [hct, cond_true] at h5
          have hct := Nat.le_of_ble_eq_true hct
          have hloc : ((r5.map (na_tv ad fm)).map fun v => v.category).sum + (nativeFrameWords "java/lang/System" "arraycopy" 5 + 11) ≤ R.locals := by
            rw [na_tvs_cat hfm]
            have : nativeFrameWords "java/lang/System" "arraycopy" 5 = 7 := by decide +kernel
            omega
          have hml2 : c.maxLocals = lsA.size := hml.trans hlv.1.symm
          split at h5
          · rename_i n0 n1 ha hdd
            obtain ⟨⟨g1, g2, g3, g4, g5⟩, h6⟩ := h5
            show W p l e R s m args below meth c H locs cells slots Q (F0 m pc lsA (.int n :: .int dp :: na_tv ad fm (.ref d) :: .int sp :: na_tv ad fm (.ref a) :: r5.map (na_tv ad fm)))
            rw [na_tv_ref (na_lay_lt ha), na_tv_ref (na_lay_lt hdd)]
            refine va_copyi hx hb hml2 hown (hts _ hlk) (hts _ na_natT) (hts _ na_statT) (hts _ na_sysT) hK hPw hDw hSw a d 0 0 (na_ws_at ha) (na_ws_at hdd) rfl rfl rfl g1 g2 g3 g4 g5 (fun i _ => rfl) (by omega) hloc hd (fun H1 locs1 p1 d1 s1 => ?_)
            have es : (na_ws ca ad I J 0 na_lay).set d (ad d, .inl (ca 0, n1, .inl (va_cpy (I a) (I d) sp.toNatClampNeg dp.toNatClampNeg n.toNatClampNeg))) = na_ws ca ad (na_cpI I a d sp.toNatClampNeg dp.toNatClampNeg n.toNatClampNeg) J 0 na_lay := by
              rw [← na_ws_set hdd (I := I) (J := J) (fun b hb => ⟨na_cpI_off hb, rfl⟩)]
              simp [na_ce, na_cpI_on]
            rw [es] at p1 d1
            exact nx _ _ _ _ h6 _ _ _ ⟨p1, d1, s1, hlv⟩
          · rename_i n0 n1 ha hdd
            obtain ⟨⟨g1, g2, g3, g4, g5⟩, h6⟩ := h5
            show W p l e R s m args below meth c H locs cells slots Q (F0 m pc lsA (.int n :: .int dp :: na_tv ad fm (.ref d) :: .int sp :: na_tv ad fm (.ref a) :: r5.map (na_tv ad fm)))
            rw [na_tv_ref (na_lay_lt ha), na_tv_ref (na_lay_lt hdd)]
            refine va_copyl hx hb hml2 hown (hts _ hlk) (hts _ na_natT) (hts _ na_statT) (hts _ na_sysT) hK hPw hDw hSw a d 1 1 (na_ws_at ha) (na_ws_at hdd) rfl rfl rfl g1 g2 g3 g4 g5 (fun i _ => rfl) (by omega) hloc hd (fun H1 locs1 p1 d1 s1 => ?_)
            have es : (na_ws ca ad I J 0 na_lay).set d (ad d, .inl (ca 1, n1, .inr (.inl (va_cpy (J a) (J d) sp.toNatClampNeg dp.toNatClampNeg n.toNatClampNeg)))) = na_ws ca ad I (na_cpL J a d sp.toNatClampNeg dp.toNatClampNeg n.toNatClampNeg) 0 na_lay := by
              rw [← na_ws_set hdd (I := I) (J := J) (fun b hb => ⟨rfl, na_cpL_off hb⟩)]
              simp [na_ce, na_cpL_on]
            rw [es] at p1 d1
            exact nx _ _ _ _ h6 _ _ _ ⟨p1, d1, s1, hlv⟩
          · exact h5.elim
      · rw [if_neg h9] at hlk
        have e9 : Nat.beq (na_h0 hi) 999 = false := na_beqF h9
        rw [e9] at h hI
        simp only [cond_false, Bool.and_eq_true] at hI
        have hI1 := Nat.le_of_ble_eq_true hI.1
        have hI2 := Nat.le_of_ble_eq_true hI.2
        simp only [cond_false] at h
        obtain ⟨vs, r5, e5, hvl, h5⟩ := na_tk_s _ _ _ _ h
        subst e5
        obtain ⟨hl1, hl2, hl3, hl4, hl5, hl6, hl7, hl8⟩ := hlk
        cases hct : Nat.ble (na_ct r5) 8 with
        | false => simp only [hct, cond_false] at h5
        | true =>
          simp only [hct, cond_true, List.append_nil] at h5
          have hct := Nat.le_of_ble_eq_true hct
          have hM := h5 l D ca ad fm N0 s0 hC
          have hst2 : (F0 m pc lsA ((vs ++ r5).map (na_tv ad fm))).stack = ((vs.reverse).map (na_tv ad fm)).reverse ++ r5.map (na_tv ad fm) := by simp
          have hG : GoodIn na_Tg (na_ww (na_mi (na_h0 hi))) := fun w hw => by
            rcases List.mem_cons.mp hw with q | q
            · subst q
              exact ⟨hl5, na_good _ hl5⟩
            · exact ⟨q, na_good _ q⟩
          have hroom : 2 * (F0 m pc lsA ((vs ++ r5).map (na_tv ad fm))).monitorRoom + ((r5.map (na_tv ad fm)).map fun v => v.category).sum ≤ 8 := lv_room (by rw [na_tvs_cat hfm]; exact hct)
          refine na_back (Post := fun v I' J' => k r ls (na_pu v r5) I' J') (rest := r5) (a := (vs.reverse.map (na_tv ad fm)).toArray) hB hSw hlv ?_ (fun rr I' J' hp H' locs' hiv' => nx _ _ _ _ hp _ _ _ hiv')
          · rcases hl1 with hl1 | ⟨z1, z2, z3⟩ | ⟨z1, z2, z3⟩
            · exact va_runS ⟨hx, hb, hml, hown, hts⟩ hM (va_cwS (na_h1 hi) hts (fun w hw => by
                unfold va_wsS at hw
                rcases List.mem_append.mp hw with q | q
                · simp only [List.mem_cons, List.not_mem_nil, or_false] at q
                  rcases q with rfl | rfl | rfl
                  · exact ⟨hl1, na_good _ hl1⟩
                  · exact ⟨hl2, na_good _ hl2⟩
                  · exact ⟨hl3, na_good _ hl3⟩
                · exact hG w q) rfl rfl rfl ⟨hl6, hl7, hl8⟩ ⟨Nat.le_trans hI1 hfr, Nat.le_trans hI2 hlo⟩) ⟨na_blind, na_pre hB hPw hDw hSw⟩ rfl (by simp [hvl]) hlv.1 hst2 hroom hd ⟨hcs, hss⟩
            · exact va_runSN ⟨hx, hb, hml, hown, hts⟩ hM ⟨va_cnB (na_h1 hi) hts hG rfl rfl rfl (by rw [z1, z2, z3]; exact hKw.1) (hts _ hl3) ⟨hl6, hl7, hl8⟩ ⟨Nat.le_trans hI1 hfr, Nat.le_trans hI2 hlo⟩, hts _ hl2, trivial⟩ ⟨na_blind, na_pre hB hPw hDw hSw⟩ rfl (by simp [hvl]) hlv.1 hst2 hroom hd ⟨hcs, hss⟩
            · exact va_runSN ⟨hx, hb, hml, hown, hts⟩ hM ⟨va_cnB (na_h1 hi) hts hG rfl rfl rfl (by rw [z1, z2, z3]; exact hKw.2.1) (hts _ hl3) ⟨hl6, hl7, hl8⟩ ⟨Nat.le_trans hI1 hfr, Nat.le_trans hI2 hlo⟩, hts _ hl2, trivial⟩ ⟨na_blind, na_pre hB hPw hDw hSw⟩ rfl (by simp [hvl]) hlv.1 hst2 hroom hd ⟨hcs, hss⟩
    | invokevirtual idx =>
      dsimp only [na_stp] at h
      simp only [na_okI, Bool.and_eq_true, beq_iff_eq] at hI
      obtain ⟨⟨hlen, hI1⟩, hI2⟩ := hI
      subst hlen
      have hI1 := Nat.le_of_ble_eq_true hI1
      have hI2 := Nat.le_of_ble_eq_true hI2
      simp only [na_lk] at hlk
      obtain ⟨vs, r5, e5, hvl, h5⟩ := na_tk_s _ _ _ _ h
      subst e5
      obtain ⟨hl1, hl2, hl3, hl4, hl5, hl6, hl7, hl8, hl9, hrcv⟩ := hlk
      cases hct : (Nat.ble (na_ct r5) 8 && na_rc (na_h2 hi) (vs.reverse ++ [])) with
      | false => simp only [hct, cond_false] at h5
      | true =>
        simp only [hct, cond_true] at h5
        simp only [Bool.and_eq_true, List.append_nil] at hct
        simp only [List.append_nil] at h5
        obtain ⟨hct, hrc⟩ := hct
        have hct := Nat.le_of_ble_eq_true hct
        have hM := h5 l D ca ad fm N0 s0 hC
        obtain ⟨a, as', hvs⟩ : ∃ (a : Nat) (as' : List Value), vs.reverse = .ref a :: as' := by
          unfold na_rc at hrc
          split at hrc
          · rename_i a as' hq
            exact ⟨a, as', hq⟩
          · cases hrc
        have hvs2 : vs = as'.reverse ++ [.ref a] := by
          have := congrArg List.reverse hvs
          simpa using this
        rw [hvs] at hM hrc
        have hrecv : a ≠ 90 ∧ ∃ cellB : Cell, H[ad a]? = some cellB ∧ cellB.vm.isStatics = false ∧ s.vm.findClass (na_mi (na_h0 hi)).1.cls = some cellB.cls := by
          rcases hrcv with ⟨z1, z2⟩ | ⟨z1, q, z2, z3⟩
          · rw [z1] at hrc
            have hrc : (Nat.ble 100 a && Nat.ble a 116) = true := hrc
            simp only [Bool.and_eq_true] at hrc
            have ha1 := Nat.le_of_ble_eq_true hrc.1
            have ha2 := Nat.le_of_ble_eq_true hrc.2
            obtain ⟨i, rfl⟩ : ∃ i, a = 100 + i := ⟨a - 100, by omega⟩
            obtain ⟨q, hq⟩ := na_wd_at (i := i) (by omega)
            obtain ⟨cell, g1, g2, g3, -⟩ := (na_C.O (hwd i q hq).1 hal hh').kept hSw.2.1
            exact ⟨by omega, cell, g1, g2, by rw [z2]; exact g3⟩
          · have e9 : Nat.beq (na_h2 hi) 9 = false := na_beqF z1
            unfold na_rc at hrc
            simp only [e9, cond_false] at hrc
            split at hrc
            · rename_i q2 hq2
              obtain ⟨c0, fs⟩ := q2
              have hcc := Nat.eq_of_beq_eq_true hrc
              rw [← z3]
              exact ⟨na_lay_lt hq2, va_recv hK hPw (ci := c0) (q0 := a) (by rw [show c0 = na_h2 hi from hcc]; exact z2) (na_ws_at hq2)⟩
            · cases hrc
        obtain ⟨ha90, hcell⟩ := hrecv
        have hst2 : (F0 m pc lsA ((vs ++ r5).map (na_tv ad fm))).stack = (as'.map (na_tv ad fm)).reverse ++ .ref (ad a) :: r5.map (na_tv ad fm) := by
          show (vs ++ r5).map (na_tv ad fm) = _
          rw [hvs2]
          simp [na_tv_ref ha90]
        have hlen2 : as'.length = na_h1 hi - 1 := by
          have : vs.length = as'.length + 1 := by rw [hvs2]; simp
          omega
        have hG : GoodIn na_Tg (na_ww (na_mi (na_h0 hi))) := fun w hw => by
          rcases List.mem_cons.mp hw with q | q
          · subst q
            exact ⟨hl5, na_good _ hl5⟩
          · exact ⟨q, na_good _ q⟩
        have hroom : 2 * (F0 m pc lsA ((vs ++ r5).map (na_tv ad fm))).monitorRoom + ((r5.map (na_tv ad fm)).map fun v => v.category).sum ≤ 8 := lv_room (by rw [na_tvs_cat hfm]; exact hct)
        have hpre := na_pre (av := .ref a :: as') hB hPw hDw hSw
        have eav : (Value.ref a :: as').map (na_tv ad fm) = Value.ref (ad a) :: as'.map (na_tv ad fm) := by simp [na_tv_ref ha90]
        rw [eav] at hpre
        refine na_back (Post := fun v I' J' => k r ls (na_pu v r5) I' J') (rest := r5) (a := (Value.ref (ad a) :: as'.map (na_tv ad fm)).toArray) hB hSw hlv ?_ (fun rr I' J' hp H' locs' hiv' => nx _ _ _ _ hp _ _ _ hiv')
        · exact va_runV (C := (na_mi (na_h0 hi)).1.cls) ⟨hx, hb, hml, hown, hts⟩ hM (cwV (na_h1 hi - 1) hts (fun w hw => by
            unfold wsV at hw
            rcases List.mem_append.mp hw with q | q
            · simp only [List.mem_cons, List.not_mem_nil, or_false] at q
              rcases q with rfl | rfl | rfl | rfl
              · exact ⟨hl1, na_good _ hl1⟩
              · exact ⟨hl2, na_good _ hl2⟩
              · exact ⟨hl3, na_good _ hl3⟩
              · exact ⟨hl4, na_good _ hl4⟩
            · exact hG w q) rfl rfl rfl ⟨rfl, hl6, hl7, hl8⟩ ⟨Nat.le_trans hI1 hfr, Nat.le_trans hI2 hlo⟩) ⟨na_blind, hcell, hpre⟩ rfl (by simp [hlen2]) hlv.1 hst2 hroom hd ⟨hcs, hss⟩
    | return_ =>
      dsimp only [na_stp] at h
      simp only [na_okI, Bool.and_eq_true, beq_iff_eq] at hI
      obtain ⟨h1, h2⟩ := hI
      subst h1
      split at h
      · exact hE none I J H locs pc lsA h hPw hDw hSw ⟨hd, by simpa using h2⟩
      · exact h.elim
    | ireturn =>
      dsimp only [na_stp] at h
      simp only [na_okI, Bool.and_eq_true, beq_iff_eq] at hI
      obtain ⟨h1, h2⟩ := hI
      subst h1
      split at h
      · rename_i v ty
        exact hE (some (.int v)) I J H locs pc lsA h.2 hPw hDw hSw ⟨hd, ty, rfl, h2, h.1⟩
      · exact h.elim
    | lreturn =>
      dsimp only [na_stp] at h
      simp only [na_okI, Bool.and_eq_true, beq_iff_eq] at hI
      obtain ⟨h1, h2⟩ := hI
      subst h1
      split at h
      · rename_i v
        exact hE (some (.long v)) I J H locs pc lsA h hPw hDw hSw ⟨hd, na_lty_s h2⟩
      · exact h.elim
    | areturn =>
      dsimp only [na_stp] at h
      simp only [na_okI, Bool.and_eq_true, beq_iff_eq] at hI
      obtain ⟨h1, h2⟩ := hI
      subst h1
      split at h
      · rename_i a
        cases h9 : Nat.beq a 90 with
        | true => rw [h9] at h; exact (show False from h).elim
        | false =>
          rw [h9] at h
          obtain ⟨ty, t1, t2⟩ := na_ot_s h2
          exact hE (some (.ref a)) I J H locs pc lsA h hPw hDw hSw ⟨hd, Nat.ne_of_beq_eq_false h9, ty, t1, t2⟩
      · exact h.elim
    | _ => exact (show False from h).elim
  exact key
end NaStep
end
section
/-! STRETCHES, METHODS -/
def GW (sx : Nat × (Nat → Int32)) (q : MI) (Rt : Option Value → Mm → Ml → Prop) (pc : Nat) (ls : Lo) (st : List Value) (I : Mm) (J : Ml) : Prop :=
  ∀ (p : Program) (l : Launch) (e : Env) (R : Room) (s s0 : State) (m : MethodId) (args : Array Value) (below : List Frame) (meth : Method) (c : Code) (cells slots : Nat) (Q : State → Prop) (D : va_G) (ca ad : Nat → Nat) (fm : Value) (N0 : Nat),
    na_B sx D ca ad fm N0 s0 q.1.cls q.2.1 q.2.2.1 q.2.2.2.2.1 q.2.2.2.2.2 p R s m args c cells slots → na_En D ca ad fm N0 q.2.1 q.2.2.2.1 Rt p l e R s m args below meth c cells slots Q →
    ∀ (H : Heap) (locs : List Loc) (lsA : Array Slot), na_iv D ca ad fm N0 s q.2.2.1 H locs lsA ls I J → W p l e R s m args below meth c H locs cells slots Q (F0 m pc lsA (st.map (na_tv ad fm)))
/-- a checked program of a method -/
def na_okP (q : MI) (P : List En) : Prop := na_okS q.1.cls q.2.1 P q.2.2.1 q.2.2.2.1 q.2.2.2.2.1 q.2.2.2.2.2 P
theorem GW_wp {sx : Nat × (Nat → Int32)} {q : MI} {P : List En} (hP : na_okP q P) {Rt : Option Value → Mm → Ml → Prop} {cut : Nat → Bool} : ∀ (n : Nat) (sfx : List En), na_okS q.1.cls q.2.1 P q.2.2.1 q.2.2.2.1 q.2.2.2.2.1 q.2.2.2.2.2 sfx → ∀ (ls : Lo) (st : List Value) (I : Mm) (J : Ml), na_wp P sx q.2.2.2.1 Rt (GW sx q Rt) cut n sfx ls st I J → ∀ (x : En) (r : List En), sfx = x :: r → GW sx q Rt x.1 ls st I J
  | 0, sfx, hS, ls, st, I, J, h, x, r, e => by
    subst e
    exact h
  | n + 1, sfx, hS, ls, st, I, J, h, x, r, e => by
    subst e
    intro p l e R s s0 m args below meth c cells slots Q D ca ad fm N0 hB hE H locs lsA hiv
    refine na_step (k := na_go (GW sx q Rt) cut (na_wp P sx q.2.2.2.1 Rt (GW sx q Rt) cut n)) hB hE hP (fun ls st I J h => h) ?_ hS h x r rfl H locs lsA hiv
    intro sfx ls st I J hS2 hgo y r2 e2 H locs lsA hiv
    subst e2
    unfold na_go at hgo
    cases hc : cut y.1 with
    | true =>
      simp only [hc, cond_true] at hgo
      exact hgo p l e R s s0 m args below meth c cells slots Q D ca ad fm N0 hB hE H locs lsA hiv
    | false =>
      simp only [hc, cond_false] at hgo
      exact GW_wp hP n _ hS2 ls st I J hgo y r2 rfl p l e R s s0 m args below meth c cells slots Q D ca ad fm N0 hB hE H locs lsA hiv
/-- from row t of the program on, which stands at pc -/
theorem GW.run {sx : Nat × (Nat → Int32)} {q : MI} {P : List En} (hP : na_okP q P) {Rt : Option Value → Mm → Ml → Prop} (cut : Nat → Bool) (n t : Nat) {pc : Nat} (hpc : (match na_dr t P with | [] => none | x :: _ => some x.1) = some pc) {ls : Lo} {st : List Value} {I : Mm} {J : Ml} (h : na_wp P sx q.2.2.2.1 Rt (GW sx q Rt) cut n (na_dr t P) ls st I J) : GW sx q Rt pc ls st I J := by
  split at hpc
  · cases hpc
  · rename_i x r hx
    cases hpc
    exact GW_wp hP n (na_dr t P) (na_okS.drop hP t) ls st I J h x r hx
theorem GW.conseq {sx : Nat × (Nat → Int32)} {q : MI} {R1 R2 : Option Value → Mm → Ml → Prop} {pc : Nat} {ls : Lo} {st : List Value} {I : Mm} {J : Ml} (h : GW sx q R1 pc ls st I J) (hr : ∀ v I' J', R1 v I' J' → R2 v I' J') : GW sx q R2 pc ls st I J :=
  fun p l e R s s0 m args below meth c cells slots Q D ca ad fm N0 hB hE H locs lsA hiv => h p l e R s s0 m args below meth c cells slots Q D ca ad fm N0 hB (fun v I J H locs pc lsA h1 => hE v I J H locs pc lsA (hr _ _ _ h1)) H locs lsA hiv
/-- more locals are known than are asked for -/
def na_le : Lo → Lo → Prop
  | [], _ => True
  | none :: a, _ :: b => na_le a b
  | some v :: a, some w :: b => v = w ∧ na_le a b
  | none :: a, [] => na_le a []
  | _, _ => False
theorem na_le_get : ∀ (a b : Lo), na_le a b → ∀ (i : Nat) (v : Value), a[i]? = some (some v) → b[i]? = some (some v)
  | [], _, _, i, v, h => by simp at h
  | none :: a, y :: b, hl, 0, v, h => by simp at h
  | none :: a, y :: b, hl, i + 1, v, h => by
    simp only [List.getElem?_cons_succ] at h ⊢
    exact na_le_get a b hl i v h
  | some x :: a, some y :: b, hl, 0, v, h => by
    simp only [List.getElem?_cons_zero] at h ⊢
    rw [← hl.1]
    exact h
  | some x :: a, some y :: b, hl, i + 1, v, h => by
    simp only [List.getElem?_cons_succ] at h ⊢
    exact na_le_get a b hl.2 i v h
  | none :: a, [], hl, 0, v, h => by simp at h
  | none :: a, [], hl, i + 1, v, h => by
    simp only [List.getElem?_cons_succ] at h
    have := na_le_get a [] hl i v h
    simp at this
  | some x :: a, [], hl, i, v, h => by exact (show False from hl).elim
  | some x :: a, none :: b, hl, i, v, h => by exact (show False from hl).elim
theorem GW.weak {sx : Nat × (Nat → Int32)} {q : MI} {Rt : Option Value → Mm → Ml → Prop} {pc : Nat} {ls ls' : Lo} {st : List Value} {I : Mm} {J : Ml} (h : GW sx q Rt pc ls st I J) (hl : na_le ls ls') : GW sx q Rt pc ls' st I J :=
  fun p l e R s s0 m args below meth c cells slots Q D ca ad fm N0 hB hE H locs lsA hiv => h p l e R s s0 m args below meth c cells slots Q D ca ad fm N0 hB hE H locs lsA ⟨hiv.1, hiv.2.1, hiv.2.2.1, hiv.2.2.2.1, hiv.2.2.2.2.1, fun i v hv => hiv.2.2.2.2.2 i v (na_le_get _ _ hl i v hv)⟩
/-- the locals at a method's entry -/
def na_ent : List Value → Lo
  | [] => []
  | .long x :: r => some (.long x) :: none :: na_ent r
  | .double x :: r => some (.double x) :: none :: na_ent r
  | v :: r => some v :: na_ent r
theorem na_ent_args {ad : Nat → Nat} {fm : Value} (hf : fm = .null ∨ ∃ t : Nat, fm = .ref t) : ∀ (av : List Value) (k i : Nat) (v : Value), (na_ent av)[i]? = some (some v) → (k + i, na_tv ad fm v) ∈ lv_args k (av.map (na_tv ad fm))
  | [], k, i, v, h => by simp [na_ent] at h
  | w :: r, k, i, v, h => by
    have ih := na_ent_args (ad := ad) hf r
    have hc := na_tv_cat (ad := ad) hf w
    cases w with
    | long x =>
      simp only [List.map_cons, lv_args]
      rw [hc]
      match i, h with
      | 0, h =>
        simp only [na_ent, List.getElem?_cons_zero, Option.some.injEq] at h
        subst h
        simp
      | 1, h => simp [na_ent] at h
      | i + 2, h =>
        have := ih (k + 2) i v (by simpa [na_ent] using h)
        rw [show k + 2 + i = k + (i + 2) by omega] at this
        exact List.mem_cons_of_mem _ this
    | double x =>
      simp only [List.map_cons, lv_args]
      rw [hc]
      match i, h with
      | 0, h =>
        simp only [na_ent, List.getElem?_cons_zero, Option.some.injEq] at h
        subst h
        simp
      | 1, h => simp [na_ent] at h
      | i + 2, h =>
        have := ih (k + 2) i v (by simpa [na_ent] using h)
        rw [show k + 2 + i = k + (i + 2) by omega] at this
        exact List.mem_cons_of_mem _ this
    | _ =>
      simp only [List.map_cons, lv_args]
      rw [hc]
      match i, h with
      | 0, h =>
        simp only [na_ent, List.getElem?_cons_zero, Option.some.injEq] at h
        subst h
        simp
      | i + 1, h =>
        have := ih (k + 1) i v (by simpa [na_ent] using h)
        rw [show k + 1 + i = k + (i + 1) by omega] at this
        simp [Value.category, this]
theorem na_wds (av : List Value) : na_ct av = na_ct av := rfl
set_option maxHeartbeats 4000000 in
theorem Mt.of {sx : Nat × (Nat → Int32)} {j : Nat} (q : MI) (hq : na_mi j = q) (hpn : plainName q.1.cls = true) {av : List Value} {I : Mm} {J : Ml} {Post : Option Value → Mm → Ml → Prop} (hct : na_ct av ≤ q.2.2.1) (h : GW sx q Post 0 (na_ent av) [] I J) : Mt sx j av I J Post := by
  subst hq
  intro l D ca ad fm N0 s0 hC
  refine Met.ofW (cc := (na_mi j).2.1) (maxL := (na_mi j).2.2.1) (ret := (na_mi j).2.2.2.1) hpn rfl ?_
  intro p e s m args below meth c s₁ B hml hv
  obtain ⟨hargs, hal, hKw, hR⟩ := hv
  subst hargs
  have hfm := hC.2.2.2.2.2.2
  have hts : ∀ w ∈ na_ww (na_mi j), w.before (av.map (na_tv ad fm)).toArray s = true := atoms_spec (ws := na_ww (na_mi j)) B.pre
  have hown : s.vm.findClass (na_mi j).1.cls = some m.cls := findClass_of_methodNamed B.named
  have hB : na_B sx D ca ad fm N0 s0 (na_mi j).1.cls (na_mi j).2.1 (na_mi j).2.2.1 (na_mi j).2.2.2.2.1 (na_mi j).2.2.2.2.2 p (headSpec (na_ww (na_mi j)) (na_rm (na_mi j))).room s m (av.map (na_tv ad fm)).toArray c 0 0 := ⟨hC, B.exec, B.bytes, hml, hown, fun w hw => hts w (List.mem_cons_of_mem _ hw), hKw, hal, hR.2.2.2, hR.2.2.1, Nat.le_refl _, Nat.le_refl _, Nat.le_refl _, Nat.le_refl _⟩
  have hlen : (lg_sl (av.map (na_tv ad fm))).length ≤ (na_mi j).2.2.1 := by
    have : (lg_sl (av.map (na_tv ad fm))).length = na_ct av := by
      clear hct hts hown hB h hml B hR
      induction av with
      | nil => rfl
      | cons v r ih =>
        have hc := na_tv_cat (ad := ad) hfm v
        simp only [List.map_cons, lg_sl, List.flatMap_cons, List.length_append] at ih ⊢
        rw [ih, hc]
        cases v <;> simp [na_ct, Value.category]
    omega
  have hl := lv_entry (av.map (na_tv ad fm)) hlen
  rw [lg_entry_eq]
  refine h p l e _ s s0 m _ below meth c 0 0 _ D ca ad fm N0 hB ?_ s.heap [] _ ⟨hR.1, hR.2.1, va_S.rf, hl.1, hl.2.1, fun i v hv => hl.2.2 (i, na_tv ad fm v) (by simpa using na_ent_args hfm av 0 i v hv)⟩
  intro v I' J' H locs pc lsA hpost hP' hD' hS' hrd
  have hRt : ∀ t : State, t.heap = H → na_Qc D ca ad fm N0 s0 Post (av.map (na_tv ad fm)).toArray s (.returned (v.map (na_tv ad fm))) t := fun t ht => ⟨v, I', J', rfl, hpost, by
    rw [ht]
    exact ⟨hP', hD', Nat.le_trans hR.2.2.1 hS'.1, fun q hq => (hS'.2.1 q (Nat.lt_of_lt_of_le hq hR.2.2.1) (Nat.not_le.mpr hq)).trans (hR.2.2.2 q hq)⟩, by rw [ht]; exact hS'.1⟩
  have hlocks := B.notSynchronized
  cases v with
  | none =>
    obtain ⟨r1, r2⟩ := hrd
    exact W.vret B.exec B.bytes (B.returns.trans r2) (fun t ht _ => hRt t ht) hS'.2.2 r1
  | some v =>
    cases v with
    | int v =>
      obtain ⟨r1, ty, r2, r3, r4⟩ := hrd
      refine W.zret B.exec B.bytes (B.returns.trans r2) ?_ (fun t ht _ => hRt t ht) hS'.2.2 r1
      cases ty <;> first | exact r4 | rfl | cases r3
    | long v =>
      obtain ⟨r1, r2⟩ := hrd
      exact W.lret B.exec B.bytes (B.returns.trans r2) (fun t ht _ => hRt t ht) hS'.2.2 r1
    | ref a =>
      obtain ⟨r1, r2, ty, r3, r4⟩ := hrd
      refine W.aret (v := na_tv ad fm (.ref a)) B.exec B.bytes (B.returns.trans r3) ?_ (Or.inr ⟨ad a, na_tv_ref r2⟩) (fun t ht _ => hRt t ht) hS'.2.2 r1
      cases ty <;> first | exact Or.inl ⟨_, rfl⟩ | exact Or.inr ⟨_, rfl⟩ | cases r4
    | _ => exact (show False from hrd).elim
end
